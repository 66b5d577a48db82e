/-! how the state's picture moves: other tables, a cell written, a cell made; locals stored -/
theorem az_RC_kept {w : aW} {s : State} {H H' : Heap} {m m' : aM} {a t n : Nat} {rs : List Nat} (h : az_RC w s H m a t n rs) (hq : H'[az_ad w a]? = H[az_ad w a]?) (hm : ∀ j, m' a j = m a j) : az_RC w s H' m' a t n rs := by
  rcases h with ⟨h1, h2, h3, fs, h4, h5, h6⟩ | ⟨h1, h2, h3, h4, cA, f, h5, h6, h7, h8, h9⟩
  · exact Or.inl ⟨h1, h2, h3, fs, h4, h5.kept hq, fun k hk => by rw [hm]; exact h6 k hk⟩
  · exact Or.inr ⟨h1, h2, h3, h4, cA, f, by rw [hq]; exact h5, h6, h7, fun ht j hj => by rw [hm]; exact h8 ht j hj, h9⟩
theorem az_RC_moved {w : aW} {u U : State} (hvm : u.vm.Alike U.vm) {H : Heap} {m : aM} {a t n : Nat} {rs : List Nat} (h : az_RC w u H m a t n rs) : az_RC w U H m a t n rs := by
  rcases h with h | ⟨h1, h2, h3, h4, cA, f, h5, h6, h7, h8, h9⟩
  · exact Or.inl h
  · exact Or.inr ⟨h1, h2, h3, h4, cA, f, h5, arrOfT_moved hvm h6, h7.moved hvm, h8, h9⟩
theorem az_Tb_moved {w : aW} {u U : State} (hvm : u.vm.Alike U.vm) {H : Heap} (h : az_Tb w u H) : az_Tb w U H :=
  ⟨h.1.moved hvm, h.2.1.moved hvm, h.2.2.1.moved hvm, h.2.2.2.1.moved hvm, h.2.2.2.2.moved hvm⟩
theorem az_Tb_kept {w : aW} {s : State} {H H' : Heap} (hq : ∀ q : Nat, q < H.size → ¬ az_A w q → H'[q]? = H[q]?) (h : az_Tb w s H) : az_Tb w s H' :=
  ⟨h.1.kept hq, h.2.1.kept hq, h.2.2.1.kept hq, h.2.2.2.1.kept hq, h.2.2.2.2.kept hq⟩
theorem az_Xs_moved {w : aW} {sc : aX} {u U : State} (hvm : u.vm.Alike U.vm) {H : Heap} (h : az_Xs w sc u H) : az_Xs w sc U H := fun L xs e => by
  obtain ⟨x32, h1, h2⟩ := h L xs e
  exact ⟨x32, h1.moved hvm, h2⟩
theorem az_Xs_kept {w : aW} {sc : aX} {s : State} {H H' : Heap} (hq : ∀ q : Nat, q < w.1 → H'[q]? = H[q]?) (h : az_Xs w sc s H) : az_Xs w sc s H' := fun L xs e => by
  obtain ⟨x32, h1, h2, h3, h4⟩ := h L xs e
  exact ⟨x32, h1.kept (hq _ h3), h2, h3, h4⟩
theorem az_Rh_moved {w : aW} {sc : aX} {u U : State} (hvm : u.vm.Alike U.vm) {H : Heap} {g : aG} {m : aM} (h : az_Rh w sc u H g m) : az_Rh w sc U H g m := by
  obtain ⟨h1, h2, h3, h4, h5, h6, h7⟩ := h
  exact ⟨h1.moved hvm, az_Tb_moved hvm h2, az_Xs_moved hvm h3, h4, h5, h6, fun a t n rs ha hg => az_RC_moved hvm (h7 a t n rs ha hg)⟩
/-- one cell is written -/
theorem az_Rh_set {w : aW} {sc : aX} {s : State} {H H' : Heap} {g : aG} {m m' : aM} {a t n n' : Nat} {rs rs' : List Nat} (h : az_Rh w sc s H g m) (ha : 19 ≤ a) (hg : g[a]? = some (t, n, rs)) (z : H'.size = H.size) (oq : ∀ q : Nat, q ≠ az_ad w a → H'[q]? = H[q]?) (hm : ∀ (b : Nat) (j : Int), b ≠ a → m' b j = m b j) (hnew : az_RC w s H' m' a t n' rs') : az_Rh w sc s H' (g.set a (t, n', rs')) m' := by
  obtain ⟨h1, h2, h3, h4, h5, h6, h7⟩ := h
  have hlo : ∀ q : Nat, q < w.1 → H'[q]? = H[q]? := fun q hq => oq q (by rw [az_ad_hi ha]; omega)
  have hal := (List.getElem?_eq_some_iff.mp hg).1
  refine ⟨h1, az_Tb_kept (fun q _ hA => hlo q (Nat.not_le.mp hA)) h2, az_Xs_kept hlo h3, by rw [List.length_set]; exact h4, by rw [z, List.length_set]; exact h5, fun b hb => ?_, fun b t2 n2 rs2 hb hgb => ?_⟩
  · have hba : b ≠ a := by omega
    refine ⟨by rw [List.getElem?_set_ne (Ne.symm hba)]; exact (h6 b hb).1, fun j => by rw [hm b j hba]; exact (h6 b hb).2 j⟩
  · by_cases hba : b = a
    · subst hba
      rw [List.getElem?_set_self hal] at hgb
      cases hgb
      exact hnew
    · rw [List.getElem?_set_ne (Ne.symm hba)] at hgb
      exact az_RC_kept (h7 b t2 n2 rs2 hb hgb) (oq _ (fun e => hba (az_ad_inj hb ha e))) (fun j => hm b j hba)
theorem az_set_self {g : aG} {a : Nat} {q : Nat × Nat × List Nat} (h : g[a]? = some q) : g.set a q = g := by
  apply List.ext_getElem?
  intro i
  by_cases hi : i = a
  · subst hi
    rw [List.getElem?_set_self (List.getElem?_eq_some_iff.mp h).1, h]
  · rw [List.getElem?_set_ne (Ne.symm hi)]
theorem az_Rh_put {w : aW} {sc : aX} {s : State} {H H' : Heap} {g : aG} {m m' : aM} {a t n : Nat} {rs : List Nat} (h : az_Rh w sc s H g m) (ha : 19 ≤ a) (hg : g[a]? = some (t, n, rs)) (z : H'.size = H.size) (oq : ∀ q : Nat, q ≠ az_ad w a → H'[q]? = H[q]?) (hm : ∀ (b : Nat) (j : Int), b ≠ a → m' b j = m b j) (hnew : az_RC w s H' m' a t n rs) : az_Rh w sc s H' g m' := by
  have := az_Rh_set h ha hg z oq hm hnew
  rw [az_set_self hg] at this
  exact this
/-- one cell is made -/
theorem az_Rh_push {w : aW} {sc : aX} {s : State} {H H' : Heap} {g : aG} {m : aM} {t n : Nat} {rs : List Nat} (h : az_Rh w sc s H g m) (z : H'.size = H.size + 1) (oq : ∀ q : Nat, q < H.size → H'[q]? = H[q]?) (hnew : az_RC w s H' (az_bl m g.length) g.length t n rs) : az_Rh w sc s H' (g ++ [(t, n, rs)]) (az_bl m g.length) := by
  obtain ⟨h1, h2, h3, h4, h5, h6, h7⟩ := h
  have hlo : ∀ q : Nat, q < w.1 → H'[q]? = H[q]? := fun q hq => oq q (by omega)
  refine ⟨h1, az_Tb_kept (fun q _ hA => hlo q (Nat.not_le.mp hA)) h2, az_Xs_kept hlo h3, by simp; omega, by rw [z, h5]; simp; omega, fun b hb => ?_, fun b t2 n2 rs2 hb hgb => ?_⟩
  · refine ⟨by rw [List.getElem?_append_left (by omega)]; exact (h6 b hb).1, fun j => ?_⟩
    have : b ≠ g.length := by omega
    simp only [az_bl, if_neg this]
    exact (h6 b hb).2 j
  · by_cases hbl : b < g.length
    · rw [List.getElem?_append_left hbl] at hgb
      refine az_RC_kept (h7 b t2 n2 rs2 hb hgb) (oq _ (by rw [az_ad_hi hb, h5]; omega)) (fun j => ?_)
      have : b ≠ g.length := by omega
      simp only [az_bl, if_neg this]
    · rw [List.getElem?_append_right (by omega)] at hgb
      have hz : b - g.length < 1 := (List.getElem?_eq_some_iff.mp hgb).1
      have hb2 : b = g.length := by omega
      subst hb2
      rw [Nat.sub_self] at hgb
      cases hgb
      exact hnew
theorem az_ad_new {w : aW} {sc : aX} {s : State} {H : Heap} {g : aG} {m : aM} (h : az_Rh w sc s H g m) : az_ad w g.length = H.size := by
  rw [az_ad_hi h.2.2.2.1, h.2.2.2.2.1]
/-- the stores of locals -/
theorem az_st1_len : ∀ (l : aL) (k : Nat) (v : aV), (az_st1 l k v).length = l.length
  | [], _, _ => rfl
  | o :: l, 0, v => by cases o <;> simp [az_st1]
  | o :: l, 1, v => by
    rcases o with _ | i | j | r <;> simp [az_st1, az_st1_len l 0 v]
  | o :: l, k + 2, v => by
    rcases o with _ | i | j | r <;> simp [az_st1, az_st1_len l (k + 1) v]
theorem az_st1_at : ∀ (l : aL) (k : Nat) (v : aV) (i : Nat) (u : aV), (az_st1 l k v)[i]? = some (some u) → (i = k ∧ u = v) ∨ (i ≠ k ∧ l[i]? = some (some u) ∧ ¬ (i + 1 = k ∧ az_cat u = 2))
  | [], k, v, i, u, h => by simp [az_st1] at h
  | o :: l, 0, v, i, u, h => by
    have h' : (some v :: l)[i]? = some (some u) := by cases o <;> exact h
    cases i with
    | zero => left; simp at h'; exact ⟨rfl, h'.symm⟩
    | succ i => right; simp at h'; exact ⟨by omega, by simpa using h', by omega⟩
  | o :: l, 1, v, i, u, h => by
    cases i with
    | zero =>
      right
      refine ⟨by omega, ?_⟩
      rcases o with _ | x | y | r <;> simp [az_st1] at h ⊢
      · subst h; simp [az_cat]
      · subst h; simp [az_cat]
    | succ i =>
      have h' : (az_st1 l 0 v)[i]? = some (some u) := by
        rcases o with _ | x | y | r <;> simpa [az_st1] using h
      rcases az_st1_at l 0 v i u h' with ⟨a, b⟩ | ⟨a, b, c⟩
      · left; exact ⟨by omega, b⟩
      · right; exact ⟨by omega, by simpa using b, by omega⟩
  | o :: l, k + 2, v, i, u, h => by
    cases i with
    | zero =>
      right
      refine ⟨by omega, ?_, by omega⟩
      rcases o with _ | x | y | r <;> simpa [az_st1] using h
    | succ i =>
      have h' : (az_st1 l (k + 1) v)[i]? = some (some u) := by
        rcases o with _ | x | y | r <;> simpa [az_st1] using h
      rcases az_st1_at l (k + 1) v i u h' with ⟨a, b⟩ | ⟨a, b, c⟩
      · left; exact ⟨by omega, b⟩
      · right; exact ⟨by omega, by simpa using b, fun q => c ⟨by omega, q.2⟩⟩
theorem az_st2_len : ∀ (l : aL) (k : Nat) (v : aV), k + 1 < l.length → (az_st2 l k v).length = l.length
  | [], _, _, h => by simp at h
  | [_], _, _, h => by simp at h
  | o :: o2 :: l, 0, v, _ => by rcases o with _ | i | j | r <;> simp [az_st2]
  | o :: o2 :: l, 1, v, h => by
    have := az_st2_len (o2 :: l) 0 v (by simp at h ⊢; omega)
    rcases o with _ | i | j | r <;> simp [az_st2, this]
  | o :: o2 :: l, k + 2, v, h => by
    have := az_st2_len (o2 :: l) (k + 1) v (by simp at h ⊢; omega)
    rcases o with _ | i | j | r <;> simp [az_st2, this]
theorem az_st2_at : ∀ (l : aL) (k : Nat) (v : aV) (i : Nat) (u : aV), (az_st2 l k v)[i]? = some (some u) → (i = k ∧ u = v) ∨ (i ≠ k ∧ i ≠ k + 1 ∧ l[i]? = some (some u) ∧ ¬ (i + 1 = k ∧ az_cat u = 2))
  | [], k, v, i, u, h => by simp [az_st2] at h
  | [_], k, v, i, u, h => by simp [az_st2] at h
  | o :: o2 :: l, 0, v, i, u, h => by
    have h' : (some v :: none :: l)[i]? = some (some u) := by rcases o with _ | x | y | r <;> exact h
    match i, h' with
    | 0, h' => left; simp at h'; exact ⟨rfl, h'.symm⟩
    | 1, h' => simp at h'
    | i + 2, h' => right; simp at h'; exact ⟨by omega, by omega, by simpa using h', by omega⟩
  | o :: o2 :: l, 1, v, i, u, h => by
    cases i with
    | zero =>
      right
      refine ⟨by omega, by omega, ?_⟩
      rcases o with _ | x | y | r <;> simp [az_st2] at h ⊢
      · subst h; simp [az_cat]
      · subst h; simp [az_cat]
    | succ i =>
      have h' : (az_st2 (o2 :: l) 0 v)[i]? = some (some u) := by
        rcases o with _ | x | y | r <;> simpa [az_st2] using h
      rcases az_st2_at (o2 :: l) 0 v i u h' with ⟨a, b⟩ | ⟨a, b, c, d⟩
      · left; exact ⟨by omega, b⟩
      · right; exact ⟨by omega, by omega, by simpa using c, by omega⟩
  | o :: o2 :: l, k + 2, v, i, u, h => by
    cases i with
    | zero =>
      right
      refine ⟨by omega, by omega, ?_, by omega⟩
      rcases o with _ | x | y | r <;> simpa [az_st2] using h
    | succ i =>
      have h' : (az_st2 (o2 :: l) (k + 1) v)[i]? = some (some u) := by
        rcases o with _ | x | y | r <;> simpa [az_st2] using h
      rcases az_st2_at (o2 :: l) (k + 1) v i u h' with ⟨a, b⟩ | ⟨a, b, c, d⟩
      · left; exact ⟨by omega, b⟩
      · right; exact ⟨by omega, by omega, by simpa using c, fun q => d ⟨by omega, q.2⟩⟩
theorem az_LR_st1 {w : aW} (hw : az_wok w) {ls ls' : Array Slot} {n : Nat} {l : aL} {k : Nat} {v : aV} {x : Value} (h : az_LR w ls n l) (hv : az_rv w v x) (h' : lv_has ls' n ((k, x) :: (az_lv ls).filter (fun q => !(q.1 == k) && !(q.1 + 1 == k && q.2.category == 2)))) : az_LR w ls' n (az_st1 l k v) := by
  refine ⟨h'.1, h'.2.1, by rw [az_st1_len]; exact h.2.2.1, fun i u hi => ?_⟩
  rcases az_st1_at l k v i u hi with ⟨rfl, rfl⟩ | ⟨h1, h2, h3⟩
  · exact ⟨x, h'.2.2 (i, x) List.mem_cons_self, hv⟩
  · obtain ⟨y, hy, hr⟩ := h.2.2.2 i u h2
    refine ⟨y, h'.2.2 (i, y) (List.mem_cons_of_mem _ (List.mem_filter.mpr ⟨az_lv_mem hy, ?_⟩)), hr⟩
    have hc := az_rv_cat hw hr
    by_cases e1 : i + 1 = k
    · have e2 : ¬ y.category = 2 := fun e => h3 ⟨e1, by rw [← hc]; exact e⟩
      simp [h1, e2]
    · simp [h1, e1]
theorem az_LR_st2 {w : aW} (hw : az_wok w) {ls ls' : Array Slot} {n : Nat} {l : aL} {k : Nat} {v : aV} {x : Value} (h : az_LR w ls n l) (hk : k + 1 < l.length) (hv : az_rv w v x) (h' : lv_has ls' n ((k, x) :: (az_lv ls).filter (fun q => !(q.1 == k) && (!(q.1 == k + 1) && !(q.1 + 1 == k && q.2.category == 2))))) : az_LR w ls' n (az_st2 l k v) := by
  refine ⟨h'.1, h'.2.1, by rw [az_st2_len l k v hk]; exact h.2.2.1, fun i u hi => ?_⟩
  rcases az_st2_at l k v i u hi with ⟨rfl, rfl⟩ | ⟨h1, h1', h2, h3⟩
  · exact ⟨x, h'.2.2 (i, x) List.mem_cons_self, hv⟩
  · obtain ⟨y, hy, hr⟩ := h.2.2.2 i u h2
    refine ⟨y, h'.2.2 (i, y) (List.mem_cons_of_mem _ (List.mem_filter.mpr ⟨az_lv_mem hy, ?_⟩)), hr⟩
    have hc := az_rv_cat hw hr
    by_cases e1 : i + 1 = k
    · have e2 : ¬ y.category = 2 := fun e => h3 ⟨e1, by rw [← hc]; exact e⟩
      simp [h1, h1', e2]
    · simp [h1, h1', e1]
