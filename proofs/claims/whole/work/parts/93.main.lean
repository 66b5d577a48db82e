/-! THE INTERPRETER'S RUN IS THE MACHINE'S -/
theorem az_SR_at {w : aW} : ∀ {xs : List Value} {vs : aS}, az_SR w xs vs ↔ xs.length = vs.length ∧ ∀ (i : Nat) (x : Value) (v : aV), xs[i]? = some x → vs[i]? = some v → az_rv w v x
  | [], [] => ⟨fun _ => ⟨rfl, fun i x v h => by simp at h⟩, fun _ => trivial⟩
  | _ :: _, [] => ⟨fun h => h.elim, fun h => by simp at h⟩
  | [], _ :: _ => ⟨fun h => h.elim, fun h => by simp at h⟩
  | x :: xs, v :: vs => by
    refine ⟨fun h => ⟨by simp [az_SR_len h.2], fun i y u h1 h2 => ?_⟩, fun h => ⟨h.2 0 x v rfl rfl, az_SR_at.mpr ⟨by simpa using h.1, fun i y u h1 h2 => h.2 (i + 1) y u (by simpa using h1) (by simpa using h2)⟩⟩⟩
    cases i with
    | zero => simp at h1 h2; subst h1; subst h2; exact h.1
    | succ i => exact (az_SR_at.mp h.2).2 i y u (by simpa using h1) (by simpa using h2)
theorem az_SR_take {w : aW} {xs : List Value} {vs : aS} (k : Nat) (h : az_SR w xs vs) : az_SR w (xs.take k) (vs.take k) := by
  obtain ⟨h1, h2⟩ := az_SR_at.mp h
  refine az_SR_at.mpr ⟨by simp [h1], fun i x v a b => ?_⟩
  rw [List.getElem?_take] at a b
  split at a
  · next hi =>
    rw [if_pos hi] at b
    exact h2 i x v a b
  · cases a
theorem az_SR_drop {w : aW} {xs : List Value} {vs : aS} (k : Nat) (h : az_SR w xs vs) : az_SR w (xs.drop k) (vs.drop k) := by
  obtain ⟨h1, h2⟩ := az_SR_at.mp h
  refine az_SR_at.mpr ⟨by simp [h1], fun i x v a b => ?_⟩
  rw [List.getElem?_drop] at a b
  exact h2 _ x v a b
theorem az_SR_rev {w : aW} {xs : List Value} {vs : aS} (h : az_SR w xs vs) : az_SR w xs.reverse vs.reverse := by
  obtain ⟨h1, h2⟩ := az_SR_at.mp h
  refine az_SR_at.mpr ⟨by simp [h1], fun i x v a b => ?_⟩
  have hi : i < xs.length := by simpa using (List.getElem?_eq_some_iff.mp a).1
  rw [List.getElem?_reverse hi] at a
  rw [List.getElem?_reverse (by omega), ← h1] at b
  exact h2 _ x v a b
theorem az_SR_app {w : aW} : ∀ {xs ys : List Value} {vs us : aS}, az_SR w xs vs → az_SR w ys us → az_SR w (xs ++ ys) (vs ++ us)
  | [], _, [], _, _, h => h
  | _ :: _, _, [], _, h, _ => h.elim
  | [], _, _ :: _, _, h, _ => h.elim
  | _ :: _, _, _ :: _, _, h, h2 => ⟨h.1, az_SR_app h.2 h2⟩
/-- the locals at the start -/
theorem az_ent_at {w : aW} (hw : az_wok w) : ∀ (xs : List Value) (vs : aS) (b : Nat), az_SR w xs vs → (lg_sl xs).length = (az_args vs).length ∧ ∀ (i : Nat) (v : aV), (az_args vs)[i]? = some (some v) → ∃ x, (b + i, x) ∈ lv_args b xs ∧ az_rv w v x
  | [], [], b, _ => ⟨rfl, fun i v h => by simp [az_args] at h⟩
  | _ :: _, [], _, h => h.elim
  | [], _ :: _, _, h => h.elim
  | x :: xs, v :: vs, b, h => by
    have hc := az_rv_cat hw h.1
    have hsl : lg_sl (x :: xs) = (if x.category = 2 then [Slot.val x, .second] else [Slot.val x]) ++ lg_sl xs := rfl
    have hla : lv_args b (x :: xs) = (b, x) :: lv_args (if x.category = 2 then b + 2 else b + 1) xs := rfl
    rw [hsl, hla]
    rcases v with y | y | r
    · have hc2 : ¬ x.category = 2 := by rw [hc]; simp [az_cat]
      obtain ⟨i1, i2⟩ := az_ent_at hw xs vs (b + 1) h.2
      have ha : az_args (Sum.inl y :: vs) = some (Sum.inl y) :: az_args vs := rfl
      rw [ha, if_neg hc2, if_neg hc2]
      refine ⟨by simp [i1], fun i u hu => ?_⟩
      cases i with
      | zero => simp at hu; subst hu; exact ⟨x, List.mem_cons_self, h.1⟩
      | succ i =>
        obtain ⟨q, q1, q2⟩ := i2 i u (by simpa using hu)
        exact ⟨q, List.mem_cons_of_mem _ (by rw [show b + (i + 1) = b + 1 + i by omega]; exact q1), q2⟩
    · have hc2 : x.category = 2 := by rw [hc]; rfl
      obtain ⟨i1, i2⟩ := az_ent_at hw xs vs (b + 2) h.2
      have ha : az_args (Sum.inr (Sum.inl y) :: vs) = some (Sum.inr (Sum.inl y)) :: none :: az_args vs := rfl
      rw [ha, if_pos hc2, if_pos hc2]
      refine ⟨by simp [i1], fun i u hu => ?_⟩
      match i, hu with
      | 0, hu => simp at hu; subst hu; exact ⟨x, List.mem_cons_self, h.1⟩
      | 1, hu => simp at hu
      | i + 2, hu =>
        obtain ⟨q, q1, q2⟩ := i2 i u (by simpa using hu)
        exact ⟨q, List.mem_cons_of_mem _ (by rw [show b + (i + 2) = b + 2 + i by omega]; exact q1), q2⟩
    · have hc2 : ¬ x.category = 2 := by rw [hc]; simp [az_cat]
      obtain ⟨i1, i2⟩ := az_ent_at hw xs vs (b + 1) h.2
      have ha : az_args (Sum.inr (Sum.inr r) :: vs) = some (Sum.inr (Sum.inr r)) :: az_args vs := rfl
      rw [ha, if_neg hc2, if_neg hc2]
      refine ⟨by simp [i1], fun i u hu => ?_⟩
      cases i with
      | zero => simp at hu; subst hu; exact ⟨x, List.mem_cons_self, h.1⟩
      | succ i =>
        obtain ⟨q, q1, q2⟩ := i2 i u (by simpa using hu)
        exact ⟨q, List.mem_cons_of_mem _ (by rw [show b + (i + 1) = b + 1 + i by omega]; exact q1), q2⟩
theorem az_entry {w : aW} (hw : az_wok w) {xs : List Value} {vs : aS} {n : Nat} (h : az_SR w xs vs) (hn : (az_args vs).length ≤ n) : az_LR w ((lg_sl xs ++ List.replicate (n - (lg_sl xs).length) Slot.unset).toArray) n (az_ent vs n) := by
  obtain ⟨h1, h2⟩ := az_ent_at hw xs vs 0 h
  have hl := lv_entry xs (n := n) (by omega)
  refine ⟨hl.1, hl.2.1, by simp [az_ent]; omega, fun i v hi => ?_⟩
  unfold az_ent at hi
  by_cases hil : i < (az_args vs).length
  · rw [List.getElem?_append_left hil] at hi
    obtain ⟨x, q1, q2⟩ := h2 i v hi
    exact ⟨x, hl.2.2 (i, x) (by simpa using q1), q2⟩
  · rw [List.getElem?_append_right (by omega), List.getElem?_replicate] at hi
    split at hi
    · cases hi
    · cases hi
/-- what is moved to another state of the tables -/
theorem az_Tt_warm {w : aW} {s U : State} (hW : s.WarmedH U.vm) (h : az_Tt w s) : az_Tt w U := ⟨fun q hq => (h.1 q hq).warmM hW, fun i q hq => (h.2.1 i q hq).warm hW, h.2.2.1.moved hW.alike, h.2.2.2.moved hW.alike⟩
theorem az_Tt_call {w : aW} {U : State} {f : JFrame} {mk : MethodId} {a : Array Value} (h : az_Tt w U) : az_Tt w (U.calling f mk a) := ⟨fun q hq => va_Nw.same rfl rfl (h.1 q hq), fun i q hq => (h.2.1 i q hq).same rfl, h.2.2.1.moved (Vm.Alike.refl U.vm), h.2.2.2.moved (Vm.Alike.refl U.vm)⟩
def az_ws (M : Nat) : List Cond := Cond.code (az_y M) (az_by M) (az_ml M) (az_re M) :: az_good
def az_rm (M mc ms : Nat) : Room := { frames := M + 1, cells := mc, slots := ms, locals := 64 * (M + 1) }
/-- the answer of a method -/
def az_rvO (w : aW) : Option aV → Option Value → Prop
  | none, none => True
  | some v, some x => az_rv w v x
  | _, _ => False
def az_Pm (w : aW) (sc : aX) (g : aG) (m : aM) (av : List Value) : Array Value → State → Prop := va_Pc av (fun U => az_Rh w sc U U.heap g m ∧ az_Tt w U)
def az_Qm (w : aW) (sc : aX) (r : Option aV × aG × aM) : Array Value → State → Outcome → State → Prop := fun _ _ o t => ∃ x, o = .returned x ∧ az_rvO w r.1 x ∧ az_Rh w sc t t.heap r.2.1 r.2.2
theorem az_Pm_blind {w : aW} {sc : aX} {g : aG} {m : aM} {av : List Value} : FrameBlind (az_Pm w sc g m av) := fun a U f mk q => ⟨q.1, az_Rh_moved (u := U) (U := U.calling f mk a) (Vm.Alike.refl U.vm) q.2.1, az_Tt_call q.2.2⟩
theorem az_good_in (M : Nat) (h : az_cw M) : GoodIn az_good (az_ws M) := fun v hv => by
  rcases List.mem_cons.mp hv with rfl | hv
  · exact ⟨h, az_good_ok _ h⟩
  · exact ⟨hv, az_good_ok _ hv⟩
theorem az_good_cons {a : Cond} {ws : List Cond} (h1 : a ∈ az_good) (h2 : GoodIn az_good ws) : GoodIn az_good (a :: ws) := fun v hv => by
  rcases List.mem_cons.mp hv with rfl | hv
  · exact ⟨h1, az_good_ok _ h1⟩
  · exact h2 v hv
section RUN
variable {p : Program} {la : Launch} {e : Env} {R : Room} {s : State} {mid : MethodId} {args : Array Value} {below : List Frame} {meth : Method} {cd : Code} {H : Heap} {locs : List Loc} {cells slots : Nat} {Q : State → Prop}
theorem az_W_run {pc : Nat} {ls : Array Slot} {rest st0 : List Value} {mc ms : Nat} {Qa : State → Outcome → State → Prop} {free : Addr → Prop} (hr : va_Run p la e R s mid args below meth cd H locs cells slots mc ms (F0 mid pc ls st0) rest Qa free)
    (kk : ∀ (v : Option Value) (st₀ t : State) (L : List Loc), s.vm.Alike t.vm → Qa st₀ (.returned v) t → (∀ q ∈ L, free q.base) → W p la e R s mid args below meth cd t.heap (locs ++ L) (cells + mc) (slots + ms) Q (F0 mid (pc + 3) ls (v.toList ++ rest))) : W p la e R s mid args below meth cd H locs cells slots Q (F0 mid pc ls st0) := by
  intro T hT X
  obtain ⟨v, st₀, t, T', L, h0, X', hL, e1, e2, hq, st⟩ := hr T hT X
  obtain ⟨t2, a1, b1⟩ := kk v st₀ t L (by rw [← e2]; exact X'.warmed.alike) hq hL T' e1 X'
  exact ⟨t2, st t2 a1, b1⟩
end RUN
