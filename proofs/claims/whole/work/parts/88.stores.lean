/-! steps that write or make cells -/
theorem az_up_at (m : aM) (a : Nat) (i v : Int) : az_up m a i v a i = v := by simp [az_up]
theorem az_up_i (m : aM) (a : Nat) {i j : Int} (v : Int) (h : j ≠ i) : az_up m a i v a j = m a j := by simp [az_up, h]
theorem az_up_a (m : aM) {a b : Nat} (i v j : Int) (h : b ≠ a) : az_up m a i v b j = m b j := by simp [az_up, h]
section ST
variable {p : Program} {la : Launch} {e : Env} {R : Room} {s : State} {mid : MethodId} {args : Array Value} {below : List Frame} {meth : Method} {cd : Code} {H : Heap} {locs : List Loc} {cells slots : Nat} {Q : State → Prop}
variable {w : aW} {sc : aX} {M pc : Nat} {ls : Array Slot} {rest : List Value} {g : aG} {m : aM} {cc : ByteArray}
theorem az_loc1 {a k : Nat} (ha : 19 ≤ a) (hl : ∀ q ∈ locs, w.1 ≤ q.base) : ∀ q ∈ locs ++ [(⟨az_ad w a, k⟩ : Loc)], w.1 ≤ q.base := by
  intro q hq
  rcases List.mem_append.mp hq with h | h
  · exact hl q h
  · rw [List.mem_singleton.mp h]
    show w.1 ≤ az_ad w a
    rw [az_ad_hi ha]
    omega
/-- the row behind a store -/
theorem az_RC_arr {H' : Heap} {a t n : Nat} {rs : List Nat} {cA : ClassId} {f : Nat → Value} {j : Nat} {x : Int32} (ht : 20 ≤ t ∧ t ≤ 22) (hn : n ≤ 2000) (hA : ArrOfT s cA (az_ty t)) (hRA : va_RA s cA (az_ty t)) (hf : ∀ j : Nat, j < n → ∃ y : Int32, f j = .int y ∧ y.toInt = m a j) (e : H'[az_ad w a]? = some ((arrV cA n f).setSlot j (.int x))) : az_RC w s H' (az_up m a j x.toInt) a t n rs := by
  refine Or.inr ⟨ht.1, by omega, hn, fun h => by omega, cA, updV f j (.int x), by rw [e, arrV_store], hA, hRA, fun _ i hi => ?_, fun h => by omega⟩
  by_cases hij : i = j
  · subst hij
    exact ⟨x, by simp [updV], by rw [az_up_at]⟩
  · obtain ⟨y, h1, h2⟩ := hf i hi
    exact ⟨y, by simp [updV, hij, h1], by rw [az_up_i _ _ _ (by omega)]; exact h2⟩
theorem az_new_arr {a t n : Nat} {rs : List Nat} (h : az_Rh w sc s H g m) (ha : 19 ≤ a) (hg : g[a]? = some (t, n, rs)) (ht : 20 ≤ t ∧ t ≤ 22) : n ≤ 2000 ∧ ∃ (cA : ClassId) (f : Nat → Value), H[az_ad w a]? = some (arrV cA n f) ∧ ArrOfT s cA (az_ty t) ∧ va_RA s cA (az_ty t) ∧ ∀ j : Nat, j < n → ∃ y : Int32, f j = .int y ∧ y.toInt = m a j := by
  rcases h.2.2.2.2.2.2 a t n rs ha hg with ⟨h8, -⟩ | ⟨g1, g2, g3, g4, cA, f, g5, g6, g7, g8, g9⟩
  · omega
  · exact ⟨g3, cA, f, g5, g6, g7, g8 (by omega)⟩
theorem az_c_iast {a n : Nat} {rs : List Nat} {x j : Int32} (X : p.tables.exec = Jvm.exec) (hb : cd.code = cc) (h : az_Rh w sc s H g m) (hl : ∀ q ∈ locs, w.1 ≤ q.base) (ha : 19 ≤ a) (hg : g[a]? = some (20, n, rs)) (h0 : 0 ≤ j.toInt) (h1 : j.toInt < (n : Int)) (hdg : decode cc pc = .ok (.iastore, 1))
    (k : ∀ H' locs', az_Rh w sc s H' g (az_up m a j.toInt x.toInt) → (∀ q ∈ locs', w.1 ≤ q.base) → W p la e R s mid args below meth cd H' locs' cells slots Q (F0 mid (pc + 1) ls rest)) : W p la e R s mid args below meth cd H locs cells slots Q (F0 mid pc ls (.int x :: .int j :: az_rf w (a + 1) :: rest)) := by
  rw [az_rf_s (by omega)]
  obtain ⟨hn, cA, f, c1, c2, c3, c4⟩ := az_new_arr h ha hg (by omega)
  refine W.iast X hb c1 (c2 n f) (fun q => by cases q) (by rw [arrV_size]; exact az_n_in h0 h1) rfl rfl hdg fun H' e z oq => ?_
  refine k H' _ (az_Rh_put h ha hg z oq (fun b i hb => az_up_a _ _ _ _ hb) ?_) (az_loc1 ha hl)
  have := az_RC_arr (m := m) (rs := rs) (by omega) hn c2 c3 c4 e
  rw [az_n_cl, Int.toNat_of_nonneg h0] at this
  exact this
theorem az_nb {x : Int32} (h1 : -128 ≤ x.toInt) (h2 : x.toInt < 128) : narrow .byte (.int x) = .int x := by
  show Value.int x.toInt8.toInt32 = _
  congr 1
  apply Int32.toInt_inj.mp
  rw [Int8.toInt_toInt32, Int32.toInt_toInt8, Int.bmod_eq_of_le (by omega) (by omega)]
theorem az_nz {x : Int32} (h1 : 0 ≤ x.toInt) (h2 : x.toInt < 2) : x = 0 ∨ x = 1 := by
  rcases (show x.toInt = 0 ∨ x.toInt = 1 by omega) with h | h
  · exact Or.inl (Int32.toInt_inj.mp h)
  · exact Or.inr (Int32.toInt_inj.mp h)
theorem az_nzn {x : Int32} (h1 : 0 ≤ x.toInt) (h2 : x.toInt < 2) : narrow .boolean (.int x) = .int x := by
  rcases az_nz h1 h2 with rfl | rfl <;> rfl
theorem az_c_bast {a t n : Nat} {rs : List Nat} {x j : Int32} (X : p.tables.exec = Jvm.exec) (hb : cd.code = cc) (h : az_Rh w sc s H g m) (hl : ∀ q ∈ locs, w.1 ≤ q.base) (ha : 19 ≤ a) (hg : g[a]? = some (t, n, rs)) (ht : (t = 21 ∧ -128 ≤ x.toInt ∧ x.toInt < 128) ∨ (t = 22 ∧ 0 ≤ x.toInt ∧ x.toInt < 2)) (h0 : 0 ≤ j.toInt) (h1 : j.toInt < (n : Int)) (hdg : decode cc pc = .ok (.bastore, 1))
    (k : ∀ H' locs', az_Rh w sc s H' g (az_up m a j.toInt x.toInt) → (∀ q ∈ locs', w.1 ≤ q.base) → W p la e R s mid args below meth cd H' locs' cells slots Q (F0 mid (pc + 1) ls rest)) : W p la e R s mid args below meth cd H locs cells slots Q (F0 mid pc ls (.int x :: .int j :: az_rf w (a + 1) :: rest)) := by
  rw [az_rf_s (by omega)]
  obtain ⟨hn, cA, f, c1, c2, c3, c4⟩ := az_new_arr h ha hg (by omega)
  have key : ∀ (H' : Heap), H'[az_ad w a]? = some ((arrV cA n f).setSlot j.toNatClampNeg (.int x)) → H'.size = H.size → (∀ q, q ≠ az_ad w a → H'[q]? = H[q]?) → az_Rh w sc s H' g (az_up m a j.toInt x.toInt) := fun H' e z oq => by
    refine az_Rh_put h ha hg z oq (fun b i hb => az_up_a _ _ _ _ hb) ?_
    have := az_RC_arr (m := m) (rs := rs) (by omega) hn c2 c3 c4 e
    rw [az_n_cl, Int.toNat_of_nonneg h0] at this
    exact this
  rcases ht with ⟨rfl, t1, t2⟩ | ⟨rfl, t1, t2⟩
  · refine W.bast X hb c1 (c2 n f) (fun q => by cases q) (by rw [arrV_size]; exact az_n_in h0 h1) rfl rfl hdg fun H' e z oq => ?_
    rw [az_nb t1 t2] at e
    exact k H' _ (key H' e z oq) (az_loc1 ha hl)
  · refine W.zast X hb c1 (c2 n f) (fun q => by cases q) (by rw [arrV_size]; exact az_n_in h0 h1) rfl rfl hdg fun H' e z oq => ?_
    rw [az_nzn t1 t2] at e
    exact k H' _ (key H' e z oq) (az_loc1 ha hl)
theorem az_c_aast {a b t n t2 n2 : Nat} {rs rs2 : List Nat} {j : Int32} (X : p.tables.exec = Jvm.exec) (hb : cd.code = cc) (h : az_Rh w sc s H g m) (hl : ∀ q ∈ locs, w.1 ≤ q.base) (ha : 19 ≤ a) (hb2 : 19 ≤ b) (hg : g[a]? = some (t, n, rs)) (hg2 : g[b]? = some (t2, n2, rs2)) (ht : (t = 23 ∧ t2 = 5) ∨ (t = 24 ∧ t2 = 1)) (h0 : 0 ≤ j.toInt) (h1 : j.toInt < (n : Int)) (hdg : decode cc pc = .ok (.aastore, 1))
    (k : ∀ H' locs', az_Rh w sc s H' (g.set a (t, n, rs.set j.toInt.toNat (b + 1))) m → (∀ q ∈ locs', w.1 ≤ q.base) → W p la e R s mid args below meth cd H' locs' cells slots Q (F0 mid (pc + 1) ls rest)) : W p la e R s mid args below meth cd H locs cells slots Q (F0 mid pc ls (az_rf w (b + 1) :: .int j :: az_rf w (a + 1) :: rest)) := by
  rw [az_rf_s (show a ≠ 1 by omega), az_rf_s (show b ≠ 1 by omega)]
  obtain ⟨-, hrl, hn, cA, f, c1, c2, c3, c4⟩ := az_arrq h hg (by omega)
  obtain ⟨-, -, -, fs, -, ⟨cellV, g1, g2, g3, -⟩, -⟩ := az_obj h hg2 (by omega)
  have hcls : ClassAt s (az_R t2) (w.2.2.2.1 t2) := (h.1.1 t2 _ (az_cls_at (by omega))).2
  have hty : az_ty t = .object (az_R t2) := by rcases ht with ⟨rfl, rfl⟩ | ⟨rfl, rfl⟩ <;> rfl
  have c3' := c3
  rw [hty] at c3
  obtain ⟨kA, comp, k1, k2, k3, -⟩ := c3
  have hcomp : comp = w.2.2.2.1 t2 := Option.some.inj (k3.symm.trans hcls.1)
  subst hcomp
  obtain ⟨kC, hkC, -⟩ := hcls.2
  have hj : j.toInt.toNat < n := by omega
  refine W.aast X hb c1 (fun q h => by cases h) (fun h => by cases h) k1 k2 rfl hkC ⟨az_n_pos h0, by rw [arrV_size, az_n_cl]; exact hj⟩ g1 (fun q h => by rw [g3] at h; cases h) (by rw [g2]; exact hkC) (by rw [g2]; exact va_assign hcls) rfl rfl hdg fun H' e z oq => ?_
  refine k H' _ (az_Rh_set h ha hg z oq (fun _ _ _ => rfl) (Or.inr ⟨by omega, by omega, hn, fun _ => by rw [List.length_set]; exact hrl, cA, updV f j.toInt.toNat (.ref (az_ad w b)), by rw [e, arrV_store, az_n_cl], c2, c3', fun q => by omega, fun _ i hi => ?_⟩)) (az_loc1 ha hl)
  by_cases hij : i = j.toInt.toNat
  · subst hij
    rw [List.getD_eq_getElem?_getD, List.getElem?_set_self (show j.toInt.toNat < rs.length by omega)]
    show _ = az_rf w (b + 1)
    rw [az_rf_s (show b ≠ 1 by omega)]
    unfold updV
    rw [if_pos rfl]
  · simp only [updV, if_neg hij, List.getD_eq_getElem?_getD, List.getElem?_set_ne (Ne.symm hij)]
    have := c4 i hi
    rwa [List.getD_eq_getElem?_getD] at this
/-- a field of ours is read -/
theorem az_c_get {a t n k x : Nat} {rs : List Nat} {own : String} (X : p.tables.exec = Jvm.exec) (hb : cd.code = cc) (h : az_Rh w sc s H g m) (hts : ∀ v ∈ az_good, v.before args s = true) (hown : s.vm.findClass own = some mid.cls) (hg : g[a]? = some (t, n, rs)) (ht : t < 9) (hk : k < az_N t) (hlink : (Cond.fieldLink own x (az_R t) (az_T t k).2.1 (az_T t k).2.2.1).before args s = true) (hdecl : (az_T t k).1 = az_R t) (hdg : decode cc pc = .ok (.getfield x, 3))
    (K : ∀ v : Value, az_fv w (az_tc t k) (m a k) (rs.getD k 0) v → W p la e R s mid args below meth cd H locs cells slots Q (F0 mid (pc + 3) ls (v :: rest))) : W p la e R s mid args below meth cd H locs cells slots Q (F0 mid pc ls (az_rf w (a + 1) :: rest)) := by
  obtain ⟨ha, -, -, fs, hfl, hob, hfv⟩ := az_obj h hg ht
  rw [az_rf_s (by omega)]
  have hP : va_P w.2.2.2 az_cls [(az_ad w a, .inr (t, fs))] H := fun i q hq => by
    cases i with
    | zero => cases hq; exact ⟨_, az_cls_at ht, hob⟩
    | succ i => simp at hq
  have hv : fs[k]? = some (vp_V fs k) := by
    rw [vp_V, List.getD_eq_getElem?_getD, List.getElem?_eq_getElem (by omega)]
    rfl
  exact va_get X hb hts (az_lay_in ht) hown h.1 hP 0 rfl (az_cls_at ht) k hk hlink (fun q hq => by rw [← hdecl]; exact hq) hv hdg (K _ (hfv k hk))
/-- a field of ours is written -/
theorem az_c_put {a t n k x r' : Nat} {rs rs' : List Nat} {z' : Int} {own : String} {v : Value} (X : p.tables.exec = Jvm.exec) (hb : cd.code = cc) (h : az_Rh w sc s H g m) (hl : ∀ q ∈ locs, w.1 ≤ q.base) (hts : ∀ v ∈ az_good, v.before args s = true) (hown : s.vm.findClass own = some mid.cls) (ha : 19 ≤ a) (hg : g[a]? = some (t, n, rs)) (ht : t < 9) (hk : k < az_N t) (hlink : (Cond.fieldLink own x (az_R t) (az_T t k).2.1 (az_T t k).2.2.1).before args s = true) (hdecl : (az_T t k).1 = az_R t)
    (hfin : (az_T t k).2.2.2 = false ∨ (meth.name = "<init>" ∧ (az_T t k).1 = own)) (hn : narrow (az_t t k) v = v) (hfit : fits (az_t t k) v = true) (hdg : decode cc pc = .ok (.putfield x, 3))
    (hz : az_fv w (az_tc t k) z' r' v) (hrs : rs' = rs.set k r' ∨ (rs' = rs ∧ az_tc t k ≠ 2)) {m' : aM} (hm : ∀ (b : Nat) (j : Int), b ≠ a → m' b j = m b j) (hm2 : ∀ j : Nat, j ≠ k → m' a j = m a j) (hm3 : az_tc t k ≠ 2 → m' a k = z')
    (K : ∀ H' locs', az_Rh w sc s H' (g.set a (t, n, rs')) m' → (∀ q ∈ locs', w.1 ≤ q.base) → W p la e R s mid args below meth cd H' locs' cells slots Q (F0 mid (pc + 3) ls rest)) : W p la e R s mid args below meth cd H locs cells slots Q (F0 mid pc ls (v :: az_rf w (a + 1) :: rest)) := by
  obtain ⟨-, hrl, hnn, fs, hfl, ⟨cell, q1, q2, q3, q4⟩, hfv⟩ := az_obj h hg ht
  rw [az_rf_s (show a ≠ 1 by omega)]
  have hap := va_apart (own := own) hts (az_lay_in ht) (az_t t) (fun k hk => az_ty_at ht hk) (az_nm_at ht) h.1 (az_cls_at ht)
  obtain ⟨hS, hfc, kC, hkC, hkind⟩ := h.1.1 t _ (az_cls_at ht)
  obtain ⟨cf, kf, fi, f, hi, hsl⟩ := hS k hk
  have hlay := hts _ (az_lay_in ht _ (u_in_lay hk))
  have hst := (u_facts hfc hkC (u_lays hts (az_lay_in ht) hk) hi).1
  have hi2 : s.fieldFound? (az_R t) (az_T t k).2.1 (az_T t k).2.2.1 = some (cf, kf, fi, f) := by rw [← hdecl]; exact hi
  have fin : ∀ H' : Heap, H'[az_ad w a]? = some (cell.setSlot f.slot v) → H'.size = H.size → (∀ q, q ≠ az_ad w a → H'[q]? = H[q]?) → az_Rh w sc s H' (g.set a (t, n, rs')) m' := fun H' e1 e2 e3 => by
    rw [hsl] at e1
    have hrl' : rs'.length = az_N t := by
      rcases hrs with rfl | ⟨rfl, -⟩
      · rw [List.length_set]; exact hrl
      · exact hrl
    refine az_Rh_set h ha hg e2 e3 hm (Or.inl ⟨ht, hrl', hnn, fs.set k v, by rw [List.length_set]; exact hfl, t_OB.to (V := updV (vp_V fs) k v) ⟨_, e1, q2, q3, t_set q4 hap hk v⟩ (fun j _ => vp_updV_set (by omega) v j), fun j hj => ?_⟩)
    rw [← vp_updV_set (by omega) v j]
    by_cases hjk : j = k
    · subst hjk
      have : updV (vp_V fs) j v j = v := by simp [updV]
      rw [this]
      unfold az_fv at hz ⊢
      by_cases h2 : az_tc t j = 2
      · have h1 : ¬ az_tc t j = 1 := by omega
        rw [if_neg h1, if_pos h2] at hz ⊢
        rcases hrs with rfl | ⟨-, hx⟩
        · rw [List.getD_eq_getElem?_getD, List.getElem?_set_self (by omega)]
          exact hz
        · exact absurd h2 hx
      · rw [hm3 h2]
        split at hz
        · next h1 => rw [if_pos h1]; exact hz
        · next h1 =>
          rw [if_neg h1, if_neg h2]
          exact hz
    · have : updV (vp_V fs) k v j = vp_V fs j := by simp [updV, hjk]
      rw [this, hm2 j hjk]
      have hr2 : rs'.getD j 0 = rs.getD j 0 := by
        rcases hrs with rfl | ⟨rfl, -⟩
        · rw [List.getD_eq_getElem?_getD, List.getElem?_set_ne (Ne.symm hjk), List.getD_eq_getElem?_getD]
        · rfl
      rw [hr2]
      exact hfv j hj
  have hslot : f.slot < cell.slots.size := by rw [hsl]; exact k2_hasslot (q4 k hk)
  unfold u_lay at hlay
  by_cases hF : (az_T t k).2.2.2 = true
  · obtain ⟨hin2, hdo⟩ := hfin.resolve_left (by rw [hF]; decide)
    rw [if_pos hF] at hlay
    have hcf : mid.cls = cf := by
      obtain ⟨_, _, c', _, _, _, -, -, hf', -, -, -, hown2, -⟩ := Cond.laysFinal_spec hlay
      have e1 : c' = cf := by have := hi.symm.trans hf'; simp at this; exact this.1.symm
      rw [hdo] at hown2
      rw [← e1]; exact Option.some.inj (hown.symm.trans hown2)
    have h6 := u_fits hfc hkC hkind (Or.inr hlay) hi (az_ty_at ht hk) hn hfit
    refine W.putFinK X hb hown hlink hi2 hst hcf hin2 (by rw [q2]; exact h6) q1 q3 hslot rfl rfl hdg fun H' e1 e2 e3 => ?_
    exact K H' _ (fin H' e1 e2 e3) (az_loc1 ha hl)
  · rw [if_neg hF] at hlay
    have h6 := u_store hfc hkC hkind hlay hi (az_ty_at ht hk) hn hfit
    refine W.putK X hb (f := f) ⟨hown, hlink, ⟨_, _, _, hi2⟩, hst⟩ (by rw [q2]; exact h6) q1 q3 hslot rfl rfl hdg fun H' e1 e2 e3 => ?_
    exact K H' _ (fin H' e1 e2 e3) (az_loc1 ha hl)
end ST
