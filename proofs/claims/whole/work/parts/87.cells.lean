/-! steps that read or write cells -/
section CE
variable {p : Program} {la : Launch} {e : Env} {R : Room} {s : State} {mid : MethodId} {args : Array Value} {below : List Frame} {meth : Method} {cd : Code} {H : Heap} {locs : List Loc} {cells slots : Nat} {Q : State → Prop}
variable {w : aW} {sc : aX} {M pc : Nat} {ls : Array Slot} {rest : List Value} {g : aG} {m : aM} {cc : ByteArray}
/-- which cells lie ahead -/
theorem az_g0_tags : ∀ a, a < 19 → ∀ t n rs, az_g0[a]? = some (t, n, rs) → (a = 2 ∧ t = 20 ∧ n = 6) ∨ (∃ i, i < 8 ∧ a = 11 + i ∧ t = 21 ∧ n = [3, 3, 5, 4, 4, 5, 4, 4].getD i 0) ∨ (∃ i, i < 8 ∧ a = 3 + i ∧ t = 9 ∧ rs = [12 + i, 0]) ∨ (a < 2 ∧ t = 99) := by
  intro a ha t n rs h
  have h2 : (List.range 19).all (fun a => match az_g0[a]? with
    | some (t, n, rs) => decide (a = 2 ∧ t = 20 ∧ n = 6) || decide (11 ≤ a ∧ a < 19 ∧ t = 21 ∧ n = [3, 3, 5, 4, 4, 5, 4, 4].getD (a - 11) 0) || decide (3 ≤ a ∧ a < 11 ∧ t = 9 ∧ rs = [12 + (a - 3), 0]) || decide (a < 2 ∧ t = 99)
    | none => false) = true := by decide +kernel
  have h3 := List.all_eq_true.mp h2 a (List.mem_range.mpr ha)
  rw [h] at h3
  simp only [Bool.or_eq_true, decide_eq_true_eq] at h3
  rcases h3 with ((h3 | h3) | h3) | h3
  · exact Or.inl h3
  · exact Or.inr (Or.inl ⟨a - 11, by omega, by omega, h3.2.2.1, h3.2.2.2⟩)
  · exact Or.inr (Or.inr (Or.inl ⟨a - 3, by omega, by omega, h3.2.2.1, h3.2.2.2⟩))
  · exact Or.inr (Or.inr (Or.inr h3))
theorem az_abv_ok : ∀ j, j < 6 → (Int32.ofInt (az_abv.getD j 0)).toInt = az_m0 2 (j : Int) := by decide +kernel
theorem az_txt_ok : (List.range 8).all (fun i => (List.range ([3, 3, 5, 4, 4, 5, 4, 4].getD i 0)).all (fun j => decide (((az_byt.getD i []).getD j 0).toInt = az_m0 (11 + i) (j : Int)))) = true := by decide +kernel
/-- a row of ints -/
theorem az_arr {a t n : Nat} {rs : List Nat} (h : az_Rh w sc s H g m) (hg : g[a]? = some (t, n, rs)) (ht : 20 ≤ t ∧ t ≤ 22) : ∃ cell : Cell, H[az_ad w a]? = some cell ∧ s.isArrayOf cell (az_ty t) ∧ cell.vm ≠ .unknown ∧ n ≤ cell.slots.size ∧ cell.slots.size.toInt32 = Int32.ofNat n ∧ n ≤ 2000 ∧ ∀ j : Nat, j < n → ∃ y : Int32, cell.slots[j]? = some (.int y) ∧ y.toInt = m a j := by
  obtain ⟨h1, h2, h3, h4, h5, h6, h7⟩ := h
  by_cases ha : a < 19
  · have hm := (h6 a ha).2
    rw [(h6 a ha).1] at hg
    rcases az_g0_tags a ha t n rs hg with ⟨e1, e2, e3⟩ | ⟨i, hi, e1, e2, e3⟩ | ⟨i, hi, e1, e2, e3⟩ | ⟨e1, e2⟩
    · subst e1; subst e2; subst e3
      obtain ⟨cell, c1, c2, c3, c4, c5, c6, c7⟩ := h2.1
      exact ⟨cell, c1, c2, c3, c4, c5, by omega, fun j hj => ⟨_, c6 j hj, by rw [hm]; exact az_abv_ok j hj⟩⟩
    · obtain ⟨-, -, -, cell, c1, c2, c3, c4, c5, c6, c7⟩ := h2.2.2.2.2.1 i hi
      subst e1; subst e2
      rw [← e3] at c4 c5 c6
      rw [az_ad_lo ha]
      refine ⟨cell, c1, c2, c3, c4, c5, ?_, fun j hj => ⟨_, c6 j hj, ?_⟩⟩
      · have : ∀ i, i < 8 → ([3, 3, 5, 4, 4, 5, 4, 4] : List Nat).getD i 0 ≤ 2000 := by decide
        rw [e3]; exact this i hi
      · have q := List.all_eq_true.mp (List.all_eq_true.mp az_txt_ok i (List.mem_range.mpr hi)) j (List.mem_range.mpr (by rw [← e3]; exact hj))
        rw [hm]
        exact decide_eq_true_eq.mp q
    · omega
    · omega
  · rcases h7 a t n rs (by omega) hg with ⟨h8, -⟩ | ⟨g1, g2, g3, g4, cA, f, g5, g6, g7, g8, g9⟩
    · omega
    · refine ⟨_, g5, g6 n f, fun q => (by cases q), by rw [arrV_size]; exact Nat.le_refl _, by rw [arrV_size], g3, fun j hj => ?_⟩
      obtain ⟨y, hy, hy2⟩ := g8 (by omega) j hj
      exact ⟨y, by rw [arrV_read _ _ hj, hy], hy2⟩
theorem az_ad_ne1 {a : Nat} {t n : Nat} {rs : List Nat} (h : az_Rh w sc s H g m) (hg : g[a]? = some (t, n, rs)) (ht : t ≠ 99) : a ≠ 1 := by
  intro e
  subst e
  rw [(h.2.2.2.2.2.1 1 (by omega)).1] at hg
  rcases az_g0_tags 1 (by omega) t n rs hg with ⟨e1, -⟩ | ⟨i, hi, e1, -⟩ | ⟨i, hi, e1, -⟩ | ⟨-, e2⟩
  all_goals omega
/-- a row of references -/
theorem az_arrq {a t n : Nat} {rs : List Nat} (h : az_Rh w sc s H g m) (hg : g[a]? = some (t, n, rs)) (ht : 23 ≤ t ∧ t ≤ 24) : 19 ≤ a ∧ rs.length = n ∧ n ≤ 2000 ∧ ∃ (cA : ClassId) (f : Nat → Value), H[az_ad w a]? = some (arrV cA n f) ∧ ArrOfT s cA (az_ty t) ∧ va_RA s cA (az_ty t) ∧ ∀ j : Nat, j < n → f j = az_rf w (rs.getD j 0) := by
  by_cases ha : a < 19
  · rw [(h.2.2.2.2.2.1 a ha).1] at hg
    rcases az_g0_tags a ha t n rs hg with ⟨-, e2, -⟩ | ⟨i, hi, -, e2, -⟩ | ⟨i, hi, -, e2, -⟩ | ⟨-, e2⟩
    all_goals omega
  · rcases h.2.2.2.2.2.2 a t n rs (by omega) hg with ⟨h8, -⟩ | ⟨g1, g2, g3, g4, cA, f, g5, g6, g7, g8, g9⟩
    · omega
    · exact ⟨by omega, g4 ht.1, g3, cA, f, g5, g6, g7, g9 ht.1⟩
/-- an object of ours -/
theorem az_obj {a t n : Nat} {rs : List Nat} (h : az_Rh w sc s H g m) (hg : g[a]? = some (t, n, rs)) (ht : t < 9) : 19 ≤ a ∧ rs.length = az_N t ∧ n = az_N t ∧ ∃ fs : List Value, fs.length = az_N t ∧ t_OB (az_ad w a) (w.2.2.2.1 t) (az_N t) (w.2.2.2.2 t) H (vp_V fs) ∧ ∀ k, k < az_N t → az_fv w (az_tc t k) (m a k) (rs.getD k 0) (vp_V fs k) := by
  by_cases ha : a < 19
  · rw [(h.2.2.2.2.2.1 a ha).1] at hg
    rcases az_g0_tags a ha t n rs hg with ⟨-, e2, -⟩ | ⟨i, hi, -, e2, -⟩ | ⟨i, hi, -, e2, -⟩ | ⟨-, e2⟩
    all_goals omega
  · rcases h.2.2.2.2.2.2 a t n rs (by omega) hg with ⟨g1, g2, g3, g4⟩ | ⟨h8, -⟩
    · exact ⟨by omega, g2, g3, g4⟩
    · omega
theorem az_c_iald {a n : Nat} {rs : List Nat} {j : Int32} (X : p.tables.exec = Jvm.exec) (hb : cd.code = cc) (h : az_Rh w sc s H g m) (hg : g[a]? = some (20, n, rs)) (h0 : 0 ≤ j.toInt) (h1 : j.toInt < (n : Int)) (hdg : decode cc pc = .ok (.iaload, 1))
    (k : ∀ z : Int32, z.toInt = m a j.toInt → W p la e R s mid args below meth cd H locs cells slots Q (F0 mid (pc + 1) ls (.int z :: rest))) : W p la e R s mid args below meth cd H locs cells slots Q (F0 mid pc ls (.int j :: az_rf w (a + 1) :: rest)) := by
  rw [az_rf_s (az_ad_ne1 h hg (by omega))]
  obtain ⟨cell, c1, c2, c3, c4, c5, -, c6⟩ := az_arr h hg (by omega)
  obtain ⟨y, y1, y2⟩ := c6 j.toInt.toNat (by omega)
  refine W.iald (v := .int y) X hb c1 c2 c3 (az_n_in h0 (by omega)) (by rw [az_n_cl]; exact y1) rfl rfl hdg (k y ?_)
  rw [y2, Int.toNat_of_nonneg h0]
theorem az_c_sld {L : Nat} {xs : Int → Int} {j : Int32} (X : p.tables.exec = Jvm.exec) (hb : cd.code = cc) (h : az_Rh w (some (L, xs)) s H g m) (h0 : 0 ≤ j.toInt) (h1 : j.toInt < (L : Int)) (hdg : decode cc pc = .ok (.iaload, 1))
    (k : ∀ z : Int32, z.toInt = xs j.toInt → W p la e R s mid args below meth cd H locs cells slots Q (F0 mid (pc + 1) ls (.int z :: rest))) : W p la e R s mid args below meth cd H locs cells slots Q (F0 mid pc ls (.int j :: az_rf w (0 + 1) :: rest)) := by
  rw [az_rf_s (by omega), az_ad_lo (by omega)]
  obtain ⟨x32, ⟨scr, c1, c2, c3, c4, c5⟩, x2, x3, x4⟩ := h.2.2.1 L xs rfl
  refine W.iald (v := .int (x32 j.toInt.toNat)) X hb c1 c2 c3 (az_n_in h0 (by omega)) (by rw [az_n_cl]; exact c5 _ (by omega)) rfl rfl hdg (k _ ?_)
  rw [x2 _ (by omega), Int.toNat_of_nonneg h0]
theorem az_c_bald {a t n : Nat} {rs : List Nat} {j : Int32} (X : p.tables.exec = Jvm.exec) (hb : cd.code = cc) (h : az_Rh w sc s H g m) (hg : g[a]? = some (t, n, rs)) (ht : t = 21 ∨ t = 22) (h0 : 0 ≤ j.toInt) (h1 : j.toInt < (n : Int)) (hdg : decode cc pc = .ok (.baload, 1))
    (k : ∀ z : Int32, z.toInt = m a j.toInt → W p la e R s mid args below meth cd H locs cells slots Q (F0 mid (pc + 1) ls (.int z :: rest))) : W p la e R s mid args below meth cd H locs cells slots Q (F0 mid pc ls (.int j :: az_rf w (a + 1) :: rest)) := by
  rw [az_rf_s (az_ad_ne1 h hg (by omega))]
  obtain ⟨cell, c1, c2, c3, c4, c5, -, c6⟩ := az_arr h hg (by omega)
  obtain ⟨y, y1, y2⟩ := c6 j.toInt.toNat (by omega)
  have hk : y.toInt = m a j.toInt := by rw [y2, Int.toNat_of_nonneg h0]
  rcases ht with rfl | rfl
  · exact W.bald (v := .int y) X hb c1 c2 c3 (az_n_in h0 (by omega)) (by rw [az_n_cl]; exact y1) rfl rfl hdg (k y hk)
  · exact W.zald (v := .int y) X hb c1 c2 c3 (az_n_in h0 (by omega)) (by rw [az_n_cl]; exact y1) rfl rfl hdg (k y hk)
theorem az_c_aald {a t n : Nat} {rs : List Nat} {j : Int32} (X : p.tables.exec = Jvm.exec) (hb : cd.code = cc) (h : az_Rh w sc s H g m) (hg : g[a]? = some (t, n, rs)) (ht : 23 ≤ t ∧ t ≤ 24) (h0 : 0 ≤ j.toInt) (h1 : j.toInt < (n : Int)) (hdg : decode cc pc = .ok (.aaload, 1))
    (k : W p la e R s mid args below meth cd H locs cells slots Q (F0 mid (pc + 1) ls (az_rf w (rs.getD j.toInt.toNat 0) :: rest))) : W p la e R s mid args below meth cd H locs cells slots Q (F0 mid pc ls (.int j :: az_rf w (a + 1) :: rest)) := by
  rw [az_rf_s (az_ad_ne1 h hg (by omega))]
  obtain ⟨ha, -, -, cA, f, c1, c2, -, c3⟩ := az_arrq h hg ht
  have hj : j.toInt.toNat < n := by omega
  refine W.aald (v := az_rf w (rs.getD j.toInt.toNat 0)) X hb c1 (c2 n f) ?_ (fun q => by cases q) (by rw [arrV_size]; exact az_n_in h0 h1) (by rw [az_n_cl, arrV_read _ _ hj, c3 _ hj]) rfl rfl hdg k
  rcases (show t = 23 ∨ t = 24 by omega) with rfl | rfl <;> rfl
theorem az_c_alen {a t n : Nat} {rs : List Nat} (X : p.tables.exec = Jvm.exec) (hb : cd.code = cc) (h : az_Rh w sc s H g m) (hg : g[a]? = some (t, n, rs)) (ht : 20 ≤ t ∧ t ≤ 24) (hdg : decode cc pc = .ok (.arraylength, 1))
    (k : ∀ z : Int32, z.toInt = (n : Int) → W p la e R s mid args below meth cd H locs cells slots Q (F0 mid (pc + 1) ls (.int z :: rest))) : W p la e R s mid args below meth cd H locs cells slots Q (F0 mid pc ls (az_rf w (a + 1) :: rest)) := by
  rw [az_rf_s (az_ad_ne1 h hg (by omega))]
  by_cases h2 : t ≤ 22
  · obtain ⟨cell, c1, c2, c3, c4, c5, c7, c6⟩ := az_arr h hg ⟨ht.1, h2⟩
    exact W.alen X hb c1 c2 c5 rfl rfl hdg (k _ (Int32.toInt_ofNat_of_lt (by omega)))
  · obtain ⟨ha, -, c7, cA, f, c1, c2, -, c3⟩ := az_arrq h hg (by omega)
    exact W.alen (n := Int32.ofNat n) X hb c1 (c2 n f) (by rw [arrV_size]) rfl rfl hdg (k _ (Int32.toInt_ofNat_of_lt (by omega)))
theorem az_c_slen {L : Nat} {xs : Int → Int} (X : p.tables.exec = Jvm.exec) (hb : cd.code = cc) (h : az_Rh w (some (L, xs)) s H g m) (hdg : decode cc pc = .ok (.arraylength, 1))
    (k : ∀ z : Int32, z.toInt = (L : Int) → W p la e R s mid args below meth cd H locs cells slots Q (F0 mid (pc + 1) ls (.int z :: rest))) : W p la e R s mid args below meth cd H locs cells slots Q (F0 mid pc ls (az_rf w (0 + 1) :: rest)) := by
  rw [az_rf_s (by omega), az_ad_lo (by omega)]
  obtain ⟨x32, ⟨scr, c1, c2, c3, c4, c5⟩, x2, x3, x4⟩ := h.2.2.1 L xs rfl
  exact W.alen (n := Int32.ofNat L) X hb c1 c2 (by rw [c4]) rfl rfl hdg (k _ (Int32.toInt_ofNat_of_lt x4))
end CE
