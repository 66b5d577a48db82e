/-! types of fields; calls that are no calls of ours -/
def az_tyk (tc : Nat) (ty : FieldType) : Bool := match tc with
  | 0 => decide (ty = .int)
  | 1 => decide (ty = .long)
  | 2 => (match ty with
    | .object _ => true
    | .array _ => true
    | _ => false)
  | _ => decide (tc = 3 ∧ ty = .boolean)
theorem az_tyk_ok : (List.range 9).all (fun c => (List.range (az_N c)).all (fun k => az_tyk (az_tc c k) (az_t c k))) = true := by decide +kernel
theorem az_tcty {c k : Nat} (hc : c < 9) (hk : k < az_N c) : az_tyk (az_tc c k) (az_t c k) = true := List.all_eq_true.mp (List.all_eq_true.mp az_tyk_ok c (List.mem_range.mpr hc)) k (List.mem_range.mpr hk)
theorem az_fit_i {tc : Nat} {t : FieldType} {z : Int32} (h : az_tyk tc t = true) (hz : tc = 0 ∨ (tc = 3 ∧ 0 ≤ z.toInt ∧ z.toInt < 2)) : narrow t (.int z) = .int z ∧ fits t (.int z) = true := by
  rcases hz with rfl | ⟨rfl, h1, h2⟩
  · have ht : t = .int := by simpa [az_tyk] using h
    subst ht
    exact ⟨rfl, rfl⟩
  · have ht : t = .boolean := by simpa [az_tyk] using h
    subst ht
    rcases az_nz h1 h2 with rfl | rfl <;> exact ⟨rfl, rfl⟩
theorem az_fit_l {tc : Nat} {t : FieldType} {z : Int64} (h : az_tyk tc t = true) (hz : tc = 1) : narrow t (.long z) = .long z ∧ fits t (.long z) = true := by
  subst hz
  have ht : t = .long := by simpa [az_tyk] using h
  subst ht
  exact ⟨rfl, rfl⟩
theorem az_fit_r {w : aW} (hw : az_wok w) {tc : Nat} {t : FieldType} {r : Nat} (h : az_tyk tc t = true) (hz : tc = 2) : narrow t (az_rf w r) = az_rf w r ∧ fits t (az_rf w r) = true := by
  subst hz
  rcases az_rf_or hw r with e | ⟨a, e⟩ <;> rw [e] <;> cases t <;> first | exact ⟨rfl, rfl⟩ | simp [az_tyk] at h
section IV
variable {p : Program} {la : Launch} {e : Env} {R : Room} {s : State} {mid : MethodId} {args : Array Value} {below : List Frame} {meth : Method} {cd : Code} {H : Heap} {locs : List Loc} {cells slots : Nat} {Q : State → Prop}
variable {w : aW} {sc : aX} {M pc : Nat} {ls : Array Slot} {xs rest : List Value} {l l' : aL} {st st' : aS} {g g' : aG} {m m' : aM} {cc : ByteArray} {c0 s0 : Nat} {f : List Int}
theorem az_i_inv (h : az_inv l st g m f = some (.inl (l', st', g', m'))) : (∃ q1 q2 a, f = [0, q1, q2] ∧ st = .inr (.inr (a + 1)) :: st' ∧ 19 ≤ a ∧ st'.length ≤ 4 ∧ l' = l ∧ g' = g ∧ m' = m) ∨ (∃ q, f = 9 :: q ∧ az_cpy l st g m = some (.inl (l', st', g', m'))) ∨
    (∃ k q, f = 7 :: k :: q ∧ l' = l ∧ g' = g ∧ m' = m ∧ ((∃ y x s1, st = .inl y :: .inl x :: s1 ∧ s1.length ≤ 4 ∧ ((k = 0 ∧ st' = .inl (if x < y then y else x) :: s1) ∨ (k = 1 ∧ st' = .inl (if y < x then y else x) :: s1))) ∨ (∃ y x s1, st = .inr (.inl y) :: .inr (.inl x) :: s1 ∧ s1.length ≤ 4 ∧ k = 2 ∧ st' = .inr (.inl (if x < y then y else x)) :: s1))) := by
  unfold az_inv at h
  split at h
  · next q1 q2 =>
    split at h
    · next a s1 =>
      split at h
      · next hc =>
        obtain ⟨h1, h2, h3, h4⟩ := az_i_nx h
        subst h2
        exact Or.inl ⟨q1, q2, a, rfl, rfl, hc.1, hc.2, h1, h3, h4⟩
      · cases h
    · cases h
  · next q => exact Or.inr (Or.inl ⟨q, rfl, h⟩)
  · next k q =>
    refine Or.inr (Or.inr ⟨k, q, rfl, ?_⟩)
    split at h
    · next y x s1 =>
      split at h
      · next hs =>
        split at h
        · next hk =>
          obtain ⟨h1, h2, h3, h4⟩ := az_i_nx h
          exact ⟨h1, h3, h4, Or.inl ⟨y, x, s1, rfl, hs, Or.inl ⟨hk, h2⟩⟩⟩
        · split at h
          · next hk =>
            obtain ⟨h1, h2, h3, h4⟩ := az_i_nx h
            exact ⟨h1, h3, h4, Or.inl ⟨y, x, s1, rfl, hs, Or.inr ⟨hk, h2⟩⟩⟩
          · cases h
      · cases h
    · next y x s1 =>
      split at h
      · next hs =>
        obtain ⟨h1, h2, h3, h4⟩ := az_i_nx h
        exact ⟨h1, h3, h4, Or.inr ⟨y, x, s1, rfl, hs.1, hs.2, h2⟩⟩
      · cases h
    · cases h
  · split at h
    · split at h
      · simp at h
      · split at h
        · split at h
          · split at h
            · simp at h
            · cases h
          · cases h
        · cases h
    · cases h
  · cases h
theorem az_obj_code : Cond.code Lib.objectInit ⟨#[0xb1]⟩ 1 none ∈ az_good := List.mem_filter.mpr ⟨List.mem_of_getElem? (i := 89) (by decide +kernel), rfl⟩
theorem az_c_inv1 {x : Nat} (hx : p.tables.exec = Jvm.exec) (hb : cd.code = az_by M) (hml : cd.maxLocals = az_ml M) (hown : s.vm.findClass (az_y M).cls = some mid.cls) (hts : ∀ w ∈ az_good, w.before args s = true) (hw : az_wok w) (hR : M + 1 ≤ R.frames ∧ 64 * (M + 1) ≤ R.locals) (hcs : c0 ≤ g.length ∧ s0 ≤ az_sl g) (hrm : g'.length - c0 ≤ R.cells ∧ az_sl g' - s0 ≤ R.slots) (hRh : az_Rh w sc s H g m) (hl : ∀ q ∈ locs, w.1 ≤ q.base) (hL : az_LR w ls (az_ml M) l) (hSt : az_SR w xs st)
    (hres : az_res M pc (.invokevirtual x) f = true) (hst : az_step sc M (.invokevirtual x) f l st g m = some (.inl (l', st', g', m'))) (hd : decode (az_by M) pc = .ok (.invokevirtual x, 3))
    (K : ∀ H' locs' ls' xs', az_Rh w sc s H' g' m' → (∀ q ∈ locs', w.1 ≤ q.base) → az_LR w ls' (az_ml M) l' → az_SR w xs' st' → W p la e R s mid args below meth cd H' locs' (g'.length - c0) (az_sl g' - s0) Q (F0 mid (pc + 3) ls' xs')) : W p la e R s mid args below meth cd H locs (g.length - c0) (az_sl g - s0) Q (F0 mid pc ls xs) := by
  have hres : az_invk M (az_y M).cls x 1 f = true := hres
  rcases az_i_inv hst with ⟨q1, q2, a, rfl, -⟩ | ⟨q, rfl, -⟩ | ⟨k, q, rfl, -⟩
  · simp [az_invk] at hres
  · rcases q with _ | ⟨q1, _ | ⟨q2, _ | ⟨q3, _ | ⟨q4, _ | ⟨q5, _ | ⟨q6, _ | ⟨q7, _ | ⟨q8, q9⟩⟩⟩⟩⟩⟩⟩⟩ <;> simp [az_invk, az_invc] at hres
  · rcases q with _ | ⟨q1, _ | ⟨q2, _ | ⟨q3, _ | ⟨q4, _ | ⟨q5, _ | ⟨q6, _ | ⟨q7, _ | ⟨q8, q9⟩⟩⟩⟩⟩⟩⟩⟩ <;> simp [az_invk, az_invc] at hres
theorem az_c_inv3 {x : Nat} (hx : p.tables.exec = Jvm.exec) (hb : cd.code = az_by M) (hml : cd.maxLocals = az_ml M) (hown : s.vm.findClass (az_y M).cls = some mid.cls) (hts : ∀ w ∈ az_good, w.before args s = true) (hw : az_wok w) (hR : M + 1 ≤ R.frames ∧ 64 * (M + 1) ≤ R.locals) (hcs : c0 ≤ g.length ∧ s0 ≤ az_sl g) (hrm : g'.length - c0 ≤ R.cells ∧ az_sl g' - s0 ≤ R.slots) (hRh : az_Rh w sc s H g m) (hl : ∀ q ∈ locs, w.1 ≤ q.base) (hL : az_LR w ls (az_ml M) l) (hSt : az_SR w xs st)
    (hres : az_res M pc (.invokespecial x) f = true) (hst : az_step sc M (.invokespecial x) f l st g m = some (.inl (l', st', g', m'))) (hd : decode (az_by M) pc = .ok (.invokespecial x, 3))
    (K : ∀ H' locs' ls' xs', az_Rh w sc s H' g' m' → (∀ q ∈ locs', w.1 ≤ q.base) → az_LR w ls' (az_ml M) l' → az_SR w xs' st' → W p la e R s mid args below meth cd H' locs' (g'.length - c0) (az_sl g' - s0) Q (F0 mid (pc + 3) ls' xs')) : W p la e R s mid args below meth cd H locs (g.length - c0) (az_sl g - s0) Q (F0 mid pc ls xs) := by
  have hres : az_invk M (az_y M).cls x 3 f = true := hres
  rcases az_i_inv hst with ⟨q1, q2, a, rfl, rfl, ha, hal, rfl, rfl, rfl⟩ | ⟨q, rfl, -⟩ | ⟨k, q, rfl, -⟩
  · simp only [az_invk, Bool.and_eq_true] at hres
    obtain ⟨xs1, rfl, h1⟩ := az_SR_R hSt
    rw [az_rf_s (by omega)]
    have hwd := az_SR_words hw h1
    refine W.objInit hx hb hown (hts _ (az_hw_in hres.1.2)) (hts _ (az_hw_in hres.2)) (hts _ az_obj_code) (g := F0 mid pc ls (.ref (az_ad w a) :: xs1)) rfl (by rw [hml]; exact hL.1) rfl hd (by omega) (by show 2 * 0 + _ + 12 ≤ _; omega) ?_
    exact K _ _ _ _ hRh hl hL h1
  · rcases q with _ | ⟨q1, _ | ⟨q2, _ | ⟨q3, _ | ⟨q4, _ | ⟨q5, _ | ⟨q6, _ | ⟨q7, _ | ⟨q8, q9⟩⟩⟩⟩⟩⟩⟩⟩ <;> simp [az_invk, az_invc] at hres
  · rcases q with _ | ⟨q1, _ | ⟨q2, _ | ⟨q3, _ | ⟨q4, _ | ⟨q5, _ | ⟨q6, _ | ⟨q7, _ | ⟨q8, q9⟩⟩⟩⟩⟩⟩⟩⟩ <;> simp [az_invk, az_invc] at hres
theorem az_nfw : nativeFrameWords "java/lang/System" "arraycopy" 5 ≤ 40 := by decide +kernel
theorem az_c_inv2 {x : Nat} (hx : p.tables.exec = Jvm.exec) (hb : cd.code = az_by M) (hml : cd.maxLocals = az_ml M) (hown : s.vm.findClass (az_y M).cls = some mid.cls) (hts : ∀ w ∈ az_good, w.before args s = true) (hw : az_wok w) (hR : M + 1 ≤ R.frames ∧ 64 * (M + 1) ≤ R.locals) (hcs : c0 ≤ g.length ∧ s0 ≤ az_sl g) (hrm : g'.length - c0 ≤ R.cells ∧ az_sl g' - s0 ≤ R.slots) (hRh : az_Rh w sc s H g m) (hl : ∀ q ∈ locs, w.1 ≤ q.base) (hL : az_LR w ls (az_ml M) l) (hSt : az_SR w xs st)
    (hres : az_res M pc (.invokestatic x) f = true) (hst : az_step sc M (.invokestatic x) f l st g m = some (.inl (l', st', g', m'))) (hd : decode (az_by M) pc = .ok (.invokestatic x, 3))
    (K : ∀ H' locs' ls' xs', az_Rh w sc s H' g' m' → (∀ q ∈ locs', w.1 ≤ q.base) → az_LR w ls' (az_ml M) l' → az_SR w xs' st' → W p la e R s mid args below meth cd H' locs' (g'.length - c0) (az_sl g' - s0) Q (F0 mid (pc + 3) ls' xs')) : W p la e R s mid args below meth cd H locs (g.length - c0) (az_sl g - s0) Q (F0 mid pc ls xs) := by
  have hres : az_invk M (az_y M).cls x 2 f = true := hres
  rcases az_i_inv hst with ⟨q1, q2, a, rfl, -⟩ | ⟨q, rfl, hcp⟩ | ⟨k, q, rfl, rfl, rfl, rfl, hh⟩
  · simp [az_invk] at hres
  · obtain ⟨n, dp, d, sp, a, t, n0, rs, t2, n1, rs2, rfl, hg, hg2, ha, hdd, rfl, rfl, k1, k2, k3, k4, k5, k6, rfl, rfl, rfl⟩ := az_i_cpy hcp
    obtain ⟨z1, xs1, rfl, rfl, h1⟩ := az_SR_I hSt
    obtain ⟨z2, xs2, rfl, rfl, h2⟩ := az_SR_I h1
    obtain ⟨xs3, rfl, h3⟩ := az_SR_R h2
    obtain ⟨z4, xs4, rfl, rfl, h4⟩ := az_SR_I h3
    obtain ⟨xs5, rfl, h5⟩ := az_SR_R h4
    have hwd := az_SR_words hw h5
    have hnf := az_nfw
    have hq : ∃ q1 q2 q3 q4, q = [q1, q2, q3, q4] ∧ az_hw q1 (.methodLink (az_y M).cls x arraycopyName) = true ∧ az_hw q2 (.native arraycopyName) = true ∧ az_hw q3 (.static arraycopyName) = true ∧ az_hw q4 (.initialized "java/lang/System") = true := by
      rcases q with _ | ⟨q1, _ | ⟨q2, _ | ⟨q3, _ | ⟨q4, _ | ⟨q5, _ | ⟨q6, _ | ⟨q7, _ | ⟨q8, q9⟩⟩⟩⟩⟩⟩⟩⟩ <;> simp [az_invk, az_invc] at hres
      exact ⟨q1, q2, q3, q4, rfl, hres.1.1.1, hres.1.1.2, hres.1.2, hres.2⟩
    obtain ⟨q1, q2, q3, q4, -, c1, c2, c3, c4⟩ := hq
    exact az_c_cpy hx hb (by rw [hml]; exact hL.1.symm) hRh hl hown (hts _ (az_hw_in c1)) (hts _ (az_hw_in c2)) (hts _ (az_hw_in c3)) (hts _ (az_hw_in c4)) ha hdd hg hg2 k1 k2 k3 k4 k5 (by omega) (by omega) hd (fun H2 locs2 r1 r2 => K _ _ _ _ r1 r2 hL h5)
  · have hq : ∃ q1 q2 q3 q4, q = [q1, q2, q3, q4] ∧ az_hw q3 (.initialized "java/lang/Math") = true ∧
        ((k = 0 → az_hw q1 (.methodLink (az_y M).cls x Lib.Math.max.name) = true ∧ az_hw q2 (.static Lib.Math.max.name) = true ∧ az_hw q4 (.code Lib.Math.max.name Lib.Math.max.code 2 (some .int)) = true) ∧
         (k = 1 → az_hw q1 (.methodLink (az_y M).cls x Lib.Math.min.name) = true ∧ az_hw q2 (.static Lib.Math.min.name) = true ∧ az_hw q4 (.code Lib.Math.min.name Lib.Math.min.code 2 (some .int)) = true) ∧
         (k = 2 → az_hw q1 (.methodLink (az_y M).cls x Lib.MathLoose.max_long.x) = true ∧ az_hw q2 (.static Lib.MathLoose.max_long.x) = true ∧ az_hw q4 (.code Lib.MathLoose.max_long.x Lib.MathLoose.max_long.code 4 (some .long)) = true)) := by
      rcases q with _ | ⟨q1, _ | ⟨q2, _ | ⟨q3, _ | ⟨q4, _ | ⟨q5, _ | ⟨q6, _ | ⟨q7, _ | ⟨q8, q9⟩⟩⟩⟩⟩⟩⟩⟩ <;> simp [az_invk, az_invc] at hres
      refine ⟨q1, q2, q3, q4, rfl, hres.1, fun e => ?_, fun e => ?_, fun e => ?_⟩ <;> subst e <;> simp at hres
      · exact ⟨hres.2.1.1, hres.2.1.2, hres.2.2⟩
      · exact ⟨hres.2.1.1, hres.2.1.2, hres.2.2⟩
      · exact ⟨hres.2.1.1, hres.2.1.2, hres.2.2⟩
    obtain ⟨q1, q2, q3, q4, -, ci, cq0, cq1, cq2⟩ := hq
    rcases hh with ⟨y, x2, s1, rfl, hs, ⟨rfl, rfl⟩ | ⟨rfl, rfl⟩⟩ | ⟨y, x2, s1, rfl, hs, rfl, rfl⟩
    · obtain ⟨zy, xs1, rfl, rfl, h1⟩ := az_SR_I hSt
      obtain ⟨zx, xs2, rfl, rfl, h2⟩ := az_SR_I h1
      have hwd := az_SR_words hw h2
      obtain ⟨c1, c2, c3⟩ := cq0 rfl
      refine va_mmax hx hb (by rw [hml]; exact hL.1.symm) hown (hts _ (az_hw_in c1)) (hts _ (az_hw_in c2)) (hts _ (az_hw_in ci)) (hts _ (az_hw_in c3)) (by omega) (by omega) hrm.1 hrm.2 hd (K _ _ _ _ hRh hl hL ?_)
      rw [← az_n_max]
      exact az_SR_i _ h2
    · obtain ⟨zy, xs1, rfl, rfl, h1⟩ := az_SR_I hSt
      obtain ⟨zx, xs2, rfl, rfl, h2⟩ := az_SR_I h1
      have hwd := az_SR_words hw h2
      obtain ⟨c1, c2, c3⟩ := cq1 rfl
      refine va_mmin hx hb (by rw [hml]; exact hL.1.symm) hown (hts _ (az_hw_in c1)) (hts _ (az_hw_in c2)) (hts _ (az_hw_in ci)) (hts _ (az_hw_in c3)) (by omega) (by omega) hrm.1 hrm.2 hd (K _ _ _ _ hRh hl hL ?_)
      rw [← az_n_min]
      exact az_SR_i _ h2
    · obtain ⟨zy, xs1, rfl, rfl, h1⟩ := az_SR_L hSt
      obtain ⟨zx, xs2, rfl, rfl, h2⟩ := az_SR_L h1
      have hwd := az_SR_words hw h2
      obtain ⟨c1, c2, c3⟩ := cq2 rfl
      refine va_mmax_long hx hb (by rw [hml]; exact hL.1.symm) hown (hts _ (az_hw_in c1)) (hts _ (az_hw_in c2)) (hts _ (az_hw_in ci)) (hts _ (az_hw_in c3)) (by omega) (by omega) hrm.1 hrm.2 hd (K _ _ _ _ hRh hl hL ?_)
      rw [← az_n_maxL]
      exact az_SR_l _ h2
end IV
