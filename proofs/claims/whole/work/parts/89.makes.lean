/-! steps that make cells; the JDK's own rows -/
section MK
variable {p : Program} {la : Launch} {e : Env} {R : Room} {s : State} {mid : MethodId} {args : Array Value} {below : List Frame} {meth : Method} {cd : Code} {H : Heap} {locs : List Loc} {cells slots : Nat} {Q : State → Prop}
variable {w : aW} {sc : aX} {M pc : Nat} {ls : Array Slot} {rest : List Value} {g : aG} {m : aM} {cc : ByteArray}
theorem az_bl_at (m : aM) (a : Nat) (j : Int) : az_bl m a a j = 0 := by simp [az_bl]
/-- the default of a field -/
theorem az_def_ok : (List.range 9).all (fun c => (List.range (az_N c)).all (fun k => decide ((az_tc c k = 1 ∧ defaultValue (az_t c k) = .long 0) ∨ (az_tc c k = 2 ∧ defaultValue (az_t c k) = .null) ∨ (az_tc c k ≠ 1 ∧ az_tc c k ≠ 2 ∧ defaultValue (az_t c k) = .int 0)))) = true := by decide +kernel
theorem az_def {c k : Nat} (hc : c < 9) (hk : k < az_N c) : az_fv w (az_tc c k) 0 0 (defaultValue (az_t c k)) := by
  have h := List.all_eq_true.mp (List.all_eq_true.mp az_def_ok c (List.mem_range.mpr hc)) k (List.mem_range.mpr hk)
  rw [decide_eq_true_eq] at h
  unfold az_fv
  rcases h with ⟨h1, h2⟩ | ⟨h1, h2⟩ | ⟨h1, h2, h3⟩
  · rw [if_pos h1, h2]; exact ⟨0, rfl, rfl⟩
  · rw [if_neg (by omega), if_pos h1, h2]; rfl
  · rw [if_neg h1, if_neg h2, h3]; exact ⟨0, rfl, rfl⟩
theorem az_c_new {t x : Nat} {own : String} (X : p.tables.exec = Jvm.exec) (hb : cd.code = cc) (h : az_Rh w sc s H g m) (hts : ∀ v ∈ az_good, v.before args s = true) (hown : s.vm.findClass own = some mid.cls) (ht : t < 9) (h1 : (Cond.classLink own x (az_R t)).before args s = true) (h2 : (Cond.instantiable (az_R t) (az_N t)).before args s = true) (h3 : (Cond.initialized (az_R t)).before args s = true) (hc : cells + 1 ≤ R.cells) (hs : slots + az_N t ≤ R.slots) (hdg : decode cc pc = .ok (.new x, 3))
    (K : ∀ H', az_Rh w sc s H' (g ++ [(t, az_N t, List.replicate (az_N t) 0)]) (az_bl m g.length) → W p la e R s mid args below meth cd H' locs (cells + 1) (slots + az_N t) Q (F0 mid (pc + 3) ls (az_rf w (g.length + 1) :: rest))) : W p la e R s mid args below meth cd H locs cells slots Q (F0 mid pc ls rest) := by
  have hKn := h.1.1 t _ (az_cls_at ht)
  refine W.newcK X hb hown h1 h2 h3 rfl hdg hc hs hKn.2.1 rfl fun H' kC hkC e1 z1 o1 => ?_
  have hob := u_born (az_t t) hts (az_lay_in ht) hKn hkC e1 (fun k hk => az_ty_at ht hk)
  have had := az_ad_new h
  have h4 := h.2.2.2.1
  have := K H' (az_Rh_push h z1 o1 (Or.inl ⟨ht, by simp, rfl, (List.range (az_N t)).map (fun k => defaultValue (az_t t k)), by simp, by rw [had]; exact t_OB.to hob (fun k hk => by simp [vp_V, List.getD_eq_getElem?_getD, hk]), fun k hk => by
    have e1 : vp_V ((List.range (az_N t)).map (fun k => defaultValue (az_t t k))) k = defaultValue (az_t t k) := by simp [vp_V, List.getD_eq_getElem?_getD, hk]
    have e2 : (List.replicate (az_N t) 0).getD k 0 = 0 := by simp [List.getD_eq_getElem?_getD, hk]
    rw [e1, e2, az_bl_at]
    exact az_def ht hk⟩))
  rw [az_rf_s (by omega), had] at this
  exact this
theorem az_c_newa {at_ : ArrayType} {t : Nat} {n : Int32} (X : p.tables.exec = Jvm.exec) (hb : cd.code = cc) (h : az_Rh w sc s H g m) (ht : (t = 20 ∧ at_ = .int) ∨ (t = 21 ∧ at_ = .byte) ∨ (t = 22 ∧ at_ = .boolean)) (ha : (Cond.arrayClass (newarray.typeOf at_)).before args s = true) (h0 : 0 ≤ n.toInt) (h1 : n.toInt ≤ 2000) (hc : cells + 1 ≤ R.cells) (hs : slots + n.toInt.toNat ≤ R.slots) (hdg : decode cc pc = .ok (.newarray at_, 2))
    (K : ∀ H', az_Rh w sc s H' (g ++ [(t, n.toInt.toNat, [])]) (az_bl m g.length) → W p la e R s mid args below meth cd H' locs (cells + 1) (slots + n.toInt.toNat) Q (F0 mid (pc + 2) ls (az_rf w (g.length + 1) :: rest))) : W p la e R s mid args below meth cd H locs cells slots Q (F0 mid pc ls (.int n :: rest)) := by
  have hty : newarray.typeOf at_ = az_ty t := by rcases ht with ⟨rfl, rfl⟩ | ⟨rfl, rfl⟩ | ⟨rfl, rfl⟩ <;> rfl
  have hb2 : componentBytes (newarray.typeOf at_) ≤ 4 := by rcases ht with ⟨rfl, rfl⟩ | ⟨rfl, rfl⟩ | ⟨rfl, rfl⟩ <;> decide
  have hd : defaultValue (newarray.typeOf at_) = .int 0 := by rcases ht with ⟨rfl, rfl⟩ | ⟨rfl, rfl⟩ | ⟨rfl, rfl⟩ <;> rfl
  have hbytes : n.toInt.toNat * componentBytes (newarray.typeOf at_) ≤ 536870912 := Nat.le_trans (Nat.mul_le_mul (show n.toInt.toNat ≤ 2000 by omega) hb2) (by decide)
  refine va_newaK X hb ha rfl hdg rfl (az_n_pos h0) az_n_cl hbytes hc hs rfl fun H' cA e1 z1 o1 hAr hNm => ?_
  have had := az_ad_new h
  have h4 := h.2.2.2.1
  have := K H' (az_Rh_push h z1 o1 (Or.inr ⟨by omega, by omega, by omega, fun q => by omega, cA, _, by rw [had]; exact e1, by rw [← hty]; exact hAr, by
    rw [← hty]
    rcases ht with ⟨rfl, rfl⟩ | ⟨rfl, rfl⟩ | ⟨rfl, rfl⟩ <;> exact hNm, fun _ j hj => ⟨0, hd, by rw [az_bl_at]; rfl⟩, fun q => by omega⟩))
  rw [az_rf_s (by omega), had] at this
  exact this
theorem az_c_newq {t x : Nat} {n : Int32} {own C : String} (X : p.tables.exec = Jvm.exec) (hb : cd.code = cc) (h : az_Rh w sc s H g m) (hown : s.vm.findClass own = some mid.cls) (ht : (t = 23 ∧ C = "LastSun$Row") ∨ (t = 24 ∧ C = "LastSun$Beach")) (h2 : (Cond.classLink own x C).before args s = true) (h3 : va_AO C s) (h0 : 0 ≤ n.toInt) (h1 : n.toInt ≤ 2000) (hc : cells + 1 ≤ R.cells) (hs : slots + n.toInt.toNat ≤ R.slots) (hdg : decode cc pc = .ok (.anewarray x, 3))
    (K : ∀ H', az_Rh w sc s H' (g ++ [(t, n.toInt.toNat, List.replicate n.toInt.toNat 0)]) (az_bl m g.length) → W p la e R s mid args below meth cd H' locs (cells + 1) (slots + n.toInt.toNat) Q (F0 mid (pc + 3) ls (az_rf w (g.length + 1) :: rest))) : W p la e R s mid args below meth cd H locs cells slots Q (F0 mid pc ls (.int n :: rest)) := by
  have hty : az_ty t = .object C := by rcases ht with ⟨rfl, rfl⟩ | ⟨rfl, rfl⟩ <;> rfl
  refine W.anew X hb hown h2 (va_AO.use h3) rfl hdg rfl (az_n_pos h0) (by rw [az_n_cl]; omega) hc (by rw [az_n_cl]; exact hs) fun cA kA comp f1 f2 f3 f4 => ?_
  rw [az_n_cl]
  generalize hH1 : H.push ({ cls := cA, slots := Array.replicate n.toInt.toNat .null, vm := .none } : Cell) = H'
  have z1 : H'.size = H.size + 1 := by rw [← hH1, Array.size_push]
  have e1 : H'[H.size]? = some (arrV cA n.toInt.toNat (fun _ => .null)) := by rw [← hH1, Array.getElem?_push_size, ← arrV_new]
  have o1 : ∀ q : Nat, q < H.size → H'[q]? = H[q]? := fun q hq => by rw [← hH1, Array.getElem?_push, if_neg (Nat.ne_of_lt hq)]
  have had := az_ad_new h
  have h4 := h.2.2.2.1
  have := K H' (az_Rh_push h z1 o1 (Or.inr ⟨by omega, by omega, by omega, fun _ => by simp, cA, _, by rw [had]; exact e1, by rw [hty]; exact fun n z => ⟨fun k h => (by cases h), kA, f2, comp, f3⟩, by rw [hty]; exact ⟨kA, comp, f2, f3, f4, f1⟩, fun q => by omega, fun _ j hj => by
    have e2 : (List.replicate n.toInt.toNat 0).getD j 0 = 0 := by simp only [List.getD_eq_getElem?_getD, List.getElem?_replicate, if_pos hj]; rfl
    rw [e2]
    rfl⟩))
  rw [az_rf_s (by omega), had] at this
  exact this
theorem az_c_cpy {x a d n0 n1 : Nat} {rs rs2 : List Nat} {n dp sp : Int32} {own : String} (X : p.tables.exec = Jvm.exec) (hb : cd.code = cc) (hml : cd.maxLocals = ls.size) (h : az_Rh w sc s H g m) (hl : ∀ q ∈ locs, w.1 ≤ q.base) (hown : s.vm.findClass own = some mid.cls) (q1 : (Cond.methodLink own x arraycopyName).before args s = true) (q2 : (Cond.native arraycopyName).before args s = true) (q3 : (Cond.static arraycopyName).before args s = true) (q4 : (Cond.initialized "java/lang/System").before args s = true)
    (ha : 19 ≤ a) (hd : 19 ≤ d) (hg : g[a]? = some (20, n0, rs)) (hg2 : g[d]? = some (20, n1, rs2)) (hn : 0 ≤ n.toInt) (hsp : 0 ≤ sp.toInt) (hdp : 0 ≤ dp.toInt) (h1 : sp.toInt + n.toInt ≤ (n0 : Int)) (h2 : dp.toInt + n.toInt ≤ (n1 : Int)) (hf : 1 ≤ R.frames) (hlo : (rest.map fun v => v.category).sum + (nativeFrameWords "java/lang/System" "arraycopy" 5 + 11) ≤ R.locals) (hdg : decode cc pc = .ok (.invokestatic x, 3))
    (K : ∀ H' locs', az_Rh w sc s H' g (az_cp m a sp.toInt d dp.toInt n.toInt) → (∀ q ∈ locs', w.1 ≤ q.base) → W p la e R s mid args below meth cd H' locs' cells slots Q (F0 mid (pc + 3) ls rest)) : W p la e R s mid args below meth cd H locs cells slots Q (F0 mid pc ls (.int n :: .int dp :: az_rf w (d + 1) :: .int sp :: az_rf w (a + 1) :: rest)) := by
  rw [az_rf_s (show a ≠ 1 by omega), az_rf_s (show d ≠ 1 by omega)]
  obtain ⟨-, cA, f, c1, c2, c3, c4⟩ := az_new_arr h ha hg (by omega)
  obtain ⟨hn1, cB, f2, d1, d2, d3, d4⟩ := az_new_arr h hd hg2 (by omega)
  intro T hT XX
  obtain ⟨-, k0, hk0, cm0, hkk0⟩ := c2 n0 f
  obtain ⟨-, k1, hk1, cm1, hkk1⟩ := d2 n1 f2
  have fit : ∀ i : Nat, i < n.toNatClampNeg → (arrV cA n0 f).slots.getD (sp.toNatClampNeg + i) .null = f (sp.toNatClampNeg + i) := fun i hi => by
    rw [Array.getD_eq_getD_getElem?, arrV_read _ _ (by rw [az_n_cl] at hi ⊢; omega)]
    rfl
  obtain ⟨vm', X', step⟩ := XX.arraycopy X hown q1 q2 q3 q4 (src := az_ad w a) (dst := az_ad w d) (cs := arrV cA n0 f) (cd := arrV cB n1 f2) (srcPos := sp) (destPos := dp) (n := n) (by rw [hT]; exact c1) (by rw [hT]; exact d1)
    (fun _ h => by cases h) (fun _ h => by cases h) (fun h => by cases h) (fun h => by cases h) hk0 hk1 hkk0 hkk1 (by simp [refKind, az_ty]) (az_n_pos hsp) (az_n_pos hdp) (az_n_pos hn)
    (by rw [arrV_size]; omega) (by rw [arrV_size]; omega)
    (fun vm₁ _ i hi => by
      obtain ⟨y, hy, -⟩ := c4 (sp.toNatClampNeg + i) (by rw [az_n_cl] at hi ⊢; omega)
      rw [fit i hi, hy]
      exact ⟨rfl, trivial⟩)
    (g := F0 mid pc ls (.int n :: .int dp :: .ref (az_ad w d) :: .int sp :: .ref (az_ad w a) :: rest)) rfl (by rw [hml]) (rest := rest) rfl (by rw [hb]; exact hdg) hf (by show 2 * 0 + _ + _ ≤ _; omega)
  have e1 : copied (arrV cA n0 f) (arrV cB n1 f2) sp dp n = arrV cB n1 (va_cpy f f2 sp.toNatClampNeg dp.toNatClampNeg n.toNatClampNeg) := va_copied (fun z => z) cA cB f f2 (by simp only [az_n_cl]; omega)
  rw [e1] at X' step
  have hlt : az_ad w d < H.size := (Array.getElem?_eq_some_iff.mp d1).1
  have hheap : ((T.setVm vm').setCell (az_ad w d) (arrV cB n1 (va_cpy f f2 sp.toNatClampNeg dp.toNatClampNeg n.toNatClampNeg))).heap = H.setIfInBounds (az_ad w d) (arrV cB n1 (va_cpy f f2 sp.toNatClampNeg dp.toNatClampNeg n.toNatClampNeg)) := by rw [← hT]; rfl
  have oq : ∀ q : Nat, q ≠ az_ad w d → (H.setIfInBounds (az_ad w d) (arrV cB n1 (va_cpy f f2 sp.toNatClampNeg dp.toNatClampNeg n.toNatClampNeg)))[q]? = H[q]? := fun q hq => by simp [Array.getElem?_setIfInBounds, Ne.symm hq]
  obtain ⟨t, a1, b1⟩ := K _ _ (az_Rh_put h hd hg2 (by simp) oq (fun b j hb => by simp [az_cp, hb]) (Or.inr ⟨by omega, by omega, hn1, fun q => by omega, cB, va_cpy f f2 sp.toNatClampNeg dp.toNatClampNeg n.toNatClampNeg, (show (H.setIfInBounds (az_ad w d) _)[az_ad w d]? = some _ by simp [Array.getElem?_setIfInBounds, hlt]), d2, d3, fun _ j hj => by
      simp only [va_cpy, az_cp, az_n_cl]
      by_cases hin : dp.toInt.toNat ≤ j ∧ j < dp.toInt.toNat + n.toInt.toNat
      · rw [if_pos hin, if_pos ⟨trivial, by omega, by omega⟩]
        obtain ⟨y, hy, hy2⟩ := c4 (sp.toInt.toNat + (j - dp.toInt.toNat)) (by omega)
        refine ⟨y, hy, ?_⟩
        rw [hy2]
        congr 1
        omega
      · rw [if_neg hin, if_neg (by omega)]
        exact d4 j hj, fun q => by omega⟩)) (fun q hq => by
      rcases List.mem_append.mp hq with h5 | h5
      · exact hl q h5
      · obtain ⟨z, -, hz⟩ := List.mem_map.mp h5
        rw [← hz]
        show w.1 ≤ az_ad w d
        rw [az_ad_hi hd]
        omega) _ hheap X'
  exact ⟨t, step t a1, b1⟩
theorem az_c_str {i x : Nat} (X : p.tables.exec = Jvm.exec) (hb : cd.code = cc) (h : az_Rh w sc s H g m) {a n t : Nat} {rs : List Nat} (hg : g[a]? = some (9, n, rs)) {own : String} (hown : s.vm.findClass own = some mid.cls) (hdg : decode cc pc = .ok (.getfield x, 3))
    (hk : (i = 0 ∧ t = 2 ∧ (Cond.fieldLink own x "java/lang/String" "value" "[B").before args s = true) ∨ (i = 1 ∧ t = 0 ∧ (Cond.fieldLink own x "java/lang/String" "coder" "B").before args s = true))
    (K : ∀ v : Value, az_fv w t (m a i) (rs.getD i 0) v → W p la e R s mid args below meth cd H locs cells slots Q (F0 mid (pc + 3) ls (v :: rest))) : W p la e R s mid args below meth cd H locs cells slots Q (F0 mid pc ls (az_rf w (a + 1) :: rest)) := by
  have ha : a < 19 := Nat.not_le.mp fun ha => by
    rcases h.2.2.2.2.2.2 a 9 n rs ha hg with ⟨h8, -⟩ | ⟨h8, -⟩ <;> omega
  rw [az_rf_s (az_ad_ne1 h hg (by omega)), az_ad_lo ha]
  have hm := (h.2.2.2.2.2.1 a ha).2
  rw [(h.2.2.2.2.2.1 a ha).1] at hg
  rcases az_g0_tags a ha 9 n rs hg with ⟨-, e2, -⟩ | ⟨i, hi, -, e2, -⟩ | ⟨j, hj, e1, -, e3⟩ | ⟨-, e2⟩
  · omega
  · omega
  · obtain ⟨-, hco, hva, -⟩ := h.2.1.2.2.2.2.1 j hj
    subst e1
    rcases hk with ⟨rfl, rfl, hlk⟩ | ⟨rfl, rfl, hlk⟩
    · obtain ⟨cf, k, fi, f, cell, h1, h2, h3, h4, h5, h6⟩ := hva
      refine W.getf X hb hown hlk h1 h2 h3 h4 (v := .ref (w.2.1 (11 + j))) h5 rfl rfl hdg (K _ ?_)
      unfold az_fv
      rw [if_neg (by omega), if_pos rfl, e3]
      show _ = az_rf w (12 + j)
      rw [show 12 + j = (11 + j) + 1 by omega, az_rf_s (by omega), az_ad_lo (by omega)]
    · obtain ⟨cf, k, fi, f, cell, h1, h2, h3, h4, h5, h6⟩ := hco
      refine W.getf X hb hown hlk h1 h2 h3 h4 (v := .int 0) h5 rfl rfl hdg (K _ ?_)
      unfold az_fv
      rw [if_neg (by omega), if_neg (by omega), hm]
      refine ⟨0, rfl, ?_⟩
      unfold az_m0
      rw [if_neg (show ¬ (3 + j = 2) by omega), if_neg (show ¬ (11 ≤ 3 + j ∧ 3 + j < 19) by omega)]
      rfl
  · omega
end MK
