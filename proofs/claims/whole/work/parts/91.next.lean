/-! ONE STEP: all instructions that go on to the next -/
section NS
variable {p : Program} {la : Launch} {e : Env} {R : Room} {s : State} {mid : MethodId} {args : Array Value} {below : List Frame} {meth : Method} {cd : Code} {H : Heap} {locs : List Loc} {cells slots : Nat} {Q : State → Prop}
variable {w : aW} {sc : aX} {M pc : Nat} {ls : Array Slot} {xs rest : List Value} {l l' : aL} {st st' : aS} {g g' : aG} {m m' : aM} {cc : ByteArray} {c0 s0 : Nat} {f : List Int}
theorem az_c_if2 {c : ClassFile.Cond} {x y : Int32} {off : Int} {tgt : Nat} (hx : p.tables.exec = Jvm.exec) (hb : cd.code = cc) (hd : decode cc pc = .ok (.if_icmp c off, 3)) (ht : (pc : Int) + off = (tgt : Int))
    (kt : az_cnd c x.toInt y.toInt = true → W p la e R s mid args below meth cd H locs cells slots Q (F0 mid tgt ls rest)) (kf : az_cnd c x.toInt y.toInt = false → W p la e R s mid args below meth cd H locs cells slots Q (F0 mid (pc + 3) ls rest)) : W p la e R s mid args below meth cd H locs cells slots Q (F0 mid pc ls (.int y :: .int x :: rest)) := by
  cases c with
  | eq => exact lv_icmp_eq hx hb hd ht (fun h => kt (by simp only [az_cnd, decide_eq_true_eq]; exact congrArg Int32.toInt h)) (fun h => kf (by simp only [az_cnd, decide_eq_false_iff_not]; exact fun q => h (Int32.toInt_inj.mp q)))
  | ne => exact lv_icmp_ne hx hb hd ht (fun h => kt (by simp only [az_cnd, decide_eq_true_eq]; exact fun q => h (Int32.toInt_inj.mp q))) (fun h => kf (by simp only [az_cnd, decide_eq_false_iff_not]; exact fun q => q (congrArg Int32.toInt h)))
  | lt => exact lv_icmp_lt hx hb hd ht (fun h => kt (by simp only [az_cnd, decide_eq_true_eq]; exact Int32.lt_iff_toInt_lt.mp h)) (fun h => kf (by simp only [az_cnd, decide_eq_false_iff_not]; exact fun q => h (Int32.lt_iff_toInt_lt.mpr q)))
  | ge => exact lv_icmp_ge hx hb hd ht (fun h => kt (by simp only [az_cnd, decide_eq_true_eq]; exact Int32.le_iff_toInt_le.mp h)) (fun h => kf (by simp only [az_cnd, decide_eq_false_iff_not]; exact fun q => h (Int32.le_iff_toInt_le.mpr q)))
  | gt => exact lv_icmp_gt hx hb hd ht (fun h => kt (by simp only [az_cnd, decide_eq_true_eq]; exact Int32.lt_iff_toInt_lt.mp h)) (fun h => kf (by simp only [az_cnd, decide_eq_false_iff_not]; exact fun q => h (Int32.lt_iff_toInt_lt.mpr q)))
  | le => exact lv_icmp_le hx hb hd ht (fun h => kt (by simp only [az_cnd, decide_eq_true_eq]; exact Int32.le_iff_toInt_le.mp h)) (fun h => kf (by simp only [az_cnd, decide_eq_false_iff_not]; exact fun q => h (Int32.le_iff_toInt_le.mpr q)))
theorem az_c_if1 {c : ClassFile.Cond} {x : Int32} {off : Int} {tgt : Nat} (hx : p.tables.exec = Jvm.exec) (hb : cd.code = cc) (hd : decode cc pc = .ok (.ifCond c off, 3)) (ht : (pc : Int) + off = (tgt : Int))
    (kt : az_cnd c x.toInt 0 = true → W p la e R s mid args below meth cd H locs cells slots Q (F0 mid tgt ls rest)) (kf : az_cnd c x.toInt 0 = false → W p la e R s mid args below meth cd H locs cells slots Q (F0 mid (pc + 3) ls rest)) : W p la e R s mid args below meth cd H locs cells slots Q (F0 mid pc ls (.int x :: rest)) := by
  have z : (0 : Int32).toInt = 0 := rfl
  rw [← z] at kt kf
  cases c with
  | eq => exact lv_if_eq hx hb hd ht (fun h => kt (by simp only [az_cnd, decide_eq_true_eq]; exact congrArg Int32.toInt h)) (fun h => kf (by simp only [az_cnd, decide_eq_false_iff_not]; exact fun q => h (Int32.toInt_inj.mp q)))
  | ne => exact lv_if_ne hx hb hd ht (fun h => kt (by simp only [az_cnd, decide_eq_true_eq]; exact fun q => h (Int32.toInt_inj.mp q))) (fun h => kf (by simp only [az_cnd, decide_eq_false_iff_not]; exact fun q => q (congrArg Int32.toInt h)))
  | lt => exact lv_if_lt hx hb hd ht (fun h => kt (by simp only [az_cnd, decide_eq_true_eq]; exact Int32.lt_iff_toInt_lt.mp h)) (fun h => kf (by simp only [az_cnd, decide_eq_false_iff_not]; exact fun q => h (Int32.lt_iff_toInt_lt.mpr q)))
  | ge => exact lv_if_ge hx hb hd ht (fun h => kt (by simp only [az_cnd, decide_eq_true_eq]; exact Int32.le_iff_toInt_le.mp h)) (fun h => kf (by simp only [az_cnd, decide_eq_false_iff_not]; exact fun q => h (Int32.le_iff_toInt_le.mpr q)))
  | gt => exact lv_if_gt hx hb hd ht (fun h => kt (by simp only [az_cnd, decide_eq_true_eq]; exact Int32.lt_iff_toInt_lt.mp h)) (fun h => kf (by simp only [az_cnd, decide_eq_false_iff_not]; exact fun q => h (Int32.lt_iff_toInt_lt.mpr q)))
  | le => exact lv_if_le hx hb hd ht (fun h => kt (by simp only [az_cnd, decide_eq_true_eq]; exact Int32.le_iff_toInt_le.mp h)) (fun h => kf (by simp only [az_cnd, decide_eq_false_iff_not]; exact fun q => h (Int32.le_iff_toInt_le.mpr q)))
theorem az_tail (L : aW → Prop) (h : L w) : L w := h
set_option maxHeartbeats 4000000 in
theorem az_next {i : Instr} (X : az_Cx M p s mid args meth cd) (hw : az_wok w) (hTt : az_Tt w s) (hR : M + 1 ≤ R.frames ∧ 64 * (M + 1) ≤ R.locals) (hcs : c0 ≤ g.length ∧ s0 ≤ az_sl g) (hrm : g'.length - c0 ≤ R.cells ∧ az_sl g' - s0 ≤ R.slots) (hdec : az_dec (az_by M) pc i = true) (hres : az_res M pc i f = true) (hst : az_step sc M i f l st g m = some (.inl (l', st', g', m')))
    (hRh : az_Rh w sc s H g m) (hl : ∀ q ∈ locs, w.1 ≤ q.base) (hL : az_LR w ls (az_ml M) l) (hSt : az_SR w xs st)
    (K : ∀ H' locs' ls' xs', az_Rh w sc s H' g' m' → (∀ q ∈ locs', w.1 ≤ q.base) → az_LR w ls' (az_ml M) l' → az_SR w xs' st' → W p la e R s mid args below meth cd H' locs' (g'.length - c0) (az_sl g' - s0) Q (F0 mid (pc + az_len i) ls' xs')) : W p la e R s mid args below meth cd H locs (g.length - c0) (az_sl g - s0) Q (F0 mid pc ls xs) := by
  obtain ⟨hx, hb, hml, hown, hts, hnm⟩ := X
  cases i with
  | iconst n =>
    have hd := az_dec_ok hdec (by simp [az_len])
    simp only [az_res, decide_eq_true_eq] at hres
    obtain ⟨rfl, rfl, rfl, rfl⟩ := az_i_nx hst
    exact lv_iconst hx hb hd rfl (K _ _ _ _ hRh hl hL ⟨⟨_, rfl, az_n_lit (by omega) (by omega)⟩, hSt⟩)
  | bipush n =>
    have hd := az_dec_ok hdec (by simp [az_len])
    simp only [az_res, decide_eq_true_eq] at hres
    obtain ⟨rfl, rfl, rfl, rfl⟩ := az_i_nx hst
    exact lv_bipush hx hb hd rfl (K _ _ _ _ hRh hl hL ⟨⟨_, rfl, az_n_lit8 (by omega) (by omega)⟩, hSt⟩)
  | sipush n =>
    have hd := az_dec_ok hdec (by simp [az_len])
    simp only [az_res, decide_eq_true_eq] at hres
    obtain ⟨rfl, rfl, rfl, rfl⟩ := az_i_nx hst
    exact lv_sipush hx hb hd rfl (K _ _ _ _ hRh hl hL ⟨⟨_, rfl, az_n_lit16 (by omega) (by omega)⟩, hSt⟩)
  | lconst n =>
    have hd := az_dec_ok hdec (by simp [az_len])
    obtain ⟨rfl, rfl, rfl, rfl⟩ := az_i_nx hst
    refine lv_lconst hx hb hd rfl (K _ _ _ _ hRh hl hL ?_)
    have e : ((n.val : Nat) : Int) = (Int64.ofNat n.val).toInt := by rcases n with ⟨_ | _ | n, hn⟩ <;> first | rfl | omega
    rw [e]
    exact az_SR_l _ hSt
  | ldc x =>
    have hd := az_dec_ok hdec (by simp [az_len])
    obtain ⟨v, q, rfl, rfl, rfl, ⟨rfl, rfl⟩ | ⟨rfl, rfl⟩⟩ := az_i_ldc hst
    · rcases q with _ | ⟨q, _ | ⟨q2, q3⟩⟩ <;> simp only [az_res, Bool.and_eq_true, az_r32, decide_eq_true_eq] at hres
      · cases hres
      · exact lv_ldc hx hb hown (hts _ (az_hw_in hres.2)) hd (K _ _ _ _ hRh hl hL ⟨⟨_, rfl, az_n_lit hres.1.1 hres.1.2⟩, hSt⟩)
      · cases hres
    · rcases q with _ | ⟨q, _ | ⟨q2, q3⟩⟩ <;> simp only [az_res, decide_eq_true_eq] at hres
      · cases hres
      · obtain ⟨h1, h2, h3, h4⟩ := hres
        rw [List.getElem?_map] at h4
        cases hz : az_six[v.toNat - 3]? with
        | none => rw [hz] at h4; cases h4
        | some z =>
          rw [hz] at h4
          cases h4
          have hv := hTt.2.1 _ z hz
          rw [show 3 + (v.toNat - 3) = v.toNat by omega] at hv
          refine va_ldcS hx hb (own := "LastSun$Tape") (by rw [← h1]; exact hown) hv hd ?_
          have := az_SR_r (v.toNat + 1) hSt
          have e := az_rf_s (w := w) (show v.toNat ≠ 1 by omega)
          rw [az_ad_lo (by omega)] at e
          rw [← e]
          exact K _ _ _ _ hRh hl hL this
      · cases hres
  | ldc_w x =>
    have hd := az_dec_ok hdec (by simp [az_len])
    obtain ⟨v, q, rfl, rfl, rfl, ⟨rfl, rfl⟩ | ⟨rfl, rfl⟩⟩ := az_i_ldc hst
    · rcases q with _ | ⟨q, _ | ⟨q2, q3⟩⟩ <;> simp only [az_res, Bool.and_eq_true, az_r32, decide_eq_true_eq] at hres
      · cases hres
      · exact lv_ldcw hx hb hown (hts _ (az_hw_in hres.2)) hd (K _ _ _ _ hRh hl hL ⟨⟨_, rfl, az_n_lit hres.1.1 hres.1.2⟩, hSt⟩)
      · cases hres
    · rcases q with _ | ⟨q, _ | ⟨q2, q3⟩⟩ <;> simp [az_res] at hres
  | ldc2_w x =>
    have hd := az_dec_ok hdec (by simp [az_len])
    obtain ⟨v, q, rfl, rfl, rfl, rfl, rfl⟩ := az_i_ldc2 hst
    rcases q with _ | ⟨q, _ | ⟨q2, q3⟩⟩ <;> simp only [az_res, Bool.and_eq_true, az_r64, decide_eq_true_eq] at hres
    · cases hres
    · exact lv_ldc2 hx hb hown (hts _ (az_hw_in hres.2)) hd (K _ _ _ _ hRh hl hL ⟨⟨_, rfl, az_n_litL hres.1.1 hres.1.2⟩, hSt⟩)
    · cases hres
  | iload_n k =>
    have hd := az_dec_ok hdec (by simp [az_len])
    obtain ⟨x, h1, rfl, rfl, rfl, rfl⟩ := az_i_ldI hst
    obtain ⟨z, h2, rfl⟩ := az_x_ldI hL h1
    exact lv_iload_n hx hb hd rfl h2 (K _ _ _ _ hRh hl hL (az_SR_i _ hSt))
  | iload k =>
    have hd := az_dec_ok hdec (by simp [az_len])
    obtain ⟨x, h1, rfl, rfl, rfl, rfl⟩ := az_i_ldI hst
    obtain ⟨z, h2, rfl⟩ := az_x_ldI hL h1
    exact lv_iload hx hb hd h2 (K _ _ _ _ hRh hl hL (az_SR_i _ hSt))
  | lload_n k =>
    have hd := az_dec_ok hdec (by simp [az_len])
    obtain ⟨x, h1, rfl, rfl, rfl, rfl⟩ := az_i_ldL hst
    obtain ⟨z, h2, rfl⟩ := az_x_ldL hL h1
    exact lv_lload_n hx hb hd rfl h2 (K _ _ _ _ hRh hl hL (az_SR_l _ hSt))
  | lload k =>
    have hd := az_dec_ok hdec (by simp [az_len])
    obtain ⟨x, h1, rfl, rfl, rfl, rfl⟩ := az_i_ldL hst
    obtain ⟨z, h2, rfl⟩ := az_x_ldL hL h1
    exact lv_lload hx hb hd h2 (K _ _ _ _ hRh hl hL (az_SR_l _ hSt))
  | aload_n k =>
    have hd := az_dec_ok hdec (by simp [az_len])
    obtain ⟨x, h1, rfl, rfl, rfl, rfl⟩ := az_i_ldA hst
    exact az_aload_n hx hb hw hd (az_x_ldA hL h1) (K _ _ _ _ hRh hl hL (az_SR_r _ hSt))
  | aload k =>
    have hd := az_dec_ok hdec (by simp [az_len])
    obtain ⟨x, h1, rfl, rfl, rfl, rfl⟩ := az_i_ldA hst
    exact az_aload hx hb hw hd (az_x_ldA hL h1) (K _ _ _ _ hRh hl hL (az_SR_r _ hSt))
  | istore_n k =>
    have hd := az_dec_ok hdec (by simp [az_len])
    obtain ⟨x, rfl, hk, rfl, rfl, rfl⟩ := az_i_stI hst
    obtain ⟨z, xs1, rfl, rfl, h1⟩ := az_SR_I hSt
    exact lv_istore_n hx hb hd rfl (az_lv_has hL.1 hL.2.1) (by rw [← hL.2.2.1]; exact hk) rfl (fun ls2 h2 => K _ _ _ _ hRh hl (az_LR_st1 hw hL ⟨z, rfl, rfl⟩ h2) h1)
  | lstore_n k =>
    have hd := az_dec_ok hdec (by simp [az_len])
    obtain ⟨x, rfl, hk, rfl, rfl, rfl⟩ := az_i_stL hst
    obtain ⟨z, xs1, rfl, rfl, h1⟩ := az_SR_L hSt
    exact lv_lstore_n hx hb hd rfl (az_lv_has hL.1 hL.2.1) (by rw [← hL.2.2.1]; exact hk) rfl (fun ls2 h2 => K _ _ _ _ hRh hl (az_LR_st2 hw hL hk ⟨z, rfl, rfl⟩ h2) h1)
  | astore_n k =>
    have hd := az_dec_ok hdec (by simp [az_len])
    obtain ⟨x, rfl, hk, rfl, rfl, rfl⟩ := az_i_stA hst
    obtain ⟨xs1, rfl, h1⟩ := az_SR_R hSt
    rcases az_rf_or hw x with e1 | ⟨a1, e1⟩
    · rw [e1]
      exact lv_astore_nN hx hb hd rfl (az_lv_has hL.1 hL.2.1) (by rw [← hL.2.2.1]; exact hk) rfl (fun ls2 h2 => K _ _ _ _ hRh hl (az_LR_st1 hw hL e1.symm h2) h1)
    · rw [e1]
      exact lv_astore_n hx hb hd rfl (az_lv_has hL.1 hL.2.1) (by rw [← hL.2.2.1]; exact hk) rfl (fun ls2 h2 => K _ _ _ _ hRh hl (az_LR_st1 hw hL e1.symm h2) h1)
  | istore k =>
    have hd := az_dec_ok hdec (by simp [az_len])
    obtain ⟨x, rfl, hk, rfl, rfl, rfl⟩ := az_i_stI hst
    obtain ⟨z, xs1, rfl, rfl, h1⟩ := az_SR_I hSt
    exact lv_istore hx hb hd (az_lv_has hL.1 hL.2.1) (by rw [← hL.2.2.1]; exact hk) rfl (fun ls2 h2 => K _ _ _ _ hRh hl (az_LR_st1 hw hL ⟨z, rfl, rfl⟩ h2) h1)
  | lstore k =>
    have hd := az_dec_ok hdec (by simp [az_len])
    obtain ⟨x, rfl, hk, rfl, rfl, rfl⟩ := az_i_stL hst
    obtain ⟨z, xs1, rfl, rfl, h1⟩ := az_SR_L hSt
    exact lv_lstore hx hb hd (az_lv_has hL.1 hL.2.1) (by rw [← hL.2.2.1]; exact hk) rfl (fun ls2 h2 => K _ _ _ _ hRh hl (az_LR_st2 hw hL hk ⟨z, rfl, rfl⟩ h2) h1)
  | astore k =>
    have hd := az_dec_ok hdec (by simp [az_len])
    obtain ⟨x, rfl, hk, rfl, rfl, rfl⟩ := az_i_stA hst
    obtain ⟨xs1, rfl, h1⟩ := az_SR_R hSt
    rcases az_rf_or hw x with e1 | ⟨a1, e1⟩
    · rw [e1]
      exact lv_astoreN hx hb hd (az_lv_has hL.1 hL.2.1) (by rw [← hL.2.2.1]; exact hk) rfl (fun ls2 h2 => K _ _ _ _ hRh hl (az_LR_st1 hw hL e1.symm h2) h1)
    · rw [e1]
      exact lv_astore hx hb hd (az_lv_has hL.1 hL.2.1) (by rw [← hL.2.2.1]; exact hk) rfl (fun ls2 h2 => K _ _ _ _ hRh hl (az_LR_st1 hw hL e1.symm h2) h1)
  | iinc k c =>
    have hd := az_dec_ok hdec (by simp [az_len])
    simp only [az_res, decide_eq_true_eq] at hres
    obtain ⟨x, h1, rfl, rfl, rfl, rfl⟩ := az_i_iinc hst
    obtain ⟨z, h2, rfl⟩ := az_x_ldI hL h1
    obtain ⟨q, hq⟩ := List.getElem?_of_mem (az_lv_mem h2)
    refine lv_iinc hx hb hd (az_lv_has hL.1 hL.2.1) hq rfl (by rw [← hL.1]; exact (Array.getElem?_eq_some_iff.mp h2).1) rfl (fun ls2 h3 => K _ _ _ _ hRh hl (az_LR_st1 hw hL ⟨_, rfl, ?_⟩ h3) hSt)
    rw [az_n_add, az_n_lit (by omega) (by omega)]
  | iadd =>
    have hd := az_dec_ok hdec (by simp [az_len])
    obtain ⟨y, x, s1, rfl, rfl, rfl, rfl, rfl⟩ := az_i_b2 hst
    obtain ⟨zy, xs1, rfl, rfl, h1⟩ := az_SR_I hSt
    obtain ⟨zx, xs2, rfl, rfl, h2⟩ := az_SR_I h1
    refine lv_iadd hx hb hd (K _ _ _ _ hRh hl hL ?_)
    rw [← az_n_add]
    exact az_SR_i _ h2
  | isub =>
    have hd := az_dec_ok hdec (by simp [az_len])
    obtain ⟨y, x, s1, rfl, rfl, rfl, rfl, rfl⟩ := az_i_b2 hst
    obtain ⟨zy, xs1, rfl, rfl, h1⟩ := az_SR_I hSt
    obtain ⟨zx, xs2, rfl, rfl, h2⟩ := az_SR_I h1
    refine lv_isub hx hb hd (K _ _ _ _ hRh hl hL ?_)
    rw [← az_n_sub]
    exact az_SR_i _ h2
  | imul =>
    have hd := az_dec_ok hdec (by simp [az_len])
    obtain ⟨y, x, s1, rfl, rfl, rfl, rfl, rfl⟩ := az_i_b2 hst
    obtain ⟨zy, xs1, rfl, rfl, h1⟩ := az_SR_I hSt
    obtain ⟨zx, xs2, rfl, rfl, h2⟩ := az_SR_I h1
    refine lv_imul hx hb hd (K _ _ _ _ hRh hl hL ?_)
    rw [← az_n_mul]
    exact az_SR_i _ h2
  | iand =>
    have hd := az_dec_ok hdec (by simp [az_len])
    obtain ⟨y, x, s1, rfl, rfl, rfl, rfl, rfl⟩ := az_i_b2 hst
    obtain ⟨zy, xs1, rfl, rfl, h1⟩ := az_SR_I hSt
    obtain ⟨zx, xs2, rfl, rfl, h2⟩ := az_SR_I h1
    refine lv_iand hx hb hd (K _ _ _ _ hRh hl hL ?_)
    rw [← az_n_and]
    exact az_SR_i _ h2
  | ior =>
    have hd := az_dec_ok hdec (by simp [az_len])
    obtain ⟨y, x, s1, rfl, rfl, rfl, rfl, rfl⟩ := az_i_b2 hst
    obtain ⟨zy, xs1, rfl, rfl, h1⟩ := az_SR_I hSt
    obtain ⟨zx, xs2, rfl, rfl, h2⟩ := az_SR_I h1
    refine lv_ior hx hb hd (K _ _ _ _ hRh hl hL ?_)
    rw [← az_n_or]
    exact az_SR_i _ h2
  | ixor =>
    have hd := az_dec_ok hdec (by simp [az_len])
    obtain ⟨y, x, s1, rfl, rfl, rfl, rfl, rfl⟩ := az_i_b2 hst
    obtain ⟨zy, xs1, rfl, rfl, h1⟩ := az_SR_I hSt
    obtain ⟨zx, xs2, rfl, rfl, h2⟩ := az_SR_I h1
    refine lv_ixor hx hb hd (K _ _ _ _ hRh hl hL ?_)
    rw [← az_n_xor]
    exact az_SR_i _ h2
  | ishl =>
    have hd := az_dec_ok hdec (by simp [az_len])
    obtain ⟨y, x, s1, rfl, rfl, rfl, rfl, rfl⟩ := az_i_b2 hst
    obtain ⟨zy, xs1, rfl, rfl, h1⟩ := az_SR_I hSt
    obtain ⟨zx, xs2, rfl, rfl, h2⟩ := az_SR_I h1
    refine lv_ishl hx hb hd (K _ _ _ _ hRh hl hL ?_)
    rw [← az_n_shl]
    exact az_SR_i _ h2
  | ishr =>
    have hd := az_dec_ok hdec (by simp [az_len])
    obtain ⟨y, x, s1, rfl, rfl, rfl, rfl, rfl⟩ := az_i_b2 hst
    obtain ⟨zy, xs1, rfl, rfl, h1⟩ := az_SR_I hSt
    obtain ⟨zx, xs2, rfl, rfl, h2⟩ := az_SR_I h1
    refine lv_ishr hx hb hd (K _ _ _ _ hRh hl hL ?_)
    rw [← az_n_shr]
    exact az_SR_i _ h2
  | iushr =>
    have hd := az_dec_ok hdec (by simp [az_len])
    obtain ⟨y, x, s1, rfl, rfl, rfl, rfl, rfl⟩ := az_i_b2 hst
    obtain ⟨zy, xs1, rfl, rfl, h1⟩ := az_SR_I hSt
    obtain ⟨zx, xs2, rfl, rfl, h2⟩ := az_SR_I h1
    refine lv_iushr hx hb hd rfl (K _ _ _ _ hRh hl hL ?_)
    rw [← az_n_ush]
    exact az_SR_i _ h2
  | idiv =>
    have hd := az_dec_ok hdec (by simp [az_len])
    obtain ⟨y, x, s1, rfl, hy, rfl, rfl, rfl, rfl⟩ := az_i_d2 hst
    obtain ⟨zy, xs1, rfl, rfl, h1⟩ := az_SR_I hSt
    obtain ⟨zx, xs2, rfl, rfl, h2⟩ := az_SR_I h1
    refine lv_idiv hx hb hd (az_n_0 hy) (K _ _ _ _ hRh hl hL ?_)
    rw [← az_n_div]
    exact az_SR_i _ h2
  | irem =>
    have hd := az_dec_ok hdec (by simp [az_len])
    obtain ⟨y, x, s1, rfl, hy, rfl, rfl, rfl, rfl⟩ := az_i_d2 hst
    obtain ⟨zy, xs1, rfl, rfl, h1⟩ := az_SR_I hSt
    obtain ⟨zx, xs2, rfl, rfl, h2⟩ := az_SR_I h1
    refine lv_irem hx hb hd (az_n_0 hy) (K _ _ _ _ hRh hl hL ?_)
    rw [← az_n_rem]
    exact az_SR_i _ h2
  | ineg =>
    have hd := az_dec_ok hdec (by simp [az_len])
    obtain ⟨x, s1, rfl, rfl, rfl, rfl, rfl⟩ := az_i_u1 hst
    obtain ⟨zx, xs1, rfl, rfl, h1⟩ := az_SR_I hSt
    refine lv_ineg hx hb hd (K _ _ _ _ hRh hl hL ?_)
    rw [← az_n_neg]
    exact az_SR_i _ h1
  | i2b =>
    have hd := az_dec_ok hdec (by simp [az_len])
    obtain ⟨x, s1, rfl, rfl, rfl, rfl, rfl⟩ := az_i_u1 hst
    obtain ⟨zx, xs1, rfl, rfl, h1⟩ := az_SR_I hSt
    refine lv_i2b hx hb hd rfl (K _ _ _ _ hRh hl hL ?_)
    rw [← az_n_i2b]
    exact az_SR_i _ h1
  | i2s =>
    have hd := az_dec_ok hdec (by simp [az_len])
    obtain ⟨x, s1, rfl, rfl, rfl, rfl, rfl⟩ := az_i_u1 hst
    obtain ⟨zx, xs1, rfl, rfl, h1⟩ := az_SR_I hSt
    refine lv_i2s hx hb hd rfl (K _ _ _ _ hRh hl hL ?_)
    rw [← az_n_i2s]
    exact az_SR_i _ h1
  | i2c =>
    have hd := az_dec_ok hdec (by simp [az_len])
    obtain ⟨x, s1, rfl, rfl, rfl, rfl, rfl⟩ := az_i_u1 hst
    obtain ⟨zx, xs1, rfl, rfl, h1⟩ := az_SR_I hSt
    refine lv_i2c hx hb hd rfl (K _ _ _ _ hRh hl hL ?_)
    rw [← az_n_i2c]
    exact az_SR_i _ h1
  | i2l =>
    have hd := az_dec_ok hdec (by simp [az_len])
    simp only [az_step] at hst
    split at hst
    · next x s1 =>
      obtain ⟨rfl, rfl, rfl, rfl⟩ := az_i_nx hst
      obtain ⟨zx, xs1, rfl, rfl, h1⟩ := az_SR_I hSt
      refine lv_i2l hx hb hd rfl (K _ _ _ _ hRh hl hL ?_)
      rw [← az_n_i2l]
      exact az_SR_l _ h1
    · cases hst
  | l2i =>
    have hd := az_dec_ok hdec (by simp [az_len])
    simp only [az_step] at hst
    split at hst
    · next x s1 =>
      obtain ⟨rfl, rfl, rfl, rfl⟩ := az_i_nx hst
      obtain ⟨zx, xs1, rfl, rfl, h1⟩ := az_SR_L hSt
      refine lv_l2i hx hb hd rfl (K _ _ _ _ hRh hl hL ?_)
      rw [← az_n_l2i]
      exact az_SR_i _ h1
    · cases hst
  | ladd =>
    have hd := az_dec_ok hdec (by simp [az_len])
    obtain ⟨y, x, s1, rfl, rfl, rfl, rfl, rfl⟩ := az_i_l2 hst
    obtain ⟨zy, xs1, rfl, rfl, h1⟩ := az_SR_L hSt
    obtain ⟨zx, xs2, rfl, rfl, h2⟩ := az_SR_L h1
    refine lv_ladd hx hb hd (K _ _ _ _ hRh hl hL ?_)
    rw [← az_n_ladd]
    exact az_SR_l _ h2
  | lsub =>
    have hd := az_dec_ok hdec (by simp [az_len])
    obtain ⟨y, x, s1, rfl, rfl, rfl, rfl, rfl⟩ := az_i_l2 hst
    obtain ⟨zy, xs1, rfl, rfl, h1⟩ := az_SR_L hSt
    obtain ⟨zx, xs2, rfl, rfl, h2⟩ := az_SR_L h1
    refine lv_lsub hx hb hd (K _ _ _ _ hRh hl hL ?_)
    rw [← az_n_lsub]
    exact az_SR_l _ h2
  | lmul =>
    have hd := az_dec_ok hdec (by simp [az_len])
    obtain ⟨y, x, s1, rfl, rfl, rfl, rfl, rfl⟩ := az_i_l2 hst
    obtain ⟨zy, xs1, rfl, rfl, h1⟩ := az_SR_L hSt
    obtain ⟨zx, xs2, rfl, rfl, h2⟩ := az_SR_L h1
    refine lv_lmul hx hb hd (K _ _ _ _ hRh hl hL ?_)
    rw [← az_n_lmul]
    exact az_SR_l _ h2
  | land =>
    have hd := az_dec_ok hdec (by simp [az_len])
    obtain ⟨y, x, s1, rfl, rfl, rfl, rfl, rfl⟩ := az_i_l2 hst
    obtain ⟨zy, xs1, rfl, rfl, h1⟩ := az_SR_L hSt
    obtain ⟨zx, xs2, rfl, rfl, h2⟩ := az_SR_L h1
    refine lv_land hx hb hd (K _ _ _ _ hRh hl hL ?_)
    rw [← az_n_land]
    exact az_SR_l _ h2
  | lor =>
    have hd := az_dec_ok hdec (by simp [az_len])
    obtain ⟨y, x, s1, rfl, rfl, rfl, rfl, rfl⟩ := az_i_l2 hst
    obtain ⟨zy, xs1, rfl, rfl, h1⟩ := az_SR_L hSt
    obtain ⟨zx, xs2, rfl, rfl, h2⟩ := az_SR_L h1
    refine lv_lor hx hb hd (K _ _ _ _ hRh hl hL ?_)
    rw [← az_n_lor]
    exact az_SR_l _ h2
  | ldiv =>
    have hd := az_dec_ok hdec (by simp [az_len])
    obtain ⟨y, x, s1, rfl, hy, rfl, rfl, rfl, rfl⟩ := az_i_dl2 hst
    obtain ⟨zy, xs1, rfl, rfl, h1⟩ := az_SR_L hSt
    obtain ⟨zx, xs2, rfl, rfl, h2⟩ := az_SR_L h1
    refine lv_ldiv hx hb hd (az_n_0L hy) (K _ _ _ _ hRh hl hL ?_)
    rw [← az_n_ldiv]
    exact az_SR_l _ h2
  | lrem =>
    have hd := az_dec_ok hdec (by simp [az_len])
    obtain ⟨y, x, s1, rfl, hy, rfl, rfl, rfl, rfl⟩ := az_i_dl2 hst
    obtain ⟨zy, xs1, rfl, rfl, h1⟩ := az_SR_L hSt
    obtain ⟨zx, xs2, rfl, rfl, h2⟩ := az_SR_L h1
    refine lv_lrem hx hb hd (az_n_0L hy) (K _ _ _ _ hRh hl hL ?_)
    rw [← az_n_lrem]
    exact az_SR_l _ h2
  | lshl =>
    have hd := az_dec_ok hdec (by simp [az_len])
    obtain ⟨y, x, s1, rfl, rfl, rfl, rfl, rfl⟩ := az_i_li hst
    obtain ⟨zy, xs1, rfl, rfl, h1⟩ := az_SR_I hSt
    obtain ⟨zx, xs2, rfl, rfl, h2⟩ := az_SR_L h1
    refine lv_lshl hx hb hd rfl (K _ _ _ _ hRh hl hL ?_)
    rw [← az_n_lshl]
    exact az_SR_l _ h2
  | lshr =>
    have hd := az_dec_ok hdec (by simp [az_len])
    obtain ⟨y, x, s1, rfl, rfl, rfl, rfl, rfl⟩ := az_i_li hst
    obtain ⟨zy, xs1, rfl, rfl, h1⟩ := az_SR_I hSt
    obtain ⟨zx, xs2, rfl, rfl, h2⟩ := az_SR_L h1
    refine lv_lshr hx hb hd rfl (K _ _ _ _ hRh hl hL ?_)
    rw [← az_n_lshr]
    exact az_SR_l _ h2
  | lcmp =>
    have hd := az_dec_ok hdec (by simp [az_len])
    simp only [az_step] at hst
    split at hst
    · next y x s1 =>
      obtain ⟨rfl, rfl, rfl, rfl⟩ := az_i_nx hst
      obtain ⟨zy, xs1, rfl, rfl, h1⟩ := az_SR_L hSt
      obtain ⟨zx, xs2, rfl, rfl, h2⟩ := az_SR_L h1
      refine W.lcmp hx hb hd (K _ _ _ _ hRh hl hL ?_)
      rw [← az_n_cmp]
      exact az_SR_i _ h2
    · cases hst
  | dup =>
    have hd := az_dec_ok hdec (by simp [az_len])
    simp only [az_step] at hst
    split at hst
    · next x s1 =>
      obtain ⟨rfl, rfl, rfl, rfl⟩ := az_i_nx hst
      obtain ⟨z, xs1, rfl, rfl, h1⟩ := az_SR_I hSt
      exact lv_dup hx hb hd rfl (K _ _ _ _ hRh hl hL (az_SR_i _ (az_SR_i _ h1)))
    · next r s1 =>
      obtain ⟨rfl, rfl, rfl, rfl⟩ := az_i_nx hst
      obtain ⟨xs1, rfl, h1⟩ := az_SR_R hSt
      exact lv_dup hx hb hd (az_rf_cat hw _) (K _ _ _ _ hRh hl hL (az_SR_r _ (az_SR_r _ h1)))
    · cases hst
  | dup2 =>
    have hd := az_dec_ok hdec (by simp [az_len])
    simp only [az_step] at hst
    split at hst
    · next x r s1 =>
      obtain ⟨rfl, rfl, rfl, rfl⟩ := az_i_nx hst
      obtain ⟨z, xs1, rfl, rfl, h1⟩ := az_SR_I hSt
      obtain ⟨xs2, rfl, h2⟩ := az_SR_R h1
      exact lv_dup2_11 hx hb hd rfl (az_rf_cat hw _) (K _ _ _ _ hRh hl hL (az_SR_i _ (az_SR_r _ (az_SR_i _ (az_SR_r _ h2)))))
    · cases hst
  | pop =>
    have hd := az_dec_ok hdec (by simp [az_len])
    simp only [az_step] at hst
    split at hst
    · next x s1 =>
      obtain ⟨rfl, rfl, rfl, rfl⟩ := az_i_nx hst
      obtain ⟨z, xs1, rfl, rfl, h1⟩ := az_SR_I hSt
      exact lv_pop hx hb hd rfl (K _ _ _ _ hRh hl hL h1)
    · cases hst
  | if_icmp c off =>
    have hd := az_dec_ok hdec (by simp [az_len])
    simp only [az_res, decide_eq_true_eq] at hres
    obtain ⟨y, x, rfl, hc, rfl, rfl, rfl⟩ := az_i_if2 hst
    obtain ⟨zy, xs1, rfl, rfl, h1⟩ := az_SR_I hSt
    obtain ⟨zx, xs2, rfl, rfl, h2⟩ := az_SR_I h1
    exact az_c_if2 hx hb hd (Int.toNat_of_nonneg hres.2).symm (fun h => absurd h (by rw [hc]; decide)) (fun _ => K _ _ _ _ hRh hl hL h2)
  | ifCond c off =>
    have hd := az_dec_ok hdec (by simp [az_len])
    simp only [az_res, decide_eq_true_eq] at hres
    obtain ⟨x, rfl, hc, rfl, rfl, rfl⟩ := az_i_if1 hst
    obtain ⟨zx, xs1, rfl, rfl, h1⟩ := az_SR_I hSt
    exact az_c_if1 hx hb hd (Int.toNat_of_nonneg hres.2).symm (fun h => absurd h (by rw [hc]; decide)) (fun _ => K _ _ _ _ hRh hl hL h1)
  | goto off =>
    simp [az_step, az_jmp] at hst
  | tableswitch a b c d =>
    simp only [az_step, az_tsw] at hst
    split at hst
    · split at hst <;> simp at hst
    · cases hst
  | lookupswitch a b =>
    simp only [az_step, az_lsw] at hst
    split at hst
    · simp at hst
    · cases hst
  | iaload =>
    have hd := az_dec_ok hdec (by simp [az_len])
    obtain ⟨j, a, s1, rfl, rfl, rfl, rfl, hh⟩ := az_i_ald hst
    obtain ⟨zj, xs1, rfl, rfl, h1⟩ := az_SR_I hSt
    obtain ⟨xs2, rfl, h2⟩ := az_SR_R h1
    rcases hh with ⟨rfl, L, ys, rfl, -, j0, j1, rfl⟩ | ⟨-, t, n, rs, hg, ht, j0, j1, rfl⟩
    · exact az_c_sld hx hb hRh j0 j1 hd (fun z hz => K _ _ _ _ hRh hl hL (by rw [← hz]; exact az_SR_i _ h2))
    · have ht := List.mem_singleton.mp ht
      subst ht
      exact az_c_iald hx hb hRh hg j0 j1 hd (fun z hz => K _ _ _ _ hRh hl hL (by rw [← hz]; exact az_SR_i _ h2))
  | baload =>
    have hd := az_dec_ok hdec (by simp [az_len])
    obtain ⟨j, a, s1, rfl, rfl, rfl, rfl, hh⟩ := az_i_ald hst
    obtain ⟨zj, xs1, rfl, rfl, h1⟩ := az_SR_I hSt
    obtain ⟨xs2, rfl, h2⟩ := az_SR_R h1
    rcases hh with ⟨-, L, ys, -, hts2, -⟩ | ⟨-, t, n, rs, hg, ht, j0, j1, rfl⟩
    · cases hts2
    · exact az_c_bald hx hb hRh hg (by simpa using ht) j0 j1 hd (fun z hz => K _ _ _ _ hRh hl hL (by rw [← hz]; exact az_SR_i _ h2))
  | aaload =>
    have hd := az_dec_ok hdec (by simp [az_len])
    obtain ⟨j, a, s1, t, n, rs, rfl, hg, t1, t2, j0, j1, rfl, rfl, rfl, rfl⟩ := az_i_aald hst
    obtain ⟨zj, xs1, rfl, rfl, h1⟩ := az_SR_I hSt
    obtain ⟨xs2, rfl, h2⟩ := az_SR_R h1
    exact az_c_aald hx hb hRh hg ⟨t1, t2⟩ j0 j1 hd (K _ _ _ _ hRh hl hL (az_SR_r _ h2))
  | arraylength =>
    have hd := az_dec_ok hdec (by simp [az_len])
    obtain ⟨a, s1, rfl, rfl, rfl, rfl, hh⟩ := az_i_aln hst
    obtain ⟨xs1, rfl, h1⟩ := az_SR_R hSt
    rcases hh with ⟨rfl, L, ys, rfl, rfl⟩ | ⟨-, t, n, rs, hg, t1, t2, rfl⟩
    · exact az_c_slen hx hb hRh hd (fun z hz => K _ _ _ _ hRh hl hL (by rw [← hz]; exact az_SR_i _ h1))
    · exact az_c_alen hx hb hRh hg ⟨t1, t2⟩ hd (fun z hz => K _ _ _ _ hRh hl hL (by rw [← hz]; exact az_SR_i _ h1))
  | iastore =>
    have hd := az_dec_ok hdec (by simp [az_len])
    obtain ⟨v, j, a, t, n, rs, rfl, hg, ha, rfl, j0, j1, rfl, rfl, rfl⟩ := az_i_iast hst
    obtain ⟨zv, xs1, rfl, rfl, h1⟩ := az_SR_I hSt
    obtain ⟨zj, xs2, rfl, rfl, h2⟩ := az_SR_I h1
    obtain ⟨xs3, rfl, h3⟩ := az_SR_R h2
    exact az_c_iast hx hb hRh hl ha hg j0 j1 hd (fun H2 locs2 r1 r2 => K _ _ _ _ r1 r2 hL h3)
  | bastore =>
    have hd := az_dec_ok hdec (by simp [az_len])
    obtain ⟨v, j, a, t, n, rs, rfl, hg, ha, ht, j0, j1, rfl, rfl, rfl⟩ := az_i_bast hst
    obtain ⟨zv, xs1, rfl, rfl, h1⟩ := az_SR_I hSt
    obtain ⟨zj, xs2, rfl, rfl, h2⟩ := az_SR_I h1
    obtain ⟨xs3, rfl, h3⟩ := az_SR_R h2
    exact az_c_bast hx hb hRh hl ha hg ht j0 j1 hd (fun H2 locs2 r1 r2 => K _ _ _ _ r1 r2 hL h3)
  | aastore =>
    have hd := az_dec_ok hdec (by simp [az_len])
    obtain ⟨b, j, a, t, n, rs, t2, n2, rs2, rfl, hg, hg2, ha, hb2, ht, j0, j1, rfl, rfl, rfl⟩ := az_i_aast hst
    obtain ⟨xs1, rfl, h1⟩ := az_SR_R hSt
    obtain ⟨zj, xs2, rfl, rfl, h2⟩ := az_SR_I h1
    obtain ⟨xs3, rfl, h3⟩ := az_SR_R h2
    refine az_c_aast hx hb hRh hl ha hb2 hg hg2 ht j0 j1 hd (fun H2 locs2 r1 r2 => ?_)
    exact W.cs (by rw [List.length_set]) (by rw [az_sl_set hg]) (K _ _ _ _ r1 r2 hL h3)
  | getfield x =>
    have hd := az_dec_ok hdec (by simp [az_len])
    obtain ⟨a, s1, c, k, t, q, tg, n, rs, rfl, rfl, hg, hc, rfl, rfl, rfl, hh⟩ := az_i_get hst
    obtain ⟨xs1, rfl, h1⟩ := az_SR_R hSt
    have key : ∀ v : Value, az_fv w t.toNat (m' a k) (rs.getD k.toNat 0) v → 0 ≤ t → az_SR w (v :: xs1) st' := fun v hv ht => by
      unfold az_fv at hv
      rcases hh with ⟨rfl, rfl⟩ | ⟨rfl, rfl⟩ | ⟨t1, t2, rfl⟩
      · rw [if_pos (by decide)] at hv
        obtain ⟨y, rfl, e2⟩ := hv
        rw [← e2]
        exact az_SR_l _ h1
      · rw [if_neg (by decide), if_pos (by decide)] at hv
        subst hv
        exact az_SR_r _ h1
      · rw [if_neg (by omega), if_neg (by omega)] at hv
        obtain ⟨y, rfl, e2⟩ := hv
        rw [← e2]
        exact az_SR_i _ h1
    rcases q with _ | ⟨q, _ | ⟨q2, q3⟩⟩
    · simp [az_res, az_fld] at hres
    · simp only [az_res, az_fld] at hres
      by_cases h9 : c = 9
      · subst h9
        rw [if_pos rfl] at hres
        have h9 : tg = 9 := by omega
        subst h9
        simp only [Bool.or_eq_true, Bool.and_eq_true, decide_eq_true_eq] at hres
        rcases hres with ⟨⟨rfl, rfl⟩, h3⟩ | ⟨⟨rfl, rfl⟩, h3⟩
        · exact az_c_str (i := 0) (t := 2) hx hb hRh hg hown hd (Or.inl ⟨rfl, rfl, hts _ (az_hw_in h3)⟩) (fun v hv => K _ _ _ _ hRh hl hL (key v hv (by decide)))
        · exact az_c_str (i := 1) (t := 0) hx hb hRh hg hown hd (Or.inr ⟨rfl, rfl, hts _ (az_hw_in h3)⟩) (fun v hv => K _ _ _ _ hRh hl hL (key v hv (by decide)))
      · rw [if_neg h9] at hres
        simp only [Bool.and_eq_true, decide_eq_true_eq] at hres
        obtain ⟨⟨⟨c1, c2, c3, c4, c5⟩, c6⟩, c7⟩ := hres
        have hct : c.toNat = tg := by omega
        rw [hct] at c4 c5 c6 c7
        refine az_c_get (k := k.toNat) hx hb hRh hts hown hg (by omega) c4 (hts _ (az_hw_in c6)) c7 hd (fun v hv => K _ _ _ _ hRh hl hL (key v ?_ (by omega)))
        rw [c5, Int.toNat_natCast]
        rw [Int.toNat_of_nonneg c3] at hv
        exact hv
    · simp [az_res, az_fld] at hres
  | putfield x =>
    have hd := az_dec_ok hdec (by simp [az_len])
    obtain ⟨a, c, k, t, q, tg, n, rs, rfl, hg, ha, hc, rfl, hh⟩ := az_i_put hst
    rcases q with _ | ⟨q, _ | ⟨q2, q3⟩⟩
    · simp [az_res, az_fld] at hres
    · simp only [az_res, az_fld, Bool.and_eq_true] at hres
      obtain ⟨hres, hn9, hfin⟩ := hres
      have h9 : ¬ c = 9 := by simpa using hn9
      rw [if_neg h9] at hres
      simp only [Bool.and_eq_true, decide_eq_true_eq] at hres
      obtain ⟨⟨⟨c1, c2, c3, c4, c5⟩, c6⟩, c7⟩ := hres
      have hct : c.toNat = tg := by omega
      rw [hct] at c4 c5 c6 c7 hfin
      have hfin2 : (az_T tg k.toNat).2.2.2 = false ∨ (meth.name = "<init>" ∧ (az_T tg k.toNat).1 = (az_y M).cls) := by
        simp only [Bool.or_eq_true, Bool.not_eq_true', decide_eq_true_eq] at hfin
        rcases hfin with h | ⟨h, h2⟩
        · exact Or.inl h
        · exact Or.inr ⟨hnm h, h2⟩
      have htc := az_tcty (show tg < 9 by omega) c4
      have ek : ((k.toNat : Nat) : Int) = k := Int.toNat_of_nonneg c3
      rcases hh with ⟨v, rfl, ht, rfl, rfl⟩ | ⟨v, rfl, ht, rfl, rfl⟩ | ⟨r, rfl, ht, hr, rfl, rfl⟩
      · obtain ⟨zv, xs1, rfl, rfl, h1⟩ := az_SR_I hSt
        obtain ⟨xs2, rfl, h2⟩ := az_SR_R h1
        have hty := az_fit_i (t := az_t tg k.toNat) (tc := az_tc tg k.toNat) (z := zv) htc (by rcases ht with h | h <;> omega)
        refine az_c_put (rs' := rs) (z' := zv.toInt) (r' := 0) (m' := az_up m a k zv.toInt) hx hb hRh hl hts hown ha hg (by omega) c4 (hts _ (az_hw_in c6)) c7 hfin2 hty.1 hty.2 hd ?_ (Or.inr ⟨rfl, by rcases ht with h | h <;> omega⟩) (fun b j hb => az_up_a _ _ _ _ hb) (fun j hj => az_up_i _ _ _ (by omega)) (fun _ => by rw [ek, az_up_at]) (fun H2 locs2 r1 r2 => ?_)
        · unfold az_fv
          rw [if_neg (by rcases ht with h | h <;> omega), if_neg (by rcases ht with h | h <;> omega)]
          exact ⟨zv, rfl, rfl⟩
        · rw [az_set_self hg] at r1
          exact K _ _ _ _ r1 r2 hL h2
      · obtain ⟨zv, xs1, rfl, rfl, h1⟩ := az_SR_L hSt
        obtain ⟨xs2, rfl, h2⟩ := az_SR_R h1
        have hty := az_fit_l (t := az_t tg k.toNat) (tc := az_tc tg k.toNat) (z := zv) htc (by omega)
        refine az_c_put (rs' := rs) (z' := zv.toInt) (r' := 0) (m' := az_up m a k zv.toInt) hx hb hRh hl hts hown ha hg (by omega) c4 (hts _ (az_hw_in c6)) c7 hfin2 hty.1 hty.2 hd ?_ (Or.inr ⟨rfl, by omega⟩) (fun b j hb => az_up_a _ _ _ _ hb) (fun j hj => az_up_i _ _ _ (by omega)) (fun _ => by rw [ek, az_up_at]) (fun H2 locs2 r1 r2 => ?_)
        · unfold az_fv
          rw [if_pos (by omega)]
          exact ⟨zv, rfl, rfl⟩
        · rw [az_set_self hg] at r1
          exact K _ _ _ _ r1 r2 hL h2
      · obtain ⟨xs1, rfl, h1⟩ := az_SR_R hSt
        obtain ⟨xs2, rfl, h2⟩ := az_SR_R h1
        have hty := az_fit_r (w := w) hw (t := az_t tg k.toNat) (tc := az_tc tg k.toNat) (r := r) htc (by omega)
        refine az_c_put (rs' := rs.set k.toNat r) (z' := 0) (r' := r) (m' := m') hx hb hRh hl hts hown ha hg (by omega) c4 (hts _ (az_hw_in c6)) c7 hfin2 hty.1 hty.2 hd ?_ (Or.inl rfl) (fun _ _ _ => rfl) (fun _ _ => rfl) (fun h => absurd (by omega) h) (fun H2 locs2 r1 r2 => ?_)
        · unfold az_fv
          rw [if_neg (by omega), if_pos (by omega)]
        · exact W.cs (by rw [List.length_set]) (by rw [az_sl_set hg]) (K _ _ _ _ r1 r2 hL h2)
    · simp [az_res, az_fld] at hres
  | getstatic x =>
    have hd := az_dec_ok hdec (by simp [az_len])
    obtain ⟨q, rfl, rfl, rfl, ⟨rfl, rfl⟩ | ⟨rfl, rfl⟩ | ⟨rfl, rfl⟩⟩ := az_i_gst hst
    · rcases q with _ | ⟨q, _ | ⟨q2, q3⟩⟩
      · simp [az_res] at hres
      · simp only [az_res] at hres
        obtain ⟨cf, kf, fi, fl, aa, cell, z1, z2, z3, z4, z5, z6, z7, z8⟩ := hRh.2.1.2.1
        refine W.gets hx hb hown (hts _ (az_hw_in hres)) z1 z2 z3 z4 z5 (fun e => by rw [e] at z6; cases z6) z7 rfl hd ?_
        exact K _ _ _ _ hRh hl hL (by have := az_SR_r (w := w) 3 hSt; rw [az_rf_s (show (2 : Nat) ≠ 1 by decide), az_ad_lo (by decide)] at this; exact this)
      · simp [az_res] at hres
    · rcases q with _ | ⟨q, _ | ⟨q2, q3⟩⟩
      · simp [az_res] at hres
      · simp only [az_res] at hres
        obtain ⟨cf, kf, fi, fl, aa, cell, z1, z2, z3, z4, z5, z6, z7, z8⟩ := hRh.2.1.2.2.1
        refine W.gets hx hb hown (hts _ (az_hw_in hres)) z1 z2 z3 z4 z5 (fun e => by rw [e] at z6; cases z6) z7 rfl hd ?_
        exact K _ _ _ _ hRh hl hL (az_SR_i 1 hSt)
      · simp [az_res] at hres
    · rcases q with _ | ⟨q, _ | ⟨q2, q3⟩⟩
      · simp [az_res] at hres
      · simp only [az_res] at hres
        obtain ⟨cf, kf, fi, fl, aa, cell, z1, z2, z3, z4, z5, z6, z7, z8⟩ := hRh.2.1.2.2.2.1
        refine W.gets hx hb hown (hts _ (az_hw_in hres)) z1 z2 z3 z4 z5 (fun e => by rw [e] at z6; cases z6) z7 rfl hd ?_
        exact K _ _ _ _ hRh hl hL (az_SR_r (w := w) 2 hSt)
      · simp [az_res] at hres
  | new x =>
    have hd := az_dec_ok hdec (by simp [az_len])
    obtain ⟨c, n, q, rfl, hgl, rfl, rfl, rfl, rfl⟩ := az_i_new hst
    rcases q with _ | ⟨q, _ | ⟨q2, _ | ⟨q3, _ | ⟨q4, q5⟩⟩⟩⟩
    · simp [az_res] at hres
    · simp [az_res] at hres
    · simp [az_res] at hres
    · simp only [az_res, Bool.and_eq_true, decide_eq_true_eq] at hres
      obtain ⟨⟨⟨⟨c1, c2, c3⟩, c4⟩, c5⟩, c6⟩ := hres
      have hn : n.toNat = az_N c.toNat := by rw [c3]; rfl
      rw [hn] at hrm K
      rw [az_sl_push, List.length_append] at hrm
      simp only [List.length_cons, List.length_nil] at hrm
      refine az_c_new hx hb hRh hts hown (t := c.toNat) (by omega) (hts _ (az_hw_in c4)) (hts _ (az_hw_in c5)) (hts _ (az_hw_in c6)) (by omega) (by omega) hd (fun H2 r1 => ?_)
      exact W.cs (by rw [List.length_append]; simp only [List.length_cons, List.length_nil]; omega) (by rw [az_sl_push]; simp only []; omega) (K _ _ _ _ r1 hl hL (az_SR_r _ hSt))
    · simp [az_res] at hres
  | newarray at_ =>
    have hd := az_dec_ok hdec (by simp [az_len])
    obtain ⟨n, s1, t, q, rfl, rfl, n0, n1, hgl, rfl, rfl, rfl, rfl⟩ := az_i_nwa hst
    obtain ⟨zn, xs1, rfl, rfl, h1⟩ := az_SR_I hSt
    rcases q with _ | ⟨q, _ | ⟨q2, q3⟩⟩
    · simp [az_res] at hres
    · simp only [az_res, Bool.or_eq_true, Bool.and_eq_true, decide_eq_true_eq] at hres
      have ht : (t.toNat = 20 ∧ at_ = .int) ∨ (t.toNat = 21 ∧ at_ = .byte) ∨ (t.toNat = 22 ∧ at_ = .boolean) := by rcases hres with (⟨⟨a1, a2⟩, -⟩ | ⟨⟨a1, a2⟩, -⟩) | ⟨⟨a1, a2⟩, -⟩ <;> simp [a1, a2]
      have ha : (Cond.arrayClass (newarray.typeOf at_)).before args s = true := by rcases hres with (⟨⟨a1, rfl⟩, a3⟩ | ⟨⟨a1, rfl⟩, a3⟩) | ⟨⟨a1, rfl⟩, a3⟩ <;> exact hts _ (az_hw_in a3)
      have h23 : ¬ 23 ≤ t := by omega
      rw [if_neg h23] at hrm K
      rw [az_sl_push, List.length_append] at hrm
      simp only [List.length_cons, List.length_nil] at hrm
      refine az_c_newa hx hb hRh ht ha n0 n1 (by omega) (by omega) hd (fun H2 r1 => ?_)
      exact W.cs (by rw [List.length_append]; simp only [List.length_cons, List.length_nil]; omega) (by rw [az_sl_push]; simp only []; omega) (K _ _ _ _ r1 hl hL (az_SR_r _ h1))
    · simp [az_res] at hres
  | anewarray x =>
    have hd := az_dec_ok hdec (by simp [az_len])
    obtain ⟨n, s1, t, q, rfl, rfl, n0, n1, hgl, rfl, rfl, rfl, rfl⟩ := az_i_nwa hst
    obtain ⟨zn, xs1, rfl, rfl, h1⟩ := az_SR_I hSt
    rcases q with _ | ⟨q, _ | ⟨q2, _ | ⟨q3, q4⟩⟩⟩
    · simp [az_res] at hres
    · simp [az_res] at hres
    · simp only [az_res, Bool.or_eq_true, Bool.and_eq_true, decide_eq_true_eq] at hres
      have h23 : 23 ≤ t := by omega
      rw [if_pos h23] at hrm K
      rw [az_sl_push, List.length_append] at hrm
      simp only [List.length_cons, List.length_nil] at hrm
      rcases hres with ⟨⟨a1, a2⟩, -⟩ | ⟨⟨a1, a2⟩, -⟩
      · refine az_c_newq hx hb hRh hown (t := t.toNat) (C := "LastSun$Row") (by simp [a1]) (hts _ (az_hw_in a2)) hTt.2.2.1 n0 n1 (by omega) (by omega) hd (fun H2 r1 => ?_)
        exact W.cs (by rw [List.length_append]; simp only [List.length_cons, List.length_nil]; omega) (by rw [az_sl_push]; simp only []; omega) (K _ _ _ _ r1 hl hL (az_SR_r _ h1))
      · refine az_c_newq hx hb hRh hown (t := t.toNat) (C := "LastSun$Beach") (by simp [a1]) (hts _ (az_hw_in a2)) hTt.2.2.2 n0 n1 (by omega) (by omega) hd (fun H2 r1 => ?_)
        exact W.cs (by rw [List.length_append]; simp only [List.length_cons, List.length_nil]; omega) (by rw [az_sl_push]; simp only []; omega) (K _ _ _ _ r1 hl hL (az_SR_r _ h1))
    · simp [az_res] at hres
  | invokevirtual x =>
    have hd := az_dec_ok hdec (by simp [az_len])
    exact az_c_inv1 hx hb hml hown hts hw hR hcs hrm hRh hl hL hSt hres hst hd K
  | invokestatic x =>
    have hd := az_dec_ok hdec (by simp [az_len])
    exact az_c_inv2 hx hb hml hown hts hw hR hcs hrm hRh hl hL hSt hres hst hd K
  | invokespecial x =>
    have hd := az_dec_ok hdec (by simp [az_len])
    exact az_c_inv3 hx hb hml hown hts hw hR hcs hrm hRh hl hL hSt hres hst hd K
  | ireturn =>
    simp only [az_step, az_irt] at hst
    split at hst
    · split at hst <;> simp at hst
    · cases hst
  | lreturn =>
    simp only [az_step] at hst
    split at hst
    · split at hst <;> simp at hst
    · cases hst
  | areturn =>
    simp only [az_step] at hst
    split at hst
    · split at hst <;> simp at hst
    · cases hst
  | return_ =>
    simp only [az_step] at hst
    split at hst
    · split at hst <;> simp at hst
    · cases hst
  | _ => simp [az_step] at hst
end NS
