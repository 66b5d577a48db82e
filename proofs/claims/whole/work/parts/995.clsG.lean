/-! THE CLASS: alone, explained, laws, the owner -/
section CG
variable {sc : aX} {m : aM} {f t c : Int → Int} {sp : Int} {Q : Option aV → aM → Prop}
/-- one hour, from the last one back -/
theorem l_X3_mean {g cc w u h : Int} {o9 o10 o11 o13 : Option aV} (hB : bR m 22 f) (hN : nOK f) (h8 : m 238 g = pFe f g) (h0 : 0 ≤ g) (h1 : g < f 2) (hc : 0 ≤ cc ∧ cc ≤ 10) (hh : 0 ≤ h ∧ h ≤ 5) (hb : pAlB (5 - h) w u) (K : ∀ o9 o10 o11 o13, az_E sc az_G 159 zX3_meanAlone_9 [some (.inr (.inr (235))), some (.inr (.inr (23))), some (.inl (g)), some (.inl (cc)), some (.inr (.inl ((pAlS f g cc h (w, u)).1))), none, some (.inr (.inl ((pAlS f g cc h (w, u)).2))), none, some (.inl (h - 1)), o9, o10, o11, none, o13, none] [] m Q) : az_E sc az_G 159 zX3_meanAlone_9 [some (.inr (.inr (235))), some (.inr (.inr (23))), some (.inl (g)), some (.inl (cc)), some (.inr (.inl (w))), none, some (.inr (.inl (u))), none, some (.inl (h)), o9, o10, o11, none, o13, none] [] m Q := by
  have hn := nOK_2 hN
  have hG := nOK_g hN g h0 h1
  have hf1 := nOK_1 hN
  have hp := nOK_p hN h hh.1 (by omega)
  have hJ := pJoyA_b (h := h) hG.2.1
  have hFe := pFe_b hN g
  have hGb := pAlG_b hN (h := h) h0 h1
  have eG : pJoyA f g h - pFe f g = pAlG f g h := rfl
  have hB2 : (-1000000000 ≤ u * (pAlG f g h - f (6 + h) / 2) ∧ u * (pAlG f g h - f (6 + h) / 2) ≤ 40 * u) ∧ (-1000000000 ≤ u * (pAlG f g h - f (6 + h)) ∧ u * (pAlG f g h - f (6 + h)) ≤ 40 * u) ∧ (0 ≤ w ∧ w ≤ 20000000) ∧ (1 ≤ u ∧ u ≤ 100000) := by
    unfold pAlB at hb
    rcases hb with hb | hb | hb | hb | hb | hb | hb <;> (obtain ⟨e1, e2, e3⟩ := hb; subst e2; omega)
  obtain ⟨cl, hcl⟩ : ∃ x, x = w + u * (pAlG f g h - f (6 + h) / 2) := ⟨_, rfl⟩
  obtain ⟨cr, hcr⟩ : ∃ x, x = w + u * (pAlG f g h - f (6 + h)) := ⟨_, rfl⟩
  have hP : (pAlS f g cc h (w, u)).1 = cc * pPos cl + (10 - cc) * pPos cr := by
    unfold pAlS
    dsimp only
    rw [hcl, hcr, Int.mul_comm u, Int.mul_comm u, Int.add_comm w, Int.add_comm w]
  have hU : (pAlS f g cc h (w, u)).2 = u * 10 := rfl
  have hpc : (0 ≤ pPos cl ∧ pPos cl ≤ 30000000) ∧ (0 ≤ pPos cr ∧ pPos cr ≤ 30000000) := by
    unfold pPos
    (repeat' split) <;> omega
  have hx1 := az_mulb hc.1 hc.2 hpc.1.1 hpc.1.2
  have hx2 := az_mulb (show 0 ≤ 10 - cc by omega) (show 10 - cc ≤ 10 by omega) hpc.2.1 hpc.2.2
  have K2 := K (some (.inl (pAlG f g h))) (some (.inl (f (6 + h)))) (some (.inr (.inl (pPos cl)))) (some (.inr (.inl (pPos cr))))
  rw [hP, hU] at K2
  refine r_iload rfl ?_
  refine r_if_lt kX3_meanAlone_110 (fun c1 => absurd c1 (by omega)) (fun c1 => ?_)
  refine r_aload_n rfl ?_
  refine r_iload_n rfl ?_
  refine r_iload rfl ?_
  refine r_cV3I g_22 rfl (Nat.le_of_ble_eq_true rfl) (Nat.le_of_ble_eq_true rfl) (c_X1_joyAlone hB hN h0 h1) ?_
  refine r_aload_n rfl ?_
  refine r_getR g_234 rfl ?_
  refine r_getR g_235 rfl ?_
  refine r_iload_n rfl ?_
  refine r_ialdx g_238 rfl (by omega) (by omega) (by omega) (h8) ?_
  refine r_isub ((az_wid (by omega) (by omega)).trans eG) ?_
  refine r_istore (Nat.le_of_ble_eq_true rfl) rfl ?_
  refine r_aload_n rfl ?_
  refine r_getR g_22 rfl ?_
  refine r_iload rfl ?_
  refine r_ialdx g_23 rfl (by omega) (by omega) (by omega) (hB.2.1 h hh.1 (by omega)) ?_
  refine r_istore (Nat.le_of_ble_eq_true rfl) rfl ?_
  refine r_lconst0 ?_
  refine r_lload rfl ?_
  refine r_lload rfl ?_
  refine r_iload rfl ?_
  refine r_iload rfl ?_
  refine r_iconst ?_
  first | refine r_idiv (by omega) (az_divn (by omega) (by omega) (by omega)) ?_ | refine r_idiv (by omega) rfl ?_
  first | refine r_isub (az_wid (by omega) (by omega)) ?_ | refine r_isubw ?_
  refine r_i2l ?_
  first | refine r_lmul (az_wlid (by omega) (by omega)) ?_ | refine r_lmul rfl ?_
  refine r_ladd ((az_wlid (by omega) (by omega)).trans hcl.symm) ?_
  refine r_maxL (z := pPos cl) (Nat.le_of_ble_eq_true rfl) rfl ?_
  refine r_lstore (Nat.le_of_ble_eq_true rfl) rfl ?_
  refine r_lconst0 ?_
  refine r_lload rfl ?_
  refine r_lload rfl ?_
  refine r_iload rfl ?_
  refine r_iload rfl ?_
  first | refine r_isub (az_wid (by omega) (by omega)) ?_ | refine r_isubw ?_
  refine r_i2l ?_
  first | refine r_lmul (az_wlid (by omega) (by omega)) ?_ | refine r_lmul rfl ?_
  refine r_ladd ((az_wlid (by omega) (by omega)).trans hcr.symm) ?_
  refine r_maxL (z := pPos cr) (Nat.le_of_ble_eq_true rfl) rfl ?_
  refine r_lstore (Nat.le_of_ble_eq_true rfl) rfl ?_
  refine r_iload_n rfl ?_
  refine r_i2l ?_
  refine r_lload rfl ?_
  first | refine r_lmul (az_wlid (by omega) (by omega)) ?_ | refine r_lmul rfl ?_
  refine r_bipush ?_
  refine r_iload_n rfl ?_
  first | refine r_isub (az_wid (by omega) (by omega)) ?_ | refine r_isubw ?_
  refine r_i2l ?_
  refine r_lload rfl ?_
  first | refine r_lmul (az_wlid (by omega) (by omega)) ?_ | refine r_lmul rfl ?_
  first | refine r_ladd (az_wlid (by omega) (by omega)) ?_ | refine r_ladd rfl ?_
  refine r_lstore (Nat.le_of_ble_eq_true rfl) rfl ?_
  refine r_lload rfl ?_
  refine r_ldc2 ?_
  first | refine r_lmul (az_wlid (by omega) (by omega)) ?_ | refine r_lmul rfl ?_
  refine r_lstore (Nat.le_of_ble_eq_true rfl) rfl ?_
  refine r_iinc rfl (az_wid (by omega) (by omega)) rfl ?_
  refine r_goto kX3_meanAlone_9 ?_
  exact K2
theorem c_X3_meanAlone {g cc : Int} (hB : bR m 22 f) (hN : nOK f) (h8 : m 238 g = pFe f g) (h0 : 0 ≤ g) (h1 : g < f 2) (hc : 0 ≤ cc ∧ cc ≤ 10) : az_CL sc 159 [.inr (.inr 235), .inr (.inr 23), .inl g, .inl cc] m (pAl f g cc 6).1 m := by
  refine r_lconst0 ?_
  refine r_lstore (Nat.le_of_ble_eq_true rfl) rfl ?_
  refine r_lconst1 ?_
  refine r_lstore (Nat.le_of_ble_eq_true rfl) rfl ?_
  refine r_iconst ?_
  refine r_istore (Nat.le_of_ble_eq_true rfl) rfl ?_
  skip
  refine az_dwn (α := (Int × Int) × Option aV × Option aV × Option aV × Option aV) (fun h x => [some (.inr (.inr (235))), some (.inr (.inr (23))), some (.inl (g)), some (.inl (cc)), some (.inr (.inl (x.1.1))), none, some (.inr (.inl (x.1.2))), none, some (.inl (h)), x.2.1, x.2.2.1, x.2.2.2.1, none, x.2.2.2.2, none]) (fun _ => m) (fun h x => x.1 = pAl f g cc (5 - h)) 5 ((0, 1), none, none, none, none) (by decide) rfl (fun h x x0 x1 hq hK => ?_) (fun x hq => ?_)
  · obtain ⟨⟨w, u⟩, o9, o10, o11, o13⟩ := x
    dsimp only at hq ⊢
    have hbk := pAl_b hN h0 h1 hc (k := 5 - h) (by omega) (by omega)
    rw [← hq] at hbk
    refine l_X3_mean hB hN h8 h0 h1 hc (by omega) hbk (fun o9 o10 o11 o13 => ?_)
    refine hK ((_, _), _, _, _, _) ?_
    have hS := pAl_S f g cc (k := 5 - h) (by omega)
    rw [← hq] at hS
    have e1 : 5 - (h - 1) = 5 - h + 1 := by omega
    have e2 : 5 - (5 - h) = h := by omega
    rw [e1, hS, e2]
    rfl
  · obtain ⟨⟨w, u⟩, o9, o10, o11, o13⟩ := x
    have e6 : (5 : Int) - -1 = 6 := rfl
    rw [e6] at hq
    dsimp only at hq ⊢
    refine r_iload rfl ?_
    refine r_if_lt kX3_meanAlone_110 (fun c1 => ?_) (fun c1 => absurd c1 (by decide))
    refine r_lload rfl ?_
    refine r_lret rfl ?_
    exact ⟨az_oL (by rw [← hq]), rfl⟩
theorem az_half {y r : Int} (h0 : 0 < r) (h1 : r < y) : 2 * (y % r) < y := by
  have e := Int.mul_ediv_add_emod y r
  have a := Int.emod_lt_of_pos y h0
  have b : 1 ≤ y / r := (Int.le_ediv_iff_mul_le h0).mpr (by omega)
  have d : r * 1 ≤ r * (y / r) := Int.mul_le_mul_of_nonneg_left b (by omega)
  omega
theorem l_X3_cd {a b G : Int} (K : ∀ y st o9 o10, az_E sc az_G 160 zX3_commonDivisor_44 [some (.inr (.inl (a))), none, some (.inr (.inl (b))), none, some (.inr (.inl (G))), none, some (.inr (.inl (y))), none, some (.inl (st)), o9, o10] [] m Q) : ∀ (k : Nat) (x y st : Int) (o9 o10 : Option aV), 0 ≤ x → 0 ≤ y → y < 2 ^ k → 0 ≤ st → st + 2 * k ≤ 100 → pG x y = G → az_E sc az_G 160 zX3_commonDivisor_9 [some (.inr (.inl (a))), none, some (.inr (.inl (b))), none, some (.inr (.inl (x))), none, some (.inr (.inl (y))), none, some (.inl (st)), o9, o10] [] m Q := by
  intro k
  induction k with
  | zero =>
    intro x y st o9 o10 hx hy hk hs hst hG
    have e : y = 0 := by
      rw [Int.pow_zero] at hk
      omega
    subst e
    rw [pG_0 hx] at hG
    subst hG
    have hcm := az_cmp_b 0 0
    refine r_iload rfl ?_
    refine r_bipush ?_
    refine r_icmp_ge kX3_commonDivisor_44 (fun c1 => ?_) (fun c1 => ?_)
    · exact K _ _ _ _
    · refine r_lload rfl ?_
      refine r_lconst0 ?_
      refine r_lcmp ?_
      refine r_if_eq kX3_commonDivisor_44 (fun c2 => ?_) (fun c2 => absurd c2 (by omega))
      exact K _ _ _ _
  | succ k ih =>
    intro x y st o9 o10 hx hy hk hs hst hG
    have hcm := az_cmp_b y 0
    have hst2 : st + 2 * (k : Int) + 2 ≤ 100 := by omega
    by_cases e : y = 0
    · subst e
      rw [pG_0 hx] at hG
      subst hG
      refine r_iload rfl ?_
      refine r_bipush ?_
      refine r_icmp_ge kX3_commonDivisor_44 (fun c1 => absurd c1 (by omega)) (fun c1 => ?_)
      refine r_lload rfl ?_
      refine r_lconst0 ?_
      refine r_lcmp ?_
      refine r_if_eq kX3_commonDivisor_44 (fun c2 => ?_) (fun c2 => absurd c2 (by omega))
      exact K _ _ _ _
    · have h1 : x % y < y := Int.emod_lt_of_pos x (by omega)
      have h2 : 0 ≤ x % y := Int.emod_nonneg x e
      have hG2 : pG y (x % y) = G := by rw [pG_s hx (by omega)]; exact hG
      refine r_iload rfl ?_
      refine r_bipush ?_
      refine r_icmp_ge kX3_commonDivisor_44 (fun c1 => absurd c1 (by omega)) (fun c1 => ?_)
      refine r_lload rfl ?_
      refine r_lconst0 ?_
      refine r_lcmp ?_
      refine r_if_eq kX3_commonDivisor_44 (fun c2 => absurd c2 (by omega)) (fun c2 => ?_)
      refine r_lload rfl ?_
      refine r_lload rfl ?_
      refine r_lrem (by omega) (az_modn hx) ?_
      refine r_lstore (Nat.le_of_ble_eq_true rfl) rfl ?_
      refine r_lload rfl ?_
      refine r_lstore (Nat.le_of_ble_eq_true rfl) rfl ?_
      refine r_lload rfl ?_
      refine r_lstore (Nat.le_of_ble_eq_true rfl) rfl ?_
      refine r_iinc rfl (az_wid (by omega) (by omega)) rfl ?_
      refine r_goto kX3_commonDivisor_9 ?_
      skip
      obtain ⟨r, hr⟩ : ∃ r, r = x % y := ⟨_, rfl⟩
      rw [← hr] at h1 h2 hG2 ⊢
      have hcm := az_cmp_b r 0
      by_cases e2 : r = 0
      · subst e2
        rw [pG_0 hy] at hG2
        subst hG2
        refine r_iload rfl ?_
        refine r_bipush ?_
        refine r_icmp_ge kX3_commonDivisor_44 (fun c1 => absurd c1 (by omega)) (fun c1 => ?_)
        refine r_lload rfl ?_
        refine r_lconst0 ?_
        refine r_lcmp ?_
        refine r_if_eq kX3_commonDivisor_44 (fun c2 => ?_) (fun c2 => absurd c2 (by omega))
        exact K _ _ _ _
      · have h3 : y % r < r := Int.emod_lt_of_pos y (by omega)
        have h4 : 0 ≤ y % r := Int.emod_nonneg y e2
        have hh := az_half (y := y) (r := r) (by omega) h1
        have hk2 : y % r < 2 ^ k := by
          rw [Int.pow_succ] at hk
          omega
        refine r_iload rfl ?_
        refine r_bipush ?_
        refine r_icmp_ge kX3_commonDivisor_44 (fun c1 => absurd c1 (by omega)) (fun c1 => ?_)
        refine r_lload rfl ?_
        refine r_lconst0 ?_
        refine r_lcmp ?_
        refine r_if_eq kX3_commonDivisor_44 (fun c2 => absurd c2 (by omega)) (fun c2 => ?_)
        refine r_lload rfl ?_
        refine r_lload rfl ?_
        refine r_lrem (by omega) (az_modn hy) ?_
        refine r_lstore (Nat.le_of_ble_eq_true rfl) rfl ?_
        refine r_lload rfl ?_
        refine r_lstore (Nat.le_of_ble_eq_true rfl) rfl ?_
        refine r_lload rfl ?_
        refine r_lstore (Nat.le_of_ble_eq_true rfl) rfl ?_
        refine r_iinc rfl (az_wid (by omega) (by omega)) rfl ?_
        refine r_goto kX3_commonDivisor_9 ?_
        exact ih r (y % r) (st + 1 + 1) _ _ h2 h4 hk2 (by omega) (by omega) (by rw [pG_s hy (by omega)]; exact hG2)
theorem c_X3_commonDivisor {a : Int} (h0 : 0 ≤ a) : az_CL sc 160 [.inr (.inl a), .inr (.inl 1000000)] m (pG a 1000000) m := by
  have hG := pG_pos (x := a) (y := 1000000) (by decide)
  refine r_lload_n rfl ?_
  refine r_lstore (Nat.le_of_ble_eq_true rfl) rfl ?_
  refine r_lload_n rfl ?_
  refine r_lstore (Nat.le_of_ble_eq_true rfl) rfl ?_
  refine r_iconst ?_
  refine r_istore (Nat.le_of_ble_eq_true rfl) rfl ?_
  skip
  refine l_X3_cd (G := pG a 1000000) (fun y st o9 o10 => ?_) 20 a 1000000 0 _ _ h0 (by decide) (by decide) (by decide) (by decide) rfl
  refine r_lconst1 ?_
  refine r_lload rfl ?_
  refine r_maxL (z := pG a 1000000) (Nat.le_of_ble_eq_true rfl) (by split <;> omega) ?_
  refine r_lret rfl ?_
  exact ⟨rfl, rfl⟩
theorem c_X7_alone {g cc wh : Int} (hI : iB m) : az_C sc az_G 161 [.inr (.inr 20), .inl g, .inl cc, .inl wh] m (qS m (if m 279 7 = 0 then -1000002 else if (0 ≤ g ∧ g ≤ m 284 2 - 1) ∧ (0 ≤ cc ∧ cc ≤ 10) ∧ (0 ≤ wh ∧ wh ≤ 1) then pAlone (m 284) g cc wh else -1000001) (m 19 9)) := by
  obtain ⟨hB, hN, hz, hz1, hz2⟩ := hI
  have hn := nOK_2 hN
  have h10 : m 22 10 = m 284 2 := hB.1.2.2.1
  by_cases hb : m 279 7 = 0
  · rw [if_pos hb]
    refine r_aload_n rfl ?_
    refine r_getR g_19 rfl ?_
    refine r_getZx g_22 (hz) ?_
    refine r_if_ne kX7_alone_13 (fun c1 => absurd c1 (by omega)) (fun c1 => ?_)
    refine r_ldcI ?_
    refine r_iret rfl ?_
    exact ⟨rfl, frC_r m, rfl⟩
  rw [if_neg hb]
  by_cases hg : (0 ≤ g ∧ g ≤ m 284 2 - 1) ∧ (0 ≤ cc ∧ cc ≤ 10) ∧ (0 ≤ wh ∧ wh ≤ 1)
  · rw [if_pos hg]
    have hZa := pAl_b hN hg.1.1 (by omega) hg.2.1 (k := 6) (by omega) (by omega)
    obtain ⟨w, hw⟩ : ∃ x, x = (pAl (m 284) g cc 6).1 := ⟨_, rfl⟩
    obtain ⟨u, hu⟩ : ∃ x, x = (pAl (m 284) g cc 6).2 := ⟨_, rfl⟩
    rw [← hw, ← hu] at hZa
    have hwu : (0 ≤ w ∧ w ≤ 240000000) ∧ u = 1000000 := by
      unfold pAlB at hZa
      omega
    have hv : pAlone (m 284) g cc wh = if wh = 0 then w / pG w 1000000 else 1000000 / pG w 1000000 := by
      unfold pAlone
      rw [← hw, ← hu, hwu.2]
    rw [hv]
    have hGp : 0 < pG w 1000000 := pG_pos (by decide)
    have hd1 : 0 ≤ w / pG w 1000000 ∧ w / pG w 1000000 ≤ w := ⟨Int.ediv_nonneg hwu.1.1 (by omega), Int.ediv_le_self _ hwu.1.1⟩
    have hd2 : 0 ≤ 1000000 / pG w 1000000 ∧ 1000000 / pG w 1000000 ≤ 1000000 := ⟨Int.ediv_nonneg (by decide) (by omega), Int.ediv_le_self _ (by decide)⟩
    have ht1 : w.tdiv (pG w 1000000) = w / pG w 1000000 := Int.tdiv_eq_ediv_of_nonneg (by omega)
    have ht2 : (1000000 : Int).tdiv (pG w 1000000) = 1000000 / pG w 1000000 := Int.tdiv_eq_ediv_of_nonneg (by decide)
    have H : ∀ m1, (∀ x, (x < 235 ∨ 241 < x) → m1 x = m x) → ∀ x, x = (if wh = 0 then w else 1000000) → az_E sc az_G 161 zX7_alone_93 [some (.inr (.inr 20)), some (.inl (g)), some (.inl (cc)), some (.inl (wh)), some (.inr (.inl (w))), none, some (.inr (.inl (pG w 1000000))), none] [.inr (.inl x)] m1 (qS m (if wh = 0 then w / pG w 1000000 else 1000000 / pG w 1000000) (m 19 9)) := by
      intro m1 hf x hx
      by_cases hw0 : wh = 0
      · rw [if_pos hw0] at hx ⊢
        subst hx
        refine r_lload rfl ?_
        refine r_ldiv (by omega) ((congrArg az_wl ht1).trans (az_wlid (by omega) (by omega))) ?_
        first | refine r_l2i (az_wid (by omega) (by omega)) ?_ | refine r_l2i rfl ?_
        refine r_iret rfl ?_
        exact ⟨rfl, frC_d (fun x hx => hf x (by omega)), congrFun (hf 19 (by decide)) _⟩
      · rw [if_neg hw0] at hx ⊢
        subst hx
        refine r_lload rfl ?_
        refine r_ldiv (by omega) ((congrArg az_wl ht2).trans (az_wlid (by omega) (by omega))) ?_
        first | refine r_l2i (az_wid (by omega) (by omega)) ?_ | refine r_l2i rfl ?_
        refine r_iret rfl ?_
        exact ⟨rfl, frC_d (fun x hx => hf x (by omega)), congrFun (hf 19 (by decide)) _⟩
    have hma : ∀ m1, (∀ x, (x < 235 ∨ 241 < x) → m1 x = m x) → dD m1 (m 284) (pThr (m 284)) (pPrice (m 284)) (m 284 0) → az_CL sc 159 [.inr (.inr 235), .inr (.inr 23), .inl g, .inl cc] m1 w m1 := fun m1 hf hD => by
      rw [hw]
      exact c_X3_meanAlone (bR_fr hB (fun x a b => hf x (by omega))) hN (hD.2.2.2.1 g hg.1.1 (by omega)).2.1 hg.1.1 (by omega) hg.2.1
    refine r_aload_n rfl ?_
    refine r_getR g_19 rfl ?_
    refine r_getZx g_22 (hz) ?_
    refine r_if_ne kX7_alone_13 (fun c1 => ?_) (fun c1 => absurd c1 (by omega))
    refine r_aload_n rfl ?_
    refine r_getR g_19 rfl ?_
    refine r_iload_n rfl ?_
    refine r_cV2I g_22 rfl (Nat.le_of_ble_eq_true rfl) (Nat.le_of_ble_eq_true rfl) (c_X1_has h10) ?_
    refine r_if_eq kX7_alone_42 (fun c2 => absurd c2 (by omega)) (fun c2 => ?_)
    refine r_iload_n rfl ?_
    refine r_if_lt kX7_alone_42 (fun c3 => absurd c3 (by omega)) (fun c3 => ?_)
    refine r_iload_n rfl ?_
    refine r_bipush ?_
    refine r_icmp_gt kX7_alone_42 (fun c4 => absurd c4 (by omega)) (fun c4 => ?_)
    refine r_iload_n rfl ?_
    refine r_iconst ?_
    refine r_cS2I (by decide) (Nat.le_of_ble_eq_true rfl) (Nat.le_of_ble_eq_true rfl) (c_X7_isOneOf _ _) ?_
    refine r_if_ne kX7_alone_45 (fun c5 => ?_) (fun c5 => absurd c5 (by omega))
    refine r_aload_n rfl ?_
    refine r_getR g_19 rfl ?_
    refine r_aload_n rfl ?_
    refine r_getR g_19 rfl ?_
    refine r_cV2 g_235 rfl (Nat.le_of_ble_eq_true rfl) (Nat.le_of_ble_eq_true rfl) (c_X2_open hB hN) (fun v_ m_ hq_ => ?_)
    obtain ⟨rfl, hf, hD⟩ := hq_
    refine r_aload_n rfl ?_
    refine r_getR g_19 rfl ?_
    refine r_aload_n rfl ?_
    refine r_getR g_19 rfl ?_
    refine r_iload_n rfl ?_
    refine r_iload_n rfl ?_
    refine r_cV4L g_234 rfl (Nat.le_of_ble_eq_true rfl) (Nat.le_of_ble_eq_true rfl) (hma _ hf hD) ?_
    refine r_lstore (Nat.le_of_ble_eq_true rfl) rfl ?_
    refine r_lload rfl ?_
    refine r_ldc2 ?_
    refine r_cS2L (by decide) (Nat.le_of_ble_eq_true rfl) (Nat.le_of_ble_eq_true rfl) (c_X3_commonDivisor hwu.1.1) ?_
    refine r_lstore (Nat.le_of_ble_eq_true rfl) rfl ?_
    refine r_iload_n rfl ?_
    refine r_if_ne kX7_alone_90 (fun c6 => ?_) (fun c6 => ?_)
    · refine r_ldc2 ?_
      exact H _ hf _ (by first | rw [if_pos (by omega)] | rw [if_neg (by omega)])
    · refine r_lload rfl ?_
      refine r_goto kX7_alone_93 ?_
      exact H _ hf _ (by first | rw [if_pos (by omega)] | rw [if_neg (by omega)])
  · rw [if_neg hg]
    refine r_aload_n rfl ?_
    refine r_getR g_19 rfl ?_
    refine r_getZx g_22 (hz) ?_
    refine r_if_ne kX7_alone_13 (fun c1 => ?_) (fun c1 => absurd c1 (by omega))
    refine r_aload_n rfl ?_
    refine r_getR g_19 rfl ?_
    refine r_iload_n rfl ?_
    refine r_cV2I g_22 rfl (Nat.le_of_ble_eq_true rfl) (Nat.le_of_ble_eq_true rfl) (c_X1_has h10) ?_
    refine r_if_eq kX7_alone_42 (fun c2 => ?_) (fun c2 => ?_)
    · refine r_ldcI ?_
      refine r_iret rfl ?_
      exact ⟨rfl, frC_r m, rfl⟩
    · refine r_iload_n rfl ?_
      refine r_if_lt kX7_alone_42 (fun c3 => ?_) (fun c3 => ?_)
      · refine r_ldcI ?_
        refine r_iret rfl ?_
        exact ⟨rfl, frC_r m, rfl⟩
      · refine r_iload_n rfl ?_
        refine r_bipush ?_
        refine r_icmp_gt kX7_alone_42 (fun c4 => ?_) (fun c4 => ?_)
        · refine r_ldcI ?_
          refine r_iret rfl ?_
          exact ⟨rfl, frC_r m, rfl⟩
        · refine r_iload_n rfl ?_
          refine r_iconst ?_
          refine r_cS2I (by decide) (Nat.le_of_ble_eq_true rfl) (Nat.le_of_ble_eq_true rfl) (c_X7_isOneOf _ _) ?_
          refine r_if_ne kX7_alone_45 (fun c5 => absurd c5 (by omega)) (fun c5 => ?_)
          refine r_ldcI ?_
          refine r_iret rfl ?_
          exact ⟨rfl, frC_r m, rfl⟩
/-! explained -/
theorem c_X3_isPaid {b : Nat} (hD : dD m f t c sp) (hA_0 : az_G[b]? = some (20, 40, [])) (hb : 19 ≤ b) : az_C sc az_G 163 [.inr (.inr 235), .inr (.inr (b + 1))] m (fun v m' => m' = m ∧ ((v = some (.inl 1) ∧ ∀ g, 0 ≤ g → g < f 2 → pPay f t c sp g = m b g) ∨ (v = some (.inl 0) ∧ ¬ ∀ g, 0 ≤ g → g < f 2 → pPay f t c sp g = m b g))) := by
  have hn := nOK_2 hD.2.2.2.2.2.1
  refine r_iconst ?_
  refine r_istore_n (Nat.le_of_ble_eq_true rfl) rfl ?_
  skip
  refine az_lop (α := Unit) (fun g _ => [some (.inr (.inr (235))), some (.inr (.inr (b + 1))), some (.inl (g))]) (fun _ => m) (fun g _ => ∀ j, 0 ≤ j → j < g → pPay f t c sp j = m b j) 0 (f 2) () hn.1 (fun j j0 j1 => by omega) (fun g a h0 h1 hp hK => ?_) (fun a hp => ?_)
  · refine r_iload_n rfl ?_
    refine r_aload_n rfl ?_
    refine r_getR g_234 rfl ?_
    refine r_getIx g_235 (hD.1) ?_
    refine r_icmp_ge kX3_isPaid_35 (fun c1 => absurd c1 (by omega)) (fun c1 => ?_)
    refine r_aload_n rfl ?_
    refine r_getR g_234 rfl ?_
    refine r_iload_n rfl ?_
    refine r_cV2I g_235 rfl (Nat.le_of_ble_eq_true rfl) (Nat.le_of_ble_eq_true rfl) (c_X2_pay hD h0 h1) ?_
    refine r_aload_n rfl ?_
    refine r_iload_n rfl ?_
    refine r_iald hA_0 rfl (by omega) (by omega) (by omega) ?_
    refine r_icmp_eq kX3_isPaid_29 (fun c2 => ?_) (fun c2 => ?_)
    · refine r_iinc rfl (az_wid (by omega) (by omega)) rfl ?_
      refine r_goto kX3_isPaid_2 ?_
      exact hK () (fun j j0 j1 => (if e : j = g then by rw [e]; omega else hp j j0 (by omega)))
    · refine r_iconst ?_
      refine r_zret rfl (by omega) ?_
      exact ⟨rfl, Or.inr ⟨rfl, fun q => by have := q g h0 h1; omega⟩⟩
  · refine r_iload_n rfl ?_
    refine r_aload_n rfl ?_
    refine r_getR g_234 rfl ?_
    refine r_getIx g_235 (hD.1) ?_
    refine r_icmp_ge kX3_isPaid_35 (fun c1 => ?_) (fun c1 => absurd c1 (by omega))
    refine r_iconst ?_
    refine r_zret rfl (by omega) ?_
    exact ⟨rfl, Or.inl ⟨rfl, hp⟩⟩
theorem c_X3_meetCommon {is : Int} (hD : dD m f t c sp) : az_C sc az_G 164 [.inr (.inr 235), .inl is] m (fun v m' => v = none ∧ (∀ x, x ≠ 244 → m' x = m x) ∧ ∀ g, 0 ≤ g → g < f 2 → m' 244 g = if is ≠ 0 ∨ m 244 g = t g then t g else -1000000) := by
  have hn := nOK_2 hD.2.2.2.2.2.1
  refine r_iconst ?_
  refine r_istore_n (Nat.le_of_ble_eq_true rfl) rfl ?_
  skip
  refine az_lop (α := aM) (fun g _ => [some (.inr (.inr (235))), some (.inl (is)), some (.inl (g))]) (fun a => a) (fun g a => (∀ x, x ≠ 244 → a x = m x) ∧ (∀ j, 0 ≤ j → j < g → a 244 j = if is ≠ 0 ∨ m 244 j = t j then t j else -1000000) ∧ ∀ j, g ≤ j → a 244 j = m 244 j) 0 (f 2) m hn.1 ⟨fun _ _ => rfl, fun j j0 j1 => by omega, fun _ _ => rfl⟩ (fun g a h0 h1 hp hK => ?_) (fun a hp => ?_)
  · obtain ⟨p1, p2, p3⟩ := hp
    have e6 : a 235 6 = f 2 := (congrFun (p1 235 (by decide)) _).trans hD.1
    have e41 : a 241 g = t g := (congrFun (p1 241 (by decide)) _).trans (dD_tt hD g h0 h1)
    have e44 := p3 g (Int.le_refl _)
    have hw : ∀ v, v = (if is ≠ 0 ∨ m 244 g = t g then t g else -1000000) → az_E sc az_G 164 zX3_meetCommon_2 [some (.inr (.inr (235))), some (.inl (is)), some (.inl (g + 1))] [] (az_up a 244 g v) (fun v m' => v = none ∧ (∀ x, x ≠ 244 → m' x = m x) ∧ ∀ g, 0 ≤ g → g < f 2 → m' 244 g = if is ≠ 0 ∨ m 244 g = t g then t g else -1000000) := fun v hv => by
      refine hK _ ⟨fun x hx => (az_up_b _ _ _ hx).trans (p1 x hx), fun j j0 j1 => az_up_eq (fun e => by rw [hv, e]) (fun e => p2 j j0 (by omega)), fun j j0 => (az_up_k _ _ (by omega)).trans (p3 j (by omega))⟩
    have hw2 : m 244 g = t g → az_E sc az_G 164 zX3_meetCommon_2 [some (.inr (.inr (235))), some (.inl (is)), some (.inl (g + 1))] [] a (fun v m' => v = none ∧ (∀ x, x ≠ 244 → m' x = m x) ∧ ∀ g, 0 ≤ g → g < f 2 → m' 244 g = if is ≠ 0 ∨ m 244 g = t g then t g else -1000000) := fun h => by
      have h2 := hw (m 244 g) (by rw [if_pos (Or.inr h)]; exact h)
      rw [az_up_same e44] at h2
      exact h2
    by_cases hi : is = 0
    · by_cases he : m 244 g = t g
      · refine r_iload_n rfl ?_
        refine r_aload_n rfl ?_
        refine r_getR g_234 rfl ?_
        refine r_getIx g_235 (e6) ?_
        refine r_icmp_ge kX3_meetCommon_67 (fun c1 => absurd c1 (by omega)) (fun c1 => ?_)
        refine r_iload_n rfl ?_
        refine r_if_eq kX3_meetCommon_35 (fun c2 => ?_) (fun c2 => absurd c2 (by omega))
        refine r_aload_n rfl ?_
        refine r_getR g_234 rfl ?_
        refine r_iload_n rfl ?_
        refine r_ialdx g_244 rfl (by omega) (by omega) (by omega) (e44) ?_
        refine r_aload_n rfl ?_
        refine r_getR g_234 rfl ?_
        refine r_getR g_235 rfl ?_
        refine r_iload_n rfl ?_
        refine r_ialdx g_241 rfl (by omega) (by omega) (by omega) (e41) ?_
        refine r_icmp_eq kX3_meetCommon_61 (fun c3 => ?_) (fun c3 => absurd c3 (by omega))
        refine r_iinc rfl (az_wid (by omega) (by omega)) rfl ?_
        refine r_goto kX3_meetCommon_2 ?_
        exact hw2 he
      · refine r_iload_n rfl ?_
        refine r_aload_n rfl ?_
        refine r_getR g_234 rfl ?_
        refine r_getIx g_235 (e6) ?_
        refine r_icmp_ge kX3_meetCommon_67 (fun c1 => absurd c1 (by omega)) (fun c1 => ?_)
        refine r_iload_n rfl ?_
        refine r_if_eq kX3_meetCommon_35 (fun c2 => ?_) (fun c2 => absurd c2 (by omega))
        refine r_aload_n rfl ?_
        refine r_getR g_234 rfl ?_
        refine r_iload_n rfl ?_
        refine r_ialdx g_244 rfl (by omega) (by omega) (by omega) (e44) ?_
        refine r_aload_n rfl ?_
        refine r_getR g_234 rfl ?_
        refine r_getR g_235 rfl ?_
        refine r_iload_n rfl ?_
        refine r_ialdx g_241 rfl (by omega) (by omega) (by omega) (e41) ?_
        refine r_icmp_eq kX3_meetCommon_61 (fun c3 => absurd c3 (by omega)) (fun c3 => ?_)
        refine r_aload_n rfl ?_
        refine r_getR g_234 rfl ?_
        refine r_iload_n rfl ?_
        refine r_ldcI ?_
        refine r_iast g_244 (by decide) (by omega) (by omega) ?_
        refine r_iinc rfl (az_wid (by omega) (by omega)) rfl ?_
        refine r_goto kX3_meetCommon_2 ?_
        exact hw _ (by rw [if_neg (by omega)])
    · refine r_iload_n rfl ?_
      refine r_aload_n rfl ?_
      refine r_getR g_234 rfl ?_
      refine r_getIx g_235 (e6) ?_
      refine r_icmp_ge kX3_meetCommon_67 (fun c1 => absurd c1 (by omega)) (fun c1 => ?_)
      refine r_iload_n rfl ?_
      refine r_if_eq kX3_meetCommon_35 (fun c2 => absurd c2 (by omega)) (fun c2 => ?_)
      refine r_aload_n rfl ?_
      refine r_getR g_234 rfl ?_
      refine r_iload_n rfl ?_
      refine r_aload_n rfl ?_
      refine r_getR g_234 rfl ?_
      refine r_getR g_235 rfl ?_
      refine r_iload_n rfl ?_
      refine r_ialdx g_241 rfl (by omega) (by omega) (by omega) (e41) ?_
      refine r_iast g_244 (by decide) (by omega) (by omega) ?_
      refine r_goto kX3_meetCommon_61 ?_
      refine r_iinc rfl (az_wid (by omega) (by omega)) rfl ?_
      refine r_goto kX3_meetCommon_2 ?_
      exact hw _ (by rw [if_pos (Or.inl hi)])
  · obtain ⟨p1, p2, p3⟩ := hp
    have e6 : a 235 6 = f 2 := (congrFun (p1 235 (by decide)) _).trans hD.1
    refine r_iload_n rfl ?_
    refine r_aload_n rfl ?_
    refine r_getR g_234 rfl ?_
    refine r_getIx g_235 (e6) ?_
    refine r_icmp_ge kX3_meetCommon_67 (fun c1 => ?_) (fun c1 => absurd c1 (by omega))
    refine r_vret rfl ?_
    exact ⟨rfl, p1, p2⟩
def qEx (m : aM) (f c it : Int → Int) (sp : Int) : Option aV → aM → Prop := fun v m' => fd3 m m' ∧ (∀ k, v = some (.inl (pExp f c it sp k).1)) ∧ ∀ k, 0 ≤ k → k < f 2 → m' 244 k = (pExp f c it sp k).2
theorem c_X3_explain {b : Nat} {it : Int → Int} (hD : dD m f t c sp) (hA_0 : az_G[b]? = some (20, 40, [])) (hb : 245 ≤ b) (hit : ∀ g, 0 ≤ g → g < f 2 → m b g = it g) : az_C sc az_G 165 [.inr (.inr 235), .inr (.inr (b + 1))] m (qEx m f c it sp) := by
  have hN := hD.2.2.2.2.2.1
  have hn := nOK_2 hN
  have hsb := pSev_b hn.1 hn.2
  refine r_aload_n rfl ?_
  refine r_cV1 g_234 rfl (Nat.le_of_ble_eq_true rfl) (Nat.le_of_ble_eq_true rfl) (c_X3_forgetCommon) (fun v_ m_ hq_ => ?_)
  obtain ⟨rfl, hf1, hc1⟩ := hq_; have e6 : m_ 235 6 = f 2 := (congrFun (hf1 235 (by decide)) _).trans hD.1
  refine r_iconst ?_
  refine r_istore_n (Nat.le_of_ble_eq_true rfl) rfl ?_
  refine r_aload_n rfl ?_
  refine r_cV1I g_234 rfl (Nat.le_of_ble_eq_true rfl) (Nat.le_of_ble_eq_true rfl) (c_X3_countChoices e6 hn) ?_
  refine r_istore_n (Nat.le_of_ble_eq_true rfl) rfl ?_
  refine r_iconst ?_
  refine r_istore (Nat.le_of_ble_eq_true rfl) rfl ?_
  skip
  refine az_lop (α := aM × Int) (fun x a => [some (.inr (.inr (235))), some (.inr (.inr (b + 1))), some (.inl (a.2)), some (.inl (pSev (f 2))), some (.inl (x))]) (fun a => a.1) (fun x a => fd3 m a.1 ∧ (∀ k, a.2 = (az_F (pExS f c it sp k) (0, -1000000) x).1) ∧ (∀ k, 0 ≤ k → k < f 2 → a.1 244 k = (az_F (pExS f c it sp k) (0, -1000000) x).2) ∧ 0 ≤ a.2 ∧ a.2 ≤ x) 0 (pSev (f 2)) (m_, 0) (by omega) ⟨fd3_k hf1, fun _ => rfl, fun k k0 k1 => hc1 k k0 (by omega), by dsimp only; omega⟩ (fun x a h0 h1 hp hK => ?_) (fun a hp => ?_)
  · obtain ⟨m1, n⟩ := a
    obtain ⟨p1, p2, p3, p4⟩ := hp
    dsimp only at p1 p2 p3 p4 ⊢
    have hS := fun k => az_FS (pExS f c it sp k) (0, -1000000) h0
    have e6 : m1 235 6 = f 2 := (congrFun (p1 235 (by decide) (by decide) (by decide)) _).trans hD.1
    have hA : ¬ pPaid f c it sp x → ∀ m2, fd3 m1 m2 → m2 244 = m1 244 → az_E sc az_G 165 zX3_explain_14 [some (.inr (.inr (235))), some (.inr (.inr (b + 1))), some (.inl (n)), some (.inl (pSev (f 2))), some (.inl (x + 1))] [] m2 (qEx m f c it sp) := by
      intro hr m2 hf2 h44
      refine hK (m2, n) ⟨fd3_t p1 hf2, fun k => ?_, fun k k0 k1 => ?_, by dsimp only; omega⟩
      · rw [hS k, pExS_0 hr]
        exact p2 k
      · rw [hS k, pExS_0 hr]
        dsimp only
        rw [h44]
        exact p3 k k0 k1
    have hBB : pPaid f c it sp x → ∀ m2, fd3 m1 m2 → (∀ k, 0 ≤ k → k < f 2 → m2 244 k = if n = 0 ∨ m1 244 k = pDg (f 2) x k then pDg (f 2) x k else -1000000) → az_E sc az_G 165 zX3_explain_14 [some (.inr (.inr (235))), some (.inr (.inr (b + 1))), some (.inl (n + 1)), some (.inl (pSev (f 2))), some (.inl (x + 1))] [] m2 (qEx m f c it sp) := by
      intro hr m2 hf2 h44
      refine hK (m2, n + 1) ⟨fd3_t p1 hf2, fun k => ?_, fun k k0 k1 => ?_, by dsimp only; omega⟩
      · rw [hS k, pExS_1 hr]
        dsimp only
        rw [← p2 k]
      · rw [hS k, pExS_1 hr]
        dsimp only
        rw [h44 k k0 k1, p3 k k0 k1, ← p2 k, if_pos k0]
    have hH : ∀ m2 y, (y = 1 ∧ n = 0 ∨ y = 0 ∧ n ≠ 0) → pPaid f c it sp x → fd3 m1 m2 → m2 244 = m1 244 → dD m2 f (pDg (f 2) x) c sp → az_E sc az_G 165 zX3_explain_44 [some (.inr (.inr (235))), some (.inr (.inr (b + 1))), some (.inl (n)), some (.inl (pSev (f 2))), some (.inl (x))] [.inl y, .inr (.inr 235)] m2 (qEx m f c it sp) := by
      intro m2 y hy hpd hf2 h44 hD2
      refine r_cV2 g_234 rfl (Nat.le_of_ble_eq_true rfl) (Nat.le_of_ble_eq_true rfl) (c_X3_meetCommon hD2) (fun v_44 m_44 hq_44 => ?_)
      obtain ⟨rfl, hf_44, hc_44⟩ := hq_44
      refine r_iinc rfl (az_wid (by omega) (by omega)) rfl ?_
      refine r_iinc rfl (az_wid (by omega) (by omega)) rfl ?_
      refine r_goto kX3_explain_14 ?_
      refine hBB hpd _ (fd3_t hf2 (fd3_k hf_44)) (fun k k0 k1 => ?_)
      rw [hc_44 k k0 k1, h44]
      have e1 : (y ≠ 0 ∨ m1 244 k = pDg (f 2) x k) ↔ (n = 0 ∨ m1 244 k = pDg (f 2) x k) := by omega
      simp only [e1]
    refine r_iload rfl ?_
    refine r_iload_n rfl ?_
    refine r_icmp_ge kX3_explain_56 (fun c1 => absurd c1 (by omega)) (fun c1 => ?_)
    refine r_aload_n rfl ?_
    refine r_iload rfl ?_
    refine r_cV2 g_234 rfl (Nat.le_of_ble_eq_true rfl) (Nat.le_of_ble_eq_true rfl) (c_X3_choose e6 hn (by omega)) (fun v_23 m_23 hq_23 => ?_)
    obtain ⟨rfl, hf_23, ht_23⟩ := hq_23; have hD_23 := dD_3 hD (fd3_t p1 (fd3_c hf_23)) ht_23 (tOK_dg f x); have hb2 : m_23 b = m b := (hf_23 b (by omega)).trans (p1 b (by omega) (by omega) (by omega))
    refine r_aload_n rfl ?_
    refine r_aload_n rfl ?_
    refine r_cV2 g_234 rfl (Nat.le_of_ble_eq_true rfl) (Nat.le_of_ble_eq_true rfl) (c_X3_isPaid hD_23 hA_0 (by omega)) (fun v_28 m_28 hq_28 => ?_)
    obtain ⟨rfl, hq2⟩ := hq_28
    skip
    rcases hq2 with ⟨rfl, hq3⟩ | ⟨rfl, hq3⟩
    · have hpd : pPaid f c it sp x := fun g g0 g1 => by rw [hq3 g g0 g1, hb2]; exact hit g g0 g1
      refine r_if_eq kX3_explain_50 (fun c1 => absurd c1 (by decide)) (fun c1 => ?_)
      refine r_aload_n rfl ?_
      refine r_iload_n rfl ?_
      refine r_if_ne kX3_explain_43 (fun c2 => ?_) (fun c2 => ?_)
      · refine r_iconst ?_
        exact hH _ _ (by omega) hpd (fd3_c hf_23) (hf_23 244 (by decide)) hD_23
      · refine r_iconst ?_
        refine r_goto kX3_explain_44 ?_
        exact hH _ _ (by omega) hpd (fd3_c hf_23) (hf_23 244 (by decide)) hD_23
    · have hpd : ¬ pPaid f c it sp x := fun q => hq3 (fun g g0 g1 => by rw [q g g0 g1, hb2]; exact (hit g g0 g1).symm)
      refine r_if_eq kX3_explain_50 (fun c1 => ?_) (fun c1 => absurd c1 (by decide))
      refine r_iinc rfl (az_wid (by omega) (by omega)) rfl ?_
      refine r_goto kX3_explain_14 ?_
      exact hA hpd _ (fd3_c hf_23) (hf_23 244 (by decide))
  · obtain ⟨m1, n⟩ := a
    obtain ⟨p1, p2, p3, p4⟩ := hp
    dsimp only at p1 p2 p3 p4 ⊢
    refine r_iload rfl ?_
    refine r_iload_n rfl ?_
    refine r_icmp_ge kX3_explain_56 (fun c1 => ?_) (fun c1 => absurd c1 (by omega))
    refine r_iload_n rfl ?_
    refine r_iret rfl ?_
    exact ⟨p1, fun k => az_oI (p2 k), p3⟩
theorem c_X7_explained {row k : Int} (hI : iD m) : az_C sc az_G 166 [.inr (.inr 20), .inl row, .inl k] m (qS m (pOr (pTl m row (p01 (k = -1 ∨ (0 ≤ k ∧ k ≤ m 284 2 - 1))) 2147483647).1 (if k < 0 then (pExp (m 284) (pPrice (m 284)) (pIt m row) (m 284 0) k).1 else (pExp (m 284) (pPrice (m 284)) (pIt m row) (m 284 0) k).2)) (pTl m row (p01 (k = -1 ∨ (0 ≤ k ∧ k ≤ m 284 2 - 1))) 2147483647).2) := by
  have hI0 := hI
  obtain ⟨hI1, hI2, hst⟩ := hI
  obtain ⟨hB, hN, hz, hz1, hz2⟩ := hI1
  have hn := nOK_2 hN
  have h10 : m 22 10 = m 284 2 := hB.1.2.2.1
  have H : ∀ good, good = p01 (k = -1 ∨ (0 ≤ k ∧ k ≤ m 284 2 - 1)) → az_E sc az_G 166 zX7_explained_23 [some (.inr (.inr 20)), some (.inl (row)), some (.inl (k)), none, none] [.inl good, .inl row, .inr (.inr 20)] m (qS m (pOr (pTl m row (p01 (k = -1 ∨ (0 ≤ k ∧ k ≤ m 284 2 - 1))) 2147483647).1 (if k < 0 then (pExp (m 284) (pPrice (m 284)) (pIt m row) (m 284 0) k).1 else (pExp (m 284) (pPrice (m 284)) (pIt m row) (m 284 0) k).2)) (pTl m row (p01 (k = -1 ∨ (0 ≤ k ∧ k ≤ m 284 2 - 1))) 2147483647).2) := by
    intro good hgo
    subst hgo
    by_cases hno : (pTl m row (p01 (k = -1 ∨ (0 ≤ k ∧ k ≤ m 284 2 - 1))) 2147483647).1 < 0
    · refine r_ldcw ?_
      refine r_cV4I g_19 rfl (Nat.le_of_ble_eq_true rfl) (Nat.le_of_ble_eq_true rfl) (c_X7_look hI0 (by decide)) ?_
      refine r_istore_n (Nat.le_of_ble_eq_true rfl) rfl ?_
      refine r_iload_n rfl ?_
      refine r_if_eq kX7_explained_36 (fun c1 => absurd c1 (by omega)) (fun c1 => ?_)
      refine r_iload_n rfl ?_
      refine r_iret rfl ?_
      exact ⟨az_oI (by unfold pOr; rw [if_pos hno]), frC_st _ _, az_upx _ _ _ _⟩
    · have hzz := pTl_z hno
      have hg := p01_e (pTl_g hno)
      obtain ⟨t1, t2, t3, t4, t5⟩ := pTl_in hzz
      have hrr := rb_ref t2.1 (show row < 8 by omega)
      obtain ⟨hR_0, hR_1⟩ := rb_0 t2.1 (show row < 8 by omega)
      have hrb := rb_b t2.1 (show row < 8 by omega)
      have hs := iRow_s hI2 t2.1 (show row < 8 by omega)
      have hit : ∀ g, 0 ≤ g → g < m 284 2 → m (rb row + 1) g = m 282 (40 * row + g) := fun g g0 g1 => (hI2.2 row t2.1 (by omega)).2 (by omega) |>.2.2 g g0 (by omega)
      obtain ⟨m1, hm1⟩ : ∃ x, x = az_up m 19 9 (pTl m row (p01 (k = -1 ∨ (0 ≤ k ∧ k ≤ m 284 2 - 1))) 2147483647).2 := ⟨_, rfl⟩
      have hf1 : frC m m1 := by rw [hm1]; exact frC_st _ _
      have hs1 : m1 19 9 = (pTl m row (p01 (k = -1 ∨ (0 ≤ k ∧ k ≤ m 284 2 - 1))) 2147483647).2 := by rw [hm1, az_upx]
      have hB1 : bR m1 22 (m 284) := bR_fr hB (fun x a b => hf1.1 x (by omega) (by omega))
      have hlk : az_CI sc 128 [.inr (.inr 20), .inl row, .inl (p01 (k = -1 ∨ (0 ≤ k ∧ k ≤ m 284 2 - 1))), .inl 2147483647] m (pTl m row (p01 (k = -1 ∨ (0 ≤ k ∧ k ≤ m 284 2 - 1))) 2147483647).1 m1 := by rw [hm1]; exact c_X7_look hI0 (by decide)
      refine r_ldcw ?_
      refine r_cV4I g_19 rfl (Nat.le_of_ble_eq_true rfl) (Nat.le_of_ble_eq_true rfl) (hlk) ?_
      refine r_istore_n (Nat.le_of_ble_eq_true rfl) rfl ?_
      refine r_iload_n rfl ?_
      refine r_if_eq kX7_explained_36 (fun c1 => ?_) (fun c1 => absurd c1 (by omega))
      refine r_aload_n rfl ?_
      refine r_getR g_19 rfl ?_
      refine r_aload_n rfl ?_
      refine r_getR g_19 rfl ?_
      refine r_cV2 g_235 rfl (Nat.le_of_ble_eq_true rfl) (Nat.le_of_ble_eq_true rfl) (c_X2_open hB1 hN) (fun v_44 m_44 hq_44 => ?_)
      obtain ⟨rfl, hf_44, hD_44⟩ := hq_44
      refine r_aload_n rfl ?_
      refine r_getR g_19 rfl ?_
      refine r_aload_n rfl ?_
      refine r_getR g_19 rfl ?_
      refine r_iload_n rfl ?_
      refine r_aald g_20 (by decide) (by omega) (by omega) (by assumption) ?_
      refine r_getR hR_0 rfl ?_
      refine r_cV2 g_234 rfl (Nat.le_of_ble_eq_true rfl) (Nat.le_of_ble_eq_true rfl) (c_X3_explain (it := pIt m row) hD_44 hR_1 (by omega) (fun g g0 g1 => by rw [hf_44 _ (by omega), hf1.1 _ (by omega) (by omega)]; exact hit g g0 g1)) (fun v_60 m_60 hq_60 => ?_)
      obtain ⟨hf_60, hv_60, hc_60⟩ := hq_60; have hv := hv_60 k; subst hv
      refine r_istore (Nat.le_of_ble_eq_true rfl) rfl ?_
      refine r_iload_n rfl ?_
      refine r_iconst ?_
      refine r_icmp_ne kX7_explained_75 (fun c2 => ?_) (fun c2 => ?_)
      · refine r_aload_n rfl ?_
        refine r_getR g_19 rfl ?_
        refine r_getR g_234 rfl ?_
        refine r_iload_n rfl ?_
        refine r_ialdx g_244 rfl (by omega) (by omega) (by omega) (hc_60 _ (by omega) (by omega)) ?_
        refine r_iret rfl ?_
        exact ⟨az_oI (by unfold pOr; rw [if_neg hno]; first | rw [if_pos (by omega)] | rw [if_neg (by omega)]), frC_t hf1 (frC_t (frC_d (fun x hx => hf_44 x (by omega))) (frC_3 hf_60)), (congrFun (hf_60 19 (by decide) (by decide) (by decide)) _).trans ((congrFun (hf_44 19 (by decide)) _).trans hs1)⟩
      · refine r_iload rfl ?_
        refine r_goto kX7_explained_84 ?_
        refine r_iret rfl ?_
        exact ⟨az_oI (by unfold pOr; rw [if_neg hno]; first | rw [if_pos (by omega)] | rw [if_neg (by omega)]), frC_t hf1 (frC_t (frC_d (fun x hx => hf_44 x (by omega))) (frC_3 hf_60)), (congrFun (hf_60 19 (by decide) (by decide) (by decide)) _).trans ((congrFun (hf_44 19 (by decide)) _).trans hs1)⟩
  refine r_aload_n rfl ?_
  refine r_iload_n rfl ?_
  refine r_iload_n rfl ?_
  refine r_iconst ?_
  refine r_icmp_eq kX7_explained_18 (fun c1 => ?_) (fun c1 => ?_)
  · refine r_iconst ?_
    refine r_goto kX7_explained_23 ?_
    exact H _ (by unfold p01; first | rw [if_pos (by omega)] | rw [if_neg (by omega)])
  · refine r_aload_n rfl ?_
    refine r_getR g_19 rfl ?_
    refine r_iload_n rfl ?_
    refine r_cV2I g_22 rfl (Nat.le_of_ble_eq_true rfl) (Nat.le_of_ble_eq_true rfl) (c_X1_has h10) ?_
    refine r_if_eq kX7_explained_22 (fun c2 => ?_) (fun c2 => ?_)
    · refine r_iconst ?_
      exact H _ (by unfold p01; first | rw [if_pos (by omega)] | rw [if_neg (by omega)])
    · refine r_iconst ?_
      refine r_goto kX7_explained_23 ?_
      exact H _ (by unfold p01; first | rw [if_pos (by omega)] | rw [if_neg (by omega)])
end CG
