/-! THE CLASS: sunset; what a row tells; worth, best, rounds -/
section CE
variable {sc : aX} {m : aM} {f t c : Int → Int} {sp : Int} {Q : Option aV → aM → Prop}
theorem az_up_same {m : aM} {a : Nat} {i v : Int} (h : m a i = v) : az_up m a i v = m := by
  funext b j
  unfold az_up
  split
  · next e => rw [e.1, e.2, h]
  · rfl
theorem up1_cell (m : aM) (a : Nat) (i v : Int) : az_up m a i v a = up1 (m a) i v := by
  funext j
  unfold az_up up1
  by_cases e : j = i
  · rw [if_pos ⟨rfl, e⟩, if_pos e]
  · rw [if_neg (fun q => e q.2), if_neg e]
/-- the guests pay -/
theorem l_X7_sunset {m2 : aM} (hN : nOK f) (hD : dD m2 f (pThr f) (pPrice f) (f 0)) (h10 : m2 22 10 = f 2) (hg : ∀ g, 0 ≤ g → g < f 2 → m2 27 g = f (24 + g) ∧ m2 28 g = f (28 + g)) (K : ∀ a, (∀ x, x ≠ 27 → x ≠ 28 → a x = m2 x) → (∀ g, 0 ≤ g → g < f 2 → a 27 g = pNP f g ∧ a 28 g = pND f g) → az_E sc az_G 111 zX7_sunset_98 [some (.inr (.inr 20)), some (.inl (f 2))] [] a Q) : az_E sc az_G 111 zX7_sunset_65 [some (.inr (.inr 20)), some (.inl (0))] [] m2 Q := by
  have hn := nOK_2 hN
  refine az_lop (α := aM) (fun g _ => [some (.inr (.inr 20)), some (.inl (g))]) (fun a => a) (fun g a => (∀ x, x ≠ 27 → x ≠ 28 → a x = m2 x) ∧ ∀ j, 0 ≤ j → j < f 2 → (j < g → a 27 j = pNP f j ∧ a 28 j = pND f j) ∧ (g ≤ j → a 27 j = f (24 + j) ∧ a 28 j = f (28 + j))) 0 (f 2) m2 hn.1 ⟨fun _ _ _ => rfl, fun j j0 j1 => ⟨fun h => by omega, fun _ => hg j j0 j1⟩⟩ (fun g a h0 h1 hp hK => ?_) (fun a hp => ?_)
  · obtain ⟨p1, p2⟩ := hp
    have hDa := dD_fr hD (fun x a b => p1 x (by omega) (by omega))
    have hP := pSP_b hN h0 h1
    have hG := nOK_g hN g h0 h1
    obtain ⟨q1, q2⟩ := (p2 g h0 h1).2 (Int.le_refl _)
    have e10 : a 22 10 = f 2 := (congrFun (p1 22 (by decide) (by decide)) _).trans h10
    have hpay : az_CI sc 107 [.inr (.inr 236), .inl g] a (pSP f g) a := c_X2_pay hDa h0 h1
    have e1 : (if f (24 + g) < pSP f g then f (24 + g) else pSP f g) = pPaidS f g := by
      unfold pPaidS
      (repeat' split) <;> omega
    have hch := c_X1_charge (sc := sc) h0 (show g < 4 by omega) q1 q2 hG.2.2.2.1 hG.2.2.2.2.1 (pay := pSP f g) (by omega)
    rw [e1] at hch
    refine r_iload_n rfl ?_
    refine r_aload_n rfl ?_
    refine r_getR g_19 rfl ?_
    refine r_getIx g_22 (e10) ?_
    refine r_icmp_ge kX7_sunset_98 (fun c1 => absurd c1 (by omega)) (fun c1 => ?_)
    refine r_aload_n rfl ?_
    refine r_getR g_19 rfl ?_
    refine r_iload_n rfl ?_
    refine r_aload_n rfl ?_
    refine r_getR g_19 rfl ?_
    refine r_iload_n rfl ?_
    refine r_cV2I g_235 rfl (Nat.le_of_ble_eq_true rfl) (Nat.le_of_ble_eq_true rfl) (hpay) ?_
    refine r_cV3V g_22 rfl (Nat.le_of_ble_eq_true rfl) (Nat.le_of_ble_eq_true rfl) (hch) ?_
    refine r_iinc rfl (az_wid (by omega) (by omega)) rfl ?_
    refine r_goto kX7_sunset_65 ?_
    skip
    refine hK _ ⟨fun x x1 x2 => ?_, fun j j0 j1 => ⟨fun h => ?_, fun h => ?_⟩⟩
    · rw [az_up_b _ _ _ x2, az_up_b _ _ _ x1]
      exact p1 x x1 x2
    · by_cases e : j = g
      · subst e
        exact ⟨(congrFun (az_up_b _ _ _ (by decide)) _).trans (az_upx _ _ _ _), az_upx _ _ _ _⟩
      · obtain ⟨r1, r2⟩ := (p2 j j0 j1).1 (by omega)
        exact ⟨((congrFun (az_up_b _ _ _ (by decide)) _).trans (az_up_k _ _ e)).trans r1, ((az_up_k _ _ e).trans (congrFun (az_up_b _ _ _ (by decide)) _)).trans r2⟩
    · obtain ⟨r1, r2⟩ := (p2 j j0 j1).2 (by omega)
      have e : j ≠ g := by omega
      exact ⟨((congrFun (az_up_b _ _ _ (by decide)) _).trans (az_up_k _ _ e)).trans r1, ((az_up_k _ _ e).trans (congrFun (az_up_b _ _ _ (by decide)) _)).trans r2⟩
  · obtain ⟨p1, p2⟩ := hp
    have e10 : a 22 10 = f 2 := (congrFun (p1 22 (by decide) (by decide)) _).trans h10
    refine r_iload_n rfl ?_
    refine r_aload_n rfl ?_
    refine r_getR g_19 rfl ?_
    refine r_getIx g_22 (e10) ?_
    refine r_icmp_ge kX7_sunset_98 (fun c1 => ?_) (fun c1 => absurd c1 (by omega))
    exact K a p1 (fun g g0 g1 => (p2 g g0 g1).1 g1)
theorem c_X7_sunset (hI : iB m) (hP : iP0 m) : az_C sc az_G 111 [.inr (.inr 20)] m (qC m (pSunset (m 279 7) (m 284))) := by
  obtain ⟨f, hff⟩ : ∃ f, f = m 284 := ⟨_, rfl⟩
  have hI0 := hI
  obtain ⟨hB, hN, hz, hz1, hz2⟩ := hI
  rw [← hff] at hB hN hz2 ⊢
  have hn := nOK_2 hN
  have h3 := nOK_3 hN
  have h4 := nOK_4 hN
  have hz7 : m 22 7 = 0 ∨ m 22 7 = 1 := by rw [hz]; exact hz1
  unfold pSunset
  by_cases hzz : m 279 7 = 0 ∨ f 4 < 6
  · rw [if_pos hzz]
    refine r_aload_n rfl ?_
    refine r_getR g_19 rfl ?_
    refine r_getZx g_22 (hz) ?_
    refine r_if_eq kX7_sunset_22 (fun c1 => ?_) (fun c1 => ?_)
    · refine r_ldcI ?_
      refine r_iret rfl ?_
      exact qC_0
    · refine r_aload_n rfl ?_
      refine r_getR g_19 rfl ?_
      refine r_getIx g_22 (hB.1.2.2.2.1) ?_
      refine r_bipush ?_
      refine r_icmp_ge kX7_sunset_25 (fun c2 => absurd c2 (by omega)) (fun c2 => ?_)
      refine r_ldcI ?_
      refine r_iret rfl ?_
      exact qC_0
  rw [if_neg hzz]
  by_cases h9 : f 3 = 999
  · rw [if_pos h9]
    refine r_aload_n rfl ?_
    refine r_getR g_19 rfl ?_
    refine r_getZx g_22 (hz) ?_
    refine r_if_eq kX7_sunset_22 (fun c1 => absurd c1 (by omega)) (fun c1 => ?_)
    refine r_aload_n rfl ?_
    refine r_getR g_19 rfl ?_
    refine r_getIx g_22 (hB.1.2.2.2.1) ?_
    refine r_bipush ?_
    refine r_icmp_ge kX7_sunset_25 (fun c2 => ?_) (fun c2 => absurd c2 (by omega))
    refine r_aload_n rfl ?_
    refine r_getR g_19 rfl ?_
    refine r_getIx g_22 (hB.1.2.2.2.2.1) ?_
    refine r_sipush ?_
    refine r_icmp_lt kX7_sunset_41 (fun c3 => absurd c3 (by omega)) (fun c3 => ?_)
    refine r_ldcI ?_
    refine r_iret rfl ?_
    exact qC_0
  rw [if_neg h9]
  refine r_aload_n rfl ?_
  refine r_getR g_19 rfl ?_
  refine r_getZx g_22 (hz) ?_
  refine r_if_eq kX7_sunset_22 (fun c1 => absurd c1 (by omega)) (fun c1 => ?_)
  refine r_aload_n rfl ?_
  refine r_getR g_19 rfl ?_
  refine r_getIx g_22 (hB.1.2.2.2.1) ?_
  refine r_bipush ?_
  refine r_icmp_ge kX7_sunset_25 (fun c2 => ?_) (fun c2 => absurd c2 (by omega))
  refine r_aload_n rfl ?_
  refine r_getR g_19 rfl ?_
  refine r_getIx g_22 (hB.1.2.2.2.2.1) ?_
  refine r_sipush ?_
  refine r_icmp_lt kX7_sunset_41 (fun c3 => ?_) (fun c3 => absurd c3 (by omega))
  refine r_aload_n rfl ?_
  refine r_getR g_19 rfl ?_
  refine r_aload_n rfl ?_
  refine r_getR g_19 rfl ?_
  refine r_cV2 g_40 rfl (Nat.le_of_ble_eq_true rfl) (Nat.le_of_ble_eq_true rfl) (c_X4_keep hP.1 hP.2 hz7) (fun v_49 m_49 hq_49 => ?_)
  obtain ⟨rfl, hK⟩ := hq_49; have hB1 := bR_fr hB (fun x a b => cK_lo hK hP x (by omega))
  refine r_aload_n rfl ?_
  refine r_getR g_19 rfl ?_
  refine r_aload_n rfl ?_
  refine r_getR g_19 rfl ?_
  refine r_cV2 g_235 rfl (Nat.le_of_ble_eq_true rfl) (Nat.le_of_ble_eq_true rfl) (c_X2_open hB1 hN) (fun v_60 m_60 hq_60 => ?_)
  obtain ⟨rfl, hO, hD⟩ := hq_60
  refine r_iconst ?_
  refine r_istore_n (Nat.le_of_ble_eq_true rfl) rfl ?_
  skip
  have hB2 := bR_fr hB1 (fun x a b => hO x (by omega))
  refine l_X7_sunset hN hD hB2.1.2.2.1 (fun g g0 g1 => ⟨(hB2.2.2 g g0 g1).2.2.2.1, (hB2.2.2 g g0 g1).2.2.2.2.1⟩) (fun a p1 p2 => ?_)
  obtain ⟨i1, i2, i3, i4, i5, i6, i7, i8⟩ := hB2.1
  have e22 := p1 22 (by decide) (by decide)
  have e12 : a 22 12 = f 3 := (congrFun e22 _).trans i5
  have e10 : az_up a 22 12 (f 3 + 1) 22 10 = f 2 := (az_up_k _ _ (by decide)).trans ((congrFun e22 _).trans i3)
  have hda := c_X1_dawn (sc := sc) (b := 22) g_22 (by decide) e10 hn.1 hn.2
  obtain ⟨m5, hm5⟩ : ∃ x, x = az_up (az_up (az_up (az_up a 22 12 (f 3 + 1)) 22 11 0) 22 15 0) 22 13 (pMask (fun _ => 1) (f 2)) := ⟨_, rfl⟩
  rw [← hm5] at hda
  have l5 : ∀ x, x ≠ 22 → m5 x = a x := fun x hx => by rw [hm5, az_up_b _ _ _ hx, az_up_b _ _ _ hx, az_up_b _ _ _ hx, az_up_b _ _ _ hx]
  have k5 : ∀ k, k ≠ 11 → k ≠ 12 → k ≠ 13 → k ≠ 15 → m5 22 k = m_60 22 k := fun k k1 k2 k3 k4 => by rw [hm5, az_up_k _ _ k3, az_up_k _ _ k4, az_up_k _ _ k1, az_up_k _ _ k2, e22]
  have hD5 := dD_fr hD (m' := m5) (fun x x0 x1 => (l5 x (by omega)).trans (p1 x (by omega) (by omega)))
  refine r_aload_n rfl ?_
  refine r_getR g_19 rfl ?_
  refine r_dupR ?_
  refine r_getIx g_22 (e12) ?_
  refine r_iconst ?_
  first | refine r_iadd (az_wid (by omega) (by omega)) ?_ | refine r_iaddw ?_
  refine r_putI g_22 (by decide) ?_
  refine r_aload_n rfl ?_
  refine r_getR g_19 rfl ?_
  refine r_cV1V g_22 rfl (Nat.le_of_ble_eq_true rfl) (Nat.le_of_ble_eq_true rfl) (hda) ?_
  refine r_aload_n rfl ?_
  refine r_getR g_19 rfl ?_
  refine r_cV1I g_235 rfl (Nat.le_of_ble_eq_true rfl) (Nat.le_of_ble_eq_true rfl) (c_X2_sum hD5) ?_
  refine r_iret rfl ?_
  skip
  have eo : ∀ j, j ≠ 3 → j ≠ 4 → j ≠ 5 → (j < 24 ∨ 40 ≤ j) → up1 (up1 (up1 (pSun f (f 2)) 3 (f 3 + 1)) 4 0) 5 0 j = f j := fun j j3 j4 j5 hj => by rw [up1_ne _ _ j5, up1_ne _ _ j4, up1_ne _ _ j3, pSun_o f (by omega) (by omega)]
  have es : ∀ j, 6 ≤ j → up1 (up1 (up1 (pSun f (f 2)) 3 (f 3 + 1)) 4 0) 5 0 j = pSun f (f 2) j := fun j hj => by rw [up1_ne _ _ (by omega), up1_ne _ _ (by omega), up1_ne _ _ (by omega)]
  refine qC_1 (cM_of hI0 hP hK (fun x hx hx2 => ?_) ?_ ⟨⟨?_, ?_, ?_, ?_, ?_, ?_, ?_, ?_⟩, fun k k0 k1 => ?_, fun k k0 k1 => ?_⟩)
  · rw [l5 x (by omega), p1 x (by omega) (by omega), hO x (by omega)]
  · rw [k5 7 (by decide) (by decide) (by decide) (by decide), hO 22 (by decide), cK_lo hK hP 22 (by decide)]
  · rw [k5 8 (by decide) (by decide) (by decide) (by decide), eo 0 (by decide) (by decide) (by decide) (by decide)]; exact i1
  · rw [k5 9 (by decide) (by decide) (by decide) (by decide), eo 1 (by decide) (by decide) (by decide) (by decide)]; exact i2
  · rw [k5 10 (by decide) (by decide) (by decide) (by decide), eo 2 (by decide) (by decide) (by decide) (by decide)]; exact i3
  · rw [hm5, az_up_k _ _ (by decide), az_up_k _ _ (by decide), az_upx, up1_ne _ _ (by decide), up1_at]
  · rw [hm5, az_up_k _ _ (by decide), az_up_k _ _ (by decide), az_up_k _ _ (by decide), az_upx, up1_ne _ _ (by decide), up1_ne _ _ (by decide), up1_at]
  · rw [hm5, az_up_k _ _ (by decide), az_upx, up1_at]
  · rw [hm5, az_upx]
    unfold pThB
    rw [eo 2 (by decide) (by decide) (by decide) (by decide)]
    refine mask_cong (fun g g0 g1 => ?_)
    rw [es _ (by omega)]
    unfold pSun
    rw [if_neg (by omega), if_neg (by omega), if_pos (by omega)]
    rfl
  · rw [k5 14 (by decide) (by decide) (by decide) (by decide), pShB_c (eo 2 (by decide) (by decide) (by decide) (by decide)) (fun g g0 g1 => eo _ (by omega) (by omega) (by omega) (by omega))]; exact i8
  · rw [l5 _ (by decide), p1 _ (by decide) (by decide), eo _ (by omega) (by omega) (by omega) (by omega)]
    exact hB2.2.1 k k0 k1
  · rw [eo 2 (by decide) (by decide) (by decide) (by decide)] at k1
    obtain ⟨g1, g2, g3, g4, g5, g6⟩ := hB2.2.2 k k0 k1
    obtain ⟨r1, r2⟩ := p2 k k0 k1
    refine ⟨?_, ?_, ?_, ?_, ?_, fun h => ?_⟩
    · rw [l5 _ (by decide), p1 _ (by decide) (by decide), eo _ (by omega) (by omega) (by omega) (by omega)]; exact g1
    · rw [l5 _ (by decide), p1 _ (by decide) (by decide), eo _ (by omega) (by omega) (by omega) (by omega)]; exact g2
    · rw [l5 _ (by decide), p1 _ (by decide) (by decide), eo _ (by omega) (by omega) (by omega) (by omega)]; exact g3
    · rw [l5 _ (by decide), es _ (by omega)]
      refine r1.trans ?_
      unfold pSun
      rw [if_pos (by omega), show (24 : Int) + k - 24 = k by omega]
    · rw [l5 _ (by decide), es _ (by omega)]
      refine r2.trans ?_
      unfold pSun
      rw [if_neg (by omega), if_pos (by omega), show (28 : Int) + k - 28 = k by omega]
    · rw [es _ (by omega)] at h
      unfold pSun at h
      rw [if_neg (by omega), if_neg (by omega), if_pos (by omega)] at h
      exact absurd h (by decide)
/-! what a row tells -/
def frC (m m' : aM) : Prop := (∀ x, x ≠ 19 → (x < 234 ∨ 244 < x) → m' x = m x) ∧ (∀ k, k ≠ 9 → m' 19 k = m 19 k)
theorem frC_r (m : aM) : frC m m := ⟨fun _ _ _ => rfl, fun _ _ => rfl⟩
theorem frC_t {m m1 m2 : aM} (h1 : frC m m1) (h2 : frC m1 m2) : frC m m2 := ⟨fun b a1 a2 => (h2.1 b a1 a2).trans (h1.1 b a1 a2), fun k a1 => (h2.2 k a1).trans (h1.2 k a1)⟩
theorem frC_st (m : aM) (x : Int) : frC m (az_up m 19 9 x) := ⟨fun _ h _ => az_up_b _ _ _ h, fun _ h => az_up_k _ _ h⟩
theorem frC_d {m m1 : aM} (h : ∀ x, (x < 234 ∨ 244 < x) → m1 x = m x) : frC m m1 := ⟨fun x _ hx => h x hx, fun k _ => congrFun (h 19 (by decide)) k⟩
def qS (m : aM) (x st : Int) : Option aV → aM → Prop := fun v m' => v = some (.inl x) ∧ frC m m' ∧ m' 19 9 = st
def iD (m : aM) : Prop := iB m ∧ iRow m ∧ m 19 9 = m 279 3
theorem pTl_in {m : aM} {row good most : Int} (h : (pTl m row good most).1 = 0) : pIn m row most ∧ (0 ≤ row ∧ row ≤ 7) ∧ m 279 7 ≠ 0 ∧ m 284 2 ≤ m 281 row ∧ (pTl m row good most).2 = 0 := by
  unfold pTl at h ⊢
  split at h
  · exact absurd h (by dsimp only; omega)
  · next h1 =>
    rw [if_neg h1]
    split at h
    · exact absurd h (by dsimp only; omega)
    · next h2 =>
      rw [if_neg h2]
      split at h
      · exact absurd h (by dsimp only; omega)
      · next h3 =>
        rw [if_neg h3]
        split at h
        · exact absurd h (by dsimp only; omega)
        · next h4 =>
          rw [if_neg h4]
          split at h
          · next h5 =>
            rw [if_pos h5]
            exact ⟨h5, by omega, h1, by omega, rfl⟩
          · exact absurd h (by dsimp only; omega)
theorem c_X7_look {row good most : Int} (hI : iD m) (hm : 0 ≤ most) : az_CI sc 128 [.inr (.inr 20), .inl row, .inl good, .inl most] m (pTl m row good most).1 (az_up m 19 9 (pTl m row good most).2) := by
  obtain ⟨hI1, hI2, hst⟩ := hI
  obtain ⟨hB, hN, hz, hz1, hz2⟩ := hI1
  have hn := nOK_2 hN
  have hsm : ∀ x, m 279 3 = x → az_up m 19 9 x = m := fun x hx => az_up_same (hst.trans hx)
  have h10 : m 22 10 = m 284 2 := hB.1.2.2.1
  by_cases hb : m 279 7 = 0
  · have e : pTl m row good most = (-1000002, m 279 3) := by unfold pTl; rw [if_pos hb]
    rw [e, hsm _ rfl]
    refine r_aload_n rfl ?_
    refine r_getR g_19 rfl ?_
    refine r_getZx g_22 (hz) ?_
    refine r_if_ne kX7_look_13 (fun c1 => absurd c1 (by omega)) (fun c1 => ?_)
    refine r_ldcI ?_
    refine r_iret rfl ?_
    exact ⟨rfl, rfl⟩
  by_cases hg : ¬ (0 ≤ row ∧ row ≤ 7) ∨ good = 0
  · have e : pTl m row good most = (-1000001, m 279 3) := by unfold pTl; rw [if_neg hb, if_pos hg]
    rw [e, hsm _ rfl]
    refine r_aload_n rfl ?_
    refine r_getR g_19 rfl ?_
    refine r_getZx g_22 (hz) ?_
    refine r_if_ne kX7_look_13 (fun c1 => ?_) (fun c1 => absurd c1 (by omega))
    refine r_iload_n rfl ?_
    refine r_if_eq kX7_look_24 (fun c2 => ?_) (fun c2 => ?_)
    · refine r_ldcI ?_
      refine r_iret rfl ?_
      exact ⟨rfl, rfl⟩
    · refine r_iload_n rfl ?_
      refine r_cS1I (by decide) (Nat.le_of_ble_eq_true rfl) (Nat.le_of_ble_eq_true rfl) (c_X7_isRow _) ?_
      refine r_if_ne kX7_look_27 (fun c3 => absurd c3 (by omega)) (fun c3 => ?_)
      refine r_ldcI ?_
      refine r_iret rfl ?_
      exact ⟨rfl, rfl⟩
  have hr : 0 ≤ row ∧ row ≤ 7 := by omega
  have hrr := rb_ref hr.1 (show row < 8 by omega)
  obtain ⟨hR_0, hR_1⟩ := rb_0 hr.1 (show row < 8 by omega)
  have hrb := rb_b hr.1 (show row < 8 by omega)
  have hs := iRow_s hI2 hr.1 (show row < 8 by omega)
  by_cases hs1 : m 281 row < 0
  · have e : pTl m row good most = (-1000011, 1) := by unfold pTl; rw [if_neg hb, if_neg hg, if_pos hs1]
    rw [e]
    have h2 : m (rb row) 1 = -1 := by omega
    refine r_aload_n rfl ?_
    refine r_getR g_19 rfl ?_
    refine r_getZx g_22 (hz) ?_
    refine r_if_ne kX7_look_13 (fun c1 => ?_) (fun c1 => absurd c1 (by omega))
    refine r_iload_n rfl ?_
    refine r_if_eq kX7_look_24 (fun c2 => absurd c2 (by omega)) (fun c2 => ?_)
    refine r_iload_n rfl ?_
    refine r_cS1I (by decide) (Nat.le_of_ble_eq_true rfl) (Nat.le_of_ble_eq_true rfl) (c_X7_isRow _) ?_
    refine r_if_ne kX7_look_27 (fun c3 => ?_) (fun c3 => absurd c3 (by omega))
    refine r_aload_n rfl ?_
    refine r_getR g_19 rfl ?_
    refine r_iload_n rfl ?_
    refine r_aald g_20 (by decide) (by omega) (by omega) (by assumption) ?_
    refine r_astore (Nat.le_of_ble_eq_true rfl) rfl ?_
    refine r_aload rfl ?_
    refine r_cV1I hR_0 rfl (Nat.le_of_ble_eq_true rfl) (Nat.le_of_ble_eq_true rfl) (c_X5_isMissing hR_0) ?_
    refine r_if_eq kX7_look_49 (fun c4 => absurd c4 (by omega)) (fun c4 => ?_)
    refine r_aload_n rfl ?_
    refine r_iconst ?_
    refine r_cV2I g_19 rfl (Nat.le_of_ble_eq_true rfl) (Nat.le_of_ble_eq_true rfl) (c_X7_find _) ?_
    refine r_iret rfl ?_
    exact ⟨rfl, rfl⟩
  have h2 : m (rb row) 1 ≠ -1 ∧ m (rb row) 2 = m 281 row ∧ m 281 row ≤ 40 := by omega
  by_cases hs2 : m 281 row < m 284 2
  · have e : pTl m row good most = (-1000012, 2) := by unfold pTl; rw [if_neg hb, if_neg hg, if_neg hs1, if_pos hs2]
    rw [e]
    refine r_aload_n rfl ?_
    refine r_getR g_19 rfl ?_
    refine r_getZx g_22 (hz) ?_
    refine r_if_ne kX7_look_13 (fun c1 => ?_) (fun c1 => absurd c1 (by omega))
    refine r_iload_n rfl ?_
    refine r_if_eq kX7_look_24 (fun c2 => absurd c2 (by omega)) (fun c2 => ?_)
    refine r_iload_n rfl ?_
    refine r_cS1I (by decide) (Nat.le_of_ble_eq_true rfl) (Nat.le_of_ble_eq_true rfl) (c_X7_isRow _) ?_
    refine r_if_ne kX7_look_27 (fun c3 => ?_) (fun c3 => absurd c3 (by omega))
    refine r_aload_n rfl ?_
    refine r_getR g_19 rfl ?_
    refine r_iload_n rfl ?_
    refine r_aald g_20 (by decide) (by omega) (by omega) (by assumption) ?_
    refine r_astore (Nat.le_of_ble_eq_true rfl) rfl ?_
    refine r_aload rfl ?_
    refine r_cV1I hR_0 rfl (Nat.le_of_ble_eq_true rfl) (Nat.le_of_ble_eq_true rfl) (c_X5_isMissing hR_0) ?_
    refine r_if_eq kX7_look_49 (fun c4 => ?_) (fun c4 => absurd c4 (by omega))
    refine r_aload rfl ?_
    refine r_getIx hR_0 (h2.2.1) ?_
    refine r_aload_n rfl ?_
    refine r_getR g_19 rfl ?_
    refine r_getIx g_22 (h10) ?_
    refine r_icmp_ge kX7_look_70 (fun c5 => absurd c5 (by omega)) (fun c5 => ?_)
    refine r_aload_n rfl ?_
    refine r_iconst ?_
    refine r_cV2I g_19 rfl (Nat.le_of_ble_eq_true rfl) (Nat.le_of_ble_eq_true rfl) (c_X7_find _) ?_
    refine r_iret rfl ?_
    exact ⟨rfl, rfl⟩
  have e1 : pIn m row most → pTl m row good most = (0, 0) := fun h => by unfold pTl; rw [if_neg hb, if_neg hg, if_neg hs1, if_neg hs2, if_pos h]
  have e2 : ¬ pIn m row most → pTl m row good most = (-1000001, m 279 3) := fun h => by unfold pTl; rw [if_neg hb, if_neg hg, if_neg hs1, if_neg hs2, if_neg h]
  have hit : ∀ g, 0 ≤ g → g < m 284 2 → m (rb row + 1) g = m 282 (40 * row + g) := fun g g0 g1 => (hI2.2 row hr.1 (by omega)).2 (by omega) |>.2.2 g g0 (by omega)
  refine r_aload_n rfl ?_
  refine r_getR g_19 rfl ?_
  refine r_getZx g_22 (hz) ?_
  refine r_if_ne kX7_look_13 (fun c1 => ?_) (fun c1 => absurd c1 (by omega))
  refine r_iload_n rfl ?_
  refine r_if_eq kX7_look_24 (fun c2 => absurd c2 (by omega)) (fun c2 => ?_)
  refine r_iload_n rfl ?_
  refine r_cS1I (by decide) (Nat.le_of_ble_eq_true rfl) (Nat.le_of_ble_eq_true rfl) (c_X7_isRow _) ?_
  refine r_if_ne kX7_look_27 (fun c3 => ?_) (fun c3 => absurd c3 (by omega))
  refine r_aload_n rfl ?_
  refine r_getR g_19 rfl ?_
  refine r_iload_n rfl ?_
  refine r_aald g_20 (by decide) (by omega) (by omega) (by assumption) ?_
  refine r_astore (Nat.le_of_ble_eq_true rfl) rfl ?_
  refine r_aload rfl ?_
  refine r_cV1I hR_0 rfl (Nat.le_of_ble_eq_true rfl) (Nat.le_of_ble_eq_true rfl) (c_X5_isMissing hR_0) ?_
  refine r_if_eq kX7_look_49 (fun c4 => ?_) (fun c4 => absurd c4 (by omega))
  refine r_aload rfl ?_
  refine r_getIx hR_0 (h2.2.1) ?_
  refine r_aload_n rfl ?_
  refine r_getR g_19 rfl ?_
  refine r_getIx g_22 (h10) ?_
  refine r_icmp_ge kX7_look_70 (fun c5 => ?_) (fun c5 => absurd c5 (by omega))
  refine r_iconst ?_
  refine r_istore (Nat.le_of_ble_eq_true rfl) rfl ?_
  skip
  refine az_lop (α := Unit) (fun g _ => [some (.inr (.inr 20)), some (.inl (row)), some (.inl (good)), some (.inl (most)), some (.inr (.inr (rb row + 1))), some (.inl (g))]) (fun _ => m) (fun g _ => ∀ j, 0 ≤ j → j < g → 0 ≤ m 282 (40 * row + j) ∧ m 282 (40 * row + j) ≤ most) 0 (m 284 2) () hn.1 (fun j j0 j1 => by omega) (fun g a h0 h1 hp hK => ?_) (fun a hp => ?_)
  · refine r_iload rfl ?_
    refine r_aload_n rfl ?_
    refine r_getR g_19 rfl ?_
    refine r_getIx g_22 (h10) ?_
    refine r_icmp_ge kX7_look_117 (fun c1 => absurd c1 (by omega)) (fun c1 => ?_)
    refine r_aload rfl ?_
    refine r_getR hR_0 rfl ?_
    refine r_iload rfl ?_
    refine r_ialdx hR_1 rfl (by omega) (by omega) (by omega) (hit g h0 h1) ?_
    refine r_if_lt kX7_look_108 (fun c2 => ?_) (fun c2 => ?_)
    · refine r_ldcI ?_
      refine r_iret rfl ?_
      rw [e2 (fun q => by have := q g h0 h1; omega), hsm _ rfl]; exact ⟨rfl, rfl⟩
    · refine r_aload rfl ?_
      refine r_getR hR_0 rfl ?_
      refine r_iload rfl ?_
      refine r_ialdx hR_1 rfl (by omega) (by omega) (by omega) (hit g h0 h1) ?_
      refine r_iload_n rfl ?_
      refine r_icmp_le kX7_look_111 (fun c3 => ?_) (fun c3 => ?_)
      · refine r_iinc rfl (az_wid (by omega) (by omega)) rfl ?_
        refine r_goto kX7_look_73 ?_
        exact hK () (fun j j0 j1 => (if e : j = g then by rw [e]; omega else hp j j0 (by omega)))
      · refine r_ldcI ?_
        refine r_iret rfl ?_
        rw [e2 (fun q => by have := q g h0 h1; omega), hsm _ rfl]; exact ⟨rfl, rfl⟩
  · rw [e1 hp]
    refine r_iload rfl ?_
    refine r_aload_n rfl ?_
    refine r_getR g_19 rfl ?_
    refine r_getIx g_22 (h10) ?_
    refine r_icmp_ge kX7_look_117 (fun c1 => ?_) (fun c1 => absurd c1 (by omega))
    refine r_aload_n rfl ?_
    refine r_iconst ?_
    refine r_cV2I g_19 rfl (Nat.le_of_ble_eq_true rfl) (Nat.le_of_ble_eq_true rfl) (c_X7_answer _) ?_
    refine r_iret rfl ?_
    exact ⟨rfl, rfl⟩
theorem c_X7_hear {row good : Int} (hI : iD m) : az_C sc az_G 129 [.inr (.inr 20), .inl row, .inl good] m (fun v m' => qS m (pTl m row good 6).1 (pTl m row good 6).2 v m' ∧ ((pTl m row good 6).1 = 0 → dD m' (m 284) (pIt m row) (pPrice (m 284)) (m 284 0))) := by
  have hI0 := hI
  obtain ⟨hI1, hI2, hst⟩ := hI
  obtain ⟨hB, hN, hz, hz1, hz2⟩ := hI1
  have hn := nOK_2 hN
  by_cases h : (pTl m row good 6).1 = 0
  · obtain ⟨t1, t2, t3, t4, t5⟩ := pTl_in h
    have hrr := rb_ref t2.1 (show row < 8 by omega)
    obtain ⟨hR_0, hR_1⟩ := rb_0 t2.1 (show row < 8 by omega)
    have hrb := rb_b t2.1 (show row < 8 by omega)
    have hs := iRow_s hI2 t2.1 (show row < 8 by omega)
    have hit : ∀ g, 0 ≤ g → g < m 284 2 → m (rb row + 1) g = m 282 (40 * row + g) := fun g g0 g1 => (hI2.2 row t2.1 (by omega)).2 (by omega) |>.2.2 g g0 (by omega)
    have hB1 : bR (az_up m 19 9 (pTl m row good 6).2) 22 (m 284) := bR_fr hB (fun x a b => az_up_b _ _ _ (by omega))
    refine r_aload_n rfl ?_
    refine r_iload_n rfl ?_
    refine r_iload_n rfl ?_
    refine r_bipush ?_
    refine r_cV4I g_19 rfl (Nat.le_of_ble_eq_true rfl) (Nat.le_of_ble_eq_true rfl) (c_X7_look hI0 (by decide)) ?_
    refine r_istore_n (Nat.le_of_ble_eq_true rfl) rfl ?_
    refine r_iload_n rfl ?_
    refine r_if_ne kX7_hear_52 (fun c1 => absurd c1 (by omega)) (fun c1 => ?_)
    refine r_aload_n rfl ?_
    refine r_getR g_19 rfl ?_
    refine r_aload_n rfl ?_
    refine r_getR g_19 rfl ?_
    refine r_cV2 g_235 rfl (Nat.le_of_ble_eq_true rfl) (Nat.le_of_ble_eq_true rfl) (c_X2_open hB1 hN) (fun v_ m_ hq_ => ?_)
    obtain ⟨rfl, hO, hD⟩ := hq_
    refine r_aload_n rfl ?_
    refine r_getR g_19 rfl ?_
    refine r_iload_n rfl ?_
    refine r_aald g_20 (by decide) (by omega) (by omega) (by assumption) ?_
    refine r_getR hR_0 rfl ?_
    refine r_iconst ?_
    refine r_aload_n rfl ?_
    refine r_getR g_19 rfl ?_
    refine r_getR g_235 rfl ?_
    refine r_iconst ?_
    refine r_aload_n rfl ?_
    refine r_getR g_19 rfl ?_
    refine r_getIx g_235 (hD.1) ?_
    refine r_cpy hR_1 g_241 (by omega) (by decide) (by omega) (by omega) (by omega) (by show _ ≤ (40 : Int); omega) (by show _ ≤ (4 : Int); omega) (Nat.le_of_ble_eq_true rfl) ?_
    refine r_iload_n rfl ?_
    refine r_iret rfl ?_
    skip
    refine ⟨⟨rfl, ⟨fun x x1 x2 => ?_, fun k hk => ?_⟩, ?_⟩, fun _ => ?_⟩
    · rw [az_cp_b _ _ _ _ (by omega), hO x (by omega), az_up_b _ _ _ x1]
    · rw [az_cp_b _ _ _ _ (by decide), hO 19 (by decide), az_up_k _ _ hk]
    · rw [az_cp_b _ _ _ _ (by decide), hO 19 (by decide), az_upx]
    · refine dD_t hD (fun x x0 x1 => az_cp_b _ _ _ _ (by omega)) (fun g g0 g1 => ?_) t1
      rw [az_cp_in _ (by omega) (by omega), show (0 : Int) + (g - 0) = g by omega, hO _ (by omega), az_up_b _ _ _ (by omega)]
      exact hit g g0 g1
  · refine r_aload_n rfl ?_
    refine r_iload_n rfl ?_
    refine r_iload_n rfl ?_
    refine r_bipush ?_
    refine r_cV4I g_19 rfl (Nat.le_of_ble_eq_true rfl) (Nat.le_of_ble_eq_true rfl) (c_X7_look hI0 (by decide)) ?_
    refine r_istore_n (Nat.le_of_ble_eq_true rfl) rfl ?_
    refine r_iload_n rfl ?_
    refine r_if_ne kX7_hear_52 (fun c1 => ?_) (fun c1 => absurd c1 (by omega))
    refine r_iload_n rfl ?_
    refine r_iret rfl ?_
    exact ⟨⟨rfl, frC_st _ _, az_upx _ _ _ _⟩, fun e => absurd e h⟩
/-! worth, best, rounds -/
def fd2 (m m' : aM) : Prop := ∀ x, x ≠ 241 → x ≠ 242 → m' x = m x
theorem fd2_r (m : aM) : fd2 m m := fun _ _ _ => rfl
theorem fd2_t {m m1 m2 : aM} (h1 : fd2 m m1) (h2 : fd2 m1 m2) : fd2 m m2 := fun x a b => (h2 x a b).trans (h1 x a b)
theorem fd2_u (m : aM) (g n : Int) : fd2 m (az_up m 241 g n) := fun x a _ => az_up_b _ _ _ a
theorem fd2_w (m : aM) (g n : Int) : fd2 m (az_up m 242 g n) := fun x _ a => az_up_b _ _ _ a
theorem frC_2 {m m1 : aM} (h : fd2 m m1) : frC m m1 := frC_d (fun x hx => h x (by omega) (by omega))
theorem dD_2 {m m' : aM} {t' : Int → Int} (h : dD m f t c sp) (hf : fd2 m m') (ht : ∀ g, 0 ≤ g → g < f 2 → m' 241 g = t' g) (hT : tOK f t') : dD m' f t' c sp := dD_t h (fun x a b => hf x (by omega) (by omega)) ht hT
theorem dD_tt (hD : dD m f t c sp) : ∀ g, 0 ≤ g → g < f 2 → m 241 g = t g := fun g g0 g1 => (hD.2.2.2.1 g g0 g1).2.2.2
theorem pW_e2 {n g : Int} (hn : 0 ≤ f 2) (h : 0 ≤ n) : pW f t c sp g n = pJoys f t g n - pShr f (up1 t g n) c sp g - n * pFe f g := by
  rw [pW_e hn h, pPay_e, up1_at, Int.mul_comm n]
  omega
theorem pJoy_up {g n h : Int} (hn : 0 ≤ f 2) : pJoy f (up1 t g n) g h = pJoy f t g h := by
  unfold pJoy
  rw [pOth_up f t g n h (f 2) hn]
def qBst (m : aM) (f t c : Int → Int) (sp g : Int) : Option aV → aM → Prop := fun v m' => v = some (.inl (pBst f t c sp g)) ∧ fd2 m m' ∧ m' 241 = m 241 ∧ ∀ n, 0 ≤ n → n < 7 → m' 242 n = pW f t c sp g n
theorem c_X3_bestOf {g : Int} (hD : dD m f t c sp) (h0 : 0 ≤ g) (h1 : g < f 2) : az_C sc az_G 137 [.inr (.inr 235), .inl g] m (qBst m f t c sp g) := by
  have hN := hD.2.2.2.2.2.1
  have hn := nOK_2 hN
  have hT := hD.2.2.2.2.2.2.1
  have hC := hD.2.2.2.2.2.2.2.1
  have hG := nOK_g hN g h0 h1
  have htg := hT g h0 h1
  have hfe := pFe_b hN g
  have htm : m 241 g = t g := dD_tt hD g h0 h1
  refine r_aload_n rfl ?_
  refine r_getR g_234 rfl ?_
  refine r_getR g_235 rfl ?_
  refine r_iload_n rfl ?_
  refine r_ialdx g_241 rfl (by omega) (by omega) (by omega) (htm) ?_
  refine r_istore_n (Nat.le_of_ble_eq_true rfl) rfl ?_
  refine r_iconst ?_
  refine r_istore_n (Nat.le_of_ble_eq_true rfl) rfl ?_
  refine r_iconst ?_
  refine r_istore (Nat.le_of_ble_eq_true rfl) rfl ?_
  refine r_iconst ?_
  refine r_istore (Nat.le_of_ble_eq_true rfl) rfl ?_
  skip
  refine az_lop (α := aM × Int × Int) (fun n a => [some (.inr (.inr (235))), some (.inl (g)), some (.inl (t g)), some (.inl (a.2.1)), some (.inl (a.2.2)), some (.inl (n))]) (fun a => a.1) (fun n a => fd2 m a.1 ∧ (∃ x, a.1 241 = up1 (m 241) g x) ∧ (∀ k, 0 ≤ k → k < n → a.1 242 k = pW f t c sp g k) ∧ a.2.1 = pBstK f t c sp g n ∧ (n ≤ 6 → a.2.2 = pJoys f t g n) ∧ (0 ≤ a.2.1 ∧ a.2.1 ≤ 6 ∧ (a.2.1 < n ∨ n = 0 ∧ a.2.1 = 0)) ∧ (-1000 ≤ a.2.2 ∧ a.2.2 ≤ 1000)) 0 7 (m, 0, 0) (by decide) ⟨fd2_r m, ⟨m 241 g, (up1_id _ _).symm⟩, fun k k0 k1 => by omega, rfl, fun _ => rfl, by dsimp only; omega, by dsimp only; omega⟩ (fun n a h2 h3 hp hK => ?_) (fun a hp => ?_)
  · obtain ⟨m1, b, joy⟩ := a
    obtain ⟨p1, ⟨x, p2⟩, p3, p4, p5, p6, p7⟩ := hp
    dsimp only at p1 p2 p3 p4 p5 p6 p7 ⊢
    have p5 := p5 (by omega)
    have hS := pBstK_S f t c sp g h2
    rw [← p4] at hS
    obtain ⟨m2, hm2⟩ : ∃ y, y = az_up m1 241 g n := ⟨_, rfl⟩
    have q2 : m2 241 = up1 (m 241) g n := by rw [hm2, up1_cell, p2, up1_up]
    have f2 : fd2 m m2 := by rw [hm2]; exact fd2_t p1 (fd2_u _ _ _)
    have hD2 : dD m2 f (up1 t g n) c sp := dD_2 hD f2 (fun j j0 j1 => by rw [q2]; unfold up1; by_cases e : j = g; · { rw [if_pos e, if_pos e] }; · { rw [if_neg e, if_neg e]; exact dD_tt hD j j0 j1 }) (tOK_up hT (by omega))
    have hsb := pShr_b (sp := sp) hn (tOK_up hT (g := g) (n := n) (by omega)) hC h0 h1
    have hmb := az_mulb h2 (show n ≤ 6 by omega) hfe.1 hfe.2
    have hw := pW_e2 (f := f) (t := t) (c := c) (sp := sp) (g := g) hn.1 h2
    rw [← p5] at hw
    obtain ⟨m3, hm3⟩ : ∃ y, y = az_up m2 242 n (pW f t c sp g n) := ⟨_, rfl⟩
    have f3 : fd2 m m3 := by rw [hm3]; exact fd2_t f2 (fd2_w _ _ _)
    have q3 : m3 241 = up1 (m 241) g n := by rw [hm3, az_up_b _ _ _ (by decide)]; exact q2
    have hD3 : dD m3 f (up1 t g n) c sp := dD_fr hD2 (fun x a b => by rw [hm3, az_up_b _ _ _ (by omega)])
    have w3 : ∀ k, 0 ≤ k → k < n + 1 → m3 242 k = pW f t c sp g k := fun k k0 k1 => by
      rw [hm3]
      exact az_up_eq (fun e => by rw [e]) (fun e => by rw [hm2, az_up_b _ _ _ (by decide)]; exact p3 k k0 (by omega))
    have wn := w3 n h2 (by omega)
    have wb := w3 b p6.1 (by omega)
    have hB1 := pWor_b (sp := sp) hN (tOK_up hT (g := g) (n := n) (by omega)) hC h0 h1
    have H : ∀ b', b' = pBstK f t c sp g (n + 1) → az_E sc az_G 137 zX3_bestOf_89 [some (.inr (.inr (235))), some (.inl (g)), some (.inl (t g)), some (.inl (b)), some (.inl (joy)), some (.inl (n))] [.inl b'] m3 (qBst m f t c sp g) := by
      intro b' hb'
      have hb6 := (pBstK_b f t c sp g (k := n + 1) (by omega)).1
      rw [← hb'] at hb6
      have hJ := pJoy_b (t := t) (h := n) hn hG.2.1
      have hJS := pJoys_S f t g h2
      have hJb := pJoys_b (t := t) (k := n + 1) hn hG.2.1 (by omega)
      by_cases h6 : n = 6
      · refine r_istore_n (Nat.le_of_ble_eq_true rfl) rfl ?_
        refine r_iload rfl ?_
        refine r_iload rfl ?_
        refine r_bipush ?_
        refine r_icmp_ge kX3_bestOf_112 (fun c1 => ?_) (fun c1 => absurd c1 (by omega))
        refine r_iconst ?_
        first | refine r_iadd (az_wid (by omega) (by omega)) ?_ | refine r_iaddw ?_
        refine r_istore (Nat.le_of_ble_eq_true rfl) rfl ?_
        refine r_iinc rfl (az_wid (by omega) (by omega)) rfl ?_
        refine r_goto kX3_bestOf_18 ?_
        exact hK (m3, b', _) ⟨f3, ⟨n, q3⟩, w3, hb', fun e => absurd e (by omega), by dsimp only; omega, by dsimp only; omega⟩
      · have hji : az_CI sc 130 [.inr (.inr 236), .inl g, .inl n] m3 (pJoy f t g n) m3 := by
          rw [← pJoy_up (t := t) (g := g) (n := n) hn.1]
          exact c_X2_joyIn hD3 h0 h1 h2 (by omega)
        refine r_istore_n (Nat.le_of_ble_eq_true rfl) rfl ?_
        refine r_iload rfl ?_
        refine r_iload rfl ?_
        refine r_bipush ?_
        refine r_icmp_ge kX3_bestOf_112 (fun c1 => absurd c1 (by omega)) (fun c1 => ?_)
        refine r_aload_n rfl ?_
        refine r_getR g_234 rfl ?_
        refine r_iload_n rfl ?_
        refine r_iload rfl ?_
        refine r_cV3I g_235 rfl (Nat.le_of_ble_eq_true rfl) (Nat.le_of_ble_eq_true rfl) (hji) ?_
        refine r_goto kX3_bestOf_113 ?_
        first | refine r_iadd (az_wid (by omega) (by omega)) ?_ | refine r_iaddw ?_
        refine r_istore (Nat.le_of_ble_eq_true rfl) rfl ?_
        refine r_iinc rfl (az_wid (by omega) (by omega)) rfl ?_
        refine r_goto kX3_bestOf_18 ?_
        exact hK (m3, b', _) ⟨f3, ⟨n, q3⟩, w3, hb', fun e => by dsimp only; rw [hJS, p5], by dsimp only; omega, by dsimp only; omega⟩
    refine r_iload rfl ?_
    refine r_bipush ?_
    refine r_icmp_ge kX3_bestOf_122 (fun c1 => absurd c1 (by omega)) (fun c1 => ?_)
    refine r_aload_n rfl ?_
    refine r_getR g_234 rfl ?_
    refine r_getR g_235 rfl ?_
    refine r_iload_n rfl ?_
    refine r_iload rfl ?_
    refine r_iast g_241 (by decide) (by omega) (by omega) ?_
    rw [← hm2]
    refine r_aload_n rfl ?_
    refine r_getR g_234 rfl ?_
    refine r_iload rfl ?_
    refine r_iload rfl ?_
    refine r_aload_n rfl ?_
    refine r_getR g_234 rfl ?_
    refine r_iload_n rfl ?_
    refine r_cV2I g_235 rfl (Nat.le_of_ble_eq_true rfl) (Nat.le_of_ble_eq_true rfl) (c_X2_share hD2 h0 h1) ?_
    first | refine r_isub (az_wid (by omega) (by omega)) ?_ | refine r_isubw ?_
    refine r_iload rfl ?_
    refine r_aload_n rfl ?_
    refine r_getR g_234 rfl ?_
    refine r_getR g_235 rfl ?_
    refine r_iload_n rfl ?_
    refine r_ialdx g_238 rfl (by omega) (by omega) (by omega) ((hD2.2.2.2.1 g h0 h1).2.1) ?_
    refine r_imul (az_wid (by omega) (by omega)) ?_
    refine r_isub ((az_wid (by omega) (by omega)).trans hw.symm) ?_
    refine r_iast g_242 (by decide) (by omega) (by omega) ?_
    rw [← hm3]
    refine r_aload_n rfl ?_
    refine r_getR g_234 rfl ?_
    refine r_iload rfl ?_
    refine r_ialdx g_242 rfl (by omega) (by omega) (by omega) (wn) ?_
    refine r_aload_n rfl ?_
    refine r_getR g_234 rfl ?_
    refine r_iload_n rfl ?_
    refine r_ialdx g_242 rfl (by omega) (by omega) (by omega) (wb) ?_
    refine r_icmp_le kX3_bestOf_88 (fun c1 => ?_) (fun c1 => ?_)
    · refine r_iload_n rfl ?_
      exact H _ (by rw [hS]; by_cases hn0 : n = 0; · { rw [if_pos (Or.inl hn0)]; try omega }; · { first | rw [if_pos (by omega)] | rw [if_neg (by omega)] })
    · refine r_iload rfl ?_
      refine r_goto kX3_bestOf_89 ?_
      exact H _ (by rw [hS]; by_cases hn0 : n = 0; · { rw [if_pos (Or.inl hn0)]; try omega }; · { first | rw [if_pos (by omega)] | rw [if_neg (by omega)] })
  · obtain ⟨m1, b, joy⟩ := a
    obtain ⟨p1, ⟨x, p2⟩, p3, p4, p5, p6, p7⟩ := hp
    dsimp only at p1 p2 p3 p4 p5 p6 p7 ⊢
    refine r_iload rfl ?_
    refine r_bipush ?_
    refine r_icmp_ge kX3_bestOf_122 (fun c1 => ?_) (fun c1 => absurd c1 (by decide))
    refine r_aload_n rfl ?_
    refine r_getR g_234 rfl ?_
    refine r_getR g_235 rfl ?_
    refine r_iload_n rfl ?_
    refine r_iload_n rfl ?_
    refine r_iast g_241 (by decide) (by omega) (by omega) ?_
    refine r_iload_n rfl ?_
    refine r_iret rfl ?_
    refine ⟨az_oI p4, fd2_t p1 (fd2_u _ _ _), ?_, fun k k0 k1 => ?_⟩
    · rw [up1_cell, p2, up1_up, ← htm, up1_id]
    · rw [az_up_b _ _ _ (by decide)]
      exact p3 k k0 k1
/-- the one round -/
theorem l_X3_turns {r : Int} {o2 o3 o4 : Option aV} (hD : dD m f t c sp) (hr : 1 ≤ r ∧ r ≤ 20) (K : ∀ m' x o3 o4, fd2 m m' → dD m' f (pRndK f c sp t (f 2)).1 c sp → (x = 1 ∧ (pRndK f c sp t (f 2)).2 = 0 ∨ x = 0 ∧ (pRndK f c sp t (f 2)).2 ≠ 0) → az_E sc az_G 141 zX3_turns_71 [some (.inr (.inr (235))), some (.inl (r)), some (.inl (x)), o3, o4] [] m' Q) : az_E sc az_G 141 zX3_turns_2 [some (.inr (.inr (235))), some (.inl (r)), o2, o3, o4] [] m Q := by
  have hn := nOK_2 hD.2.2.2.2.2.1
  refine r_iload_n rfl ?_
  refine r_bipush ?_
  refine r_icmp_gt kX3_turns_83 (fun c1 => absurd c1 (by omega)) (fun c1 => ?_)
  refine r_iconst ?_
  refine r_istore_n (Nat.le_of_ble_eq_true rfl) rfl ?_
  refine r_iconst ?_
  refine r_istore_n (Nat.le_of_ble_eq_true rfl) rfl ?_
  skip
  refine az_lop (α := aM × Int × Option aV) (fun g a => [some (.inr (.inr (235))), some (.inl (r)), some (.inl (a.2.1)), some (.inl (g)), a.2.2]) (fun a => a.1) (fun g a => fd2 m a.1 ∧ dD a.1 f (pRndK f c sp t g).1 c sp ∧ (a.2.1 = 1 ∧ (pRndK f c sp t g).2 = 0 ∨ a.2.1 = 0 ∧ (pRndK f c sp t g).2 ≠ 0)) 0 (f 2) (m, 1, o4) hn.1 ⟨fd2_r m, hD, Or.inl ⟨rfl, rfl⟩⟩ (fun g a h0 h1 hp hK => ?_) (fun a hp => ?_)
  · obtain ⟨m1, ch, o⟩ := a
    obtain ⟨hp1, hD1, hp3⟩ := hp
    dsimp only at hp1 hD1 hp3 ⊢
    have hS := pRndK_S f c sp t h0
    have hb := pBst_b f (pRndK f c sp t g).1 c sp g
    have e6 := hD1.1
    refine r_iload_n rfl ?_
    refine r_aload_n rfl ?_
    refine r_getR g_234 rfl ?_
    refine r_getIx g_235 (e6) ?_
    refine r_icmp_ge kX3_turns_71 (fun c1 => absurd c1 (by omega)) (fun c1 => ?_)
    refine r_aload_n rfl ?_
    refine r_iload_n rfl ?_
    refine r_cV2 g_234 rfl (Nat.le_of_ble_eq_true rfl) (Nat.le_of_ble_eq_true rfl) (c_X3_bestOf hD1 h0 h1) (fun v_ m_ hq_ => ?_)
    obtain ⟨rfl, hfr, hto, -⟩ := hq_; have hD2 := dD_2 hD1 hfr (by rw [hto]; exact dD_tt hD1) hD1.2.2.2.2.2.2.1; have e41 := dD_tt hD2 g h0 h1
    refine r_istore (Nat.le_of_ble_eq_true rfl) rfl ?_
    refine r_iload_n rfl ?_
    refine r_if_eq kX3_turns_52 (fun c2 => ?_) (fun c2 => ?_)
    · refine r_iconst ?_
      refine r_istore_n (Nat.le_of_ble_eq_true rfl) rfl ?_
      refine r_aload_n rfl ?_
      refine r_getR g_234 rfl ?_
      refine r_getR g_235 rfl ?_
      refine r_iload_n rfl ?_
      refine r_iload rfl ?_
      refine r_iast g_241 (by decide) (by omega) (by omega) ?_
      refine r_iinc rfl (az_wid (by omega) (by omega)) rfl ?_
      refine r_goto kX3_turns_12 ?_
      refine hK (_, _, _) ⟨fd2_t hp1 (fd2_t hfr (fd2_u _ _ _)), by rw [hS]; exact dD_u hD2 hb, ?_⟩; dsimp only; rw [hS]; dsimp only; first | (rw [if_pos (by omega)]; exact Or.inl ⟨rfl, rfl⟩) | (rw [if_neg (by omega)]; exact Or.inr ⟨rfl, by decide⟩)
    · refine r_iload rfl ?_
      refine r_aload_n rfl ?_
      refine r_getR g_234 rfl ?_
      refine r_getR g_235 rfl ?_
      refine r_iload_n rfl ?_
      refine r_ialdx g_241 rfl (by omega) (by omega) (by omega) (e41) ?_
      refine r_icmp_ne kX3_turns_52 (fun c3 => ?_) (fun c3 => ?_)
      · refine r_iconst ?_
        refine r_istore_n (Nat.le_of_ble_eq_true rfl) rfl ?_
        refine r_aload_n rfl ?_
        refine r_getR g_234 rfl ?_
        refine r_getR g_235 rfl ?_
        refine r_iload_n rfl ?_
        refine r_iload rfl ?_
        refine r_iast g_241 (by decide) (by omega) (by omega) ?_
        refine r_iinc rfl (az_wid (by omega) (by omega)) rfl ?_
        refine r_goto kX3_turns_12 ?_
        refine hK (_, _, _) ⟨fd2_t hp1 (fd2_t hfr (fd2_u _ _ _)), by rw [hS]; exact dD_u hD2 hb, ?_⟩; dsimp only; rw [hS]; dsimp only; first | (rw [if_pos (by omega)]; exact Or.inl ⟨rfl, rfl⟩) | (rw [if_neg (by omega)]; exact Or.inr ⟨rfl, by decide⟩)
      · refine r_iconst ?_
        refine r_goto kX3_turns_53 ?_
        refine r_istore_n (Nat.le_of_ble_eq_true rfl) rfl ?_
        refine r_aload_n rfl ?_
        refine r_getR g_234 rfl ?_
        refine r_getR g_235 rfl ?_
        refine r_iload_n rfl ?_
        refine r_iload rfl ?_
        refine r_iast g_241 (by decide) (by omega) (by omega) ?_
        refine r_iinc rfl (az_wid (by omega) (by omega)) rfl ?_
        refine r_goto kX3_turns_12 ?_
        refine hK (_, _, _) ⟨fd2_t hp1 (fd2_t hfr (fd2_u _ _ _)), by rw [hS]; exact dD_u hD2 hb, ?_⟩; dsimp only; rw [hS]; dsimp only; first | (rw [if_pos (by omega)]; exact Or.inl ⟨rfl, rfl⟩) | (rw [if_neg (by omega)]; exact Or.inr ⟨rfl, by decide⟩)
  · obtain ⟨m1, ch, o⟩ := a
    obtain ⟨hp1, hD1, hp3⟩ := hp
    dsimp only at hp1 hD1 hp3 ⊢
    have e6 := hD1.1
    refine r_iload_n rfl ?_
    refine r_aload_n rfl ?_
    refine r_getR g_234 rfl ?_
    refine r_getIx g_235 (e6) ?_
    refine r_icmp_ge kX3_turns_71 (fun c1 => ?_) (fun c1 => absurd c1 (by omega))
    exact K _ _ _ _ hp1 hD1 hp3
theorem c_X3_turns0 (hD : dD m f t c sp) : ∀ (k : Nat) (r : Int) (m1 : aM) (t1 : Int → Int) (o2 o3 o4 : Option aV), r = 21 - k → 1 ≤ r → fd2 m m1 → dD m1 f t1 c sp → az_E sc az_G 141 zX3_turns_2 [some (.inr (.inr (235))), some (.inl (r)), o2, o3, o4] [] m1 (fun v m' => v = some (.inl (pTrn f c sp k t1 r).2) ∧ fd2 m m' ∧ dD m' f (pTrn f c sp k t1 r).1 c sp) := by
  intro k
  induction k with
  | zero =>
    intro r m1 t1 o2 o3 o4 hr h1 hf hD1
    refine r_iload_n rfl ?_
    refine r_bipush ?_
    refine r_icmp_gt kX3_turns_83 (fun c1 => ?_) (fun c1 => absurd c1 (by omega))
    refine r_ldcI ?_
    refine r_iret rfl ?_
    exact ⟨rfl, hf, hD1⟩
  | succ k ih =>
    intro r m1 t1 o2 o3 o4 hr h1 hf hD1
    refine l_X3_turns hD1 (by omega) (fun m2 x o3 o4 hf2 hD2 hx => ?_)
    by_cases e : (pRndK f c sp t1 (f 2)).2 = 0
    · have ep : pTrn f c sp (k + 1) t1 r = ((pRndK f c sp t1 (f 2)).1, r) := by
        show (if _ then _ else _) = _
        rw [if_pos e]
      rw [ep]
      refine r_iload_n rfl ?_
      refine r_if_eq kX3_turns_77 (fun c1 => absurd c1 (by omega)) (fun c1 => ?_)
      refine r_iload_n rfl ?_
      refine r_iret rfl ?_
      exact ⟨rfl, fd2_t hf hf2, hD2⟩
    · have ep : pTrn f c sp (k + 1) t1 r = pTrn f c sp k (pRndK f c sp t1 (f 2)).1 (r + 1) := by
        show (if _ then _ else _) = _
        rw [if_neg e]
      rw [ep]
      refine r_iload_n rfl ?_
      refine r_if_eq kX3_turns_77 (fun c1 => ?_) (fun c1 => absurd c1 (by omega))
      refine r_iinc rfl (az_wid (by omega) (by omega)) rfl ?_
      refine r_goto kX3_turns_2 ?_
      exact ih (r + 1) m2 _ _ _ _ (by omega) (by omega) (fd2_t hf hf2) hD2
theorem c_X3_turns (hD : dD m f t c sp) : az_C sc az_G 141 [.inr (.inr 235)] m (fun v m' => v = some (.inl (pTrn f c sp 20 t 1).2) ∧ fd2 m m' ∧ dD m' f (pTrn f c sp 20 t 1).1 c sp) := by
  refine r_iconst ?_
  refine r_istore_n (Nat.le_of_ble_eq_true rfl) rfl ?_
  exact c_X3_turns0 hD 20 1 m t none none none rfl (by decide) (fd2_r m) hD
theorem c_X7_best {row g : Int} (hI : iD m) : az_C sc az_G 138 [.inr (.inr 20), .inl row, .inl g] m (qS m (pOr (pTl m row (p01 ((0 ≤ g ∧ g ≤ m 284 2 - 1))) 6).1 (pBst (m 284) (pIt m row) (pPrice (m 284)) (m 284 0) g)) (pTl m row (p01 ((0 ≤ g ∧ g ≤ m 284 2 - 1))) 6).2) := by
  have h10 : m 22 10 = m 284 2 := hI.1.1.1.2.2.1
  have hp : (if 0 ≤ g ∧ g < m 284 2 then (1 : Int) else 0) = p01 ((0 ≤ g ∧ g ≤ m 284 2 - 1)) := by
    unfold p01
    (repeat' split) <;> omega
  have hhas : az_CI sc 87 [.inr (.inr 23), .inl g] m (p01 ((0 ≤ g ∧ g ≤ m 284 2 - 1))) m := by
    rw [← hp]
    exact c_X1_has h10
  by_cases hno : (pTl m row (p01 ((0 ≤ g ∧ g ≤ m 284 2 - 1))) 6).1 < 0
  · refine r_aload_n rfl ?_
    refine r_iload_n rfl ?_
    refine r_aload_n rfl ?_
    refine r_getR g_19 rfl ?_
    refine r_iload_n rfl ?_
    refine r_cV2I g_22 rfl (Nat.le_of_ble_eq_true rfl) (Nat.le_of_ble_eq_true rfl) (hhas) ?_
    refine r_cV3 g_19 rfl (Nat.le_of_ble_eq_true rfl) (Nat.le_of_ble_eq_true rfl) (c_X7_hear hI) (fun v_ m_ hq_ => ?_)
    obtain ⟨hq1, hq2⟩ := hq_; obtain ⟨rfl, hq3, hq4⟩ := hq1
    refine r_istore_n (Nat.le_of_ble_eq_true rfl) rfl ?_
    refine r_iload_n rfl ?_
    refine r_if_eq kX7_best_22 (fun c1 => absurd c1 (by omega)) (fun c1 => ?_)
    refine r_iload_n rfl ?_
    refine r_goto kX7_best_30 ?_
    refine r_iret rfl ?_
    exact ⟨az_oI (by unfold pOr; rw [if_pos hno]), hq3, hq4⟩
  · have hz := pTl_z hno
    have hg := p01_e (pTl_g hno)
    refine r_aload_n rfl ?_
    refine r_iload_n rfl ?_
    refine r_aload_n rfl ?_
    refine r_getR g_19 rfl ?_
    refine r_iload_n rfl ?_
    refine r_cV2I g_22 rfl (Nat.le_of_ble_eq_true rfl) (Nat.le_of_ble_eq_true rfl) (hhas) ?_
    refine r_cV3 g_19 rfl (Nat.le_of_ble_eq_true rfl) (Nat.le_of_ble_eq_true rfl) (c_X7_hear hI) (fun v_10 m_10 hq_10 => ?_)
    obtain ⟨hq1, hq2⟩ := hq_10; obtain ⟨rfl, hq3, hq4⟩ := hq1
    refine r_istore_n (Nat.le_of_ble_eq_true rfl) rfl ?_
    refine r_iload_n rfl ?_
    refine r_if_eq kX7_best_22 (fun c1 => ?_) (fun c1 => absurd c1 (by omega))
    refine r_aload_n rfl ?_
    refine r_getR g_19 rfl ?_
    refine r_iload_n rfl ?_
    refine r_cV2 g_234 rfl (Nat.le_of_ble_eq_true rfl) (Nat.le_of_ble_eq_true rfl) (c_X3_bestOf (hq2 hz) hg.1 (by omega)) (fun v_27 m_27 hq_27 => ?_)
    obtain ⟨rfl, hfr, hto⟩ := hq_27
    refine r_iret rfl ?_
    exact ⟨az_oI (by unfold pOr; rw [if_neg hno]), frC_t hq3 (frC_2 hfr), (congrFun (hfr 19 (by decide) (by decide)) _).trans hq4⟩
theorem c_X7_worth {row g w : Int} (hI : iD m) : az_C sc az_G 132 [.inr (.inr 20), .inl row, .inl g, .inl w] m (qS m (pOr (pTl m row (p01 ((0 ≤ g ∧ g ≤ m 284 2 - 1) ∧ 0 ≤ w ∧ w ≤ 2)) 6).1 (if w = 0 then pWor (m 284) (pIt m row) (pPrice (m 284)) (m 284 0) g else if w = 1 then pPay (m 284) (pIt m row) (pPrice (m 284)) (m 284 0) g else pShr (m 284) (pIt m row) (pPrice (m 284)) (m 284 0) g)) (pTl m row (p01 ((0 ≤ g ∧ g ≤ m 284 2 - 1) ∧ 0 ≤ w ∧ w ≤ 2)) 6).2) := by
  have h10 : m 22 10 = m 284 2 := hI.1.1.1.2.2.1
  have H : ∀ good, good = p01 ((0 ≤ g ∧ g ≤ m 284 2 - 1) ∧ 0 ≤ w ∧ w ≤ 2) → az_E sc az_G 132 zX7_worth_26 [some (.inr (.inr 20)), some (.inl (row)), some (.inl (g)), some (.inl (w)), none] [.inl good, .inl row, .inr (.inr 20)] m (qS m (pOr (pTl m row (p01 ((0 ≤ g ∧ g ≤ m 284 2 - 1) ∧ 0 ≤ w ∧ w ≤ 2)) 6).1 (if w = 0 then pWor (m 284) (pIt m row) (pPrice (m 284)) (m 284 0) g else if w = 1 then pPay (m 284) (pIt m row) (pPrice (m 284)) (m 284 0) g else pShr (m 284) (pIt m row) (pPrice (m 284)) (m 284 0) g)) (pTl m row (p01 ((0 ≤ g ∧ g ≤ m 284 2 - 1) ∧ 0 ≤ w ∧ w ≤ 2)) 6).2) := by
    intro good hgo
    by_cases hno : (pTl m row (p01 ((0 ≤ g ∧ g ≤ m 284 2 - 1) ∧ 0 ≤ w ∧ w ≤ 2)) 6).1 < 0
    · refine r_cV3 g_19 rfl (Nat.le_of_ble_eq_true rfl) (Nat.le_of_ble_eq_true rfl) (c_X7_hear hI) (fun v_ m_ hq_ => ?_)
      rw [hgo] at hq_; obtain ⟨hq1, hq2⟩ := hq_; obtain ⟨rfl, hq3, hq4⟩ := hq1
      refine r_istore (Nat.le_of_ble_eq_true rfl) rfl ?_
      refine r_iload rfl ?_
      refine r_if_eq kX7_worth_39 (fun c1 => absurd c1 (by omega)) (fun c1 => ?_)
      refine r_iload rfl ?_
      refine r_iret rfl ?_
      exact ⟨az_oI (by unfold pOr; rw [if_pos hno]), hq3, hq4⟩
    · have hz := pTl_z hno
      have hg := p01_e (pTl_g hno)
      rcases (show w = 0 ∨ w = 1 ∨ w = 2 by omega) with hw | hw | hw
      · subst hw
        refine r_cV3 g_19 rfl (Nat.le_of_ble_eq_true rfl) (Nat.le_of_ble_eq_true rfl) (c_X7_hear hI) (fun v_ m_ hq_ => ?_)
        rw [hgo] at hq_; obtain ⟨hq1, hq2⟩ := hq_; obtain ⟨rfl, hq3, hq4⟩ := hq1; have hD := hq2 hz
        refine r_istore (Nat.le_of_ble_eq_true rfl) rfl ?_
        refine r_iload rfl ?_
        refine r_if_eq kX7_worth_39 (fun c1 => ?_) (fun c1 => absurd c1 (by omega))
        refine r_iload_n rfl ?_
        refine r_lsw rfl kX7_worth_68 ?_
        refine r_aload_n rfl ?_
        refine r_getR g_19 rfl ?_
        refine r_iload_n rfl ?_
        refine r_cV2I g_235 rfl (Nat.le_of_ble_eq_true rfl) (Nat.le_of_ble_eq_true rfl) (c_X2_worthOf hD hg.1.1 (by omega)) ?_
        refine r_iret rfl ?_
        exact ⟨az_oI (by unfold pOr; rw [if_neg hno]; rfl), hq3, hq4⟩
      · subst hw
        refine r_cV3 g_19 rfl (Nat.le_of_ble_eq_true rfl) (Nat.le_of_ble_eq_true rfl) (c_X7_hear hI) (fun v_ m_ hq_ => ?_)
        rw [hgo] at hq_; obtain ⟨hq1, hq2⟩ := hq_; obtain ⟨rfl, hq3, hq4⟩ := hq1; have hD := hq2 hz
        refine r_istore (Nat.le_of_ble_eq_true rfl) rfl ?_
        refine r_iload rfl ?_
        refine r_if_eq kX7_worth_39 (fun c1 => ?_) (fun c1 => absurd c1 (by omega))
        refine r_iload_n rfl ?_
        refine r_lsw rfl kX7_worth_77 ?_
        refine r_aload_n rfl ?_
        refine r_getR g_19 rfl ?_
        refine r_iload_n rfl ?_
        refine r_cV2I g_235 rfl (Nat.le_of_ble_eq_true rfl) (Nat.le_of_ble_eq_true rfl) (c_X2_pay hD hg.1.1 (by omega)) ?_
        refine r_iret rfl ?_
        exact ⟨az_oI (by unfold pOr; rw [if_neg hno]; rfl), hq3, hq4⟩
      · subst hw
        refine r_cV3 g_19 rfl (Nat.le_of_ble_eq_true rfl) (Nat.le_of_ble_eq_true rfl) (c_X7_hear hI) (fun v_ m_ hq_ => ?_)
        rw [hgo] at hq_; obtain ⟨hq1, hq2⟩ := hq_; obtain ⟨rfl, hq3, hq4⟩ := hq1; have hD := hq2 hz
        refine r_istore (Nat.le_of_ble_eq_true rfl) rfl ?_
        refine r_iload rfl ?_
        refine r_if_eq kX7_worth_39 (fun c1 => ?_) (fun c1 => absurd c1 (by omega))
        refine r_iload_n rfl ?_
        refine r_lsw rfl kX7_worth_86 ?_
        refine r_aload_n rfl ?_
        refine r_getR g_19 rfl ?_
        refine r_iload_n rfl ?_
        refine r_cV2I g_235 rfl (Nat.le_of_ble_eq_true rfl) (Nat.le_of_ble_eq_true rfl) (c_X2_share hD hg.1.1 (by omega)) ?_
        refine r_iret rfl ?_
        exact ⟨az_oI (by unfold pOr; rw [if_neg hno]; rfl), hq3, hq4⟩
  refine r_aload_n rfl ?_
  refine r_iload_n rfl ?_
  refine r_aload_n rfl ?_
  refine r_getR g_19 rfl ?_
  refine r_iload_n rfl ?_
  refine r_cV2I g_22 rfl (Nat.le_of_ble_eq_true rfl) (Nat.le_of_ble_eq_true rfl) (c_X1_has h10) ?_
  refine r_if_eq kX7_worth_25 (fun c1 => ?_) (fun c1 => ?_)
  · refine r_iconst ?_
    exact H _ (by unfold p01; first | rw [if_pos (by omega)] | rw [if_neg (by omega)])
  · refine r_iload_n rfl ?_
    refine r_iconst ?_
    refine r_cS2I (by decide) (Nat.le_of_ble_eq_true rfl) (Nat.le_of_ble_eq_true rfl) (c_X7_isOneOf _ _) ?_
    refine r_if_eq kX7_worth_25 (fun c2 => ?_) (fun c2 => ?_)
    · refine r_iconst ?_
      exact H _ (by unfold p01; first | rw [if_pos (by omega)] | rw [if_neg (by omega)])
    · refine r_iconst ?_
      refine r_goto kX7_worth_26 ?_
      exact H _ (by unfold p01; first | rw [if_pos (by omega)] | rw [if_neg (by omega)])
theorem c_X7_rounds {row g : Int} (hI : iD m) : az_C sc az_G 142 [.inr (.inr 20), .inl row, .inl g] m (qS m (pOr (pTl m row (p01 (g = -1 ∨ (0 ≤ g ∧ g ≤ m 284 2 - 1))) 6).1 (if g < 0 then (pTrn (m 284) (pPrice (m 284)) (m 284 0) 20 (pIt m row) 1).2 else (pTrn (m 284) (pPrice (m 284)) (m 284 0) 20 (pIt m row) 1).1 g)) (pTl m row (p01 (g = -1 ∨ (0 ≤ g ∧ g ≤ m 284 2 - 1))) 6).2) := by
  have h10 : m 22 10 = m 284 2 := hI.1.1.1.2.2.1
  have hn := nOK_2 hI.1.2.1
  have H : ∀ good, good = p01 (g = -1 ∨ (0 ≤ g ∧ g ≤ m 284 2 - 1)) → az_E sc az_G 142 zX7_rounds_23 [some (.inr (.inr 20)), some (.inl (row)), some (.inl (g)), none, none] [.inl good, .inl row, .inr (.inr 20)] m (qS m (pOr (pTl m row (p01 (g = -1 ∨ (0 ≤ g ∧ g ≤ m 284 2 - 1))) 6).1 (if g < 0 then (pTrn (m 284) (pPrice (m 284)) (m 284 0) 20 (pIt m row) 1).2 else (pTrn (m 284) (pPrice (m 284)) (m 284 0) 20 (pIt m row) 1).1 g)) (pTl m row (p01 (g = -1 ∨ (0 ≤ g ∧ g ≤ m 284 2 - 1))) 6).2) := by
    intro good hgo
    by_cases hno : (pTl m row (p01 (g = -1 ∨ (0 ≤ g ∧ g ≤ m 284 2 - 1))) 6).1 < 0
    · refine r_cV3 g_19 rfl (Nat.le_of_ble_eq_true rfl) (Nat.le_of_ble_eq_true rfl) (c_X7_hear hI) (fun v_ m_ hq_ => ?_)
      rw [hgo] at hq_; obtain ⟨hq1, hq2⟩ := hq_; obtain ⟨rfl, hq3, hq4⟩ := hq1
      refine r_istore_n (Nat.le_of_ble_eq_true rfl) rfl ?_
      refine r_iload_n rfl ?_
      refine r_if_eq kX7_rounds_33 (fun c1 => absurd c1 (by omega)) (fun c1 => ?_)
      refine r_iload_n rfl ?_
      refine r_iret rfl ?_
      exact ⟨az_oI (by unfold pOr; rw [if_pos hno]), hq3, hq4⟩
    · have hz := pTl_z hno
      have hg := p01_e (pTl_g hno)
      refine r_cV3 g_19 rfl (Nat.le_of_ble_eq_true rfl) (Nat.le_of_ble_eq_true rfl) (c_X7_hear hI) (fun v_23 m_23 hq_23 => ?_)
      rw [hgo] at hq_23; obtain ⟨hq1, hq2⟩ := hq_23; obtain ⟨rfl, hq3, hq4⟩ := hq1; have hD := hq2 hz
      refine r_istore_n (Nat.le_of_ble_eq_true rfl) rfl ?_
      refine r_iload_n rfl ?_
      refine r_if_eq kX7_rounds_33 (fun c1 => ?_) (fun c1 => absurd c1 (by omega))
      refine r_aload_n rfl ?_
      refine r_getR g_19 rfl ?_
      refine r_cV1 g_234 rfl (Nat.le_of_ble_eq_true rfl) (Nat.le_of_ble_eq_true rfl) (c_X3_turns hD) (fun v_37 m_37 hq_37 => ?_)
      obtain ⟨rfl, hfr, hD2⟩ := hq_37; have ht := dD_tt hD2
      refine r_istore (Nat.le_of_ble_eq_true rfl) rfl ?_
      refine r_iload_n rfl ?_
      refine r_iconst ?_
      refine r_icmp_ne kX7_rounds_52 (fun c2 => ?_) (fun c2 => ?_)
      · refine r_aload_n rfl ?_
        refine r_getR g_19 rfl ?_
        refine r_getR g_235 rfl ?_
        refine r_iload_n rfl ?_
        refine r_ialdx g_241 rfl (by omega) (by omega) (by omega) (ht g (by omega) (by omega)) ?_
        refine r_iret rfl ?_
        exact ⟨az_oI (by unfold pOr; rw [if_neg hno]; (repeat' split) <;> first | rfl | (exfalso; omega)), frC_t hq3 (frC_2 hfr), (congrFun (hfr 19 (by decide) (by decide)) _).trans hq4⟩
      · refine r_iload rfl ?_
        refine r_goto kX7_rounds_61 ?_
        refine r_iret rfl ?_
        exact ⟨az_oI (by unfold pOr; rw [if_neg hno]; (repeat' split) <;> first | rfl | (exfalso; omega)), frC_t hq3 (frC_2 hfr), (congrFun (hfr 19 (by decide) (by decide)) _).trans hq4⟩
  refine r_aload_n rfl ?_
  refine r_iload_n rfl ?_
  refine r_iload_n rfl ?_
  refine r_iconst ?_
  refine r_icmp_eq kX7_rounds_18 (fun c1 => ?_) (fun c1 => ?_)
  · refine r_iconst ?_
    refine r_goto kX7_rounds_23 ?_
    exact H _ (by unfold p01; first | rw [if_pos (by omega)] | rw [if_neg (by omega)])
  · refine r_aload_n rfl ?_
    refine r_getR g_19 rfl ?_
    refine r_iload_n rfl ?_
    refine r_cV2I g_22 rfl (Nat.le_of_ble_eq_true rfl) (Nat.le_of_ble_eq_true rfl) (c_X1_has h10) ?_
    refine r_if_eq kX7_rounds_22 (fun c2 => ?_) (fun c2 => ?_)
    · refine r_iconst ?_
      exact H _ (by unfold p01; first | rw [if_pos (by omega)] | rw [if_neg (by omega)])
    · refine r_iconst ?_
      refine r_goto kX7_rounds_23 ?_
      exact H _ (by unfold p01; first | rw [if_pos (by omega)] | rw [if_neg (by omega)])
end CE
