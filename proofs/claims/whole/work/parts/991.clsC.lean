/-! THE CLASS: acts, and what is asked of a beach -/
section CC
variable {sc : aX} {m : aM} {f t c : Int → Int} {sp : Int} {Q : Option aV → aM → Prop}
def iB (m : aM) : Prop := bR m 22 (m 284) ∧ nOK (m 284) ∧ m 22 7 = m 279 7 ∧ (m 279 7 = 0 ∨ m 279 7 = 1) ∧ (0 < m 284 2 → m 279 7 = 1)
def iP0 (m : aM) : Prop := (0 ≤ m 40 1 ∧ m 40 1 < 24) ∧ (0 ≤ m 40 2 ∧ m 40 2 ≤ 24)
/-- an act of the class: what was is kept, the beach is another -/
def cM (m m' : aM) (f' : Int → Int) : Prop := (∀ x, x ≠ 40 → (x < 22 ∨ 30 ≤ x) → (x < kb (m 40 1) ∨ kb (m 40 1) + 8 ≤ x) → (x < 234 ∨ 244 < x) → m' x = m x) ∧ m' 40 1 = (m 40 1 + 1) % 24 ∧ m' 40 2 = pMn (m 40 2) ∧ (bR m' (kb (m 40 1)) (m 284) ∧ m' (kb (m 40 1)) 7 = m 22 7) ∧ m' 22 7 = m 22 7 ∧ bR m' 22 f'
theorem cK_lo {m m1 : aM} (h : cK m m1) (hP : iP0 m) : ∀ x, x < 40 → m1 x = m x := fun x hx => by
  have hb := kb_b hP.1.1 hP.1.2
  exact h.1 x (by omega) (by omega)
theorem cM_of {m m1 m' : aM} {f' : Int → Int} (hI : iB m) (hP : iP0 m) (h : cK m m1) (hf : ∀ x, (x < 22 ∨ 30 ≤ x) → (x < 234 ∨ 244 < x) → m' x = m1 x) (h7 : m' 22 7 = m 22 7) (hB : bR m' 22 f') : cM m m' f' := by
  have hb := kb_b hP.1.1 hP.1.2
  obtain ⟨h1, h2, h3, m2, h4, h5⟩ := h
  have hk : bR m2 (kb (m 40 1)) (m 284) := bCp_R h4 (nOK_2 hI.2.1) hI.1
  have e : ∀ x, kb (m 40 1) ≤ x → x < kb (m 40 1) + 8 → m' x = m2 x := fun x a b => (hf x (by omega) (by omega)).trans (h5 x (by omega))
  refine ⟨fun x a b d e => (hf x b e).trans (h1 x a d), by rw [hf 40 (by omega) (by omega)]; exact h2, by rw [hf 40 (by omega) (by omega)]; exact h3, ⟨bR_fr hk e, ?_⟩, h7, hB⟩
  rw [e _ (by omega) (by omega)]
  exact h4.2.1 7 (by decide) (by decide)
def qC (m : aM) (p : Int × Option (Int → Int)) : Option aV → aM → Prop := fun v m' => v = some (.inl p.1) ∧ ((p.2 = none ∧ m' = m) ∨ ∃ f', p.2 = some f' ∧ cM m m' f')
theorem qC_0 {m : aM} {x : Int} : qC m (x, none) (some (.inl x)) m := ⟨rfl, Or.inl ⟨rfl, rfl⟩⟩
theorem qC_1 {m m' : aM} {x : Int} {f' : Int → Int} (h : cM m m' f') : qC m (x, some f') (some (.inl x)) m' := ⟨rfl, Or.inr ⟨f', rfl, h⟩⟩
theorem pThB_c {f f' : Int → Int} (h2 : f' 2 = f 2) (h : ∀ g, 0 ≤ g → g < f 2 → f' (32 + g) = f (32 + g)) : pThB f' = pThB f := by
  unfold pThB
  rw [h2]
  exact mask_cong (fun g g0 g1 => by (try dsimp only); rw [h g g0 g1])
theorem pShB_c {f f' : Int → Int} (h2 : f' 2 = f 2) (h : ∀ g, 0 ≤ g → g < f 2 → f' (40 + g) = f (40 + g)) : pShB f' = pShB f := by
  unfold pShB
  rw [h2]
  exact mask_cong (fun g g0 g1 => by (try dsimp only); rw [h g g0 g1])
theorem c_X7_leave {g : Int} (hI : iB m) (hP : iP0 m) : az_C sc az_G 88 [.inr (.inr 20), .inl g] m (qC m (pLeave (m 284) g)) := by
  obtain ⟨f, hff⟩ : ∃ f, f = m 284 := ⟨_, rfl⟩
  have hI0 := hI
  obtain ⟨hB, hN, hz, hz1, hz2⟩ := hI
  rw [← hff] at hB hN hz2 ⊢
  have hn := nOK_2 hN
  have hz7 : m 22 7 = 0 ∨ m 22 7 = 1 := by rw [hz]; exact hz1
  have h10 : m 22 10 = f 2 := hB.1.2.2.1
  have h13 : m 22 13 = pMask (fun g => 1 - f (32 + g)) (f 2) := hB.1.2.2.2.2.2.2.1
  unfold pLeave
  by_cases hg : 0 ≤ g ∧ g ≤ f 2 - 1
  · rw [if_pos hg]
    have hG := nOK_g hN g hg.1 (by omega)
    have hb := mask_bit (q01_th hN) hn.2 hg.1 (show g < f 2 by omega)
    try dsimp only at hb
    by_cases hl : f (32 + g) = 1
    · rw [if_pos hl]
      refine r_aload_n rfl ?_
      refine r_getR g_19 rfl ?_
      refine r_iload_n rfl ?_
      refine r_cV2I g_22 rfl (Nat.le_of_ble_eq_true rfl) (Nat.le_of_ble_eq_true rfl) (c_X1_has h10) ?_
      refine r_if_ne kX7_leave_14 (fun c1 => ?_) (fun c1 => absurd c1 (by omega))
      refine r_iload_n rfl ?_
      refine r_aload_n rfl ?_
      refine r_getR g_19 rfl ?_
      refine r_getIx g_22 (h13) ?_
      refine r_cS2I (by decide) (Nat.le_of_ble_eq_true rfl) (Nat.le_of_ble_eq_true rfl) (c_X7_isIn _ _) ?_
      refine r_if_ne kX7_leave_31 (fun c2 => absurd c2 (by omega)) (fun c2 => ?_)
      refine r_ldcI ?_
      refine r_iret rfl ?_
      exact qC_0
    · rw [if_neg hl]
      have h4 := hG.2.2.2.2.2.2.2.2 (by omega)
      have ho := mask_off (q01_th hN) hn.2 hg.1 (show g < f 2 by omega)
      refine r_aload_n rfl ?_
      refine r_getR g_19 rfl ?_
      refine r_iload_n rfl ?_
      refine r_cV2I g_22 rfl (Nat.le_of_ble_eq_true rfl) (Nat.le_of_ble_eq_true rfl) (c_X1_has h10) ?_
      refine r_if_ne kX7_leave_14 (fun c1 => ?_) (fun c1 => absurd c1 (by omega))
      refine r_iload_n rfl ?_
      refine r_aload_n rfl ?_
      refine r_getR g_19 rfl ?_
      refine r_getIx g_22 (h13) ?_
      refine r_cS2I (by decide) (Nat.le_of_ble_eq_true rfl) (Nat.le_of_ble_eq_true rfl) (c_X7_isIn _ _) ?_
      refine r_if_ne kX7_leave_31 (fun c2 => ?_) (fun c2 => absurd c2 (by omega))
      refine r_aload_n rfl ?_
      refine r_getR g_19 rfl ?_
      refine r_aload_n rfl ?_
      refine r_getR g_19 rfl ?_
      refine r_cV2 g_40 rfl (Nat.le_of_ble_eq_true rfl) (Nat.le_of_ble_eq_true rfl) (c_X4_keep hP.1 hP.2 hz7) (fun v_ m_ hq_ => ?_)
      obtain ⟨rfl, hK⟩ := hq_
      refine r_aload_n rfl ?_
      refine r_getR g_19 rfl ?_
      refine r_aload_n rfl ?_
      refine r_getR g_19 rfl ?_
      refine r_getIx g_22 ((congrFun (cK_lo hK hP 22 (by decide)) 13).trans h13) ?_
      refine r_iconst ?_
      refine r_iload_n rfl ?_
      refine r_ishl rfl ?_
      refine r_iconst ?_
      refine r_ixor rfl ?_
      refine r_iand (ho) ?_
      refine r_putI g_22 (by decide) ?_
      refine r_aload_n rfl ?_
      refine r_getR g_19 rfl ?_
      refine r_getR g_22 rfl ?_
      refine r_iload_n rfl ?_
      refine r_aload_n rfl ?_
      refine r_getR g_19 rfl ?_
      refine r_getIx g_22 ((az_up_eq (fun e => absurd e (by decide)) (fun _ => (congrFun (cK_lo hK hP 22 (by decide)) 11).trans hB.1.2.2.2.1))) ?_
      refine r_iast g_29 (by decide) (by omega) (by omega) ?_
      refine r_aload_n rfl ?_
      refine r_getR g_19 rfl ?_
      refine r_getIx g_22 ((congrFun (az_up_b _ _ _ (by decide)) _).trans (az_up_eq (fun e => absurd e (by decide)) (fun _ => (congrFun (cK_lo hK hP 22 (by decide)) 11).trans hB.1.2.2.2.1))) ?_
      refine r_iret rfl ?_
      skip
      rw [h4]
      refine qC_1 (cM_of hI0 hP hK (fun x hx _ => ?_) ?_ ?_)
      · rw [az_up_b _ _ _ (by omega), az_up_b _ _ _ (by omega)]
      · rw [az_up_b _ _ _ (by decide), az_up_k _ _ (by decide), cK_lo hK hP 22 (by decide)]
      · have e22 := cK_lo hK hP 22 (by decide)
        have hB1 := bR_fr hB (fun x a b => cK_lo hK hP x (by omega))
        obtain ⟨a1, a2, a3⟩ := hB1
        obtain ⟨i1, i2, i3, i4, i5, i6, i7, i8⟩ := a1
        have eo : ∀ j, j ≠ 32 + g → up1 f (32 + g) 1 j = f j := fun j h => up1_ne _ _ h
        refine ⟨⟨?_, ?_, ?_, ?_, ?_, ?_, ?_, ?_⟩, fun k k0 k1 => ?_, fun k k0 k1 => ?_⟩
        · rw [az_up_b _ _ _ (by decide), az_up_k _ _ (by decide), eo _ (by omega)]; exact i1
        · rw [az_up_b _ _ _ (by decide), az_up_k _ _ (by decide), eo _ (by omega)]; exact i2
        · rw [az_up_b _ _ _ (by decide), az_up_k _ _ (by decide), eo _ (by omega)]; exact i3
        · rw [az_up_b _ _ _ (by decide), az_up_k _ _ (by decide), eo _ (by omega)]; exact i4
        · rw [az_up_b _ _ _ (by decide), az_up_k _ _ (by decide), eo _ (by omega)]; exact i5
        · rw [az_up_b _ _ _ (by decide), az_up_k _ _ (by decide), eo _ (by omega)]; exact i6
        · rw [az_up_b _ _ _ (by decide), az_upx]
          unfold pThB
          rw [eo _ (by omega)]
          refine mask_cong (fun j j0 j1 => ?_)
          by_cases e : j = g
          · subst e
            rw [up1_at, up1_at]
            rfl
          · rw [up1_ne _ _ e, eo _ (by omega)]
        · rw [az_up_b _ _ _ (by decide), az_up_k _ _ (by decide), i8]
          exact (pShB_c (eo _ (by omega)) (fun j j0 j1 => eo _ (by omega))).symm
        · rw [az_up_b _ _ _ (by decide), az_up_b _ _ _ (by decide), eo _ (by omega)]
          exact a2 k k0 k1
        · rw [eo 2 (by omega)] at k1
          obtain ⟨g1, g2, g3, g4, g5, g6⟩ := a3 k k0 k1
          rw [az_up_b _ _ _ (by decide), az_up_b _ _ _ (by decide), az_up_b _ _ _ (by decide), az_up_b _ _ _ (by decide), az_up_b _ _ _ (by decide), az_up_b _ _ _ (by decide), az_up_b _ _ _ (by decide), az_up_b _ _ _ (by decide), az_up_b _ _ _ (by decide), az_up_b _ _ _ (by decide), eo _ (by omega), eo _ (by omega), eo _ (by omega), eo _ (by omega), eo _ (by omega), eo (36 + k) (by omega)]
          refine ⟨g1, g2, g3, g4, g5, fun h => ?_⟩
          by_cases e : k = g
          · subst e
            rw [az_upx]
            exact h4.symm
          · rw [az_up_k _ _ e, az_up_b _ _ _ (by decide)]
            rw [eo _ (by omega)] at h
            exact g6 h
  · rw [if_neg hg]
    refine r_aload_n rfl ?_
    refine r_getR g_19 rfl ?_
    refine r_iload_n rfl ?_
    refine r_cV2I g_22 rfl (Nat.le_of_ble_eq_true rfl) (Nat.le_of_ble_eq_true rfl) (c_X1_has h10) ?_
    refine r_if_ne kX7_leave_14 (fun c1 => absurd c1 (by omega)) (fun c1 => ?_)
    refine r_ldcI ?_
    refine r_iret rfl ?_
    exact qC_0
/-- a beach as it was but for one number of the beach cell -/
theorem bR_up {m : aM} {f f' : Int → Int} {k v : Int} (hk : 8 ≤ k) (hB : bR m 22 f) (h2 : f' 2 = f 2) (hi : bRi (az_up m 22 k v) 22 f') (hh : ∀ h, 0 ≤ h → h < 6 → f' (6 + h) = f (6 + h)) (hg : ∀ g, 0 ≤ g → g < f 2 → f' (12 + g) = f (12 + g) ∧ f' (16 + g) = f (16 + g) ∧ f' (20 + g) = f (20 + g) ∧ f' (24 + g) = f (24 + g) ∧ f' (28 + g) = f (28 + g) ∧ f' (32 + g) = f (32 + g) ∧ (f (32 + g) = 1 → f' (36 + g) = f (36 + g))) : bR (az_up m 22 k v) 22 f' := by
  obtain ⟨a1, a2, a3⟩ := hB
  refine ⟨hi, fun h h0 h1 => ?_, fun g h0 h1 => ?_⟩
  · rw [az_up_b _ _ _ (by decide), hh h h0 h1]
    exact a2 h h0 h1
  · rw [h2] at h1
    obtain ⟨g1, g2, g3, g4, g5, g6⟩ := a3 g h0 h1
    obtain ⟨e1, e2, e3, e4, e5, e6, e7⟩ := hg g h0 h1
    rw [az_up_b _ _ _ (by decide), az_up_b _ _ _ (by decide), az_up_b _ _ _ (by decide), az_up_b _ _ _ (by decide), az_up_b _ _ _ (by decide), az_up_b _ _ _ (by decide), e1, e2, e3, e4, e5, e6]
    exact ⟨g1, g2, g3, g4, g5, fun h => by rw [e7 h]; exact g6 h⟩
theorem c_X7_cloud {h : Int} (hI : iB m) (hP : iP0 m) : az_C sc az_G 92 [.inr (.inr 20), .inl h] m (qC m (pCloud (m 279 7) (m 284) h)) := by
  obtain ⟨f, hff⟩ : ∃ f, f = m 284 := ⟨_, rfl⟩
  have hI0 := hI
  obtain ⟨hB, hN, hz, hz1, hz2⟩ := hI
  rw [← hff] at hB hN hz2 ⊢
  have hn := nOK_2 hN
  have hz7 : m 22 7 = 0 ∨ m 22 7 = 1 := by rw [hz]; exact hz1
  unfold pCloud
  by_cases hzz : m 279 7 = 0
  · rw [if_pos hzz]
    refine r_aload_n rfl ?_
    refine r_getR g_19 rfl ?_
    refine r_getZx g_22 (hz) ?_
    refine r_if_ne kX7_cloud_13 (fun c1 => absurd c1 (by omega)) (fun c1 => ?_)
    refine r_ldcI ?_
    refine r_iret rfl ?_
    exact qC_0
  rw [if_neg hzz]
  by_cases hh : 0 ≤ h ∧ h ≤ 5
  · rw [if_pos hh]
    have hb01 := pBit_01 (f 5) h
    by_cases hl : pBit (f 5) h = 1 ∨ h < f 4
    · rw [if_pos hl]
      refine r_aload_n rfl ?_
      refine r_getR g_19 rfl ?_
      refine r_getZx g_22 (hz) ?_
      refine r_if_ne kX7_cloud_13 (fun c1 => ?_) (fun c1 => absurd c1 (by omega))
      refine r_iload_n rfl ?_
      refine r_cS1I (by decide) (Nat.le_of_ble_eq_true rfl) (Nat.le_of_ble_eq_true rfl) (c_X7_isHour _) ?_
      refine r_if_ne kX7_cloud_23 (fun c2 => ?_) (fun c2 => absurd c2 (by omega))
      refine r_iload_n rfl ?_
      refine r_aload_n rfl ?_
      refine r_getR g_19 rfl ?_
      refine r_getIx g_22 (hB.1.2.2.2.2.2.1) ?_
      refine r_cS2I (by decide) (Nat.le_of_ble_eq_true rfl) (Nat.le_of_ble_eq_true rfl) (c_X7_isIn _ _) ?_
      refine r_if_ne kX7_cloud_48 (fun c3 => ?_) (fun c3 => ?_)
      · refine r_ldcI ?_
        refine r_iret rfl ?_
        exact qC_0
      · refine r_iload_n rfl ?_
        refine r_aload_n rfl ?_
        refine r_getR g_19 rfl ?_
        refine r_getIx g_22 (hB.1.2.2.2.1) ?_
        refine r_icmp_ge kX7_cloud_51 (fun c4 => absurd c4 (by omega)) (fun c4 => ?_)
        refine r_ldcI ?_
        refine r_iret rfl ?_
        exact qC_0
    · rw [if_neg hl]
      have hp := nOK_p hN h hh.1 (by omega)
      obtain ⟨f', hf'⟩ : ∃ f', f' = up1 f 5 (az_or (f 5) (az_shl 1 h)) := ⟨_, rfl⟩
      rw [← hf']
      have e5 : f' 5 = az_or (f 5) (az_shl 1 h) := by rw [hf', up1_at]
      have eo : ∀ j, j ≠ 5 → f' j = f j := fun j hj => by rw [hf', up1_ne _ _ hj]
      refine r_aload_n rfl ?_
      refine r_getR g_19 rfl ?_
      refine r_getZx g_22 (hz) ?_
      refine r_if_ne kX7_cloud_13 (fun c1 => ?_) (fun c1 => absurd c1 (by omega))
      refine r_iload_n rfl ?_
      refine r_cS1I (by decide) (Nat.le_of_ble_eq_true rfl) (Nat.le_of_ble_eq_true rfl) (c_X7_isHour _) ?_
      refine r_if_ne kX7_cloud_23 (fun c2 => ?_) (fun c2 => absurd c2 (by omega))
      refine r_iload_n rfl ?_
      refine r_aload_n rfl ?_
      refine r_getR g_19 rfl ?_
      refine r_getIx g_22 (hB.1.2.2.2.2.2.1) ?_
      refine r_cS2I (by decide) (Nat.le_of_ble_eq_true rfl) (Nat.le_of_ble_eq_true rfl) (c_X7_isIn _ _) ?_
      refine r_if_ne kX7_cloud_48 (fun c3 => absurd c3 (by omega)) (fun c3 => ?_)
      refine r_iload_n rfl ?_
      refine r_aload_n rfl ?_
      refine r_getR g_19 rfl ?_
      refine r_getIx g_22 (hB.1.2.2.2.1) ?_
      refine r_icmp_ge kX7_cloud_51 (fun c4 => ?_) (fun c4 => absurd c4 (by omega))
      refine r_aload_n rfl ?_
      refine r_getR g_19 rfl ?_
      refine r_aload_n rfl ?_
      refine r_getR g_19 rfl ?_
      refine r_cV2 g_40 rfl (Nat.le_of_ble_eq_true rfl) (Nat.le_of_ble_eq_true rfl) (c_X4_keep hP.1 hP.2 hz7) (fun v_ m_ hq_ => ?_)
      obtain ⟨rfl, hK⟩ := hq_
      refine r_aload_n rfl ?_
      refine r_getR g_19 rfl ?_
      refine r_aload_n rfl ?_
      refine r_getR g_19 rfl ?_
      refine r_getIx g_22 ((congrFun (cK_lo hK hP 22 (by decide)) 15).trans hB.1.2.2.2.2.2.1) ?_
      refine r_iconst ?_
      refine r_iload_n rfl ?_
      refine r_ishl rfl ?_
      refine r_ior (e5.symm) ?_
      refine r_putI g_22 (by decide) ?_
      refine r_aload_n rfl ?_
      refine r_getR g_19 rfl ?_
      refine r_iload_n rfl ?_
      refine r_cV2I g_22 rfl (Nat.le_of_ble_eq_true rfl) (Nat.le_of_ble_eq_true rfl) (c_X1_priceOf (f := f') (az_upx _ _ _ _) ((congrFun (az_up_b _ _ _ (by decide)) _).trans ((congrFun (cK_lo hK hP 23 (by decide)) _).trans ((hB.2.1 h hh.1 (by omega)).trans (eo _ (by omega)).symm))) (by rw [eo _ (by omega)]; exact hp) hh.1 (by omega)) ?_
      refine r_iret rfl ?_
      skip
      have hB1 := bR_fr hB (fun x a b => cK_lo hK hP x (by omega))
      refine qC_1 (cM_of hI0 hP hK (fun x hx _ => az_up_b _ _ _ (by omega)) ?_ ?_)
      · rw [az_up_k _ _ (by decide), cK_lo hK hP 22 (by decide)]
      · refine bR_up (by decide) hB1 (eo 2 (by decide)) ?_ (fun k k0 k1 => eo _ (by omega)) (fun g g0 g1 => ⟨eo _ (by omega), eo _ (by omega), eo _ (by omega), eo _ (by omega), eo _ (by omega), eo _ (by omega), fun _ => eo _ (by omega)⟩)
        obtain ⟨i1, i2, i3, i4, i5, i6, i7, i8⟩ := hB1.1
        refine ⟨?_, ?_, ?_, ?_, ?_, az_upx _ _ _ _, ?_, ?_⟩
        · rw [az_up_k _ _ (by decide), eo _ (by decide)]; exact i1
        · rw [az_up_k _ _ (by decide), eo _ (by decide)]; exact i2
        · rw [az_up_k _ _ (by decide), eo _ (by decide)]; exact i3
        · rw [az_up_k _ _ (by decide), eo _ (by decide)]; exact i4
        · rw [az_up_k _ _ (by decide), eo _ (by decide)]; exact i5
        · rw [az_up_k _ _ (by decide), pThB_c (eo 2 (by decide)) (fun g g0 g1 => eo _ (by omega))]; exact i7
        · rw [az_up_k _ _ (by decide), pShB_c (eo 2 (by decide)) (fun g g0 g1 => eo _ (by omega))]; exact i8
  · rw [if_neg hh]
    refine r_aload_n rfl ?_
    refine r_getR g_19 rfl ?_
    refine r_getZx g_22 (hz) ?_
    refine r_if_ne kX7_cloud_13 (fun c1 => ?_) (fun c1 => absurd c1 (by omega))
    refine r_iload_n rfl ?_
    refine r_cS1I (by decide) (Nat.le_of_ble_eq_true rfl) (Nat.le_of_ble_eq_true rfl) (c_X7_isHour _) ?_
    refine r_if_ne kX7_cloud_23 (fun c2 => absurd c2 (by omega)) (fun c2 => ?_)
    refine r_ldcI ?_
    refine r_iret rfl ?_
    exact qC_0
theorem c_X7_shade {g is : Int} (hI : iB m) (hP : iP0 m) : az_C sc az_G 94 [.inr (.inr 20), .inl g, .inl is] m (qC m (pShade (m 284) g is)) := by
  obtain ⟨f, hff⟩ : ∃ f, f = m 284 := ⟨_, rfl⟩
  have hI0 := hI
  obtain ⟨hB, hN, hz, hz1, hz2⟩ := hI
  rw [← hff] at hB hN hz2 ⊢
  have hn := nOK_2 hN
  have hz7 : m 22 7 = 0 ∨ m 22 7 = 1 := by rw [hz]; exact hz1
  have h10 : m 22 10 = f 2 := hB.1.2.2.1
  unfold pShade
  by_cases hg : (0 ≤ g ∧ g ≤ f 2 - 1) ∧ (0 ≤ is ∧ is ≤ 1)
  · rw [if_pos hg]
    have h14 : m 22 14 = pMask (fun g => f (40 + g)) (f 2) := hB.1.2.2.2.2.2.2.2
    have hb := mask_bit (q01_sh hN) hn.2 hg.1.1 (show g < f 2 by omega)
    have hs := mask_set (q01_sh hN) hn.2 hg.1.1 (show g < f 2 by omega) (show is = 0 ∨ is = 1 by omega)
    have eo : ∀ j, j ≠ 40 + g → up1 f (40 + g) is j = f j := fun j h => up1_ne _ _ h
    refine r_aload_n rfl ?_
    refine r_getR g_19 rfl ?_
    refine r_iload_n rfl ?_
    refine r_cV2I g_22 rfl (Nat.le_of_ble_eq_true rfl) (Nat.le_of_ble_eq_true rfl) (c_X1_has h10) ?_
    refine r_if_eq kX7_shade_19 (fun c1 => absurd c1 (by omega)) (fun c1 => ?_)
    refine r_iload_n rfl ?_
    refine r_iconst ?_
    refine r_cS2I (by decide) (Nat.le_of_ble_eq_true rfl) (Nat.le_of_ble_eq_true rfl) (c_X7_isOneOf _ _) ?_
    refine r_if_ne kX7_shade_22 (fun c2 => ?_) (fun c2 => absurd c2 (by omega))
    refine r_aload_n rfl ?_
    refine r_getR g_19 rfl ?_
    refine r_aload_n rfl ?_
    refine r_getR g_19 rfl ?_
    refine r_cV2 g_40 rfl (Nat.le_of_ble_eq_true rfl) (Nat.le_of_ble_eq_true rfl) (c_X4_keep hP.1 hP.2 hz7) (fun v_ m_ hq_ => ?_)
    obtain ⟨rfl, hK⟩ := hq_
    refine r_iload_n rfl ?_
    refine r_aload_n rfl ?_
    refine r_getR g_19 rfl ?_
    refine r_getIx g_22 ((congrFun (cK_lo hK hP 22 (by decide)) 14).trans h14) ?_
    refine r_cS2I (by decide) (Nat.le_of_ble_eq_true rfl) (Nat.le_of_ble_eq_true rfl) (az_CI_to (c_X7_bit _ _) hb rfl) ?_
    refine r_istore_n (Nat.le_of_ble_eq_true rfl) rfl ?_
    refine r_aload_n rfl ?_
    refine r_getR g_19 rfl ?_
    refine r_aload_n rfl ?_
    refine r_getR g_19 rfl ?_
    refine r_getIx g_22 ((congrFun (cK_lo hK hP 22 (by decide)) 14).trans h14) ?_
    refine r_iconst ?_
    refine r_iload_n rfl ?_
    refine r_ishl rfl ?_
    refine r_iconst ?_
    refine r_ixor rfl ?_
    refine r_iand rfl ?_
    refine r_iload_n rfl ?_
    refine r_iload_n rfl ?_
    refine r_ishl rfl ?_
    refine r_ior (hs) ?_
    refine r_putI g_22 (by decide) ?_
    refine r_iload_n rfl ?_
    refine r_iret rfl ?_
    skip
    have hB1 := bR_fr hB (fun x a b => cK_lo hK hP x (by omega))
    refine qC_1 (cM_of hI0 hP hK (fun x hx _ => az_up_b _ _ _ (by omega)) ?_ ?_)
    · rw [az_up_k _ _ (by decide), cK_lo hK hP 22 (by decide)]
    · refine bR_up (by decide) hB1 (eo 2 (by omega)) ?_ (fun k k0 k1 => eo _ (by omega)) (fun g g0 g1 => ⟨eo _ (by omega), eo _ (by omega), eo _ (by omega), eo _ (by omega), eo _ (by omega), eo _ (by omega), fun _ => eo _ (by omega)⟩)
      obtain ⟨i1, i2, i3, i4, i5, i6, i7, i8⟩ := hB1.1
      refine ⟨?_, ?_, ?_, ?_, ?_, ?_, ?_, ?_⟩
      · rw [az_up_k _ _ (by decide), eo _ (by omega)]; exact i1
      · rw [az_up_k _ _ (by decide), eo _ (by omega)]; exact i2
      · rw [az_up_k _ _ (by decide), eo _ (by omega)]; exact i3
      · rw [az_up_k _ _ (by decide), eo _ (by omega)]; exact i4
      · rw [az_up_k _ _ (by decide), eo _ (by omega)]; exact i5
      · rw [az_up_k _ _ (by decide), eo _ (by omega)]; exact i6
      · rw [az_up_k _ _ (by decide), pThB_c (eo 2 (by omega)) (fun g g0 g1 => eo _ (by omega))]; exact i7
      · rw [az_upx]
        unfold pShB
        rw [eo _ (by omega)]
        refine mask_cong (fun j j0 j1 => ?_)
        by_cases e : j = g
        · subst e
          rw [up1_at, up1_at]
        · rw [up1_ne _ _ e, eo _ (by omega)]
  · rw [if_neg hg]
    refine r_aload_n rfl ?_
    refine r_getR g_19 rfl ?_
    refine r_iload_n rfl ?_
    refine r_cV2I g_22 rfl (Nat.le_of_ble_eq_true rfl) (Nat.le_of_ble_eq_true rfl) (c_X1_has h10) ?_
    refine r_if_eq kX7_shade_19 (fun c1 => ?_) (fun c1 => ?_)
    · refine r_ldcI ?_
      refine r_iret rfl ?_
      exact qC_0
    · refine r_iload_n rfl ?_
      refine r_iconst ?_
      refine r_cS2I (by decide) (Nat.le_of_ble_eq_true rfl) (Nat.le_of_ble_eq_true rfl) (c_X7_isOneOf _ _) ?_
      refine r_if_ne kX7_shade_22 (fun c2 => absurd c2 (by omega)) (fun c2 => ?_)
      refine r_ldcI ?_
      refine r_iret rfl ?_
      exact qC_0
theorem c_X7_gift {g n : Int} (hI : iB m) (hP : iP0 m) : az_C sc az_G 96 [.inr (.inr 20), .inl g, .inl n] m (qC m (pGift (m 284) g n)) := by
  obtain ⟨f, hff⟩ : ∃ f, f = m 284 := ⟨_, rfl⟩
  have hI0 := hI
  obtain ⟨hB, hN, hz, hz1, hz2⟩ := hI
  rw [← hff] at hB hN hz2 ⊢
  have hn := nOK_2 hN
  have hz7 : m 22 7 = 0 ∨ m 22 7 = 1 := by rw [hz]; exact hz1
  have h10 : m 22 10 = f 2 := hB.1.2.2.1
  unfold pGift
  by_cases hg : (0 ≤ g ∧ g ≤ f 2 - 1) ∧ (1 ≤ n ∧ n ≤ 999)
  · rw [if_pos hg]
    have hG := nOK_g hN g hg.1.1 (by omega)
    have hd : m 28 g = f (28 + g) := (hB.2.2 g hg.1.1 (by omega)).2.2.2.2.1
    have hp : m 27 g = f (24 + g) := (hB.2.2 g hg.1.1 (by omega)).2.2.2.1
    obtain ⟨ov, hov⟩ : ∃ x, x = pOver f g n := ⟨_, rfl⟩
    obtain ⟨le, hle⟩ : ∃ x, x = pLess f g n := ⟨_, rfl⟩
    obtain ⟨x, hx⟩ : ∃ x, x = (if f (28 + g) < n then f (28 + g) else n) := ⟨_, rfl⟩
    have hr : 0 ≤ ov ∧ ov ≤ 999 ∧ le = f (28 + g) - x ∧ ov = n - x ∧ 0 ≤ x ∧ x ≤ n ∧ x ≤ f (28 + g) := by
      rw [hov, hle, hx]
      unfold pOver pLess
      (repeat' split) <;> omega
    rw [← hov, ← hle]
    by_cases hl : 9999 < f (24 + g) + ov
    · rw [if_pos hl]
      refine r_aload_n rfl ?_
      refine r_getR g_19 rfl ?_
      refine r_iload_n rfl ?_
      refine r_cV2I g_22 rfl (Nat.le_of_ble_eq_true rfl) (Nat.le_of_ble_eq_true rfl) (c_X1_has h10) ?_
      refine r_if_eq kX7_gift_23 (fun c1 => absurd c1 (by omega)) (fun c1 => ?_)
      refine r_iload_n rfl ?_
      refine r_iconst ?_
      refine r_icmp_lt kX7_gift_23 (fun c2 => absurd c2 (by omega)) (fun c2 => ?_)
      refine r_iload_n rfl ?_
      refine r_sipush ?_
      refine r_icmp_le kX7_gift_26 (fun c3 => ?_) (fun c3 => absurd c3 (by omega))
      refine r_iload_n rfl ?_
      refine r_aload_n rfl ?_
      refine r_getR g_19 rfl ?_
      refine r_getR g_22 rfl ?_
      refine r_iload_n rfl ?_
      refine r_ialdx g_28 rfl (by omega) (by omega) (by omega) (hd) ?_
      refine r_min (Nat.le_of_ble_eq_true rfl) hx.symm ?_
      refine r_istore_n (Nat.le_of_ble_eq_true rfl) rfl ?_
      refine r_aload_n rfl ?_
      refine r_getR g_19 rfl ?_
      refine r_getR g_22 rfl ?_
      refine r_iload_n rfl ?_
      refine r_ialdx g_27 rfl (by omega) (by omega) (by omega) (hp) ?_
      refine r_iload_n rfl ?_
      first | refine r_iadd (az_wid (by omega) (by omega)) ?_ | refine r_iaddw ?_
      refine r_iload_n rfl ?_
      first | refine r_isub (az_wid (by omega) (by omega)) ?_ | refine r_isubw ?_
      refine r_istore (Nat.le_of_ble_eq_true rfl) rfl ?_
      refine r_iload rfl ?_
      refine r_sipush ?_
      refine r_icmp_le kX7_gift_66 (fun c4 => absurd c4 (by omega)) (fun c4 => ?_)
      refine r_ldcI ?_
      refine r_iret rfl ?_
      exact qC_0
    · rw [if_neg hl]
      refine r_aload_n rfl ?_
      refine r_getR g_19 rfl ?_
      refine r_iload_n rfl ?_
      refine r_cV2I g_22 rfl (Nat.le_of_ble_eq_true rfl) (Nat.le_of_ble_eq_true rfl) (c_X1_has h10) ?_
      refine r_if_eq kX7_gift_23 (fun c1 => absurd c1 (by omega)) (fun c1 => ?_)
      refine r_iload_n rfl ?_
      refine r_iconst ?_
      refine r_icmp_lt kX7_gift_23 (fun c2 => absurd c2 (by omega)) (fun c2 => ?_)
      refine r_iload_n rfl ?_
      refine r_sipush ?_
      refine r_icmp_le kX7_gift_26 (fun c3 => ?_) (fun c3 => absurd c3 (by omega))
      refine r_iload_n rfl ?_
      refine r_aload_n rfl ?_
      refine r_getR g_19 rfl ?_
      refine r_getR g_22 rfl ?_
      refine r_iload_n rfl ?_
      refine r_ialdx g_28 rfl (by omega) (by omega) (by omega) (hd) ?_
      refine r_min (Nat.le_of_ble_eq_true rfl) hx.symm ?_
      refine r_istore_n (Nat.le_of_ble_eq_true rfl) rfl ?_
      refine r_aload_n rfl ?_
      refine r_getR g_19 rfl ?_
      refine r_getR g_22 rfl ?_
      refine r_iload_n rfl ?_
      refine r_ialdx g_27 rfl (by omega) (by omega) (by omega) (hp) ?_
      refine r_iload_n rfl ?_
      first | refine r_iadd (az_wid (by omega) (by omega)) ?_ | refine r_iaddw ?_
      refine r_iload_n rfl ?_
      first | refine r_isub (az_wid (by omega) (by omega)) ?_ | refine r_isubw ?_
      refine r_istore (Nat.le_of_ble_eq_true rfl) rfl ?_
      refine r_iload rfl ?_
      refine r_sipush ?_
      refine r_icmp_le kX7_gift_66 (fun c4 => ?_) (fun c4 => absurd c4 (by omega))
      refine r_aload_n rfl ?_
      refine r_getR g_19 rfl ?_
      refine r_aload_n rfl ?_
      refine r_getR g_19 rfl ?_
      refine r_cV2 g_40 rfl (Nat.le_of_ble_eq_true rfl) (Nat.le_of_ble_eq_true rfl) (c_X4_keep hP.1 hP.2 hz7) (fun v_ m_ hq_ => ?_)
      obtain ⟨rfl, hK⟩ := hq_
      refine r_aload_n rfl ?_
      refine r_getR g_19 rfl ?_
      refine r_getR g_22 rfl ?_
      refine r_iload_n rfl ?_
      refine r_dup2 ?_
      refine r_ialdx g_28 rfl (by omega) (by omega) (by omega) ((congrFun (cK_lo hK hP 28 (by decide)) _).trans hd) ?_
      refine r_iload_n rfl ?_
      first | refine r_isub (az_wid (by omega) (by omega)) ?_ | refine r_isubw ?_
      refine r_iast g_28 (by decide) (by omega) (by omega) ?_
      refine r_aload_n rfl ?_
      refine r_getR g_19 rfl ?_
      refine r_getR g_22 rfl ?_
      refine r_iload_n rfl ?_
      refine r_iload rfl ?_
      refine r_iast g_27 (by decide) (by omega) (by omega) ?_
      refine r_aload_n rfl ?_
      refine r_getR g_19 rfl ?_
      refine r_getR g_22 rfl ?_
      refine r_iload_n rfl ?_
      refine r_ialdx g_28 rfl (by omega) (by omega) (by omega) ((congrFun (az_up_b _ _ _ (by decide)) _).trans (az_upx _ _ _ _)) ?_
      refine r_iret rfl ?_
      skip
      have e1 : f (28 + g) - x = le := by omega
      have e2 : f (24 + g) + n - x = f (24 + g) + ov := by omega
      rw [e1, e2]
      have hB1 := bR_fr hB (fun x a b => cK_lo hK hP x (by omega))
      have eo : ∀ j, j ≠ 28 + g → j ≠ 24 + g → up1 (up1 f (28 + g) le) (24 + g) (f (24 + g) + ov) j = f j := fun j h h2 => by rw [up1_ne _ _ h2, up1_ne _ _ h]
      refine qC_1 (cM_of hI0 hP hK (fun x hx _ => ?_) ?_ ?_)
      · rw [az_up_b _ _ _ (by omega), az_up_b _ _ _ (by omega)]
      · rw [az_up_b _ _ _ (by decide), az_up_b _ _ _ (by decide), cK_lo hK hP 22 (by decide)]
      · obtain ⟨a1, a2, a3⟩ := hB1
        obtain ⟨i1, i2, i3, i4, i5, i6, i7, i8⟩ := a1
        refine ⟨⟨?_, ?_, ?_, ?_, ?_, ?_, ?_, ?_⟩, fun k k0 k1 => ?_, fun k k0 k1 => ?_⟩
        · rw [az_up_b _ _ _ (by decide), az_up_b _ _ _ (by decide), eo _ (by omega) (by omega)]; exact i1
        · rw [az_up_b _ _ _ (by decide), az_up_b _ _ _ (by decide), eo _ (by omega) (by omega)]; exact i2
        · rw [az_up_b _ _ _ (by decide), az_up_b _ _ _ (by decide), eo _ (by omega) (by omega)]; exact i3
        · rw [az_up_b _ _ _ (by decide), az_up_b _ _ _ (by decide), eo _ (by omega) (by omega)]; exact i4
        · rw [az_up_b _ _ _ (by decide), az_up_b _ _ _ (by decide), eo _ (by omega) (by omega)]; exact i5
        · rw [az_up_b _ _ _ (by decide), az_up_b _ _ _ (by decide), eo _ (by omega) (by omega)]; exact i6
        · rw [az_up_b _ _ _ (by decide), az_up_b _ _ _ (by decide), pThB_c (eo 2 (by omega) (by omega)) (fun g g0 g1 => eo _ (by omega) (by omega))]; exact i7
        · rw [az_up_b _ _ _ (by decide), az_up_b _ _ _ (by decide), pShB_c (eo 2 (by omega) (by omega)) (fun g g0 g1 => eo _ (by omega) (by omega))]; exact i8
        · rw [az_up_b _ _ _ (by decide), az_up_b _ _ _ (by decide), eo _ (by omega) (by omega)]
          exact a2 k k0 k1
        · rw [eo 2 (by omega) (by omega)] at k1
          obtain ⟨g1, g2, g3, g4, g5, g6⟩ := a3 k k0 k1
          refine ⟨?_, ?_, ?_, ?_, ?_, fun h => ?_⟩
          · rw [az_up_b _ _ _ (by decide), az_up_b _ _ _ (by decide), eo _ (by omega) (by omega)]; exact g1
          · rw [az_up_b _ _ _ (by decide), az_up_b _ _ _ (by decide), eo _ (by omega) (by omega)]; exact g2
          · rw [az_up_b _ _ _ (by decide), az_up_b _ _ _ (by decide), eo _ (by omega) (by omega)]; exact g3
          · by_cases e : k = g
            · subst e
              rw [up1_at]
              exact az_upx _ _ _ _
            · rw [up1_ne _ _ (by omega), up1_ne _ _ (by omega)]
              exact ((az_up_k _ _ e).trans (congrFun (az_up_b _ _ _ (by decide)) _)).trans g4
          · by_cases e : k = g
            · subst e
              rw [up1_ne _ _ (by omega), up1_at]
              exact (congrFun (az_up_b _ _ _ (by decide)) _).trans (az_upx _ _ _ _)
            · rw [up1_ne _ _ (by omega), up1_ne _ _ (by omega)]
              exact ((congrFun (az_up_b _ _ _ (by decide)) _).trans (az_up_k _ _ e)).trans g5
          · rw [eo _ (by omega) (by omega)] at h
            rw [az_up_b _ _ _ (by decide), az_up_b _ _ _ (by decide), eo _ (by omega) (by omega)]; exact g6 h
  · rw [if_neg hg]
    refine r_aload_n rfl ?_
    refine r_getR g_19 rfl ?_
    refine r_iload_n rfl ?_
    refine r_cV2I g_22 rfl (Nat.le_of_ble_eq_true rfl) (Nat.le_of_ble_eq_true rfl) (c_X1_has h10) ?_
    refine r_if_eq kX7_gift_23 (fun c1 => ?_) (fun c1 => ?_)
    · refine r_ldcI ?_
      refine r_iret rfl ?_
      exact qC_0
    · refine r_iload_n rfl ?_
      refine r_iconst ?_
      refine r_icmp_lt kX7_gift_23 (fun c2 => ?_) (fun c2 => ?_)
      · refine r_ldcI ?_
        refine r_iret rfl ?_
        exact qC_0
      · refine r_iload_n rfl ?_
        refine r_sipush ?_
        refine r_icmp_le kX7_gift_26 (fun c3 => absurd c3 (by omega)) (fun c3 => ?_)
        refine r_ldcI ?_
        refine r_iret rfl ?_
        exact qC_0
theorem pHrP_e {f : Int → Int} (hN : nOK f) : pHrP f (f 2) = if pThB f = 0 then 0 else pPrice f (f 4) := by
  have hn := nOK_2 hN
  have H : (pHrP f (f 2) = 0 ∧ ∀ g, 0 ≤ g → g < f 2 → f (32 + g) ≠ 0) ∨ (pHrP f (f 2) = pPrice f (f 4) ∧ ∃ g, 0 ≤ g ∧ g < f 2 ∧ f (32 + g) = 0) := by
    refine az_Finv (s := fun g a => if f (32 + g) = 0 then pPrice f (f 4) else a) (a := (0 : Int)) (fun k a => (a = 0 ∧ ∀ g, 0 ≤ g → g < k → f (32 + g) ≠ 0) ∨ (a = pPrice f (f 4) ∧ ∃ g, 0 ≤ g ∧ g < k ∧ f (32 + g) = 0)) hn.1 (Or.inl ⟨rfl, fun g h0 h1 => by omega⟩) (fun g a h0 h1 hp => ?_)
    by_cases e : f (32 + g) = 0
    · rw [if_pos e]
      exact Or.inr ⟨rfl, g, h0, by omega, e⟩
    · rw [if_neg e]
      rcases hp with ⟨p1, p2⟩ | ⟨p1, j, p2, p3, p4⟩
      · refine Or.inl ⟨p1, fun j j0 j1 => ?_⟩
        by_cases ej : j = g
        · subst ej; exact e
        · exact p2 j j0 (by omega)
      · exact Or.inr ⟨p1, j, p2, by omega, p4⟩
  have h0 := mask_0 (q01_th hN) hn.2
  rcases H with ⟨h1, h2⟩ | ⟨h1, g, h2, h3, h4⟩
  · have : pThB f = 0 := h0.mpr (fun g g0 g1 => by
      have a := h2 g g0 g1
      have b := (nOK_g hN g g0 g1).2.2.2.2.2.1
      try dsimp only
      omega)
    rw [if_pos this, h1]
  · have : ¬ pThB f = 0 := fun q => by
      have a := h0.mp q g h2 h3
      try dsimp only at a
      omega
    rw [if_neg this, h1]
theorem c_X7_hour (hI : iB m) (hP : iP0 m) : az_C sc az_G 83 [.inr (.inr 20)] m (qC m (pHour (m 279 7) (m 284))) := by
  obtain ⟨f, hff⟩ : ∃ f, f = m 284 := ⟨_, rfl⟩
  have hI0 := hI
  obtain ⟨hB, hN, hz, hz1, hz2⟩ := hI
  rw [← hff] at hB hN hz2 ⊢
  have hn := nOK_2 hN
  have h4 := nOK_4 hN
  have hz7 : m 22 7 = 0 ∨ m 22 7 = 1 := by rw [hz]; exact hz1
  unfold pHour
  by_cases hzz : m 279 7 = 0
  · rw [if_pos hzz]
    refine r_aload_n rfl ?_
    refine r_getR g_19 rfl ?_
    refine r_getZx g_22 (hz) ?_
    refine r_if_ne kX7_hour_13 (fun c1 => absurd c1 (by omega)) (fun c1 => ?_)
    refine r_ldcI ?_
    refine r_iret rfl ?_
    exact qC_0
  rw [if_neg hzz]
  by_cases h6 : f 4 = 6
  · rw [if_pos h6]
    refine r_aload_n rfl ?_
    refine r_getR g_19 rfl ?_
    refine r_getZx g_22 (hz) ?_
    refine r_if_ne kX7_hour_13 (fun c1 => ?_) (fun c1 => absurd c1 (by omega))
    refine r_aload_n rfl ?_
    refine r_getR g_19 rfl ?_
    refine r_getIx g_22 (hB.1.2.2.2.1) ?_
    refine r_bipush ?_
    refine r_icmp_lt kX7_hour_28 (fun c2 => absurd c2 (by omega)) (fun c2 => ?_)
    refine r_ldcI ?_
    refine r_iret rfl ?_
    exact qC_0
  rw [if_neg h6]
  rw [pHrP_e hN]
  have eo : ∀ j, j ≠ 4 → (j < 36 ∨ f (j - 4) ≠ 0) → up1 (pHrF f (f 2)) 4 (f 4 + 1) j = f j := fun j h h2 => by
    rw [up1_ne _ _ h]
    unfold pHrF
    rw [if_neg (by omega)]
  have H : ∀ m1 due, cK m m1 → due = (if pThB f = 0 then 0 else pPrice f (f 4)) → az_E sc az_G 83 zX7_hour_67 [some (.inr (.inr 20)), none] [.inl due] m1 (qC m (if pThB f = 0 then 0 else pPrice f (f 4), some (up1 (pHrF f (f 2)) 4 (f 4 + 1)))) := by
    intro m1 due hK hd
    rw [← hd]
    refine r_istore_n (Nat.le_of_ble_eq_true rfl) rfl ?_
    refine r_aload_n rfl ?_
    refine r_getR g_19 rfl ?_
    refine r_dupR ?_
    refine r_getIx g_22 ((congrFun (cK_lo hK hP 22 (by decide)) 11).trans hB.1.2.2.2.1) ?_
    refine r_iconst ?_
    first | refine r_iadd (az_wid (by omega) (by omega)) ?_ | refine r_iaddw ?_
    refine r_putI g_22 (by decide) ?_
    refine r_iload_n rfl ?_
    refine r_iret rfl ?_
    skip
    have hB1 := bR_fr hB (fun x a b => cK_lo hK hP x (by omega))
    refine qC_1 (cM_of hI0 hP hK (fun x hx _ => az_up_b _ _ _ (by omega)) ?_ ?_)
    · rw [az_up_k _ _ (by decide), cK_lo hK hP 22 (by decide)]
    · refine bR_up (by decide) hB1 (eo 2 (by decide) (by omega)) ?_ (fun k k0 k1 => eo _ (by omega) (by omega)) (fun g g0 g1 => ⟨eo _ (by omega) (by omega), eo _ (by omega) (by omega), eo _ (by omega) (by omega), eo _ (by omega) (by omega), eo _ (by omega) (by omega), eo _ (by omega) (by omega), fun h => eo _ (by omega) (by rw [show (36 : Int) + g - 4 = 32 + g by omega]; omega)⟩)
      obtain ⟨i1, i2, i3, i4, i5, i6, i7, i8⟩ := hB1.1
      refine ⟨?_, ?_, ?_, ?_, ?_, ?_, ?_, ?_⟩
      · rw [az_up_k _ _ (by decide), eo _ (by decide) (by omega)]; exact i1
      · rw [az_up_k _ _ (by decide), eo _ (by decide) (by omega)]; exact i2
      · rw [az_up_k _ _ (by decide), eo _ (by decide) (by omega)]; exact i3
      · rw [az_upx, up1_at]
      · rw [az_up_k _ _ (by decide), eo _ (by decide) (by omega)]; exact i5
      · rw [az_up_k _ _ (by decide), eo _ (by decide) (by omega)]; exact i6
      · rw [az_up_k _ _ (by decide), pThB_c (eo 2 (by decide) (by omega)) (fun g g0 g1 => eo _ (by omega) (by omega))]; exact i7
      · rw [az_up_k _ _ (by decide)]
        refine i8.trans ?_
        unfold pShB
        rw [eo 2 (by decide) (by omega)]
        refine mask_cong (fun g g0 g1 => ?_)
        try dsimp only
        rw [up1_ne _ _ (by omega), pHrF_o f _ (by omega)]
  refine r_aload_n rfl ?_
  refine r_getR g_19 rfl ?_
  refine r_getZx g_22 (hz) ?_
  refine r_if_ne kX7_hour_13 (fun c1 => ?_) (fun c1 => absurd c1 (by omega))
  refine r_aload_n rfl ?_
  refine r_getR g_19 rfl ?_
  refine r_getIx g_22 (hB.1.2.2.2.1) ?_
  refine r_bipush ?_
  refine r_icmp_lt kX7_hour_28 (fun c2 => ?_) (fun c2 => absurd c2 (by omega))
  refine r_aload_n rfl ?_
  refine r_getR g_19 rfl ?_
  refine r_aload_n rfl ?_
  refine r_getR g_19 rfl ?_
  refine r_cV2 g_40 rfl (Nat.le_of_ble_eq_true rfl) (Nat.le_of_ble_eq_true rfl) (c_X4_keep hP.1 hP.2 hz7) (fun v_ m_ hq_ => ?_)
  obtain ⟨rfl, hK⟩ := hq_; have hB1 := bR_fr hB (fun x a b => cK_lo hK hP x (by omega))
  refine r_aload_n rfl ?_
  refine r_getR g_19 rfl ?_
  refine r_getIx g_22 (hB1.1.2.2.2.2.2.2.1) ?_
  refine r_if_ne kX7_hour_53 (fun c3 => ?_) (fun c3 => ?_)
  · refine r_aload_n rfl ?_
    refine r_getR g_19 rfl ?_
    refine r_aload_n rfl ?_
    refine r_getR g_19 rfl ?_
    refine r_getIx g_22 (hB1.1.2.2.2.1) ?_
    refine r_cV2I g_22 rfl (Nat.le_of_ble_eq_true rfl) (Nat.le_of_ble_eq_true rfl) (c_X1_priceOf2 hB1 hN h4.1 (by omega)) ?_
    exact H _ _ hK (by first | rw [if_pos (by assumption)] | rw [if_neg (by assumption)])
  · refine r_iconst ?_
    refine r_goto kX7_hour_67 ?_
    exact H _ _ hK (by first | rw [if_pos (by assumption)] | rw [if_neg (by assumption)])
theorem c_X7_undo (hI : iB m) (hP : iP0 m) (hz : 1 ≤ m 40 2 → m (kb ((m 40 1 + 23) % 24)) 7 = 0 ∨ m (kb ((m 40 1 + 23) % 24)) 7 = 1) : az_C sc az_G 122 [.inr (.inr 20)] m (fun v m' => (m 40 2 = 0 ∧ v = some (.inl (-1000002)) ∧ m' = m) ∨ (1 ≤ m 40 2 ∧ v = some (.inl (m 40 2 - 1)) ∧ cU m m')) := by
  by_cases h0 : m 40 2 = 0
  · refine r_aload_n rfl ?_
    refine r_getR g_19 rfl ?_
    refine r_getI g_40 ?_
    refine r_if_ne kX7_undo_13 (fun c1 => absurd c1 (by omega)) (fun c1 => ?_)
    refine r_ldcI ?_
    refine r_iret rfl ?_
    exact Or.inl ⟨h0, rfl, rfl⟩
  · have hP2 := hP.2
    refine r_aload_n rfl ?_
    refine r_getR g_19 rfl ?_
    refine r_getI g_40 ?_
    refine r_if_ne kX7_undo_13 (fun c1 => ?_) (fun c1 => absurd c1 (by omega))
    refine r_aload_n rfl ?_
    refine r_getR g_19 rfl ?_
    refine r_aload_n rfl ?_
    refine r_getR g_19 rfl ?_
    refine r_cV2 g_40 rfl (Nat.le_of_ble_eq_true rfl) (Nat.le_of_ble_eq_true rfl) (c_X4_undoInto hP.1 (by omega) (hz (by omega))) (fun v_ m_ hq_ => ?_)
    obtain ⟨rfl, hU⟩ := hq_
    refine r_aload_n rfl ?_
    refine r_getR g_19 rfl ?_
    refine r_getIx g_40 (hU.2.2.1) ?_
    refine r_iret rfl ?_
    exact Or.inr ⟨by omega, rfl, hU⟩
theorem c_X7_guest {g w : Int} (hI : iB m) : az_CI sc 124 [.inr (.inr 20), .inl g, .inl w] m (pGuest (m 284) g w) m := by
  obtain ⟨f, hff⟩ : ∃ f, f = m 284 := ⟨_, rfl⟩
  obtain ⟨hB, hN, hz, hz1, hz2⟩ := hI
  rw [← hff] at hB hN hz2 ⊢
  have hn := nOK_2 hN
  have h10 : m 22 10 = f 2 := hB.1.2.2.1
  by_cases hg : 0 ≤ g ∧ g ≤ f 2 - 1
  · have h13 : m 22 13 = pMask (fun g => 1 - f (32 + g)) (f 2) := hB.1.2.2.2.2.2.2.1
    have h14 : m 22 14 = pMask (fun g => f (40 + g)) (f 2) := hB.1.2.2.2.2.2.2.2
    have hb1 := mask_bit (q01_th hN) hn.2 hg.1 (show g < f 2 by omega)
    have hb2 := mask_bit (q01_sh hN) hn.2 hg.1 (show g < f 2 by omega)
    obtain ⟨g1, g2, g3, g4, g5, g6⟩ := hB.2.2 g hg.1 (by omega)
    refine r_aload_n rfl ?_
    refine r_getR g_19 rfl ?_
    refine r_iload_n rfl ?_
    refine r_cV2I g_22 rfl (Nat.le_of_ble_eq_true rfl) (Nat.le_of_ble_eq_true rfl) (c_X1_has h10) ?_
    refine r_if_ne kX7_guest_14 (fun c1 => ?_) (fun c1 => absurd c1 (by omega))
    refine r_iload_n rfl ?_
    rcases (show w = 0 ∨ w = 1 ∨ w = 2 ∨ w = 3 ∨ w = 4 ∨ w = 5 ∨ w = 6 ∨ (w < 0 ∨ 6 < w) by omega) with hs_ | hs_ | hs_ | hs_ | hs_ | hs_ | hs_ | hs_
    · subst hs_
      refine r_tswI (by decide) rfl kX7_guest_56 ?_
      refine r_aload_n rfl ?_
      refine r_getR g_19 rfl ?_
      refine r_getR g_22 rfl ?_
      refine r_iload_n rfl ?_
      refine r_ialdx g_25 rfl (by omega) (by omega) (by omega) (g2) ?_
      refine r_iret rfl ?_
      refine ⟨az_oI ?_, rfl⟩; unfold pGuest; first | (rw [if_pos ⟨hg, by decide⟩]; rfl) | rw [if_neg (by omega)]
    · subst hs_
      refine r_tswI (by decide) rfl kX7_guest_66 ?_
      refine r_aload_n rfl ?_
      refine r_getR g_19 rfl ?_
      refine r_getR g_22 rfl ?_
      refine r_iload_n rfl ?_
      refine r_ialdx g_27 rfl (by omega) (by omega) (by omega) (g4) ?_
      refine r_iret rfl ?_
      refine ⟨az_oI ?_, rfl⟩; unfold pGuest; first | (rw [if_pos ⟨hg, by decide⟩]; rfl) | rw [if_neg (by omega)]
    · subst hs_
      refine r_tswI (by decide) rfl kX7_guest_76 ?_
      refine r_aload_n rfl ?_
      refine r_getR g_19 rfl ?_
      refine r_getR g_22 rfl ?_
      refine r_iload_n rfl ?_
      refine r_ialdx g_26 rfl (by omega) (by omega) (by omega) (g3) ?_
      refine r_iret rfl ?_
      refine ⟨az_oI ?_, rfl⟩; unfold pGuest; first | (rw [if_pos ⟨hg, by decide⟩]; rfl) | rw [if_neg (by omega)]
    · subst hs_
      refine r_tswI (by decide) rfl kX7_guest_86 ?_
      refine r_iload_n rfl ?_
      refine r_aload_n rfl ?_
      refine r_getR g_19 rfl ?_
      refine r_getIx g_22 (h13) ?_
      refine r_cS2I (by decide) (Nat.le_of_ble_eq_true rfl) (Nat.le_of_ble_eq_true rfl) (az_CI_to (c_X7_bit _ _) hb1 rfl) ?_
      refine r_iret rfl ?_
      refine ⟨az_oI ?_, rfl⟩; unfold pGuest; first | (rw [if_pos ⟨hg, by decide⟩]; rfl) | rw [if_neg (by omega)]
    · subst hs_
      refine r_tswI (by decide) rfl kX7_guest_98 ?_
      refine r_aload_n rfl ?_
      refine r_getR g_19 rfl ?_
      refine r_iload_n rfl ?_
      refine r_cV2I g_22 rfl (Nat.le_of_ble_eq_true rfl) (Nat.le_of_ble_eq_true rfl) (c_X1_hoursOf hB hN hg.1 (by omega)) ?_
      refine r_iret rfl ?_
      refine ⟨az_oI ?_, rfl⟩; unfold pGuest; first | (rw [if_pos ⟨hg, by decide⟩]; rfl) | rw [if_neg (by omega)]
    · subst hs_
      refine r_tswI (by decide) rfl kX7_guest_107 ?_
      refine r_iload_n rfl ?_
      refine r_aload_n rfl ?_
      refine r_getR g_19 rfl ?_
      refine r_getIx g_22 (h14) ?_
      refine r_cS2I (by decide) (Nat.le_of_ble_eq_true rfl) (Nat.le_of_ble_eq_true rfl) (az_CI_to (c_X7_bit _ _) hb2 rfl) ?_
      refine r_iret rfl ?_
      refine ⟨az_oI ?_, rfl⟩; unfold pGuest; first | (rw [if_pos ⟨hg, by decide⟩]; rfl) | rw [if_neg (by omega)]
    · subst hs_
      refine r_tswI (by decide) rfl kX7_guest_119 ?_
      refine r_aload_n rfl ?_
      refine r_getR g_19 rfl ?_
      refine r_getR g_22 rfl ?_
      refine r_iload_n rfl ?_
      refine r_ialdx g_28 rfl (by omega) (by omega) (by omega) (g5) ?_
      refine r_iret rfl ?_
      refine ⟨az_oI ?_, rfl⟩; unfold pGuest; first | (rw [if_pos ⟨hg, by decide⟩]; rfl) | rw [if_neg (by omega)]
    · refine r_tswO hs_ kX7_guest_129 ?_
      refine r_ldcI ?_
      refine r_iret rfl ?_
      refine ⟨az_oI ?_, rfl⟩; unfold pGuest; first | (rw [if_pos ⟨hg, by decide⟩]; rfl) | rw [if_neg (by omega)]
  · refine r_aload_n rfl ?_
    refine r_getR g_19 rfl ?_
    refine r_iload_n rfl ?_
    refine r_cV2I g_22 rfl (Nat.le_of_ble_eq_true rfl) (Nat.le_of_ble_eq_true rfl) (c_X1_has h10) ?_
    refine r_if_ne kX7_guest_14 (fun c1 => absurd c1 (by omega)) (fun c1 => ?_)
    refine r_ldcI ?_
    refine r_iret rfl ?_
    refine ⟨az_oI ?_, rfl⟩; unfold pGuest; rw [if_neg (by omega)]
theorem c_X7_price {h : Int} (hI : iB m) : az_CI sc 126 [.inr (.inr 20), .inl h] m (if m 279 7 = 0 then -1000002 else if 0 ≤ h ∧ h ≤ 5 then pPrice (m 284) h else -1000001) m := by
  obtain ⟨f, hff⟩ : ∃ f, f = m 284 := ⟨_, rfl⟩
  obtain ⟨hB, hN, hz, hz1, hz2⟩ := hI
  rw [← hff] at hB hN hz2 ⊢
  refine r_aload_n rfl ?_
  refine r_getR g_19 rfl ?_
  refine r_getZx g_22 (hz) ?_
  refine r_if_ne kX7_price_13 (fun c1 => ?_) (fun c1 => ?_)
  · refine r_iload_n rfl ?_
    refine r_cS1I (by decide) (Nat.le_of_ble_eq_true rfl) (Nat.le_of_ble_eq_true rfl) (c_X7_isHour _) ?_
    refine r_if_eq kX7_price_31 (fun c2 => ?_) (fun c2 => ?_)
    · refine r_ldcI ?_
      refine r_iret rfl ?_
      refine ⟨az_oI ?_, rfl⟩; (repeat' split) <;> first | rfl | (exfalso; omega)
    · refine r_aload_n rfl ?_
      refine r_getR g_19 rfl ?_
      refine r_iload_n rfl ?_
      refine r_cV2I g_22 rfl (Nat.le_of_ble_eq_true rfl) (Nat.le_of_ble_eq_true rfl) (c_X1_priceOf2 hB hN (by omega) (by omega)) ?_
      refine r_goto kX7_price_33 ?_
      refine r_iret rfl ?_
      refine ⟨az_oI ?_, rfl⟩; (repeat' split) <;> first | rfl | (exfalso; omega)
  · refine r_ldcI ?_
    refine r_iret rfl ?_
    refine ⟨az_oI ?_, rfl⟩; (repeat' split) <;> first | rfl | (exfalso; omega)
theorem l_X7_owes (g n d0 : Int) (hn : 0 ≤ n ∧ n ≤ 60) (hd0 : 0 ≤ d0 ∧ d0 ≤ 9999) (K : az_E sc az_G 176 zX7_owes_54 [some (.inr (.inr 20)), some (.inl (g)), some (.inl (n)), some (.inl (az_fold (fun _ d => pLeast (d + d / 10)) n.toNat 0 d0)), some (.inl (n))] [] m Q) : az_E sc az_G 176 zX7_owes_37 [some (.inr (.inr 20)), some (.inl (g)), some (.inl (n)), some (.inl (d0)), some (.inl (0))] [] m Q := by
  refine az_for0 (α := Int) (fun k d => [some (.inr (.inr 20)), some (.inl (g)), some (.inl (n)), some (.inl (d)), some (.inl (k))]) (fun _ => m) (fun _ d => pLeast (d + d / 10)) (fun k d => 0 ≤ k ∧ 0 ≤ d ∧ d ≤ 9999) n _ (by omega) ⟨by decide, hd0⟩ (fun k d hk hp => ⟨⟨by omega, by unfold pLeast; split <;> omega⟩, fun hK => ?_⟩) (fun hp => ?_)
  · refine r_iload rfl ?_
    refine r_iload_n rfl ?_
    refine r_icmp_ge kX7_owes_54 (fun c1 => absurd c1 (by omega)) (fun c1 => ?_)
    refine r_iload_n rfl ?_
    refine r_cS1I (by decide) (Nat.le_of_ble_eq_true rfl) (Nat.le_of_ble_eq_true rfl) (c_X1_grown (by omega) (by omega)) ?_
    refine r_istore_n (Nat.le_of_ble_eq_true rfl) rfl ?_
    refine r_iinc rfl (az_wid (by omega) (by omega)) rfl ?_
    refine r_goto kX7_owes_37 ?_
    exact hK
  · refine r_iload rfl ?_
    refine r_iload_n rfl ?_
    refine r_icmp_ge kX7_owes_54 (fun c1 => ?_) (fun c1 => absurd c1 (by omega))
    exact K
theorem c_X7_owes {g n : Int} (hI : iB m) : az_CI sc 176 [.inr (.inr 20), .inl g, .inl n] m (if (0 ≤ g ∧ g ≤ m 284 2 - 1) ∧ (0 ≤ n ∧ n ≤ 60) then az_fold (fun _ d => pLeast (d + d / 10)) n.toNat 0 (m 284 (28 + g)) else -1000001) m := by
  obtain ⟨f, hff⟩ : ∃ f, f = m 284 := ⟨_, rfl⟩
  obtain ⟨hB, hN, hz, hz1, hz2⟩ := hI
  rw [← hff] at hB hN hz2 ⊢
  have hn := nOK_2 hN
  have h10 : m 22 10 = f 2 := hB.1.2.2.1
  by_cases hg : (0 ≤ g ∧ g ≤ f 2 - 1) ∧ (0 ≤ n ∧ n ≤ 60)
  · rw [if_pos hg]
    have hG := nOK_g hN g hg.1.1 (by omega)
    have hd : m 28 g = f (28 + g) := (hB.2.2 g hg.1.1 (by omega)).2.2.2.2.1
    refine r_aload_n rfl ?_
    refine r_getR g_19 rfl ?_
    refine r_iload_n rfl ?_
    refine r_cV2I g_22 rfl (Nat.le_of_ble_eq_true rfl) (Nat.le_of_ble_eq_true rfl) (c_X1_has h10) ?_
    refine r_if_eq kX7_owes_21 (fun c1 => absurd c1 (by omega)) (fun c1 => ?_)
    refine r_iload_n rfl ?_
    refine r_if_lt kX7_owes_21 (fun c2 => absurd c2 (by omega)) (fun c2 => ?_)
    refine r_iload_n rfl ?_
    refine r_bipush ?_
    refine r_icmp_le kX7_owes_24 (fun c3 => ?_) (fun c3 => absurd c3 (by omega))
    refine r_aload_n rfl ?_
    refine r_getR g_19 rfl ?_
    refine r_getR g_22 rfl ?_
    refine r_iload_n rfl ?_
    refine r_ialdx g_28 rfl (by omega) (by omega) (by omega) (hd) ?_
    refine r_istore_n (Nat.le_of_ble_eq_true rfl) rfl ?_
    refine r_iconst ?_
    refine r_istore (Nat.le_of_ble_eq_true rfl) rfl ?_
    refine l_X7_owes g n _ (by omega) (by omega) ?_
    refine r_iload_n rfl ?_
    refine r_iret rfl ?_
    exact ⟨rfl, rfl⟩
  · rw [if_neg hg]
    refine r_aload_n rfl ?_
    refine r_getR g_19 rfl ?_
    refine r_iload_n rfl ?_
    refine r_cV2I g_22 rfl (Nat.le_of_ble_eq_true rfl) (Nat.le_of_ble_eq_true rfl) (c_X1_has h10) ?_
    refine r_if_eq kX7_owes_21 (fun c1 => ?_) (fun c1 => ?_)
    · refine r_ldcI ?_
      refine r_iret rfl ?_
      exact ⟨rfl, rfl⟩
    · refine r_iload_n rfl ?_
      refine r_if_lt kX7_owes_21 (fun c2 => ?_) (fun c2 => ?_)
      · refine r_ldcI ?_
        refine r_iret rfl ?_
        exact ⟨rfl, rfl⟩
      · refine r_iload_n rfl ?_
        refine r_bipush ?_
        refine r_icmp_le kX7_owes_24 (fun c3 => absurd c3 (by omega)) (fun c3 => ?_)
        refine r_ldcI ?_
        refine r_iret rfl ?_
        exact ⟨rfl, rfl⟩
theorem c_X7_kind {g : Int} (hI : iB m) : az_CI sc 182 [.inr (.inr 20), .inl g] m (if 0 ≤ g ∧ g ≤ m 284 2 - 1 then m 284 (12 + g) else -1000001) m := by
  obtain ⟨f, hff⟩ : ∃ f, f = m 284 := ⟨_, rfl⟩
  obtain ⟨hB, hN, hz, hz1, hz2⟩ := hI
  rw [← hff] at hB hN hz2 ⊢
  have hn := nOK_2 hN
  have h10 : m 22 10 = f 2 := hB.1.2.2.1
  refine r_aload_n rfl ?_
  refine r_getR g_19 rfl ?_
  refine r_iload_n rfl ?_
  refine r_cV2I g_22 rfl (Nat.le_of_ble_eq_true rfl) (Nat.le_of_ble_eq_true rfl) (c_X1_has h10) ?_
  refine r_if_eq kX7_kind_23 (fun c1 => ?_) (fun c1 => ?_)
  · refine r_ldcI ?_
    refine r_iret rfl ?_
    refine ⟨az_oI ?_, rfl⟩; first | rw [if_pos (by omega)] | rw [if_neg (by omega)]
  · refine r_aload_n rfl ?_
    refine r_getR g_19 rfl ?_
    refine r_getR g_22 rfl ?_
    refine r_iload_n rfl ?_
    refine r_ialdx g_24 rfl (by omega) (by omega) (by omega) ((hB.2.2 g (by omega) (by omega)).1) ?_
    refine r_goto kX7_kind_25 ?_
    refine r_iret rfl ?_
    refine ⟨az_oI ?_, rfl⟩; first | rw [if_pos (by omega)] | rw [if_neg (by omega)]
theorem c_X7_image {k : Int} (hI : iB m) : az_C sc az_G 178 [.inr (.inr 20), .inl k] m (fun v m' => (¬ (0 ≤ k ∧ k ≤ 1) ∧ v = some (.inl (-1000001)) ∧ m' = m) ∨ ((0 ≤ k ∧ k ≤ 1) ∧ m 279 7 = 0 ∧ v = some (.inl (-1000002)) ∧ m' = m) ∨ ((0 ≤ k ∧ k ≤ 1) ∧ m 279 7 ≠ 0 ∧ v = some (.inl 1) ∧ bCp m m' 22 (ib k))) := by
  obtain ⟨hB, hN, hz, hz1, hz2⟩ := hI
  have hz7 : m 22 7 = 0 ∨ m 22 7 = 1 := by rw [hz]; exact hz1
  by_cases hk : 0 ≤ k ∧ k ≤ 1
  · by_cases hzz : m 279 7 = 0
    · refine r_iload_n rfl ?_
      refine r_iconst ?_
      refine r_cS2I (by decide) (Nat.le_of_ble_eq_true rfl) (Nat.le_of_ble_eq_true rfl) (c_X7_isOneOf _ _) ?_
      refine r_if_ne kX7_image_11 (fun c1 => ?_) (fun c1 => absurd c1 (by omega))
      refine r_aload_n rfl ?_
      refine r_getR g_19 rfl ?_
      refine r_getZx g_22 (hz) ?_
      refine r_if_ne kX7_image_24 (fun c2 => absurd c2 (by omega)) (fun c2 => ?_)
      refine r_ldcI ?_
      refine r_iret rfl ?_
      exact Or.inr (Or.inl ⟨hk, hzz, rfl, rfl⟩)
    · obtain ⟨hS, hr⟩ := ib_ok hk.1 (show k < 2 by omega)
      have hb := ib_b hk.1 (show k < 2 by omega)
      have hK_0 := hS.1
      refine r_iload_n rfl ?_
      refine r_iconst ?_
      refine r_cS2I (by decide) (Nat.le_of_ble_eq_true rfl) (Nat.le_of_ble_eq_true rfl) (c_X7_isOneOf _ _) ?_
      refine r_if_ne kX7_image_11 (fun c1 => ?_) (fun c1 => absurd c1 (by omega))
      refine r_aload_n rfl ?_
      refine r_getR g_19 rfl ?_
      refine r_getZx g_22 (hz) ?_
      refine r_if_ne kX7_image_24 (fun c2 => ?_) (fun c2 => absurd c2 (by omega))
      refine r_aload_n rfl ?_
      refine r_getR g_19 rfl ?_
      refine r_iload_n rfl ?_
      refine r_aald g_21 (by decide) (by omega) (by omega) (hr) ?_
      refine r_aload_n rfl ?_
      refine r_getR g_19 rfl ?_
      refine r_cV2 hK_0 rfl (Nat.le_of_ble_eq_true rfl) (Nat.le_of_ble_eq_true rfl) (c_X1_become bSh_22 hS (by decide) (by omega) (by omega) hz7) (fun v_ m_ hq_ => ?_)
      obtain ⟨rfl, hc⟩ := hq_
      refine r_iconst ?_
      refine r_iret rfl ?_
      exact Or.inr (Or.inr ⟨hk, hzz, rfl, hc⟩)
  · refine r_iload_n rfl ?_
    refine r_iconst ?_
    refine r_cS2I (by decide) (Nat.le_of_ble_eq_true rfl) (Nat.le_of_ble_eq_true rfl) (c_X7_isOneOf _ _) ?_
    refine r_if_ne kX7_image_11 (fun c1 => absurd c1 (by omega)) (fun c1 => ?_)
    refine r_ldcI ?_
    refine r_iret rfl ?_
    exact Or.inl ⟨hk, rfl, rfl⟩
theorem c_X7_restore {k : Int} (hz : ∀ k, 0 ≤ k → k ≤ 1 → m (ib k) 7 = 0 ∨ m (ib k) 7 = 1) : az_C sc az_G 180 [.inr (.inr 20), .inl k] m (fun v m' => (¬ (0 ≤ k ∧ k ≤ 1) ∧ v = some (.inl (-1000001)) ∧ m' = m) ∨ ((0 ≤ k ∧ k ≤ 1) ∧ m (ib k) 7 = 0 ∧ v = some (.inl (-1000002)) ∧ m' = m) ∨ ((0 ≤ k ∧ k ≤ 1) ∧ m (ib k) 7 = 1 ∧ v = some (.inl 1) ∧ ∃ m1, bCp m m1 (ib k) 22 ∧ m' = az_up m1 40 2 0)) := by
  by_cases hk : 0 ≤ k ∧ k ≤ 1
  · have hz7 := hz k hk.1 hk.2
    obtain ⟨hS, hr⟩ := ib_ok hk.1 (show k < 2 by omega)
    have hb := ib_b hk.1 (show k < 2 by omega)
    have hK_0 := hS.1
    by_cases hzz : m (ib k) 7 = 0
    · refine r_iload_n rfl ?_
      refine r_iconst ?_
      refine r_cS2I (by decide) (Nat.le_of_ble_eq_true rfl) (Nat.le_of_ble_eq_true rfl) (c_X7_isOneOf _ _) ?_
      refine r_if_ne kX7_restore_11 (fun c1 => ?_) (fun c1 => absurd c1 (by omega))
      refine r_aload_n rfl ?_
      refine r_getR g_19 rfl ?_
      refine r_iload_n rfl ?_
      refine r_aald g_21 (by decide) (by omega) (by omega) (hr) ?_
      refine r_getZ hK_0 ?_
      refine r_if_ne kX7_restore_26 (fun c2 => absurd c2 (by omega)) (fun c2 => ?_)
      refine r_ldcI ?_
      refine r_iret rfl ?_
      exact Or.inr (Or.inl ⟨hk, hzz, rfl, rfl⟩)
    · refine r_iload_n rfl ?_
      refine r_iconst ?_
      refine r_cS2I (by decide) (Nat.le_of_ble_eq_true rfl) (Nat.le_of_ble_eq_true rfl) (c_X7_isOneOf _ _) ?_
      refine r_if_ne kX7_restore_11 (fun c1 => ?_) (fun c1 => absurd c1 (by omega))
      refine r_aload_n rfl ?_
      refine r_getR g_19 rfl ?_
      refine r_iload_n rfl ?_
      refine r_aald g_21 (by decide) (by omega) (by omega) (hr) ?_
      refine r_getZ hK_0 ?_
      refine r_if_ne kX7_restore_26 (fun c2 => ?_) (fun c2 => absurd c2 (by omega))
      refine r_aload_n rfl ?_
      refine r_getR g_19 rfl ?_
      refine r_aload_n rfl ?_
      refine r_getR g_19 rfl ?_
      refine r_iload_n rfl ?_
      refine r_aald g_21 (by decide) (by omega) (by omega) (hr) ?_
      refine r_cV2 g_22 rfl (Nat.le_of_ble_eq_true rfl) (Nat.le_of_ble_eq_true rfl) (c_X1_become hS bSh_22 (by omega) (by decide) (by omega) hz7) (fun v_ m_ hq_ => ?_)
      obtain ⟨rfl, hc⟩ := hq_
      refine r_aload_n rfl ?_
      refine r_getR g_19 rfl ?_
      refine r_cV1V g_40 rfl (Nat.le_of_ble_eq_true rfl) (Nat.le_of_ble_eq_true rfl) (c_X4_forget) ?_
      refine r_iconst ?_
      refine r_iret rfl ?_
      exact Or.inr (Or.inr ⟨hk, by omega, rfl, _, hc, rfl⟩)
  · refine r_iload_n rfl ?_
    refine r_iconst ?_
    refine r_cS2I (by decide) (Nat.le_of_ble_eq_true rfl) (Nat.le_of_ble_eq_true rfl) (c_X7_isOneOf _ _) ?_
    refine r_if_ne kX7_restore_11 (fun c1 => absurd c1 (by omega)) (fun c1 => ?_)
    refine r_ldcI ?_
    refine r_iret rfl ?_
    exact Or.inl ⟨hk, rfl, rfl⟩
/-! kinds -/
def iAb (m : aM) : Prop := m 2 0 = -1000000 ∧ m 2 1 = 0 ∧ m 2 2 = 1 ∧ m 2 3 = 1 ∧ m 2 4 = 0 ∧ m 2 5 = 4
theorem l_isKind1 {k a is st y : Int} (hst : 0 ≤ st ∧ st < 6) (his : 0 ≤ is ∧ is < 6) (hy : m 2 is = y) (h1 : is = a → Q (some (.inl 1)) m) (h2 : is ≠ a → az_E sc az_G 184 zX0_isKindOf_4 [some (.inl (k)), some (.inl (a)), some (.inl (y)), some (.inl (st + 1))] [] m Q) : az_E sc az_G 184 zX0_isKindOf_4 [some (.inl (k)), some (.inl (a)), some (.inl (is)), some (.inl (st))] [] m Q := by
  refine r_iload_n rfl ?_
  refine r_gst0 ?_
  refine r_alen g_2 rfl (by omega) (by decide) ?_
  refine r_icmp_ge kX0_isKindOf_37 (fun c1 => absurd c1 (by omega)) (fun c1 => ?_)
  refine r_iload_n rfl ?_
  refine r_ldcI ?_
  refine r_icmp_eq kX0_isKindOf_37 (fun c2 => absurd c2 (by omega)) (fun c2 => ?_)
  refine r_iload_n rfl ?_
  refine r_iload_n rfl ?_
  refine r_icmp_ne kX0_isKindOf_25 (fun c3 => ?_) (fun c3 => ?_)
  · refine r_gst0 ?_
    refine r_iload_n rfl ?_
    refine r_ialdx g_2 rfl (by omega) (by omega) (by omega) (hy) ?_
    refine r_istore_n (Nat.le_of_ble_eq_true rfl) rfl ?_
    refine r_iinc rfl (az_wid (by omega) (by omega)) rfl ?_
    refine r_goto kX0_isKindOf_4 ?_
    exact h2 (by omega)
  · refine r_iconst ?_
    refine r_zret rfl (by omega) ?_
    exact h1 (by omega)
theorem l_isKind0 {k a st : Int} (h1 : Q (some (.inl 0)) m) : az_E sc az_G 184 zX0_isKindOf_4 [some (.inl (k)), some (.inl (a)), some (.inl (-1000000)), some (.inl (st))] [] m Q := by
  refine r_iload_n rfl ?_
  refine r_gst0 ?_
  refine r_alen g_2 rfl (by omega) (by decide) ?_
  refine r_icmp_ge kX0_isKindOf_37 (fun c1 => ?_) (fun c1 => ?_)
  · refine r_iconst ?_
    refine r_zret rfl (by omega) ?_
    exact h1
  · refine r_iload_n rfl ?_
    refine r_ldcI ?_
    refine r_icmp_eq kX0_isKindOf_37 (fun c2 => ?_) (fun c2 => absurd c2 (by omega))
    refine r_iconst ?_
    refine r_zret rfl (by omega) ?_
    exact h1
theorem c_X0_isKindOf {k a : Int} (hA : iAb m) (hk : 1 ≤ k ∧ k ≤ 5) (ha : 0 ≤ a ∧ a ≤ 5) : az_CI sc 184 [.inl k, .inl a] m (pIsOf k a) m := by
  obtain ⟨a0, a1, a2, a3, a4, a5⟩ := hA
  refine r_iload_n rfl ?_
  refine r_istore_n (Nat.le_of_ble_eq_true rfl) rfl ?_
  refine r_iconst ?_
  refine r_istore_n (Nat.le_of_ble_eq_true rfl) rfl ?_
  skip
  unfold pIsOf
  rcases (show k = 1 ∨ k = 2 ∨ k = 3 ∨ k = 4 ∨ k = 5 by omega) with rfl | rfl | rfl | rfl | rfl
  · refine l_isKind1 (by decide) (by decide) a1 (fun e => ⟨az_oI (by rw [if_pos (by omega)]), rfl⟩) (fun e => ?_)
    refine l_isKind1 (by decide) (by decide) a0 (fun e => ⟨az_oI (by rw [if_pos (by omega)]), rfl⟩) (fun e => ?_)
    exact l_isKind0 ⟨az_oI (by rw [if_neg (by omega)]), rfl⟩
  · refine l_isKind1 (by decide) (by decide) a2 (fun e => ⟨az_oI (by rw [if_pos (by omega)]), rfl⟩) (fun e => ?_)
    refine l_isKind1 (by decide) (by decide) a1 (fun e => ⟨az_oI (by rw [if_pos (by omega)]), rfl⟩) (fun e => ?_)
    refine l_isKind1 (by decide) (by decide) a0 (fun e => ⟨az_oI (by rw [if_pos (by omega)]), rfl⟩) (fun e => ?_)
    exact l_isKind0 ⟨az_oI (by rw [if_neg (by omega)]), rfl⟩
  · refine l_isKind1 (by decide) (by decide) a3 (fun e => ⟨az_oI (by rw [if_pos (by omega)]), rfl⟩) (fun e => ?_)
    refine l_isKind1 (by decide) (by decide) a1 (fun e => ⟨az_oI (by rw [if_pos (by omega)]), rfl⟩) (fun e => ?_)
    refine l_isKind1 (by decide) (by decide) a0 (fun e => ⟨az_oI (by rw [if_pos (by omega)]), rfl⟩) (fun e => ?_)
    exact l_isKind0 ⟨az_oI (by rw [if_neg (by omega)]), rfl⟩
  · refine l_isKind1 (by decide) (by decide) a4 (fun e => ⟨az_oI (by rw [if_pos (by omega)]), rfl⟩) (fun e => ?_)
    refine l_isKind1 (by decide) (by decide) a0 (fun e => ⟨az_oI (by rw [if_pos (by omega)]), rfl⟩) (fun e => ?_)
    exact l_isKind0 ⟨az_oI (by rw [if_neg (by omega)]), rfl⟩
  · refine l_isKind1 (by decide) (by decide) a5 (fun e => ⟨az_oI (by rw [if_pos (by omega)]), rfl⟩) (fun e => ?_)
    refine l_isKind1 (by decide) (by decide) a4 (fun e => ⟨az_oI (by rw [if_pos (by omega)]), rfl⟩) (fun e => ?_)
    refine l_isKind1 (by decide) (by decide) a0 (fun e => ⟨az_oI (by rw [if_pos (by omega)]), rfl⟩) (fun e => ?_)
    exact l_isKind0 ⟨az_oI (by rw [if_neg (by omega)]), rfl⟩
theorem c_X7_as {g kind : Int} (hI : iB m) (hA : iAb m) : az_CI sc 185 [.inr (.inr 20), .inl g, .inl kind] m (pAs m g kind).1 (if (0 ≤ g ∧ g ≤ m 284 2 - 1) ∧ (0 ≤ kind ∧ kind ≤ 5) then (if pIsOf (m 284 (12 + g)) kind = 0 then az_up m 19 9 3 else az_up m 19 9 0) else m) := by
  have hI0 := hI
  obtain ⟨hB, hN, hz, hz1, hz2⟩ := hI
  have hn := nOK_2 hN
  have h10 : m 22 10 = m 284 2 := hB.1.2.2.1
  unfold pAs
  by_cases hg : (0 ≤ g ∧ g ≤ m 284 2 - 1) ∧ (0 ≤ kind ∧ kind ≤ 5)
  · rw [if_pos hg, if_pos hg]
    have hG := nOK_g hN g hg.1.1 (by omega)
    have h24 : m 24 g = m 284 (12 + g) := (hB.2.2 g hg.1.1 (by omega)).1
    by_cases hp : pIsOf (m 284 (12 + g)) kind = 0
    · rw [if_pos hp, if_pos hp]
      refine r_aload_n rfl ?_
      refine r_getR g_19 rfl ?_
      refine r_iload_n rfl ?_
      refine r_cV2I g_22 rfl (Nat.le_of_ble_eq_true rfl) (Nat.le_of_ble_eq_true rfl) (c_X1_has h10) ?_
      refine r_if_eq kX7_as_20 (fun c1 => absurd c1 (by omega)) (fun c1 => ?_)
      refine r_iload_n rfl ?_
      refine r_if_lt kX7_as_20 (fun c2 => absurd c2 (by omega)) (fun c2 => ?_)
      refine r_iload_n rfl ?_
      refine r_iconst ?_
      refine r_icmp_le kX7_as_23 (fun c3 => ?_) (fun c3 => absurd c3 (by omega))
      refine r_aload_n rfl ?_
      refine r_getR g_19 rfl ?_
      refine r_getR g_22 rfl ?_
      refine r_iload_n rfl ?_
      refine r_ialdx g_24 rfl (by omega) (by omega) (by omega) (h24) ?_
      refine r_iload_n rfl ?_
      refine r_cS2I (by decide) (Nat.le_of_ble_eq_true rfl) (Nat.le_of_ble_eq_true rfl) (c_X0_isKindOf hA (by omega) (by omega)) ?_
      refine r_if_ne kX7_as_45 (fun c4 => absurd c4 (by omega)) (fun c4 => ?_)
      refine r_aload_n rfl ?_
      refine r_iconst ?_
      refine r_cV2I g_19 rfl (Nat.le_of_ble_eq_true rfl) (Nat.le_of_ble_eq_true rfl) (c_X7_find _) ?_
      refine r_iret rfl ?_
      exact ⟨rfl, rfl⟩
    · rw [if_neg hp, if_neg hp]
      refine r_aload_n rfl ?_
      refine r_getR g_19 rfl ?_
      refine r_iload_n rfl ?_
      refine r_cV2I g_22 rfl (Nat.le_of_ble_eq_true rfl) (Nat.le_of_ble_eq_true rfl) (c_X1_has h10) ?_
      refine r_if_eq kX7_as_20 (fun c1 => absurd c1 (by omega)) (fun c1 => ?_)
      refine r_iload_n rfl ?_
      refine r_if_lt kX7_as_20 (fun c2 => absurd c2 (by omega)) (fun c2 => ?_)
      refine r_iload_n rfl ?_
      refine r_iconst ?_
      refine r_icmp_le kX7_as_23 (fun c3 => ?_) (fun c3 => absurd c3 (by omega))
      refine r_aload_n rfl ?_
      refine r_getR g_19 rfl ?_
      refine r_getR g_22 rfl ?_
      refine r_iload_n rfl ?_
      refine r_ialdx g_24 rfl (by omega) (by omega) (by omega) (h24) ?_
      refine r_iload_n rfl ?_
      refine r_cS2I (by decide) (Nat.le_of_ble_eq_true rfl) (Nat.le_of_ble_eq_true rfl) (c_X0_isKindOf hA (by omega) (by omega)) ?_
      refine r_if_ne kX7_as_45 (fun c4 => ?_) (fun c4 => absurd c4 (by omega))
      refine r_aload_n rfl ?_
      refine r_iload_n rfl ?_
      refine r_cV2I g_19 rfl (Nat.le_of_ble_eq_true rfl) (Nat.le_of_ble_eq_true rfl) (c_X7_answer _) ?_
      refine r_iret rfl ?_
      exact ⟨rfl, rfl⟩
  · rw [if_neg hg, if_neg hg]
    refine r_aload_n rfl ?_
    refine r_getR g_19 rfl ?_
    refine r_iload_n rfl ?_
    refine r_cV2I g_22 rfl (Nat.le_of_ble_eq_true rfl) (Nat.le_of_ble_eq_true rfl) (c_X1_has h10) ?_
    refine r_if_eq kX7_as_20 (fun c1 => ?_) (fun c1 => ?_)
    · refine r_ldcI ?_
      refine r_iret rfl ?_
      exact ⟨rfl, rfl⟩
    · refine r_iload_n rfl ?_
      refine r_if_lt kX7_as_20 (fun c2 => ?_) (fun c2 => ?_)
      · refine r_ldcI ?_
        refine r_iret rfl ?_
        exact ⟨rfl, rfl⟩
      · refine r_iload_n rfl ?_
        refine r_iconst ?_
        refine r_icmp_le kX7_as_23 (fun c3 => absurd c3 (by omega)) (fun c3 => ?_)
        refine r_ldcI ?_
        refine r_iret rfl ?_
        exact ⟨rfl, rfl⟩
theorem c_X7_trace {i : Int} (hl : m 245 1 = m 279 13) (hT : 0 ≤ m 279 13 ∧ m 279 13 ≤ 16) (ht : ∀ i, 0 ≤ i → i < m 279 13 → m 246 i = m 288 i) : az_CI sc 209 [.inr (.inr 20), .inl i] m (if 0 ≤ i ∧ i ≤ m 279 13 - 1 then m 288 i else -1000000) m := by
  refine r_iload_n rfl ?_
  refine r_aload_n rfl ?_
  refine r_getR g_19 rfl ?_
  refine r_getIx g_245 (hl) ?_
  refine r_cS2I (by decide) (Nat.le_of_ble_eq_true rfl) (Nat.le_of_ble_eq_true rfl) (c_X7_isOneOf _ _) ?_
  refine r_if_eq kX7_trace_26 (fun c1 => ?_) (fun c1 => ?_)
  · refine r_ldcw ?_
    refine r_iret rfl ?_
    refine ⟨az_oI ?_, rfl⟩; first | rw [if_pos (by omega)] | rw [if_neg (by omega)]
  · refine r_aload_n rfl ?_
    refine r_getR g_19 rfl ?_
    refine r_getR g_245 rfl ?_
    refine r_iload_n rfl ?_
    refine r_ialdx g_246 rfl (by omega) (by omega) (by omega) (ht _ (by omega) (by omega)) ?_
    refine r_goto kX7_trace_29 ?_
    refine r_iret rfl ?_
    refine ⟨az_oI ?_, rfl⟩; first | rw [if_pos (by omega)] | rw [if_neg (by omega)]
theorem c_X7_status : az_CI sc 216 [.inr (.inr 20)] m (m 19 9) m := by
  refine r_aload_n rfl ?_
  refine r_getI g_19 ?_
  refine r_iret rfl ?_
  exact ⟨rfl, rfl⟩
theorem c_X7_fault : az_CI sc 77 [.inr (.inr 20)] m (m 38 6) m := by
  refine r_aload_n rfl ?_
  refine r_getR g_19 rfl ?_
  refine r_getI g_38 ?_
  refine r_iret rfl ?_
  exact ⟨rfl, rfl⟩
theorem pTh_e (f : Int → Int) (k : Int) : pTh f k = az_F (fun g a => a + (fun g => 1 - f (32 + g)) g) 0 k := rfl
theorem c_X7_count {w : Int} (hI : iB m) (hR : iRow m) (ha : m 40 2 = m 279 9) (ht : m 38 1 = m 279 5) : az_CI sc 214 [.inr (.inr 20), .inl w] m (pCount m w) m := by
  obtain ⟨hB, hN, hz, hz1, hz2⟩ := hI
  have hn := nOK_2 hN
  have h13 : m 22 13 = pMask (fun g => 1 - m 284 (32 + g)) (m 284 2) := hB.1.2.2.2.2.2.2.1
  obtain ⟨i1, i2, i3, i4, i5, i6, i7, i8⟩ := hB.1
  refine r_iload_n rfl ?_
  rcases (show w = 0 ∨ w = 1 ∨ w = 2 ∨ w = 3 ∨ w = 4 ∨ w = 5 ∨ w = 6 ∨ w = 7 ∨ (w < 0 ∨ 7 < w) by omega) with hs_ | hs_ | hs_ | hs_ | hs_ | hs_ | hs_ | hs_ | hs_
  · subst hs_
    refine r_tswI (by decide) rfl kX7_count_48 ?_
    refine r_aload_n rfl ?_
    refine r_cV1I g_19 rfl (Nat.le_of_ble_eq_true rfl) (Nat.le_of_ble_eq_true rfl) (c_X7_countRows hR) ?_
    refine r_iret rfl ?_
    refine ⟨az_oI ?_, rfl⟩; first | rfl | (unfold pCount; (repeat' split) <;> first | rfl | (exfalso; omega))
  · subst hs_
    refine r_tswI (by decide) rfl kX7_count_53 ?_
    refine r_aload_n rfl ?_
    refine r_getR g_19 rfl ?_
    refine r_getIx g_22 (i3) ?_
    refine r_iret rfl ?_
    refine ⟨az_oI ?_, rfl⟩; first | rfl | (unfold pCount; (repeat' split) <;> first | rfl | (exfalso; omega))
  · subst hs_
    refine r_tswI (by decide) rfl kX7_count_61 ?_
    refine r_aload_n rfl ?_
    refine r_getR g_19 rfl ?_
    refine r_getIx g_22 (i4) ?_
    refine r_iret rfl ?_
    refine ⟨az_oI ?_, rfl⟩; first | rfl | (unfold pCount; (repeat' split) <;> first | rfl | (exfalso; omega))
  · subst hs_
    refine r_tswI (by decide) rfl kX7_count_69 ?_
    refine r_aload_n rfl ?_
    refine r_getR g_19 rfl ?_
    refine r_getIx g_22 (i5) ?_
    refine r_iret rfl ?_
    refine ⟨az_oI ?_, rfl⟩; first | rfl | (unfold pCount; (repeat' split) <;> first | rfl | (exfalso; omega))
  · subst hs_
    refine r_tswI (by decide) rfl kX7_count_77 ?_
    refine r_aload_n rfl ?_
    refine r_getR g_19 rfl ?_
    refine r_getIx g_40 (ha) ?_
    refine r_iret rfl ?_
    refine ⟨az_oI ?_, rfl⟩; first | rfl | (unfold pCount; (repeat' split) <;> first | rfl | (exfalso; omega))
  · subst hs_
    refine r_tswI (by decide) rfl kX7_count_85 ?_
    refine r_aload_n rfl ?_
    refine r_getR g_19 rfl ?_
    refine r_getIx g_22 (h13) ?_
    refine r_cS1I (by decide) (Nat.le_of_ble_eq_true rfl) (Nat.le_of_ble_eq_true rfl) (c_bitCount (q01_th hN) hn.1 hn.2) ?_
    refine r_iret rfl ?_
    refine ⟨az_oI ?_, rfl⟩; first | rfl | (unfold pCount; (repeat' split) <;> first | rfl | (exfalso; omega))
  · subst hs_
    refine r_tswI (by decide) rfl kX7_count_96 ?_
    refine r_aload_n rfl ?_
    refine r_getR g_19 rfl ?_
    refine r_cV1I g_22 rfl (Nat.le_of_ble_eq_true rfl) (Nat.le_of_ble_eq_true rfl) (c_X1_debtOfAll hB hN) ?_
    refine r_iret rfl ?_
    refine ⟨az_oI ?_, rfl⟩; first | rfl | (unfold pCount; (repeat' split) <;> first | rfl | (exfalso; omega))
  · subst hs_
    refine r_tswI (by decide) rfl kX7_count_104 ?_
    refine r_aload_n rfl ?_
    refine r_getR g_19 rfl ?_
    refine r_getIx g_38 (ht) ?_
    refine r_iret rfl ?_
    refine ⟨az_oI ?_, rfl⟩; first | rfl | (unfold pCount; (repeat' split) <;> first | rfl | (exfalso; omega))
  · refine r_tswO hs_ kX7_count_112 ?_
    refine r_ldcI ?_
    refine r_iret rfl ?_
    refine ⟨az_oI ?_, rfl⟩; first | rfl | (unfold pCount; (repeat' split) <;> first | rfl | (exfalso; omega))
end CC
