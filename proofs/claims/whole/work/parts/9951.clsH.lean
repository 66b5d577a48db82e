/-! THE CLASS: laws, the owner -/
section CH
variable {sc : aX} {m : aM} {f t c : Int → Int} {sp : Int} {Q : Option aV → aM → Prop}
theorem c_X3_gapOfWorths (hD : dD m f t c sp) : az_CI sc 168 [.inr (.inr 235)] m (pGap f t c sp) m := by
  have hN := hD.2.2.2.2.2.1
  have hn := nOK_2 hN
  have hT := hD.2.2.2.2.2.2.1
  have hC := hD.2.2.2.2.2.2.2.1
  by_cases h2 : f 2 = 0
  · have e : pGap f t c sp = 0 := by
      unfold pGap pHig pLow
      rw [h2]
      rfl
    rw [e]
    refine r_aload_n rfl ?_
    refine r_getR g_234 rfl ?_
    refine r_getIx g_235 (hD.1) ?_
    refine r_if_ne kX3_gapOfWorths_12 (fun c1 => absurd c1 (by omega)) (fun c1 => ?_)
    refine r_iconst ?_
    refine r_iret rfl ?_
    exact ⟨rfl, rfl⟩
  · have e1 : pLow f t c sp 1 = pWor f t c sp 0 := by
      have := pLow_S f t c sp (k := 0) (by decide)
      rw [if_pos (Or.inl rfl)] at this
      exact this
    have e2 : pHig f t c sp 1 = pWor f t c sp 0 := by
      have := pHig_S f t c sp (k := 0) (by decide)
      rw [if_pos (Or.inl rfl)] at this
      exact this
    refine r_aload_n rfl ?_
    refine r_getR g_234 rfl ?_
    refine r_getIx g_235 (hD.1) ?_
    refine r_if_ne kX3_gapOfWorths_12 (fun c1 => ?_) (fun c1 => absurd c1 (by omega))
    refine r_aload_n rfl ?_
    refine r_getR g_234 rfl ?_
    refine r_iconst ?_
    refine r_cV2I g_235 rfl (Nat.le_of_ble_eq_true rfl) (Nat.le_of_ble_eq_true rfl) (c_X2_worthOf hD (by decide) (by omega)) ?_
    refine r_istore_n (Nat.le_of_ble_eq_true rfl) rfl ?_
    refine r_iload_n rfl ?_
    refine r_istore_n (Nat.le_of_ble_eq_true rfl) rfl ?_
    refine r_iconst ?_
    refine r_istore_n (Nat.le_of_ble_eq_true rfl) rfl ?_
    skip
    refine az_lop (α := Int × Int × Option aV) (fun i a => [some (.inr (.inr (235))), some (.inl (a.1)), some (.inl (a.2.1)), some (.inl (i)), a.2.2]) (fun _ => m) (fun i a => a.1 = pLow f t c sp i ∧ a.2.1 = pHig f t c sp i) 1 (f 2) (pWor f t c sp 0, pWor f t c sp 0, none) (by omega) ⟨e1.symm, e2.symm⟩ (fun i a h0 h1 hp hK => ?_) (fun a hp => ?_)
    · obtain ⟨lo, hi, o⟩ := a
      obtain ⟨p1, p2⟩ := hp
      dsimp only at p1 p2 ⊢
      have hS1 := pLow_S f t c sp (k := i) (by omega)
      have hS2 := pHig_S f t c sp (k := i) (by omega)
      rw [← p1] at hS1
      rw [← p2] at hS2
      have f1 : (if pWor f t c sp i < lo then pWor f t c sp i else lo) = pLow f t c sp (i + 1) := by
        rw [hS1]
        (repeat' split) <;> omega
      have f2 : (if hi < pWor f t c sp i then pWor f t c sp i else hi) = pHig f t c sp (i + 1) := by
        rw [hS2]
        (repeat' split) <;> omega
      refine r_iload_n rfl ?_
      refine r_aload_n rfl ?_
      refine r_getR g_234 rfl ?_
      refine r_getIx g_235 (hD.1) ?_
      refine r_icmp_ge kX3_gapOfWorths_66 (fun c1 => absurd c1 (by omega)) (fun c1 => ?_)
      refine r_aload_n rfl ?_
      refine r_getR g_234 rfl ?_
      refine r_iload_n rfl ?_
      refine r_cV2I g_235 rfl (Nat.le_of_ble_eq_true rfl) (Nat.le_of_ble_eq_true rfl) (c_X2_worthOf hD (by omega) h1) ?_
      refine r_istore (Nat.le_of_ble_eq_true rfl) rfl ?_
      refine r_iload_n rfl ?_
      refine r_iload rfl ?_
      refine r_min (Nat.le_of_ble_eq_true rfl) f1 ?_
      refine r_istore_n (Nat.le_of_ble_eq_true rfl) rfl ?_
      refine r_iload_n rfl ?_
      refine r_iload rfl ?_
      refine r_max (Nat.le_of_ble_eq_true rfl) f2 ?_
      refine r_istore_n (Nat.le_of_ble_eq_true rfl) rfl ?_
      refine r_iinc rfl (az_wid (by omega) (by omega)) rfl ?_
      refine r_goto kX3_gapOfWorths_25 ?_
      exact hK (_, _, _) ⟨rfl, rfl⟩
    · obtain ⟨lo, hi, o⟩ := a
      obtain ⟨p1, p2⟩ := hp
      dsimp only at p1 p2 ⊢
      have hb := pGap_b (sp := sp) hN hT hC hn.1 (Int.le_refl _)
      rw [← p1, ← p2] at hb
      refine r_iload_n rfl ?_
      refine r_aload_n rfl ?_
      refine r_getR g_234 rfl ?_
      refine r_getIx g_235 (hD.1) ?_
      refine r_icmp_ge kX3_gapOfWorths_66 (fun c1 => ?_) (fun c1 => absurd c1 (by omega))
      refine r_iload_n rfl ?_
      refine r_iload_n rfl ?_
      first | refine r_isub (az_wid (by omega) (by omega)) ?_ | refine r_isubw ?_
      refine r_iret rfl ?_
      exact ⟨az_oI (by unfold pGap; rw [p1, p2]), rfl⟩
theorem dD_sp (h : dD m f t c sp) {l : Int} (hl : 0 ≤ l ∧ l ≤ 2) : dD (az_up m 235 7 l) f t c l := by
  obtain ⟨h1, h2, h3, h4, h5, h6, h7, h8, h9⟩ := h
  have e : ∀ x, x ≠ 235 → az_up m 235 7 l x = m x := fun x hx => az_up_b _ _ _ hx
  have e6 : az_up m 235 7 l 235 6 = m 235 6 := az_up_k _ _ (by decide)
  have e7 : az_up m 235 7 l 235 7 = l := az_upx _ _ _ _
  unfold dD
  rw [e 236 (by decide), e 237 (by decide), e 238 (by decide), e 239 (by decide), e 240 (by decide), e 241 (by decide), e6, e7]
  exact ⟨h1, rfl, h3, h4, h5, h6, h7, h8, hl⟩
theorem c_X3_fairestSplit (hD : dD m f t c sp) : az_C sc az_G 169 [.inr (.inr 235)] m (fun v m' => v = some (.inl (pFair f t c 3).1) ∧ ∀ x, x ≠ 235 → m' x = m x) := by
  have hN := hD.2.2.2.2.2.1
  have hn := nOK_2 hN
  have hT := hD.2.2.2.2.2.2.1
  have hC := hD.2.2.2.2.2.2.2.1
  refine r_iconst ?_
  refine r_istore_n (Nat.le_of_ble_eq_true rfl) rfl ?_
  refine r_ldcI ?_
  refine r_istore_n (Nat.le_of_ble_eq_true rfl) rfl ?_
  refine r_iconst ?_
  refine r_istore_n (Nat.le_of_ble_eq_true rfl) rfl ?_
  skip
  refine az_lop (α := aM × Int × Int × Option aV) (fun l a => [some (.inr (.inr (235))), some (.inl (a.2.1)), some (.inl (a.2.2.1)), some (.inl (l)), a.2.2.2]) (fun a => a.1) (fun l a => (∀ x, x ≠ 235 → a.1 x = m x) ∧ (∃ s, dD a.1 f t c s) ∧ (l = 0 ∧ a.2.1 = 0 ∧ a.2.2.1 = 2147483647 ∨ 1 ≤ l ∧ a.2.1 = (pFair f t c l).1 ∧ a.2.2.1 = (pFair f t c l).2)) 0 3 (m, 0, 2147483647, none) (by decide) ⟨fun _ _ => rfl, ⟨sp, hD⟩, Or.inl ⟨rfl, rfl, rfl⟩⟩ (fun l a h0 h1 hp hK => ?_) (fun a hp => ?_)
  · obtain ⟨m1, fa, le, o⟩ := a
    obtain ⟨p1, ⟨s, p2⟩, p3⟩ := hp
    dsimp only at p1 p2 p3 ⊢
    have hD1 := dD_sp p2 (l := l) (by omega)
    have hgb := pGap_b (sp := l) hN hT hC hn.1 (Int.le_refl _)
    have hg : -9000 ≤ pGap f t c l ∧ pGap f t c l ≤ 9000 := by
      unfold pGap
      omega
    have hS := pFair_S f t c h0
    have hT1 : (l = 0 ∨ pGap f t c l < le) → pFair f t c (l + 1) = (l, pGap f t c l) := fun h => by rw [hS, if_pos (by omega)]
    have hT2 : ¬ pGap f t c l < le → pFair f t c (l + 1) = (fa, le) := fun h => by
      have e1 : fa = (pFair f t c l).1 := by omega
      have e2 : le = (pFair f t c l).2 := by omega
      rw [hS, if_neg (by omega), e1, e2]
    refine r_iload_n rfl ?_
    refine r_iconst ?_
    refine r_icmp_ge kX3_fairestSplit_43 (fun c1 => absurd c1 (by omega)) (fun c1 => ?_)
    refine r_aload_n rfl ?_
    refine r_getR g_234 rfl ?_
    refine r_iload_n rfl ?_
    refine r_putI g_235 (by decide) ?_
    refine r_aload_n rfl ?_
    refine r_cV1I g_234 rfl (Nat.le_of_ble_eq_true rfl) (Nat.le_of_ble_eq_true rfl) (c_X3_gapOfWorths hD1) ?_
    refine r_istore (Nat.le_of_ble_eq_true rfl) rfl ?_
    refine r_iload rfl ?_
    refine r_iload_n rfl ?_
    refine r_icmp_ge kX3_fairestSplit_37 (fun c2 => ?_) (fun c2 => ?_)
    · refine r_iinc rfl (az_wid (by omega) (by omega)) rfl ?_
      refine r_goto kX3_fairestSplit_7 ?_
      first | exact hK (az_up m1 235 7 l, l, pGap f t c l, some (.inl (pGap f t c l))) ⟨fun x hx => (az_up_b _ _ _ hx).trans (p1 x hx), ⟨l, hD1⟩, Or.inr ⟨by omega, by rw [hT1 (by omega)], by rw [hT1 (by omega)]⟩⟩ | exact hK (az_up m1 235 7 l, fa, le, some (.inl (pGap f t c l))) ⟨fun x hx => (az_up_b _ _ _ hx).trans (p1 x hx), ⟨l, hD1⟩, Or.inr ⟨by omega, by rw [hT2 (by omega)], by rw [hT2 (by omega)]⟩⟩
    · refine r_iload rfl ?_
      refine r_istore_n (Nat.le_of_ble_eq_true rfl) rfl ?_
      refine r_iload_n rfl ?_
      refine r_istore_n (Nat.le_of_ble_eq_true rfl) rfl ?_
      refine r_iinc rfl (az_wid (by omega) (by omega)) rfl ?_
      refine r_goto kX3_fairestSplit_7 ?_
      first | exact hK (az_up m1 235 7 l, l, pGap f t c l, some (.inl (pGap f t c l))) ⟨fun x hx => (az_up_b _ _ _ hx).trans (p1 x hx), ⟨l, hD1⟩, Or.inr ⟨by omega, by rw [hT1 (by omega)], by rw [hT1 (by omega)]⟩⟩ | exact hK (az_up m1 235 7 l, fa, le, some (.inl (pGap f t c l))) ⟨fun x hx => (az_up_b _ _ _ hx).trans (p1 x hx), ⟨l, hD1⟩, Or.inr ⟨by omega, by rw [hT2 (by omega)], by rw [hT2 (by omega)]⟩⟩
  · obtain ⟨m1, fa, le, o⟩ := a
    obtain ⟨p1, ⟨s, p2⟩, p3⟩ := hp
    dsimp only at p1 p2 p3 ⊢
    refine r_iload_n rfl ?_
    refine r_iconst ?_
    refine r_icmp_ge kX3_fairestSplit_43 (fun c1 => ?_) (fun c1 => absurd c1 (by decide))
    refine r_iload_n rfl ?_
    refine r_iret rfl ?_
    exact ⟨az_oI (by omega), p1⟩
theorem az_or_i (i : Int32) : az_or i.toInt 0 = i.toInt := by
  unfold az_or
  rw [Int32.ofInt_toInt, show Int32.ofInt 0 = 0 from rfl, Int32.or_zero]
theorem az_or_0 {x : Int} (y : Int) : az_or (az_or x y) 0 = az_or x y := az_or_i _
theorem c_X3_restingSplits (hD : dD m f t c sp) : az_C sc az_G 170 [.inr (.inr 235)] m (fun v m' => v = some (.inl (pHold f t c 3)) ∧ ∀ x, x ≠ 235 → x ≠ 241 → x ≠ 242 → m' x = m x) := by
  refine r_iconst ?_
  refine r_istore_n (Nat.le_of_ble_eq_true rfl) rfl ?_
  refine r_iconst ?_
  refine r_istore_n (Nat.le_of_ble_eq_true rfl) rfl ?_
  skip
  refine az_lop (α := aM × Int) (fun l a => [some (.inr (.inr (235))), some (.inl (a.2)), some (.inl (l))]) (fun a => a.1) (fun l a => (∀ x, x ≠ 235 → x ≠ 241 → x ≠ 242 → a.1 x = m x) ∧ (∃ s, dD a.1 f t c s) ∧ a.2 = pHold f t c l) 0 3 (m, 0) (by decide) ⟨fun _ _ _ _ => rfl, ⟨sp, hD⟩, rfl⟩ (fun l a h0 h1 hp hK => ?_) (fun a hp => ?_)
  · obtain ⟨m1, x⟩ := a
    obtain ⟨p1, ⟨s, p2⟩, p3⟩ := hp
    dsimp only at p1 p2 p3 ⊢
    have hD1 := dD_sp p2 (l := l) (by omega)
    have hS := pHold_S f t c h0
    rw [← p3] at hS
    have hrb := pRst_b f t c l
    have ho : az_or x 0 = x := by
      rw [p3]
      by_cases e : l = 0
      · subst e
        have e0 : pHold f t c 0 = 0 := rfl
        rw [e0]
        decide +kernel
      · have hS2 := pHold_S f t c (k := l - 1) (by omega)
        rw [show l - 1 + 1 = l by omega] at hS2
        rw [hS2]
        exact az_or_0 _
    have hA : ∀ m2, fd2 (az_up m1 235 7 l) m2 → m2 241 = az_up m1 235 7 l 241 → ∀ y, y = pHold f t c (l + 1) → az_E sc az_G 170 zX3_restingSplits_4 [some (.inr (.inr (235))), some (.inl (y)), some (.inl (l + 1))] [] m2 (fun v m' => v = some (.inl (pHold f t c 3)) ∧ ∀ x, x ≠ 235 → x ≠ 241 → x ≠ 242 → m' x = m x) := fun m2 hf2 ht2 y hy =>
      hK (m2, y) ⟨fun x x1 x2 x3 => (hf2 x x2 x3).trans ((az_up_b _ _ _ x1).trans (p1 x x1 x2 x3)), ⟨l, dD_2 hD1 hf2 (by show ∀ g, 0 ≤ g → g < f 2 → m2 241 g = t g; rw [ht2]; exact dD_tt hD1) hD1.2.2.2.2.2.2.1⟩, hy⟩
    refine r_iload_n rfl ?_
    refine r_iconst ?_
    refine r_icmp_ge kX3_restingSplits_36 (fun c1 => absurd c1 (by omega)) (fun c1 => ?_)
    refine r_aload_n rfl ?_
    refine r_getR g_234 rfl ?_
    refine r_iload_n rfl ?_
    refine r_putI g_235 (by decide) ?_
    refine r_aload_n rfl ?_
    refine r_cV1 g_234 rfl (Nat.le_of_ble_eq_true rfl) (Nat.le_of_ble_eq_true rfl) (c_X3_isRest hD1) (fun v_18 m_18 hq_18 => ?_)
    obtain ⟨rfl, hf_18, ht_18⟩ := hq_18
    refine r_if_eq kX3_restingSplits_30 (fun c2 => ?_) (fun c2 => ?_)
    · refine r_iinc rfl (az_wid (by omega) (by omega)) rfl ?_
      refine r_goto kX3_restingSplits_4 ?_
      exact hA _ hf_18 ht_18 _ (by rw [hS]; first | rw [if_pos (by omega), ho] | rw [if_neg (by omega)])
    · refine r_iload_n rfl ?_
      refine r_iconst ?_
      refine r_iload_n rfl ?_
      refine r_ishl rfl ?_
      refine r_ior rfl ?_
      refine r_istore_n (Nat.le_of_ble_eq_true rfl) rfl ?_
      refine r_iinc rfl (az_wid (by omega) (by omega)) rfl ?_
      refine r_goto kX3_restingSplits_4 ?_
      exact hA _ hf_18 ht_18 _ (by rw [hS]; first | rw [if_pos (by omega), ho] | rw [if_neg (by omega)])
  · obtain ⟨m1, x⟩ := a
    obtain ⟨p1, p2, p3⟩ := hp
    dsimp only at p1 p2 p3 ⊢
    refine r_iload_n rfl ?_
    refine r_iconst ?_
    refine r_icmp_ge kX3_restingSplits_36 (fun c1 => ?_) (fun c1 => absurd c1 (by decide))
    refine r_iload_n rfl ?_
    refine r_iret rfl ?_
    exact ⟨az_oI p3, p1⟩
theorem c_X7_laws {row w : Int} (hI : iD m) : az_C sc az_G 171 [.inr (.inr 20), .inl row, .inl w] m (qS m (pOr (pTl m row (p01 (0 ≤ w ∧ w ≤ 1)) 6).1 (if w = 0 then (pFair (m 284) (pIt m row) (pPrice (m 284)) 3).1 else pHold (m 284) (pIt m row) (pPrice (m 284)) 3)) (pTl m row (p01 (0 ≤ w ∧ w ≤ 1)) 6).2) := by
  have hp : (if 0 ≤ w ∧ w < 2 then (1 : Int) else 0) = p01 (0 ≤ w ∧ w ≤ 1) := by
    unfold p01
    (repeat' split) <;> omega
  have hof : az_CI sc 9 [.inl w, .inl 2] m (p01 (0 ≤ w ∧ w ≤ 1)) m := by
    rw [← hp]
    exact c_X7_isOneOf _ _
  by_cases hno : (pTl m row (p01 (0 ≤ w ∧ w ≤ 1)) 6).1 < 0
  · refine r_aload_n rfl ?_
    refine r_iload_n rfl ?_
    refine r_iload_n rfl ?_
    refine r_iconst ?_
    refine r_cS2I (by decide) (Nat.le_of_ble_eq_true rfl) (Nat.le_of_ble_eq_true rfl) (hof) ?_
    refine r_cV3 g_19 rfl (Nat.le_of_ble_eq_true rfl) (Nat.le_of_ble_eq_true rfl) (c_X7_hear hI) (fun v_ m_ hq_ => ?_)
    obtain ⟨hq1, hq2⟩ := hq_; obtain ⟨rfl, hq3, hq4⟩ := hq1
    refine r_istore_n (Nat.le_of_ble_eq_true rfl) rfl ?_
    refine r_iload_n rfl ?_
    refine r_if_eq kX7_laws_17 (fun c1 => absurd c1 (by omega)) (fun c1 => ?_)
    refine r_iload_n rfl ?_
    refine r_iret rfl ?_
    exact ⟨az_oI (by unfold pOr; rw [if_pos hno]), hq3, hq4⟩
  · have hz := pTl_z hno
    have hg := p01_e (pTl_g hno)
    refine r_aload_n rfl ?_
    refine r_iload_n rfl ?_
    refine r_iload_n rfl ?_
    refine r_iconst ?_
    refine r_cS2I (by decide) (Nat.le_of_ble_eq_true rfl) (Nat.le_of_ble_eq_true rfl) (hof) ?_
    refine r_cV3 g_19 rfl (Nat.le_of_ble_eq_true rfl) (Nat.le_of_ble_eq_true rfl) (c_X7_hear hI) (fun v_7 m_7 hq_7 => ?_)
    obtain ⟨hq1, hq2⟩ := hq_7; obtain ⟨rfl, hq3, hq4⟩ := hq1; have hD := hq2 hz
    refine r_istore_n (Nat.le_of_ble_eq_true rfl) rfl ?_
    refine r_iload_n rfl ?_
    refine r_if_eq kX7_laws_17 (fun c1 => ?_) (fun c1 => absurd c1 (by omega))
    refine r_iload_n rfl ?_
    refine r_if_ne kX7_laws_31 (fun c2 => ?_) (fun c2 => ?_)
    · refine r_aload_n rfl ?_
      refine r_getR g_19 rfl ?_
      refine r_cV1 g_234 rfl (Nat.le_of_ble_eq_true rfl) (Nat.le_of_ble_eq_true rfl) (c_X3_restingSplits hD) (fun v_35 m_35 hq_35 => ?_)
      obtain ⟨rfl, hf_⟩ := hq_35; have hf2 : ∀ x, (x < 234 ∨ 244 < x) → m_35 x = m_7 x := fun x hx => hf_ x (by omega) (by omega) (by omega)
      refine r_iret rfl ?_
      exact ⟨az_oI (by unfold pOr; rw [if_neg hno]; first | rw [if_pos (by omega)] | rw [if_neg (by omega)]), frC_t hq3 (frC_d hf2), (congrFun (hf2 19 (by decide)) _).trans hq4⟩
    · refine r_aload_n rfl ?_
      refine r_getR g_19 rfl ?_
      refine r_cV1 g_234 rfl (Nat.le_of_ble_eq_true rfl) (Nat.le_of_ble_eq_true rfl) (c_X3_fairestSplit hD) (fun v_25 m_25 hq_25 => ?_)
      obtain ⟨rfl, hf_⟩ := hq_25; have hf2 : ∀ x, (x < 234 ∨ 244 < x) → m_25 x = m_7 x := fun x hx => hf_ x (by omega)
      refine r_goto kX7_laws_38 ?_
      refine r_iret rfl ?_
      exact ⟨az_oI (by unfold pOr; rw [if_neg hno]; first | rw [if_pos (by omega)] | rw [if_neg (by omega)]), frC_t hq3 (frC_d hf2), (congrFun (hf2 19 (by decide)) _).trans hq4⟩
/-! the owner -/
def fd5 (m m' : aM) : Prop := (∀ x, x ≠ 234 → x ≠ 236 → x ≠ 241 → x ≠ 242 → x ≠ 243 → m' x = m x)
theorem dD_c {m m' : aM} {t' c' : Int → Int} (h : dD m f t c sp) (hf : fd5 m m') (ht : ∀ g, 0 ≤ g → g < f 2 → m' 241 g = t' g) (hT : tOK f t') (hc : ∀ h, 0 ≤ h → h < 6 → m' 236 h = c' h) (hC : cOK c') : dD m' f t' c' sp := by
  obtain ⟨h1, h2, h3, h4, h5, h6, h7, h8, h9⟩ := h
  unfold dD
  rw [hf 235 (by decide) (by decide) (by decide) (by decide) (by decide), hf 237 (by decide) (by decide) (by decide) (by decide) (by decide), hf 238 (by decide) (by decide) (by decide) (by decide) (by decide), hf 239 (by decide) (by decide) (by decide) (by decide) (by decide), hf 240 (by decide) (by decide) (by decide) (by decide) (by decide)]
  exact ⟨h1, h2, hc, fun g g0 g1 => ⟨(h4 g g0 g1).1, (h4 g g0 g1).2.1, (h4 g g0 g1).2.2.1, ht g g0 g1⟩, h5, h6, hT, hC, h9⟩
theorem pBill_0 (k : Int) (hk : 0 ≤ k) : pBill (fun _ => 0) k = 0 := by
  refine az_Finv (s := fun h a => a + (fun _ => (0 : Int)) h) (a := (0 : Int)) (fun _ a => a = 0) hk rfl (fun h a h0 h1 hp => ?_)
  dsimp only
  omega
theorem pTrn_ok {f c : Int → Int} {sp : Int} (hn : 0 ≤ f 2) : ∀ (k : Nat) (t : Int → Int) (r : Int), tOK f t → tOK f (pTrn f c sp k t r).1 := by
  have hr : ∀ (t : Int → Int), tOK f t → tOK f (pRndK f c sp t (f 2)).1 := fun t ht => by
    refine az_Finv (s := fun g a => (up1 a.1 g (pBst f a.1 c sp g), if a.2 = 0 ∧ pBst f a.1 c sp g = a.1 g then 0 else 1)) (a := (t, (0 : Int))) (fun _ a => tOK f a.1) hn ht (fun g a h0 h1 hp => ?_)
    exact tOK_up hp (pBst_b f a.1 c sp g)
  intro k
  induction k with
  | zero => intro t r h; exact h
  | succ k ih =>
    intro t r h
    show tOK f (if (pRndK f c sp t (f 2)).2 = 0 then ((pRndK f c sp t (f 2)).1, r) else pTrn f c sp k (pRndK f c sp t (f 2)).1 (r + 1)).1
    split
    · exact hr t h
    · exact ih _ _ (hr t h)
theorem pOwnS_b {f t : Int → Int} {sp p : Int} (hn : 0 ≤ f 2 ∧ f 2 ≤ 4) (hT : tOK f t) (hp : 0 ≤ p ∧ p ≤ 30) : 0 ≤ pOwnS f t sp p ∧ pOwnS f t sp p ≤ 180 := by
  have hL := pLong_b hn.1 (pTrn_ok (c := fun _ => p) (sp := sp) hn.1 20 t 1 hT)
  have hB := pBill_b (c := fun _ => p) (fun h _ _ => hp) hL.1 hL.2
  unfold pOwnS
  omega
theorem pOwn_1 {f t : Int → Int} {sp : Int} (hn : 0 ≤ f 2 ∧ f 2 ≤ 4) (hT : tOK f t) : pOwnS f t sp 0 = 0 ∧ pOwn f t sp 1 = (0, 0) := by
  have hL := pLong_b hn.1 (pTrn_ok (c := fun _ => 0) (sp := sp) hn.1 20 t 1 hT)
  have e : pOwnS f t sp 0 = 0 := pBill_0 _ hL.1
  refine ⟨e, ?_⟩
  have hS := pOwn_S f t sp (k := 0) (by decide)
  have e0 : pOwn f t sp 0 = (0, -1) := rfl
  rw [e0, e, if_pos (by decide)] at hS
  exact hS
def qOw (m : aM) (f t : Int → Int) (sp : Int) : Option aV → aM → Prop := fun v m' => v = some (.inl (pOwn f t sp 31).1) ∧ fd5 m m' ∧ m' 234 4 = (pOwn f t sp 31).2
theorem c_X3_ownersPrice (hD : dD m f t c sp) : az_C sc az_G 173 [.inr (.inr 235)] m (qOw m f t sp) := by
  have hN := hD.2.2.2.2.2.1
  have hn := nOK_2 hN
  have hT := hD.2.2.2.2.2.2.1
  refine r_aload_n rfl ?_
  refine r_getR g_234 rfl ?_
  refine r_getR g_235 rfl ?_
  refine r_iconst ?_
  refine r_aload_n rfl ?_
  refine r_getR g_234 rfl ?_
  refine r_iconst ?_
  refine r_iconst ?_
  refine r_cpy g_241 g_243 (by decide) (by decide) (by decide) (by decide) (by decide) (by decide) (by decide) (Nat.le_of_ble_eq_true rfl) ?_
  refine r_iconst ?_
  refine r_istore_n (Nat.le_of_ble_eq_true rfl) rfl ?_
  refine r_aload_n rfl ?_
  refine r_iconst ?_
  refine r_putI g_234 (by decide) ?_
  refine r_iconst ?_
  refine r_istore_n (Nat.le_of_ble_eq_true rfl) rfl ?_
  skip
  refine az_lop (α := aM × Int × Option aV) (fun p a => [some (.inr (.inr (235))), some (.inl (a.2.1)), some (.inl (p)), a.2.2]) (fun a => a.1) (fun p a => fd5 m a.1 ∧ (∀ g, 0 ≤ g → g < f 2 → a.1 243 g = t g) ∧ (p = 0 ∧ a.2.1 = 0 ∧ a.1 234 4 = 0 ∨ 1 ≤ p ∧ a.2.1 = (pOwn f t sp p).1 ∧ a.1 234 4 = (pOwn f t sp p).2)) 0 31 (az_up (az_cp m 241 0 243 0 4) 234 4 0, 0, none) (by decide) ⟨fun x x1 x2 x3 x4 x5 => by dsimp only; rw [az_up_b _ _ _ x1, az_cp_b _ _ _ _ x5], fun g g0 g1 => by dsimp only; rw [az_up_b _ _ _ (by decide), az_cp_in _ (by omega) (by omega), show (0 : Int) + (g - 0) = g by omega]; exact dD_tt hD g g0 g1, Or.inl ⟨rfl, rfl, by dsimp only; exact az_upx _ _ _ _⟩⟩ (fun p a h0 h1 hp hK => ?_) (fun a hp => ?_)
  · obtain ⟨m1, be, o⟩ := a
    obtain ⟨p1, p2, p3⟩ := hp
    dsimp only at p1 p2 p3 ⊢
    have hS := pOwn_S f t sp h0
    have h1p := pOwn_1 (sp := sp) hn hT
    have hob := pOwnS_b (sp := sp) (p := p) hn hT (by omega)
    refine r_iload_n rfl ?_
    refine r_bipush ?_
    refine r_icmp_gt kX3_ownersPrice_107 (fun c1 => absurd c1 (by omega)) (fun c1 => ?_)
    refine r_aload_n rfl ?_
    refine r_getR g_234 rfl ?_
    refine r_iconst ?_
    refine r_aload_n rfl ?_
    refine r_getR g_234 rfl ?_
    refine r_getR g_235 rfl ?_
    refine r_iconst ?_
    refine r_iconst ?_
    refine r_cpy g_243 g_241 (by decide) (by decide) (by decide) (by decide) (by decide) (by decide) (by decide) (Nat.le_of_ble_eq_true rfl) ?_
    refine r_iconst ?_
    refine r_istore_n (Nat.le_of_ble_eq_true rfl) rfl ?_
    skip
    obtain ⟨m2, hm2⟩ : ∃ x, x = az_cp m1 243 0 241 0 4 := ⟨_, rfl⟩
    rw [← hm2]
    have q1 : fd5 m m2 := fun x x1 x2 x3 x4 x5 => by rw [hm2, az_cp_b _ _ _ _ x3]; exact p1 x x1 x2 x3 x4 x5
    have q2 : ∀ g, 0 ≤ g → g < f 2 → m2 243 g = t g := fun g g0 g1 => by rw [hm2, az_cp_b _ _ _ _ (by decide)]; exact p2 g g0 g1
    have q3 : ∀ g, 0 ≤ g → g < f 2 → m2 241 g = t g := fun g g0 g1 => by rw [hm2, az_cp_in _ (by omega) (by omega), show (0 : Int) + (g - 0) = g by omega]; exact p2 g g0 g1
    have q4 : m2 234 = m1 234 := by rw [hm2, az_cp_b _ _ _ _ (by decide)]
    refine az_lop (α := aM) (fun h _ => [some (.inr (.inr (235))), some (.inl (be)), some (.inl (p)), some (.inl (h))]) (fun x => x) (fun h x => (∀ y, y ≠ 236 → x y = m2 y) ∧ ∀ j, 0 ≤ j → j < h → x 236 j = p) 0 6 m2 (by decide) ⟨fun _ _ => rfl, fun j j0 j1 => by omega⟩ (fun h x x0 x1 hx hK2 => ?_) (fun x hx => ?_)
    · refine r_iload_n rfl ?_
      refine r_bipush ?_
      refine r_icmp_ge kX3_ownersPrice_73 (fun c1 => absurd c1 (by omega)) (fun c1 => ?_)
      refine r_aload_n rfl ?_
      refine r_getR g_234 rfl ?_
      refine r_getR g_235 rfl ?_
      refine r_iload_n rfl ?_
      refine r_iload_n rfl ?_
      refine r_iast g_236 (by decide) (by omega) (by omega) ?_
      refine r_iinc rfl (az_wid (by omega) (by omega)) rfl ?_
      refine r_goto kX3_ownersPrice_51 ?_
      exact hK2 _ ⟨fun y hy => (az_up_b _ _ _ hy).trans (hx.1 y hy), fun j j0 j1 => az_up_eq (fun _ => rfl) (fun e => hx.2 j j0 (by omega))⟩
    · obtain ⟨r1, r2⟩ := hx
      have hf3 : fd5 m x := fun y y1 y2 y3 y4 y5 => (r1 y y2).trans (q1 y y1 y2 y3 y4 y5)
      have hD3 : dD x f t (fun _ => p) sp := dD_c hD hf3 (fun g g0 g1 => by rw [r1 241 (by decide)]; exact q3 g g0 g1) hT r2 (fun h _ _ => by (try dsimp only); omega)
      have H : ∀ m4 b4 s4, fd5 m m4 → (∀ g, 0 ≤ g → g < f 2 → m4 243 g = t g) → m4 234 4 = s4 → (m1 234 4 < pOwnS f t sp p ∧ b4 = p ∧ s4 = pOwnS f t sp p ∨ ¬ m1 234 4 < pOwnS f t sp p ∧ b4 = be ∧ s4 = m1 234 4) → ∀ o, az_E sc az_G 173 zX3_ownersPrice_101 [some (.inr (.inr (235))), some (.inl (b4)), some (.inl (p)), o] [] m4 (qOw m f t sp) := by
        intro m4 b4 s4 hf4 ht4 hs4 hc4 o
        refine r_iinc rfl (az_wid (by omega) (by omega)) rfl ?_
        refine r_goto kX3_ownersPrice_26 ?_
        refine hK (m4, b4, _) ⟨hf4, ht4, Or.inr ⟨by omega, ?_⟩⟩
        dsimp only
        rw [hs4]
        rcases p3 with ⟨e0, e1, e2⟩ | ⟨e0, e1, e2⟩
        · subst e0
          rw [h1p.1] at hc4
          have e3 : pOwn f t sp (0 + 1) = (0, 0) := h1p.2
          rw [e3]
          dsimp only
          omega
        · rw [hS]
          rw [← e2]
          by_cases hlt : m1 234 4 < pOwnS f t sp p
          · rw [if_pos hlt]
            dsimp only
            omega
          · rw [if_neg hlt, ← e1, ← e2]
            omega
      refine r_iload_n rfl ?_
      refine r_bipush ?_
      refine r_icmp_ge kX3_ownersPrice_73 (fun c1 => ?_) (fun c1 => absurd c1 (by decide))
      refine r_aload_n rfl ?_
      refine r_cV1 g_234 rfl (Nat.le_of_ble_eq_true rfl) (Nat.le_of_ble_eq_true rfl) (c_X3_turns hD3) (fun v_74 m_74 hq_74 => ?_)
      obtain ⟨rfl, hf_74, hD_74⟩ := hq_74
      refine r_pop ?_
      refine r_aload_n rfl ?_
      refine r_getR g_234 rfl ?_
      refine r_cV1I g_235 rfl (Nat.le_of_ble_eq_true rfl) (Nat.le_of_ble_eq_true rfl) (show az_CI _ _ _ m_74 (pOwnS f t sp p) m_74 from c_X2_sum hD_74) ?_
      refine r_istore_n (Nat.le_of_ble_eq_true rfl) rfl ?_
      refine r_iload_n rfl ?_
      refine r_aload_n rfl ?_
      refine r_getIx g_234 ((congrFun ((hf_74 234 (by decide) (by decide)).trans ((r1 234 (by decide)).trans q4)) 4)) ?_
      refine r_icmp_le kX3_ownersPrice_101 (fun c2 => ?_) (fun c2 => ?_)
      · first | exact H _ _ _ (fun y y1 y2 y3 y4 y5 => (hf_74 y y3 y4).trans (hf3 y y1 y2 y3 y4 y5)) (fun g g0 g1 => by rw [hf_74 243 (by decide) (by decide), r1 243 (by decide)]; exact q2 g g0 g1) (congrFun ((hf_74 234 (by decide) (by decide)).trans ((r1 234 (by decide)).trans q4)) 4) (by omega) _ | exact H _ _ _ (fun y y1 y2 y3 y4 y5 => (az_up_b _ _ _ y1).trans ((hf_74 y y3 y4).trans (hf3 y y1 y2 y3 y4 y5))) (fun g g0 g1 => by rw [az_up_b _ _ _ (by decide), hf_74 243 (by decide) (by decide), r1 243 (by decide)]; exact q2 g g0 g1) (az_upx _ _ _ _) (by omega) _
      · refine r_aload_n rfl ?_
        refine r_iload_n rfl ?_
        refine r_putI g_234 (by decide) ?_
        refine r_iload_n rfl ?_
        refine r_istore_n (Nat.le_of_ble_eq_true rfl) rfl ?_
        first | exact H _ _ _ (fun y y1 y2 y3 y4 y5 => (hf_74 y y3 y4).trans (hf3 y y1 y2 y3 y4 y5)) (fun g g0 g1 => by rw [hf_74 243 (by decide) (by decide), r1 243 (by decide)]; exact q2 g g0 g1) (congrFun ((hf_74 234 (by decide) (by decide)).trans ((r1 234 (by decide)).trans q4)) 4) (by omega) _ | exact H _ _ _ (fun y y1 y2 y3 y4 y5 => (az_up_b _ _ _ y1).trans ((hf_74 y y3 y4).trans (hf3 y y1 y2 y3 y4 y5))) (fun g g0 g1 => by rw [az_up_b _ _ _ (by decide), hf_74 243 (by decide) (by decide), r1 243 (by decide)]; exact q2 g g0 g1) (az_upx _ _ _ _) (by omega) _
  · obtain ⟨m1, be, o⟩ := a
    obtain ⟨p1, p2, p3⟩ := hp
    dsimp only at p1 p2 p3 ⊢
    refine r_iload_n rfl ?_
    refine r_bipush ?_
    refine r_icmp_gt kX3_ownersPrice_107 (fun c1 => ?_) (fun c1 => absurd c1 (by decide))
    refine r_iload_n rfl ?_
    refine r_iret rfl ?_
    exact ⟨az_oI (by omega), p1, by omega⟩
theorem c_X7_owner {row w : Int} (hI : iD m) : az_C sc az_G 174 [.inr (.inr 20), .inl row, .inl w] m (qS m (pOr (pTl m row (p01 (0 ≤ w ∧ w ≤ 1)) 6).1 (if w = 0 then (pOwn (m 284) (pIt m row) (m 284 0) 31).1 else (pOwn (m 284) (pIt m row) (m 284 0) 31).2)) (pTl m row (p01 (0 ≤ w ∧ w ≤ 1)) 6).2) := by
  have hp : (if 0 ≤ w ∧ w < 2 then (1 : Int) else 0) = p01 (0 ≤ w ∧ w ≤ 1) := by
    unfold p01
    (repeat' split) <;> omega
  have hof : az_CI sc 9 [.inl w, .inl 2] m (p01 (0 ≤ w ∧ w ≤ 1)) m := by
    rw [← hp]
    exact c_X7_isOneOf _ _
  by_cases hno : (pTl m row (p01 (0 ≤ w ∧ w ≤ 1)) 6).1 < 0
  · refine r_aload_n rfl ?_
    refine r_iload_n rfl ?_
    refine r_iload_n rfl ?_
    refine r_iconst ?_
    refine r_cS2I (by decide) (Nat.le_of_ble_eq_true rfl) (Nat.le_of_ble_eq_true rfl) (hof) ?_
    refine r_cV3 g_19 rfl (Nat.le_of_ble_eq_true rfl) (Nat.le_of_ble_eq_true rfl) (c_X7_hear hI) (fun v_ m_ hq_ => ?_)
    obtain ⟨hq1, hq2⟩ := hq_; obtain ⟨rfl, hq3, hq4⟩ := hq1
    refine r_istore_n (Nat.le_of_ble_eq_true rfl) rfl ?_
    refine r_iload_n rfl ?_
    refine r_if_eq kX7_owner_17 (fun c1 => absurd c1 (by omega)) (fun c1 => ?_)
    refine r_iload_n rfl ?_
    refine r_iret rfl ?_
    exact ⟨az_oI (by unfold pOr; rw [if_pos hno]), hq3, hq4⟩
  · have hz := pTl_z hno
    have hg := p01_e (pTl_g hno)
    refine r_aload_n rfl ?_
    refine r_iload_n rfl ?_
    refine r_iload_n rfl ?_
    refine r_iconst ?_
    refine r_cS2I (by decide) (Nat.le_of_ble_eq_true rfl) (Nat.le_of_ble_eq_true rfl) (hof) ?_
    refine r_cV3 g_19 rfl (Nat.le_of_ble_eq_true rfl) (Nat.le_of_ble_eq_true rfl) (c_X7_hear hI) (fun v_7 m_7 hq_7 => ?_)
    obtain ⟨hq1, hq2⟩ := hq_7; obtain ⟨rfl, hq3, hq4⟩ := hq1; have hD := hq2 hz
    refine r_istore_n (Nat.le_of_ble_eq_true rfl) rfl ?_
    refine r_iload_n rfl ?_
    refine r_if_eq kX7_owner_17 (fun c1 => ?_) (fun c1 => absurd c1 (by omega))
    refine r_aload_n rfl ?_
    refine r_getR g_19 rfl ?_
    refine r_cV1 g_234 rfl (Nat.le_of_ble_eq_true rfl) (Nat.le_of_ble_eq_true rfl) (c_X3_ownersPrice hD) (fun v_21 m_21 hq_21 => ?_)
    obtain ⟨rfl, hf_21, hs_21⟩ := hq_21
    refine r_istore (Nat.le_of_ble_eq_true rfl) rfl ?_
    refine r_iload_n rfl ?_
    refine r_if_ne kX7_owner_35 (fun c2 => ?_) (fun c2 => ?_)
    · refine r_aload_n rfl ?_
      refine r_getR g_19 rfl ?_
      refine r_getIx g_234 (hs_21) ?_
      refine r_iret rfl ?_
      exact ⟨az_oI (by unfold pOr; rw [if_neg hno]; first | rw [if_pos (by omega)] | rw [if_neg (by omega)]), frC_t hq3 (frC_d (fun x hx => hf_21 x (by omega) (by omega) (by omega) (by omega) (by omega))), (congrFun (hf_21 19 (by decide) (by decide) (by decide) (by decide) (by decide)) _).trans hq4⟩
    · refine r_iload rfl ?_
      refine r_goto kX7_owner_42 ?_
      refine r_iret rfl ?_
      exact ⟨az_oI (by unfold pOr; rw [if_neg hno]; first | rw [if_pos (by omega)] | rw [if_neg (by omega)]), frC_t hq3 (frC_d (fun x hx => hf_21 x (by omega) (by omega) (by omega) (by omega) (by omega))), (congrFun (hf_21 19 (by decide) (by decide) (by decide) (by decide) (by decide)) _).trans hq4⟩
end CH
