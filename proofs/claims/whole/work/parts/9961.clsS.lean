/-! THE CLASS: a beach is read -/
section CS
variable {sc : aX} {m : aM} {T : Int → Int} {n : Int} {Q : Option aV → aM → Prop}
def dF (m m' : aM) : Prop := (∀ y, y ≠ 38 → (y < 30 ∨ 37 < y) → m' y = m y) ∧ (∀ k, k ≠ 2 → k ≠ 3 → k ≠ 4 → k ≠ 5 → k ≠ 6 → m' 38 k = m 38 k)
theorem dF_r (m : aM) : dF m m := ⟨fun _ _ _ => rfl, fun _ _ _ _ _ _ => rfl⟩
theorem dF_t {m m1 m2 : aM} (h1 : dF m m1) (h2 : dF m1 m2) : dF m m2 := ⟨fun y a b => (h2.1 y a b).trans (h1.1 y a b), fun k a b c d e => (h2.2 k a b c d e).trans (h1.2 k a b c d e)⟩
theorem dF_u (m : aM) {b : Nat} (h0 : 30 ≤ b) (h1 : b ≤ 37) (i v : Int) : dF m (az_up m b i v) := ⟨fun y _ a => az_up_b _ _ _ (by omega), fun k _ _ _ _ _ => congrFun (az_up_b _ _ _ (by omega)) _⟩
theorem dF_6 (m : aM) (v : Int) : dF m (az_up m 38 6 v) := ⟨fun y a _ => az_up_b _ _ _ a, fun k _ _ _ _ a => az_up_k _ _ a⟩
theorem dF_k {m m' : aM} (h1 : ∀ y, y ≠ 38 → m' y = m y) (h2 : ∀ k, k ≠ 2 → k ≠ 3 → k ≠ 4 → k ≠ 5 → m' 38 k = m 38 k) : dF m m' := ⟨fun y a _ => h1 y a, fun k a b c d _ => h2 k a b c d⟩
theorem cX_u {i : Nat} (h : cX m T n i) {b : Nat} (h0 : 30 ≤ b) (h1 : b ≤ 37) (j v : Int) : cX (az_up m b j v) T n i := cX_fr h (az_up_b _ _ _ (by omega)) (az_up_b _ _ _ (by omega)) (fun a ha => az_up_b _ _ _ (by omega))
/-- a text that does not go on -/
def qFl (m : aM) (T : Int → Int) (n : Int) (i0 : Nat) : Option aV → aM → Prop := fun v m' => v = some (.inl 0) ∧ dF m m' ∧ pR T n i0 = (m' 38 6, m' 38 3) ∧ m' 38 6 ≠ 0 ∧ (0 ≤ m' 30 10 ∧ m' 30 10 ≤ 4)
theorem fl {m mc : aM} {i i0 : Nat} {ck : Int} (hd : dF m mc) (hX : cX mc T n i) (hR : pR T n i0 = (ck, tB T n i)) (hc : ck ≠ 0) (hb : 0 ≤ mc 30 10 ∧ mc 30 10 ≤ 4) : qFl m T n i0 (some (.inl 0)) (az_up mc 38 6 ck) := by
  refine ⟨rfl, dF_t hd (dF_6 _ _), ?_, ?_, ?_⟩
  · rw [az_upx, az_up_k _ _ (by decide), hX.1.2.1]
    exact hR
  · rw [az_upx]
    exact hc
  · rw [az_up_b _ _ _ (by decide)]
    exact hb
def qLw (m : aM) (T : Int → Int) (n : Int) : Option aV → aM → Prop := fun v m' => v = some (.inl 1) ∧ pR T n 0 = pR T n 4 ∧ dF m m' ∧ cX m' T n 4 ∧ m' 38 6 = m 38 6 ∧ m' 30 8 = tV T n 1 ∧ m' 30 9 = tV T n 2 ∧ (∀ k, k ≠ 8 → k ≠ 9 → m' 30 k = m 30 k) ∧ (∀ y, 30 < y → y < 38 → m' y = m y)
theorem c_X6_readLaw (hX : cX m T n 0) (hb : 0 ≤ m 30 10 ∧ m 30 10 ≤ 4) : az_C sc az_G 55 [.inr (.inr 39), .inr (.inr 31)] m (fun v m' => qLw m T n v m' ∨ qFl m T n 0 v m') := by
  have hW := c_isWord_0 (sc := sc) hX.2 hX.1
  have c0 : pCk T n 0 = kW T n wLaw 0 := rfl
  have s0 : kW T n wLaw 0 = 0 → pR T n 0 = pR T n 1 := fun h => pR_ok (by decide) (c0.trans h) (by omega)
  have f0 : kW T n wLaw 0 ≠ 0 → pR T n 0 = (kW T n wLaw 0, tB T n 0) := fun h => by rw [pR_no (by decide) (by rw [c0]; exact h) (by omega), c0]
  have c1 : pCk T n 1 = kN T n 0 2 1 := rfl
  have s1 : kN T n 0 2 1 = 0 → pR T n 1 = pR T n 2 := fun h => pR_ok (by decide) (c1.trans h) (by omega)
  have f1 : kN T n 0 2 1 ≠ 0 → pR T n 1 = (kN T n 0 2 1, tB T n 1) := fun h => by rw [pR_no (by decide) (by rw [c1]; exact h) (by omega), c1]
  have c2 : pCk T n 2 = kN T n 0 9 2 := rfl
  have s2 : kN T n 0 9 2 = 0 → pR T n 2 = pR T n 3 := fun h => pR_ok (by decide) (c2.trans h) (by omega)
  have f2 : kN T n 0 9 2 ≠ 0 → pR T n 2 = (kN T n 0 9 2, tB T n 2) := fun h => by rw [pR_no (by decide) (by rw [c2]; exact h) (by omega), c2]
  have c3 : pCk T n 3 = kS T n 3 := rfl
  have s3 : kS T n 3 = 0 → pR T n 3 = pR T n 4 := fun h => pR_ok (by decide) (c3.trans h) (by omega)
  have f3 : kS T n 3 ≠ 0 → pR T n 3 = (kS T n 3, tB T n 3) := fun h => by rw [pR_no (by decide) (by rw [c3]; exact h) (by omega), c3]
  by_cases z0 : kW T n wLaw 0 = 0
  · by_cases z1 : kN T n 0 2 1 = 0
    · by_cases z2 : kN T n 0 9 2 = 0
      · by_cases z3 : kS T n 3 = 0
        · refine r_aload_n rfl ?_
          refine r_ldcS ?_
          refine r_cV2 g_38 rfl (Nat.le_of_ble_eq_true rfl) (Nat.le_of_ble_eq_true rfl) (c_takeWord1 hX hW z0) (fun v_3 m_3 hq_3 => ?_)
          obtain ⟨rfl, x1, x2, x3⟩ := hq_3; have d1 := dF_k x1 x2; have b1 : 0 ≤ m_3 30 10 ∧ m_3 30 10 ≤ 4 := by { rw [x1 30 (by decide)]; exact hb }
          refine r_if_eq kX6_readLaw_18 (fun c1 => absurd c1 (by decide)) (fun c1 => ?_)
          refine r_aload_n rfl ?_
          refine r_iconst ?_
          refine r_iconst ?_
          refine r_cV3 g_38 rfl (Nat.le_of_ble_eq_true rfl) (Nat.le_of_ble_eq_true rfl) (c_takeNumber1 x3 z1) (fun v_12 m_12 hq_12 => ?_)
          obtain ⟨⟨rfl, y1, y2, y3⟩, y4⟩ := hq_12; have d2 := dF_t d1 (dF_k y1 y2); have y5 := cX_u y3 (b := 30) (by decide) (by decide) 8 (tV T n 1); have d3 := dF_t d2 (dF_u m_12 (b := 30) (by decide) (by decide) 8 (tV T n 1)); have b2 : 0 ≤ az_up m_12 30 8 (tV T n 1) 30 10 ∧ az_up m_12 30 8 (tV T n 1) 30 10 ≤ 4 := by { rw [az_up_k _ _ (by decide), y1 30 (by decide)]; exact b1 }
          refine r_if_ne kX6_readLaw_20 (fun c2 => ?_) (fun c2 => absurd c2 (by decide))
          refine r_aload_n rfl ?_
          refine r_aload_n rfl ?_
          refine r_getIx g_38 (y4) ?_
          refine r_putI g_30 (by decide) ?_
          refine r_aload_n rfl ?_
          refine r_iconst ?_
          refine r_bipush ?_
          refine r_cV3 g_38 rfl (Nat.le_of_ble_eq_true rfl) (Nat.le_of_ble_eq_true rfl) (c_takeNumber1 y5 z2) (fun v_32 m_32 hq_32 => ?_)
          obtain ⟨⟨rfl, w1, w2, w3⟩, w4⟩ := hq_32; have d4 := dF_t d3 (dF_k w1 w2); have w5 := cX_u w3 (b := 30) (by decide) (by decide) 9 (tV T n 2); have d5 := dF_t d4 (dF_u m_32 (b := 30) (by decide) (by decide) 9 (tV T n 2)); have b3 : 0 ≤ az_up m_32 30 9 (tV T n 2) 30 10 ∧ az_up m_32 30 9 (tV T n 2) 30 10 ≤ 4 := by { rw [az_up_k _ _ (by decide), w1 30 (by decide)]; exact b2 }
          refine r_if_ne kX6_readLaw_40 (fun c3 => ?_) (fun c3 => absurd c3 (by decide))
          refine r_aload_n rfl ?_
          refine r_aload_n rfl ?_
          refine r_getIx g_38 (w4) ?_
          refine r_putI g_30 (by decide) ?_
          refine r_aload_n rfl ?_
          refine r_cV1 g_38 rfl (Nat.le_of_ble_eq_true rfl) (Nat.le_of_ble_eq_true rfl) (c_takeSign1 w5 z3) (fun v_49 m_49 hq_49 => ?_)
          obtain ⟨rfl, v1, v2, v3⟩ := hq_49
          refine r_zret rfl (by omega) ?_
          refine Or.inl ⟨rfl, by rw [s0 z0, s1 z1, s2 z2, s3 z3], dF_t d5 (dF_k v1 v2), v3, ?_, ?_, ?_, fun k k1 k2 => ?_, fun y y1' y2' => ?_⟩
          · rw [v2 6 (by decide) (by decide) (by decide) (by decide), az_up_b _ _ _ (by decide), w2 6 (by decide) (by decide) (by decide) (by decide), az_up_b _ _ _ (by decide), y2 6 (by decide) (by decide) (by decide) (by decide), x2 6 (by decide) (by decide) (by decide) (by decide)]
          · rw [v1 30 (by decide), az_up_k _ _ (by decide), w1 30 (by decide), az_upx]
          · rw [v1 30 (by decide), az_upx]
          · rw [v1 30 (by decide), az_up_k _ _ k2, w1 30 (by decide), az_up_k _ _ k1, y1 30 (by decide), x1 30 (by decide)]
          · rw [v1 y (by omega), az_up_b _ _ _ (by omega), w1 y (by omega), az_up_b _ _ _ (by omega), y1 y (by omega), x1 y (by omega)]
        · refine r_aload_n rfl ?_
          refine r_ldcS ?_
          refine r_cV2 g_38 rfl (Nat.le_of_ble_eq_true rfl) (Nat.le_of_ble_eq_true rfl) (c_takeWord1 hX hW z0) (fun v_3 m_3 hq_3 => ?_)
          obtain ⟨rfl, x1, x2, x3⟩ := hq_3; have d1 := dF_k x1 x2; have b1 : 0 ≤ m_3 30 10 ∧ m_3 30 10 ≤ 4 := by { rw [x1 30 (by decide)]; exact hb }
          refine r_if_eq kX6_readLaw_18 (fun c1 => absurd c1 (by decide)) (fun c1 => ?_)
          refine r_aload_n rfl ?_
          refine r_iconst ?_
          refine r_iconst ?_
          refine r_cV3 g_38 rfl (Nat.le_of_ble_eq_true rfl) (Nat.le_of_ble_eq_true rfl) (c_takeNumber1 x3 z1) (fun v_12 m_12 hq_12 => ?_)
          obtain ⟨⟨rfl, y1, y2, y3⟩, y4⟩ := hq_12; have d2 := dF_t d1 (dF_k y1 y2); have y5 := cX_u y3 (b := 30) (by decide) (by decide) 8 (tV T n 1); have d3 := dF_t d2 (dF_u m_12 (b := 30) (by decide) (by decide) 8 (tV T n 1)); have b2 : 0 ≤ az_up m_12 30 8 (tV T n 1) 30 10 ∧ az_up m_12 30 8 (tV T n 1) 30 10 ≤ 4 := by { rw [az_up_k _ _ (by decide), y1 30 (by decide)]; exact b1 }
          refine r_if_ne kX6_readLaw_20 (fun c2 => ?_) (fun c2 => absurd c2 (by decide))
          refine r_aload_n rfl ?_
          refine r_aload_n rfl ?_
          refine r_getIx g_38 (y4) ?_
          refine r_putI g_30 (by decide) ?_
          refine r_aload_n rfl ?_
          refine r_iconst ?_
          refine r_bipush ?_
          refine r_cV3 g_38 rfl (Nat.le_of_ble_eq_true rfl) (Nat.le_of_ble_eq_true rfl) (c_takeNumber1 y5 z2) (fun v_32 m_32 hq_32 => ?_)
          obtain ⟨⟨rfl, w1, w2, w3⟩, w4⟩ := hq_32; have d4 := dF_t d3 (dF_k w1 w2); have w5 := cX_u w3 (b := 30) (by decide) (by decide) 9 (tV T n 2); have d5 := dF_t d4 (dF_u m_32 (b := 30) (by decide) (by decide) 9 (tV T n 2)); have b3 : 0 ≤ az_up m_32 30 9 (tV T n 2) 30 10 ∧ az_up m_32 30 9 (tV T n 2) 30 10 ≤ 4 := by { rw [az_up_k _ _ (by decide), w1 30 (by decide)]; exact b2 }
          refine r_if_ne kX6_readLaw_40 (fun c3 => ?_) (fun c3 => absurd c3 (by decide))
          refine r_aload_n rfl ?_
          refine r_aload_n rfl ?_
          refine r_getIx g_38 (w4) ?_
          refine r_putI g_30 (by decide) ?_
          refine r_aload_n rfl ?_
          refine r_cV1I g_38 rfl (Nat.le_of_ble_eq_true rfl) (Nat.le_of_ble_eq_true rfl) (c_takeSign0 w5 z3) ?_
          refine r_zret rfl (by omega) ?_
          exact Or.inr (fl d5 w5 (by rw [s0 z0, s1 z1, s2 z2, f3 z3]) z3 b3)
      · refine r_aload_n rfl ?_
        refine r_ldcS ?_
        refine r_cV2 g_38 rfl (Nat.le_of_ble_eq_true rfl) (Nat.le_of_ble_eq_true rfl) (c_takeWord1 hX hW z0) (fun v_3 m_3 hq_3 => ?_)
        obtain ⟨rfl, x1, x2, x3⟩ := hq_3; have d1 := dF_k x1 x2; have b1 : 0 ≤ m_3 30 10 ∧ m_3 30 10 ≤ 4 := by { rw [x1 30 (by decide)]; exact hb }
        refine r_if_eq kX6_readLaw_18 (fun c1 => absurd c1 (by decide)) (fun c1 => ?_)
        refine r_aload_n rfl ?_
        refine r_iconst ?_
        refine r_iconst ?_
        refine r_cV3 g_38 rfl (Nat.le_of_ble_eq_true rfl) (Nat.le_of_ble_eq_true rfl) (c_takeNumber1 x3 z1) (fun v_12 m_12 hq_12 => ?_)
        obtain ⟨⟨rfl, y1, y2, y3⟩, y4⟩ := hq_12; have d2 := dF_t d1 (dF_k y1 y2); have y5 := cX_u y3 (b := 30) (by decide) (by decide) 8 (tV T n 1); have d3 := dF_t d2 (dF_u m_12 (b := 30) (by decide) (by decide) 8 (tV T n 1)); have b2 : 0 ≤ az_up m_12 30 8 (tV T n 1) 30 10 ∧ az_up m_12 30 8 (tV T n 1) 30 10 ≤ 4 := by { rw [az_up_k _ _ (by decide), y1 30 (by decide)]; exact b1 }
        refine r_if_ne kX6_readLaw_20 (fun c2 => ?_) (fun c2 => absurd c2 (by decide))
        refine r_aload_n rfl ?_
        refine r_aload_n rfl ?_
        refine r_getIx g_38 (y4) ?_
        refine r_putI g_30 (by decide) ?_
        refine r_aload_n rfl ?_
        refine r_iconst ?_
        refine r_bipush ?_
        refine r_cV3I g_38 rfl (Nat.le_of_ble_eq_true rfl) (Nat.le_of_ble_eq_true rfl) (c_takeNumber0 y5 z2) ?_
        refine r_if_ne kX6_readLaw_40 (fun c3 => absurd c3 (by decide)) (fun c3 => ?_)
        refine r_iconst ?_
        refine r_zret rfl (by omega) ?_
        exact Or.inr (fl d3 y5 (by rw [s0 z0, s1 z1, f2 z2]) z2 b2)
    · refine r_aload_n rfl ?_
      refine r_ldcS ?_
      refine r_cV2 g_38 rfl (Nat.le_of_ble_eq_true rfl) (Nat.le_of_ble_eq_true rfl) (c_takeWord1 hX hW z0) (fun v_3 m_3 hq_3 => ?_)
      obtain ⟨rfl, x1, x2, x3⟩ := hq_3; have d1 := dF_k x1 x2; have b1 : 0 ≤ m_3 30 10 ∧ m_3 30 10 ≤ 4 := by { rw [x1 30 (by decide)]; exact hb }
      refine r_if_eq kX6_readLaw_18 (fun c1 => absurd c1 (by decide)) (fun c1 => ?_)
      refine r_aload_n rfl ?_
      refine r_iconst ?_
      refine r_iconst ?_
      refine r_cV3I g_38 rfl (Nat.le_of_ble_eq_true rfl) (Nat.le_of_ble_eq_true rfl) (c_takeNumber0 x3 z1) ?_
      refine r_if_ne kX6_readLaw_20 (fun c2 => absurd c2 (by decide)) (fun c2 => ?_)
      refine r_iconst ?_
      refine r_zret rfl (by omega) ?_
      exact Or.inr (fl d1 x3 (by rw [s0 z0, f1 z1]) z1 b1)
  · refine r_aload_n rfl ?_
    refine r_ldcS ?_
    refine r_cV2I g_38 rfl (Nat.le_of_ble_eq_true rfl) (Nat.le_of_ble_eq_true rfl) (c_takeWord0 hW z0) ?_
    refine r_if_eq kX6_readLaw_18 (fun c1 => ?_) (fun c1 => absurd c1 (by decide))
    refine r_iconst ?_
    refine r_zret rfl (by omega) ?_
    exact Or.inr (fl (dF_r m) hX (by rw [f0 z0]) z0 hb)
def qSn (m : aM) (T : Int → Int) (n : Int) : Option aV → aM → Prop := fun v m' => v = some (.inl 1) ∧ pR T n 4 = pR T n 12 ∧ dF m m' ∧ cX m' T n 12 ∧ m' 38 6 = m 38 6 ∧ m' 30 = m 30 ∧ (∀ h, 0 ≤ h → h < 6 → m' 31 h = tV T n (5 + h.toNat)) ∧ (∀ y, 31 < y → y < 38 → m' y = m y)
theorem c_X6_readSun (hX : cX m T n 4) (hb : 0 ≤ m 30 10 ∧ m 30 10 ≤ 4) : az_C sc az_G 56 [.inr (.inr 39), .inr (.inr 31)] m (fun v m' => qSn m T n v m' ∨ qFl m T n 4 v m') := by
  have hW := c_isWord_1 (sc := sc) hX.2 hX.1
  have c4 : pCk T n 4 = kW T n wSun 4 := rfl
  by_cases z : kW T n wSun 4 = 0
  · have s4 : pR T n 4 = pR T n 5 := pR_ok (by decide) (c4.trans z) (by omega)
    refine r_aload_n rfl ?_
    refine r_ldcS ?_
    refine r_cV2 g_38 rfl (Nat.le_of_ble_eq_true rfl) (Nat.le_of_ble_eq_true rfl) (c_takeWord1 hX hW z) (fun v_3 m_3 hq_3 => ?_)
    obtain ⟨rfl, x1, x2, x3⟩ := hq_3; have d1 := dF_k x1 x2
    refine r_if_ne kX6_readSun_11 (fun c1 => ?_) (fun c1 => absurd c1 (by decide))
    refine r_iconst ?_
    refine r_istore_n (Nat.le_of_ble_eq_true rfl) rfl ?_
    skip
    refine az_whl (α := aM) (fun h _ => [some (.inr (.inr (39))), some (.inr (.inr (31))), some (.inl (h))]) (fun _ a => a) (fun h a => 0 ≤ h ∧ dF m a ∧ cX a T n (5 + h.toNat) ∧ pR T n 4 = pR T n (5 + h.toNat) ∧ a 38 6 = m 38 6 ∧ a 30 = m 30 ∧ (∀ j, 0 ≤ j → j < h → a 31 j = tV T n (5 + j.toNat)) ∧ (∀ y, 31 < y → y < 38 → a y = m y)) 6 (fun h a hh6 hp hK => ?_) 0 m_3 (by decide) ⟨Int.le_refl _, d1, x3, s4, x2 6 (by decide) (by decide) (by decide) (by decide), x1 30 (by decide), fun j j0 j1 => by omega, fun y y1 y2 => x1 y (by omega)⟩
    obtain ⟨g0, p1, p2, p3, p4, p5, p6, p7⟩ := hp
    have hb2 : 0 ≤ a 30 10 ∧ a 30 10 ≤ 4 := by rw [p5]; exact hb
    by_cases e6 : h = 6
    · subst e6
      have c11 : pCk T n 11 = kS T n 11 := rfl
      have p2 : cX a T n 11 := p2
      have p3 : pR T n 4 = pR T n 11 := p3
      by_cases z2 : kS T n 11 = 0
      · have s11 : pR T n 11 = pR T n 12 := pR_ok (by decide) (c11.trans z2) (by omega)
        refine r_iload_n rfl ?_
        refine r_bipush ?_
        refine r_icmp_ge kX6_readSun_47 (fun c1 => ?_) (fun c1 => absurd c1 (by omega))
        refine r_aload_n rfl ?_
        refine r_cV1 g_38 rfl (Nat.le_of_ble_eq_true rfl) (Nat.le_of_ble_eq_true rfl) (c_takeSign1 p2 z2) (fun v_48 m_48 hq_48 => ?_)
        obtain ⟨rfl, w1, w2, w3⟩ := hq_48
        refine r_zret rfl (by omega) ?_
        refine Or.inl ⟨rfl, p3.trans s11, dF_t p1 (dF_k w1 w2), w3, (w2 6 (by decide) (by decide) (by decide) (by decide)).trans p4, (w1 30 (by decide)).trans p5, fun j j0 j1 => ?_, fun y y1 y2 => (w1 y (by omega)).trans (p7 y y1 y2)⟩
        rw [w1 31 (by decide)]
        exact p6 j j0 j1
      · have f11 : pR T n 11 = (kS T n 11, tB T n 11) := by rw [pR_no (by decide) (by rw [c11]; exact z2) (by omega), c11]
        refine r_iload_n rfl ?_
        refine r_bipush ?_
        refine r_icmp_ge kX6_readSun_47 (fun c1 => ?_) (fun c1 => absurd c1 (by omega))
        refine r_aload_n rfl ?_
        refine r_cV1I g_38 rfl (Nat.le_of_ble_eq_true rfl) (Nat.le_of_ble_eq_true rfl) (c_takeSign0 p2 z2) ?_
        refine r_zret rfl (by omega) ?_
        exact Or.inr (fl p1 p2 (p3.trans f11) z2 hb2)
    · have ch := ck_price (T := T) (n := n) (h := h.toNat) (by omega)
      by_cases z2 : kN T n 0 30 (5 + h.toNat) = 0
      · have hRn : pR T n (5 + h.toNat) = pR T n (5 + h.toNat + 1) := pR_ok (by omega) (ch.trans z2) (by omega)
        refine r_iload_n rfl ?_
        refine r_bipush ?_
        refine r_icmp_ge kX6_readSun_47 (fun c1 => absurd c1 (by omega)) (fun c1 => ?_)
        refine r_aload_n rfl ?_
        refine r_iconst ?_
        refine r_bipush ?_
        refine r_cV3 g_38 rfl (Nat.le_of_ble_eq_true rfl) (Nat.le_of_ble_eq_true rfl) (c_takeNumber1 p2 z2) (fun v_23 m_23 hq_23 => ?_)
        obtain ⟨⟨rfl, w1, w2, w3⟩, w4⟩ := hq_23
        refine r_if_ne kX6_readSun_31 (fun c2 => ?_) (fun c2 => absurd c2 (by decide))
        refine r_aload_n rfl ?_
        refine r_getR g_30 rfl ?_
        refine r_iload_n rfl ?_
        refine r_aload_n rfl ?_
        refine r_getIx g_38 (w4) ?_
        refine r_iast g_31 (by decide) (by omega) (by omega) ?_
        refine r_iinc rfl (az_wid (by omega) (by omega)) rfl ?_
        refine r_goto kX6_readSun_13 ?_
        skip
        have e1 : 5 + (h + 1).toNat = 5 + h.toNat + 1 := by omega
        refine hK _ (by omega) ⟨by omega, dF_t p1 (dF_t (dF_k w1 w2) (dF_u _ (b := 31) (by decide) (by decide) _ _)), ?_, ?_, ?_, ?_, fun j j0 j1 => ?_, fun y y1 y2 => ?_⟩
        · rw [e1]
          exact cX_u w3 (by decide) (by decide) _ _
        · rw [e1]
          exact p3.trans hRn
        · rw [az_up_b _ _ _ (by decide), w2 6 (by decide) (by decide) (by decide) (by decide)]
          exact p4
        · rw [az_up_b _ _ _ (by decide), w1 30 (by decide)]
          exact p5
        · exact az_up_eq (fun e => by rw [e]) (fun e => by rw [w1 31 (by decide)]; exact p6 j j0 (by omega))
        · rw [az_up_b _ _ _ (by omega), w1 y (by omega)]
          exact p7 y y1 y2
      · have hRn : pR T n (5 + h.toNat) = (kN T n 0 30 (5 + h.toNat), tB T n (5 + h.toNat)) := by rw [pR_no (by omega) (by rw [ch]; exact z2) (by omega), ch]
        refine r_iload_n rfl ?_
        refine r_bipush ?_
        refine r_icmp_ge kX6_readSun_47 (fun c1 => absurd c1 (by omega)) (fun c1 => ?_)
        refine r_aload_n rfl ?_
        refine r_iconst ?_
        refine r_bipush ?_
        refine r_cV3I g_38 rfl (Nat.le_of_ble_eq_true rfl) (Nat.le_of_ble_eq_true rfl) (c_takeNumber0 p2 z2) ?_
        refine r_if_ne kX6_readSun_31 (fun c2 => absurd c2 (by decide)) (fun c2 => ?_)
        refine r_iconst ?_
        refine r_zret rfl (by omega) ?_
        exact Or.inr (fl p1 p2 (p3.trans hRn) z2 hb2)
  · have f4 : pR T n 4 = (kW T n wSun 4, tB T n 4) := by rw [pR_no (by decide) (by rw [c4]; exact z) (by omega), c4]
    refine r_aload_n rfl ?_
    refine r_ldcS ?_
    refine r_cV2I g_38 rfl (Nat.le_of_ble_eq_true rfl) (Nat.le_of_ble_eq_true rfl) (c_takeWord0 hW z) ?_
    refine r_if_ne kX6_readSun_11 (fun c1 => absurd c1 (by decide)) (fun c1 => ?_)
    refine r_iconst ?_
    refine r_zret rfl (by omega) ?_
    exact Or.inr (fl (dF_r m) hX f4 z hb)
/-! a guest -/
def qGs (m : aM) (T : Int → Int) (n : Int) (i : Nat) (g : Int) : Option aV → aM → Prop := fun v m' => v = some (.inl 1) ∧ pR T n i = pR T n (i + 1 + 1 + 1 + 1 + 1 + 1) ∧ dF m m' ∧ cX m' T n (i + 1 + 1 + 1 + 1 + 1 + 1) ∧ m' 38 6 = m 38 6 ∧ m' 30 = m 30 ∧ m' 31 = m 31 ∧ m' 32 = up1 (m 32) g (tD T n (i + 1)) ∧ m' 33 = up1 (m 33) g (tV T n (i + 1 + 1)) ∧ m' 35 = up1 (m 35) g (tV T n (i + 1 + 1 + 1)) ∧ m' 34 = up1 (m 34) g (tV T n (i + 1 + 1 + 1 + 1)) ∧ m' 36 = up1 (m 36) g 0
theorem c_X6_readGuest {i k : Nat} {g : Int} (hi : i = 12 + 6 * k) (hk4 : k < 4) (hg : 0 ≤ g ∧ g < 4) (hX : cX m T n i) (h0 : tK T n i ≠ 0) (hb : 0 ≤ m 30 10 ∧ m 30 10 ≤ 4) : az_C sc az_G 59 [.inr (.inr 39), .inr (.inr 31), .inl g] m (fun v m' => qGs m T n i g v m' ∨ qFl m T n i v m') := by
  have hW := c_isWord_2 (sc := sc) hX.2 hX.1
  have e0 : pCk T n (i) = kW T n wGuest (i) := by
    have h := ck_g (T := T) (n := n) (g := k) (c := 0) (by omega)
    rw [if_pos rfl, show 12 + 6 * k + 0 = i by omega] at h
    exact h
  have s0 : kW T n wGuest (i) = 0 → pR T n (i) = pR T n (i + 1) := fun h => pR_ok (by omega) (e0.trans h) (fun q => h0 q.2.2)
  have f0 : kW T n wGuest (i) ≠ 0 → pR T n (i) = (kW T n wGuest (i), tB T n (i)) := fun h => by rw [pR_no (by omega) (by rw [e0]; exact h) (fun q => h0 q.2.2), e0]
  have e1 : pCk T n (i + 1) = kD T n (i + 1) := by
    have h := ck_g (T := T) (n := n) (g := k) (c := 1) (by omega)
    rw [if_neg (by decide), if_pos rfl, show 12 + 6 * k + 1 = i + 1 by omega] at h
    exact h
  have s1 : kD T n (i + 1) = 0 → pR T n (i + 1) = pR T n (i + 1 + 1) := fun h => pR_ok (by omega) (e1.trans h) (by omega)
  have f1 : kD T n (i + 1) ≠ 0 → pR T n (i + 1) = (kD T n (i + 1), tB T n (i + 1)) := fun h => by rw [pR_no (by omega) (by rw [e1]; exact h) (by omega), e1]
  have e2 : pCk T n (i + 1 + 1) = kN T n 0 20 (i + 1 + 1) := by
    have h := ck_g (T := T) (n := n) (g := k) (c := 2) (by omega)
    rw [if_neg (by decide), if_neg (by decide), if_pos rfl, show 12 + 6 * k + 2 = i + 1 + 1 by omega] at h
    exact h
  have s2 : kN T n 0 20 (i + 1 + 1) = 0 → pR T n (i + 1 + 1) = pR T n (i + 1 + 1 + 1) := fun h => pR_ok (by omega) (e2.trans h) (by omega)
  have f2 : kN T n 0 20 (i + 1 + 1) ≠ 0 → pR T n (i + 1 + 1) = (kN T n 0 20 (i + 1 + 1), tB T n (i + 1 + 1)) := fun h => by rw [pR_no (by omega) (by rw [e2]; exact h) (by omega), e2]
  have e3 : pCk T n (i + 1 + 1 + 1) = kN T n 0 200 (i + 1 + 1 + 1) := by
    have h := ck_g (T := T) (n := n) (g := k) (c := 3) (by omega)
    rw [if_neg (by decide), if_neg (by decide), if_neg (by decide), if_pos rfl, show 12 + 6 * k + 3 = i + 1 + 1 + 1 by omega] at h
    exact h
  have s3 : kN T n 0 200 (i + 1 + 1 + 1) = 0 → pR T n (i + 1 + 1 + 1) = pR T n (i + 1 + 1 + 1 + 1) := fun h => pR_ok (by omega) (e3.trans h) (by omega)
  have f3 : kN T n 0 200 (i + 1 + 1 + 1) ≠ 0 → pR T n (i + 1 + 1 + 1) = (kN T n 0 200 (i + 1 + 1 + 1), tB T n (i + 1 + 1 + 1)) := fun h => by rw [pR_no (by omega) (by rw [e3]; exact h) (by omega), e3]
  have e4 : pCk T n (i + 1 + 1 + 1 + 1) = kN T n 1 6 (i + 1 + 1 + 1 + 1) := by
    have h := ck_g (T := T) (n := n) (g := k) (c := 4) (by omega)
    rw [if_neg (by decide), if_neg (by decide), if_neg (by decide), if_neg (by decide), if_pos rfl, show 12 + 6 * k + 4 = i + 1 + 1 + 1 + 1 by omega] at h
    exact h
  have s4 : kN T n 1 6 (i + 1 + 1 + 1 + 1) = 0 → pR T n (i + 1 + 1 + 1 + 1) = pR T n (i + 1 + 1 + 1 + 1 + 1) := fun h => pR_ok (by omega) (e4.trans h) (by omega)
  have f4 : kN T n 1 6 (i + 1 + 1 + 1 + 1) ≠ 0 → pR T n (i + 1 + 1 + 1 + 1) = (kN T n 1 6 (i + 1 + 1 + 1 + 1), tB T n (i + 1 + 1 + 1 + 1)) := fun h => by rw [pR_no (by omega) (by rw [e4]; exact h) (by omega), e4]
  have e5 : pCk T n (i + 1 + 1 + 1 + 1 + 1) = kS T n (i + 1 + 1 + 1 + 1 + 1) := by
    have h := ck_g (T := T) (n := n) (g := k) (c := 5) (by omega)
    rw [if_neg (by decide), if_neg (by decide), if_neg (by decide), if_neg (by decide), if_neg (by decide), show 12 + 6 * k + 5 = i + 1 + 1 + 1 + 1 + 1 by omega] at h
    exact h
  have s5 : kS T n (i + 1 + 1 + 1 + 1 + 1) = 0 → pR T n (i + 1 + 1 + 1 + 1 + 1) = pR T n (i + 1 + 1 + 1 + 1 + 1 + 1) := fun h => pR_ok (by omega) (e5.trans h) (by omega)
  have f5 : kS T n (i + 1 + 1 + 1 + 1 + 1) ≠ 0 → pR T n (i + 1 + 1 + 1 + 1 + 1) = (kS T n (i + 1 + 1 + 1 + 1 + 1), tB T n (i + 1 + 1 + 1 + 1 + 1)) := fun h => by rw [pR_no (by omega) (by rw [e5]; exact h) (by omega), e5]
  clear e0 e1 e2 e3 e4 e5
  by_cases z0 : kW T n wGuest (i) = 0
  · by_cases z1 : kD T n (i + 1) = 0
    · by_cases z2 : kN T n 0 20 (i + 1 + 1) = 0
      · by_cases z3 : kN T n 0 200 (i + 1 + 1 + 1) = 0
        · by_cases z4 : kN T n 1 6 (i + 1 + 1 + 1 + 1) = 0
          · by_cases z5 : kS T n (i + 1 + 1 + 1 + 1 + 1) = 0
            · refine r_aload_n rfl ?_
              refine r_ldcS ?_
              refine r_cV2 g_38 rfl (Nat.le_of_ble_eq_true rfl) (Nat.le_of_ble_eq_true rfl) (c_takeWord1 hX hW z0) (fun v_3 m_3 hq_3 => ?_)
              obtain ⟨rfl, x0a, x0b, X0⟩ := hq_3; have d0 := dF_k x0a x0b; have B0 : 0 ≤ m_3 30 10 ∧ m_3 30 10 ≤ 4 := by { rw [x0a 30 (by decide)]; exact hb }
              refine r_if_eq kX6_readGuest_16 (fun c1 => absurd c1 (by decide)) (fun c1 => ?_)
              refine r_aload_n rfl ?_
              refine r_cV1 g_38 rfl (Nat.le_of_ble_eq_true rfl) (Nat.le_of_ble_eq_true rfl) (c_takeSort1 X0 z1) (fun v_10 m_10 hq_10 => ?_)
              obtain ⟨⟨rfl, x1a, x1b, Y1⟩, y1v⟩ := hq_10; have X1 := cX_u Y1 (b := 32) (by decide) (by decide) g (tD T n (i + 1)); have d1 := dF_t d0 (dF_t (dF_k x1a x1b) (dF_u m_10 (b := 32) (by decide) (by decide) g (tD T n (i + 1)))); have B1 : 0 ≤ az_up m_10 32 g (tD T n (i + 1)) 30 10 ∧ az_up m_10 32 g (tD T n (i + 1)) 30 10 ≤ 4 := by { rw [az_up_b _ _ _ (by decide), x1a 30 (by decide)]; exact B0 }
              refine r_if_ne kX6_readGuest_18 (fun c2 => ?_) (fun c2 => absurd c2 (by decide))
              refine r_aload_n rfl ?_
              refine r_getR g_30 rfl ?_
              refine r_iload_n rfl ?_
              refine r_aload_n rfl ?_
              refine r_getIx g_38 (y1v) ?_
              refine r_iast g_32 (by decide) (by omega) (by omega) ?_
              refine r_aload_n rfl ?_
              refine r_iconst ?_
              refine r_bipush ?_
              refine r_cV3 g_38 rfl (Nat.le_of_ble_eq_true rfl) (Nat.le_of_ble_eq_true rfl) (c_takeNumber1 X1 z2) (fun v_32 m_32 hq_32 => ?_)
              obtain ⟨⟨rfl, x2a, x2b, Y2⟩, y2v⟩ := hq_32; have X2 := cX_u Y2 (b := 33) (by decide) (by decide) g (tV T n (i + 1 + 1)); have d2 := dF_t d1 (dF_t (dF_k x2a x2b) (dF_u m_32 (b := 33) (by decide) (by decide) g (tV T n (i + 1 + 1)))); have B2 : 0 ≤ az_up m_32 33 g (tV T n (i + 1 + 1)) 30 10 ∧ az_up m_32 33 g (tV T n (i + 1 + 1)) 30 10 ≤ 4 := by { rw [az_up_b _ _ _ (by decide), x2a 30 (by decide)]; exact B1 }
              refine r_if_ne kX6_readGuest_40 (fun c3 => ?_) (fun c3 => absurd c3 (by decide))
              refine r_aload_n rfl ?_
              refine r_getR g_30 rfl ?_
              refine r_iload_n rfl ?_
              refine r_aload_n rfl ?_
              refine r_getIx g_38 (y2v) ?_
              refine r_iast g_33 (by decide) (by omega) (by omega) ?_
              refine r_aload_n rfl ?_
              refine r_iconst ?_
              refine r_sipush ?_
              refine r_cV3 g_38 rfl (Nat.le_of_ble_eq_true rfl) (Nat.le_of_ble_eq_true rfl) (c_takeNumber1 X2 z3) (fun v_55 m_55 hq_55 => ?_)
              obtain ⟨⟨rfl, x3a, x3b, Y3⟩, y3v⟩ := hq_55; have X3 := cX_u Y3 (b := 35) (by decide) (by decide) g (tV T n (i + 1 + 1 + 1)); have d3 := dF_t d2 (dF_t (dF_k x3a x3b) (dF_u m_55 (b := 35) (by decide) (by decide) g (tV T n (i + 1 + 1 + 1)))); have B3 : 0 ≤ az_up m_55 35 g (tV T n (i + 1 + 1 + 1)) 30 10 ∧ az_up m_55 35 g (tV T n (i + 1 + 1 + 1)) 30 10 ≤ 4 := by { rw [az_up_b _ _ _ (by decide), x3a 30 (by decide)]; exact B2 }
              refine r_if_ne kX6_readGuest_63 (fun c4 => ?_) (fun c4 => absurd c4 (by decide))
              refine r_aload_n rfl ?_
              refine r_getR g_30 rfl ?_
              refine r_iload_n rfl ?_
              refine r_aload_n rfl ?_
              refine r_getIx g_38 (y3v) ?_
              refine r_iast g_35 (by decide) (by omega) (by omega) ?_
              refine r_aload_n rfl ?_
              refine r_iconst ?_
              refine r_bipush ?_
              refine r_cV3 g_38 rfl (Nat.le_of_ble_eq_true rfl) (Nat.le_of_ble_eq_true rfl) (c_takeNumber1 X3 z4) (fun v_77 m_77 hq_77 => ?_)
              obtain ⟨⟨rfl, x4a, x4b, Y4⟩, y4v⟩ := hq_77; have X4 := cX_u Y4 (b := 34) (by decide) (by decide) g (tV T n (i + 1 + 1 + 1 + 1)); have d4 := dF_t d3 (dF_t (dF_k x4a x4b) (dF_u m_77 (b := 34) (by decide) (by decide) g (tV T n (i + 1 + 1 + 1 + 1)))); have B4 : 0 ≤ az_up m_77 34 g (tV T n (i + 1 + 1 + 1 + 1)) 30 10 ∧ az_up m_77 34 g (tV T n (i + 1 + 1 + 1 + 1)) 30 10 ≤ 4 := by { rw [az_up_b _ _ _ (by decide), x4a 30 (by decide)]; exact B3 }
              refine r_if_ne kX6_readGuest_85 (fun c5 => ?_) (fun c5 => absurd c5 (by decide))
              refine r_aload_n rfl ?_
              refine r_getR g_30 rfl ?_
              refine r_iload_n rfl ?_
              refine r_aload_n rfl ?_
              refine r_getIx g_38 (y4v) ?_
              refine r_iast g_34 (by decide) (by omega) (by omega) ?_
              refine r_aload_n rfl ?_
              refine r_getR g_30 rfl ?_
              refine r_iload_n rfl ?_
              refine r_iconst ?_
              refine r_iast g_36 (by decide) (by omega) (by omega) ?_
              refine r_aload_n rfl ?_
              refine r_cV1 g_38 rfl (Nat.le_of_ble_eq_true rfl) (Nat.le_of_ble_eq_true rfl) (c_takeSign1 (cX_u X4 (b := 36) (by decide) (by decide) g 0) z5) (fun v_103 m_103 hq_103 => ?_)
              obtain ⟨rfl, x5a, x5b, X5⟩ := hq_103
              refine r_zret rfl (by omega) ?_
              refine Or.inl ⟨rfl, by rw [s0 z0, s1 z1, s2 z2, s3 z3, s4 z4, s5 z5], dF_t (dF_t d4 (dF_u (az_up m_77 34 g (tV T n (i + 1 + 1 + 1 + 1))) (b := 36) (by decide) (by decide) g 0)) (dF_k x5a x5b), X5, ?_, ?_, ?_, ?_, ?_, ?_, ?_, ?_⟩
              · rw [x5b 6 (by decide) (by decide) (by decide) (by decide), az_up_b _ _ _ (by decide), az_up_b _ _ _ (by decide), x4b 6 (by decide) (by decide) (by decide) (by decide), az_up_b _ _ _ (by decide), x3b 6 (by decide) (by decide) (by decide) (by decide), az_up_b _ _ _ (by decide), x2b 6 (by decide) (by decide) (by decide) (by decide), az_up_b _ _ _ (by decide), x1b 6 (by decide) (by decide) (by decide) (by decide), x0b 6 (by decide) (by decide) (by decide) (by decide)]
              · rw [x5a 30 (by decide), az_up_b _ _ _ (by decide), az_up_b _ _ _ (by decide), x4a 30 (by decide), az_up_b _ _ _ (by decide), x3a 30 (by decide), az_up_b _ _ _ (by decide), x2a 30 (by decide), az_up_b _ _ _ (by decide), x1a 30 (by decide), x0a 30 (by decide)]
              · rw [x5a 31 (by decide), az_up_b _ _ _ (by decide), az_up_b _ _ _ (by decide), x4a 31 (by decide), az_up_b _ _ _ (by decide), x3a 31 (by decide), az_up_b _ _ _ (by decide), x2a 31 (by decide), az_up_b _ _ _ (by decide), x1a 31 (by decide), x0a 31 (by decide)]
              · rw [x5a 32 (by decide), az_up_b _ _ _ (by decide), az_up_b _ _ _ (by decide), x4a 32 (by decide), az_up_b _ _ _ (by decide), x3a 32 (by decide), az_up_b _ _ _ (by decide), x2a 32 (by decide), up1_cell, x1a 32 (by decide), x0a 32 (by decide)]
              · rw [x5a 33 (by decide), az_up_b _ _ _ (by decide), az_up_b _ _ _ (by decide), x4a 33 (by decide), az_up_b _ _ _ (by decide), x3a 33 (by decide), up1_cell, x2a 33 (by decide), az_up_b _ _ _ (by decide), x1a 33 (by decide), x0a 33 (by decide)]
              · rw [x5a 35 (by decide), az_up_b _ _ _ (by decide), az_up_b _ _ _ (by decide), x4a 35 (by decide), up1_cell, x3a 35 (by decide), az_up_b _ _ _ (by decide), x2a 35 (by decide), az_up_b _ _ _ (by decide), x1a 35 (by decide), x0a 35 (by decide)]
              · rw [x5a 34 (by decide), az_up_b _ _ _ (by decide), up1_cell, x4a 34 (by decide), az_up_b _ _ _ (by decide), x3a 34 (by decide), az_up_b _ _ _ (by decide), x2a 34 (by decide), az_up_b _ _ _ (by decide), x1a 34 (by decide), x0a 34 (by decide)]
              · rw [x5a 36 (by decide), up1_cell, az_up_b _ _ _ (by decide), x4a 36 (by decide), az_up_b _ _ _ (by decide), x3a 36 (by decide), az_up_b _ _ _ (by decide), x2a 36 (by decide), az_up_b _ _ _ (by decide), x1a 36 (by decide), x0a 36 (by decide)]
            · refine r_aload_n rfl ?_
              refine r_ldcS ?_
              refine r_cV2 g_38 rfl (Nat.le_of_ble_eq_true rfl) (Nat.le_of_ble_eq_true rfl) (c_takeWord1 hX hW z0) (fun v_3 m_3 hq_3 => ?_)
              obtain ⟨rfl, x0a, x0b, X0⟩ := hq_3; have d0 := dF_k x0a x0b; have B0 : 0 ≤ m_3 30 10 ∧ m_3 30 10 ≤ 4 := by { rw [x0a 30 (by decide)]; exact hb }
              refine r_if_eq kX6_readGuest_16 (fun c1 => absurd c1 (by decide)) (fun c1 => ?_)
              refine r_aload_n rfl ?_
              refine r_cV1 g_38 rfl (Nat.le_of_ble_eq_true rfl) (Nat.le_of_ble_eq_true rfl) (c_takeSort1 X0 z1) (fun v_10 m_10 hq_10 => ?_)
              obtain ⟨⟨rfl, x1a, x1b, Y1⟩, y1v⟩ := hq_10; have X1 := cX_u Y1 (b := 32) (by decide) (by decide) g (tD T n (i + 1)); have d1 := dF_t d0 (dF_t (dF_k x1a x1b) (dF_u m_10 (b := 32) (by decide) (by decide) g (tD T n (i + 1)))); have B1 : 0 ≤ az_up m_10 32 g (tD T n (i + 1)) 30 10 ∧ az_up m_10 32 g (tD T n (i + 1)) 30 10 ≤ 4 := by { rw [az_up_b _ _ _ (by decide), x1a 30 (by decide)]; exact B0 }
              refine r_if_ne kX6_readGuest_18 (fun c2 => ?_) (fun c2 => absurd c2 (by decide))
              refine r_aload_n rfl ?_
              refine r_getR g_30 rfl ?_
              refine r_iload_n rfl ?_
              refine r_aload_n rfl ?_
              refine r_getIx g_38 (y1v) ?_
              refine r_iast g_32 (by decide) (by omega) (by omega) ?_
              refine r_aload_n rfl ?_
              refine r_iconst ?_
              refine r_bipush ?_
              refine r_cV3 g_38 rfl (Nat.le_of_ble_eq_true rfl) (Nat.le_of_ble_eq_true rfl) (c_takeNumber1 X1 z2) (fun v_32 m_32 hq_32 => ?_)
              obtain ⟨⟨rfl, x2a, x2b, Y2⟩, y2v⟩ := hq_32; have X2 := cX_u Y2 (b := 33) (by decide) (by decide) g (tV T n (i + 1 + 1)); have d2 := dF_t d1 (dF_t (dF_k x2a x2b) (dF_u m_32 (b := 33) (by decide) (by decide) g (tV T n (i + 1 + 1)))); have B2 : 0 ≤ az_up m_32 33 g (tV T n (i + 1 + 1)) 30 10 ∧ az_up m_32 33 g (tV T n (i + 1 + 1)) 30 10 ≤ 4 := by { rw [az_up_b _ _ _ (by decide), x2a 30 (by decide)]; exact B1 }
              refine r_if_ne kX6_readGuest_40 (fun c3 => ?_) (fun c3 => absurd c3 (by decide))
              refine r_aload_n rfl ?_
              refine r_getR g_30 rfl ?_
              refine r_iload_n rfl ?_
              refine r_aload_n rfl ?_
              refine r_getIx g_38 (y2v) ?_
              refine r_iast g_33 (by decide) (by omega) (by omega) ?_
              refine r_aload_n rfl ?_
              refine r_iconst ?_
              refine r_sipush ?_
              refine r_cV3 g_38 rfl (Nat.le_of_ble_eq_true rfl) (Nat.le_of_ble_eq_true rfl) (c_takeNumber1 X2 z3) (fun v_55 m_55 hq_55 => ?_)
              obtain ⟨⟨rfl, x3a, x3b, Y3⟩, y3v⟩ := hq_55; have X3 := cX_u Y3 (b := 35) (by decide) (by decide) g (tV T n (i + 1 + 1 + 1)); have d3 := dF_t d2 (dF_t (dF_k x3a x3b) (dF_u m_55 (b := 35) (by decide) (by decide) g (tV T n (i + 1 + 1 + 1)))); have B3 : 0 ≤ az_up m_55 35 g (tV T n (i + 1 + 1 + 1)) 30 10 ∧ az_up m_55 35 g (tV T n (i + 1 + 1 + 1)) 30 10 ≤ 4 := by { rw [az_up_b _ _ _ (by decide), x3a 30 (by decide)]; exact B2 }
              refine r_if_ne kX6_readGuest_63 (fun c4 => ?_) (fun c4 => absurd c4 (by decide))
              refine r_aload_n rfl ?_
              refine r_getR g_30 rfl ?_
              refine r_iload_n rfl ?_
              refine r_aload_n rfl ?_
              refine r_getIx g_38 (y3v) ?_
              refine r_iast g_35 (by decide) (by omega) (by omega) ?_
              refine r_aload_n rfl ?_
              refine r_iconst ?_
              refine r_bipush ?_
              refine r_cV3 g_38 rfl (Nat.le_of_ble_eq_true rfl) (Nat.le_of_ble_eq_true rfl) (c_takeNumber1 X3 z4) (fun v_77 m_77 hq_77 => ?_)
              obtain ⟨⟨rfl, x4a, x4b, Y4⟩, y4v⟩ := hq_77; have X4 := cX_u Y4 (b := 34) (by decide) (by decide) g (tV T n (i + 1 + 1 + 1 + 1)); have d4 := dF_t d3 (dF_t (dF_k x4a x4b) (dF_u m_77 (b := 34) (by decide) (by decide) g (tV T n (i + 1 + 1 + 1 + 1)))); have B4 : 0 ≤ az_up m_77 34 g (tV T n (i + 1 + 1 + 1 + 1)) 30 10 ∧ az_up m_77 34 g (tV T n (i + 1 + 1 + 1 + 1)) 30 10 ≤ 4 := by { rw [az_up_b _ _ _ (by decide), x4a 30 (by decide)]; exact B3 }
              refine r_if_ne kX6_readGuest_85 (fun c5 => ?_) (fun c5 => absurd c5 (by decide))
              refine r_aload_n rfl ?_
              refine r_getR g_30 rfl ?_
              refine r_iload_n rfl ?_
              refine r_aload_n rfl ?_
              refine r_getIx g_38 (y4v) ?_
              refine r_iast g_34 (by decide) (by omega) (by omega) ?_
              refine r_aload_n rfl ?_
              refine r_getR g_30 rfl ?_
              refine r_iload_n rfl ?_
              refine r_iconst ?_
              refine r_iast g_36 (by decide) (by omega) (by omega) ?_
              refine r_aload_n rfl ?_
              refine r_cV1I g_38 rfl (Nat.le_of_ble_eq_true rfl) (Nat.le_of_ble_eq_true rfl) (c_takeSign0 (cX_u X4 (b := 36) (by decide) (by decide) g 0) z5) ?_
              refine r_zret rfl (by omega) ?_
              exact Or.inr (fl (dF_t d4 (dF_u (az_up m_77 34 g (tV T n (i + 1 + 1 + 1 + 1))) (b := 36) (by decide) (by decide) g 0)) (cX_u X4 (b := 36) (by decide) (by decide) g 0) (by rw [s0 z0, s1 z1, s2 z2, s3 z3, s4 z4, f5 z5]) z5 (by rw [az_up_b _ _ _ (by decide)]; exact B4))
          · refine r_aload_n rfl ?_
            refine r_ldcS ?_
            refine r_cV2 g_38 rfl (Nat.le_of_ble_eq_true rfl) (Nat.le_of_ble_eq_true rfl) (c_takeWord1 hX hW z0) (fun v_3 m_3 hq_3 => ?_)
            obtain ⟨rfl, x0a, x0b, X0⟩ := hq_3; have d0 := dF_k x0a x0b; have B0 : 0 ≤ m_3 30 10 ∧ m_3 30 10 ≤ 4 := by { rw [x0a 30 (by decide)]; exact hb }
            refine r_if_eq kX6_readGuest_16 (fun c1 => absurd c1 (by decide)) (fun c1 => ?_)
            refine r_aload_n rfl ?_
            refine r_cV1 g_38 rfl (Nat.le_of_ble_eq_true rfl) (Nat.le_of_ble_eq_true rfl) (c_takeSort1 X0 z1) (fun v_10 m_10 hq_10 => ?_)
            obtain ⟨⟨rfl, x1a, x1b, Y1⟩, y1v⟩ := hq_10; have X1 := cX_u Y1 (b := 32) (by decide) (by decide) g (tD T n (i + 1)); have d1 := dF_t d0 (dF_t (dF_k x1a x1b) (dF_u m_10 (b := 32) (by decide) (by decide) g (tD T n (i + 1)))); have B1 : 0 ≤ az_up m_10 32 g (tD T n (i + 1)) 30 10 ∧ az_up m_10 32 g (tD T n (i + 1)) 30 10 ≤ 4 := by { rw [az_up_b _ _ _ (by decide), x1a 30 (by decide)]; exact B0 }
            refine r_if_ne kX6_readGuest_18 (fun c2 => ?_) (fun c2 => absurd c2 (by decide))
            refine r_aload_n rfl ?_
            refine r_getR g_30 rfl ?_
            refine r_iload_n rfl ?_
            refine r_aload_n rfl ?_
            refine r_getIx g_38 (y1v) ?_
            refine r_iast g_32 (by decide) (by omega) (by omega) ?_
            refine r_aload_n rfl ?_
            refine r_iconst ?_
            refine r_bipush ?_
            refine r_cV3 g_38 rfl (Nat.le_of_ble_eq_true rfl) (Nat.le_of_ble_eq_true rfl) (c_takeNumber1 X1 z2) (fun v_32 m_32 hq_32 => ?_)
            obtain ⟨⟨rfl, x2a, x2b, Y2⟩, y2v⟩ := hq_32; have X2 := cX_u Y2 (b := 33) (by decide) (by decide) g (tV T n (i + 1 + 1)); have d2 := dF_t d1 (dF_t (dF_k x2a x2b) (dF_u m_32 (b := 33) (by decide) (by decide) g (tV T n (i + 1 + 1)))); have B2 : 0 ≤ az_up m_32 33 g (tV T n (i + 1 + 1)) 30 10 ∧ az_up m_32 33 g (tV T n (i + 1 + 1)) 30 10 ≤ 4 := by { rw [az_up_b _ _ _ (by decide), x2a 30 (by decide)]; exact B1 }
            refine r_if_ne kX6_readGuest_40 (fun c3 => ?_) (fun c3 => absurd c3 (by decide))
            refine r_aload_n rfl ?_
            refine r_getR g_30 rfl ?_
            refine r_iload_n rfl ?_
            refine r_aload_n rfl ?_
            refine r_getIx g_38 (y2v) ?_
            refine r_iast g_33 (by decide) (by omega) (by omega) ?_
            refine r_aload_n rfl ?_
            refine r_iconst ?_
            refine r_sipush ?_
            refine r_cV3 g_38 rfl (Nat.le_of_ble_eq_true rfl) (Nat.le_of_ble_eq_true rfl) (c_takeNumber1 X2 z3) (fun v_55 m_55 hq_55 => ?_)
            obtain ⟨⟨rfl, x3a, x3b, Y3⟩, y3v⟩ := hq_55; have X3 := cX_u Y3 (b := 35) (by decide) (by decide) g (tV T n (i + 1 + 1 + 1)); have d3 := dF_t d2 (dF_t (dF_k x3a x3b) (dF_u m_55 (b := 35) (by decide) (by decide) g (tV T n (i + 1 + 1 + 1)))); have B3 : 0 ≤ az_up m_55 35 g (tV T n (i + 1 + 1 + 1)) 30 10 ∧ az_up m_55 35 g (tV T n (i + 1 + 1 + 1)) 30 10 ≤ 4 := by { rw [az_up_b _ _ _ (by decide), x3a 30 (by decide)]; exact B2 }
            refine r_if_ne kX6_readGuest_63 (fun c4 => ?_) (fun c4 => absurd c4 (by decide))
            refine r_aload_n rfl ?_
            refine r_getR g_30 rfl ?_
            refine r_iload_n rfl ?_
            refine r_aload_n rfl ?_
            refine r_getIx g_38 (y3v) ?_
            refine r_iast g_35 (by decide) (by omega) (by omega) ?_
            refine r_aload_n rfl ?_
            refine r_iconst ?_
            refine r_bipush ?_
            refine r_cV3I g_38 rfl (Nat.le_of_ble_eq_true rfl) (Nat.le_of_ble_eq_true rfl) (c_takeNumber0 X3 z4) ?_
            refine r_if_ne kX6_readGuest_85 (fun c5 => absurd c5 (by decide)) (fun c5 => ?_)
            refine r_iconst ?_
            refine r_zret rfl (by omega) ?_
            exact Or.inr (fl d3 X3 (by rw [s0 z0, s1 z1, s2 z2, s3 z3, f4 z4]) z4 B3)
        · refine r_aload_n rfl ?_
          refine r_ldcS ?_
          refine r_cV2 g_38 rfl (Nat.le_of_ble_eq_true rfl) (Nat.le_of_ble_eq_true rfl) (c_takeWord1 hX hW z0) (fun v_3 m_3 hq_3 => ?_)
          obtain ⟨rfl, x0a, x0b, X0⟩ := hq_3; have d0 := dF_k x0a x0b; have B0 : 0 ≤ m_3 30 10 ∧ m_3 30 10 ≤ 4 := by { rw [x0a 30 (by decide)]; exact hb }
          refine r_if_eq kX6_readGuest_16 (fun c1 => absurd c1 (by decide)) (fun c1 => ?_)
          refine r_aload_n rfl ?_
          refine r_cV1 g_38 rfl (Nat.le_of_ble_eq_true rfl) (Nat.le_of_ble_eq_true rfl) (c_takeSort1 X0 z1) (fun v_10 m_10 hq_10 => ?_)
          obtain ⟨⟨rfl, x1a, x1b, Y1⟩, y1v⟩ := hq_10; have X1 := cX_u Y1 (b := 32) (by decide) (by decide) g (tD T n (i + 1)); have d1 := dF_t d0 (dF_t (dF_k x1a x1b) (dF_u m_10 (b := 32) (by decide) (by decide) g (tD T n (i + 1)))); have B1 : 0 ≤ az_up m_10 32 g (tD T n (i + 1)) 30 10 ∧ az_up m_10 32 g (tD T n (i + 1)) 30 10 ≤ 4 := by { rw [az_up_b _ _ _ (by decide), x1a 30 (by decide)]; exact B0 }
          refine r_if_ne kX6_readGuest_18 (fun c2 => ?_) (fun c2 => absurd c2 (by decide))
          refine r_aload_n rfl ?_
          refine r_getR g_30 rfl ?_
          refine r_iload_n rfl ?_
          refine r_aload_n rfl ?_
          refine r_getIx g_38 (y1v) ?_
          refine r_iast g_32 (by decide) (by omega) (by omega) ?_
          refine r_aload_n rfl ?_
          refine r_iconst ?_
          refine r_bipush ?_
          refine r_cV3 g_38 rfl (Nat.le_of_ble_eq_true rfl) (Nat.le_of_ble_eq_true rfl) (c_takeNumber1 X1 z2) (fun v_32 m_32 hq_32 => ?_)
          obtain ⟨⟨rfl, x2a, x2b, Y2⟩, y2v⟩ := hq_32; have X2 := cX_u Y2 (b := 33) (by decide) (by decide) g (tV T n (i + 1 + 1)); have d2 := dF_t d1 (dF_t (dF_k x2a x2b) (dF_u m_32 (b := 33) (by decide) (by decide) g (tV T n (i + 1 + 1)))); have B2 : 0 ≤ az_up m_32 33 g (tV T n (i + 1 + 1)) 30 10 ∧ az_up m_32 33 g (tV T n (i + 1 + 1)) 30 10 ≤ 4 := by { rw [az_up_b _ _ _ (by decide), x2a 30 (by decide)]; exact B1 }
          refine r_if_ne kX6_readGuest_40 (fun c3 => ?_) (fun c3 => absurd c3 (by decide))
          refine r_aload_n rfl ?_
          refine r_getR g_30 rfl ?_
          refine r_iload_n rfl ?_
          refine r_aload_n rfl ?_
          refine r_getIx g_38 (y2v) ?_
          refine r_iast g_33 (by decide) (by omega) (by omega) ?_
          refine r_aload_n rfl ?_
          refine r_iconst ?_
          refine r_sipush ?_
          refine r_cV3I g_38 rfl (Nat.le_of_ble_eq_true rfl) (Nat.le_of_ble_eq_true rfl) (c_takeNumber0 X2 z3) ?_
          refine r_if_ne kX6_readGuest_63 (fun c4 => absurd c4 (by decide)) (fun c4 => ?_)
          refine r_iconst ?_
          refine r_zret rfl (by omega) ?_
          exact Or.inr (fl d2 X2 (by rw [s0 z0, s1 z1, s2 z2, f3 z3]) z3 B2)
      · refine r_aload_n rfl ?_
        refine r_ldcS ?_
        refine r_cV2 g_38 rfl (Nat.le_of_ble_eq_true rfl) (Nat.le_of_ble_eq_true rfl) (c_takeWord1 hX hW z0) (fun v_3 m_3 hq_3 => ?_)
        obtain ⟨rfl, x0a, x0b, X0⟩ := hq_3; have d0 := dF_k x0a x0b; have B0 : 0 ≤ m_3 30 10 ∧ m_3 30 10 ≤ 4 := by { rw [x0a 30 (by decide)]; exact hb }
        refine r_if_eq kX6_readGuest_16 (fun c1 => absurd c1 (by decide)) (fun c1 => ?_)
        refine r_aload_n rfl ?_
        refine r_cV1 g_38 rfl (Nat.le_of_ble_eq_true rfl) (Nat.le_of_ble_eq_true rfl) (c_takeSort1 X0 z1) (fun v_10 m_10 hq_10 => ?_)
        obtain ⟨⟨rfl, x1a, x1b, Y1⟩, y1v⟩ := hq_10; have X1 := cX_u Y1 (b := 32) (by decide) (by decide) g (tD T n (i + 1)); have d1 := dF_t d0 (dF_t (dF_k x1a x1b) (dF_u m_10 (b := 32) (by decide) (by decide) g (tD T n (i + 1)))); have B1 : 0 ≤ az_up m_10 32 g (tD T n (i + 1)) 30 10 ∧ az_up m_10 32 g (tD T n (i + 1)) 30 10 ≤ 4 := by { rw [az_up_b _ _ _ (by decide), x1a 30 (by decide)]; exact B0 }
        refine r_if_ne kX6_readGuest_18 (fun c2 => ?_) (fun c2 => absurd c2 (by decide))
        refine r_aload_n rfl ?_
        refine r_getR g_30 rfl ?_
        refine r_iload_n rfl ?_
        refine r_aload_n rfl ?_
        refine r_getIx g_38 (y1v) ?_
        refine r_iast g_32 (by decide) (by omega) (by omega) ?_
        refine r_aload_n rfl ?_
        refine r_iconst ?_
        refine r_bipush ?_
        refine r_cV3I g_38 rfl (Nat.le_of_ble_eq_true rfl) (Nat.le_of_ble_eq_true rfl) (c_takeNumber0 X1 z2) ?_
        refine r_if_ne kX6_readGuest_40 (fun c3 => absurd c3 (by decide)) (fun c3 => ?_)
        refine r_iconst ?_
        refine r_zret rfl (by omega) ?_
        exact Or.inr (fl d1 X1 (by rw [s0 z0, s1 z1, f2 z2]) z2 B1)
    · refine r_aload_n rfl ?_
      refine r_ldcS ?_
      refine r_cV2 g_38 rfl (Nat.le_of_ble_eq_true rfl) (Nat.le_of_ble_eq_true rfl) (c_takeWord1 hX hW z0) (fun v_3 m_3 hq_3 => ?_)
      obtain ⟨rfl, x0a, x0b, X0⟩ := hq_3; have d0 := dF_k x0a x0b; have B0 : 0 ≤ m_3 30 10 ∧ m_3 30 10 ≤ 4 := by { rw [x0a 30 (by decide)]; exact hb }
      refine r_if_eq kX6_readGuest_16 (fun c1 => absurd c1 (by decide)) (fun c1 => ?_)
      refine r_aload_n rfl ?_
      refine r_cV1I g_38 rfl (Nat.le_of_ble_eq_true rfl) (Nat.le_of_ble_eq_true rfl) (c_takeSort0 X0 z1) ?_
      refine r_if_ne kX6_readGuest_18 (fun c2 => absurd c2 (by decide)) (fun c2 => ?_)
      refine r_iconst ?_
      refine r_zret rfl (by omega) ?_
      exact Or.inr (fl d0 X0 (by rw [s0 z0, f1 z1]) z1 B0)
  · refine r_aload_n rfl ?_
    refine r_ldcS ?_
    refine r_cV2I g_38 rfl (Nat.le_of_ble_eq_true rfl) (Nat.le_of_ble_eq_true rfl) (c_takeWord0 hW z0) ?_
    refine r_if_eq kX6_readGuest_16 (fun c1 => ?_) (fun c1 => absurd c1 (by decide))
    refine r_iconst ?_
    refine r_zret rfl (by omega) ?_
    exact Or.inr (fl (dF_r m) hX (f0 z0) z0 hb)
/-- so many guests are in the draft -/
def dG (m : aM) (T : Int → Int) (n : Int) (k : Int) : Prop := ∀ j, 0 ≤ j → j < k → m 32 j = tD T n (12 + 6 * j.toNat + 1) ∧ m 33 j = tV T n (12 + 6 * j.toNat + 2) ∧ m 34 j = tV T n (12 + 6 * j.toNat + 4) ∧ m 35 j = tV T n (12 + 6 * j.toNat + 3) ∧ m 36 j = 0
def qGg (m : aM) (T : Int → Int) (n : Int) : Option aV → aM → Prop := fun v m' => v = some (.inl 1) ∧ dF m m' ∧ m' 38 6 = m 38 6 ∧ m' 31 = m 31 ∧ (∀ k, k ≠ 10 → m' 30 k = m 30 k) ∧ (0 ≤ m' 30 10 ∧ m' 30 10 ≤ 4) ∧ pR T n 12 = (0, m' 30 10) ∧ dG m' T n (m' 30 10)
theorem c_X6_readGuests (hX : cX m T n 12) (hb : m 30 10 = 0) : az_C sc az_G 60 [.inr (.inr 39), .inr (.inr 31)] m (fun v m' => qGg m T n v m' ∨ qFl m T n 12 v m') := by
  refine r_iconst ?_
  refine r_istore_n (Nat.le_of_ble_eq_true rfl) rfl ?_
  skip
  refine az_whl (α := aM) (fun g _ => [some (.inr (.inr (39))), some (.inr (.inr (31))), some (.inl (g))]) (fun _ a => a) (fun g a => 0 ≤ g ∧ dF m a ∧ cX a T n (12 + 6 * g.toNat) ∧ pR T n 12 = pR T n (12 + 6 * g.toNat) ∧ a 38 6 = m 38 6 ∧ a 31 = m 31 ∧ (∀ k, k ≠ 10 → a 30 k = m 30 k) ∧ a 30 10 = g ∧ dG a T n g) 4 (fun g a hg4 hp hK => ?_) 0 m (by decide) ⟨Int.le_refl _, dF_r m, hX, rfl, rfl, rfl, fun _ _ => rfl, hb, fun j j0 j1 => by omega⟩
  obtain ⟨g0, p1, p2, p3, p4, p5, p6, p7, p8⟩ := hp
  obtain ⟨i, hi⟩ : ∃ i : Nat, i = 12 + 6 * g.toNat := ⟨_, rfl⟩
  rw [← hi] at p2 p3
  have hb2 : 0 ≤ a 30 10 ∧ a 30 10 ≤ 4 := by omega
  have h2 := p2.1.2.2.2
  have hkk : cKd (tK T n i) = 4 ↔ tK T n i = 0 := by
    unfold cKd
    (repeat' split) <;> omega
  by_cases ht : tK T n i = 0
  · have hE := pR_end (T := T) (n := n) (g := g.toNat) (by omega) (by rw [← hi]; exact ht)
    rw [← hi] at hE
    have h24 : a 38 2 = 4 := h2.trans (hkk.mpr ht)
    have hok : qGg m T n (some (.inl 1)) a := ⟨rfl, p1, p4, p5, p6, hb2, by rw [p3, hE, p7]; rw [show ((g.toNat : Nat) : Int) = g by omega], by rw [p7]; exact p8⟩
    refine r_iload_n rfl ?_
    refine r_iconst ?_
    refine r_icmp_ge kX6_readGuests_39 (fun c1 => ?_) (fun c1 => ?_)
    · refine r_aload_n rfl ?_
      refine r_getIx g_38 (h24) ?_
      refine r_iconst ?_
      refine r_icmp_ne kX6_readGuests_49 (fun c2 => absurd c2 (by decide)) (fun c2 => ?_)
      refine r_iconst ?_
      refine r_zret rfl (by omega) ?_
      exact Or.inl hok
    · refine r_aload_n rfl ?_
      refine r_getIx g_38 (h24) ?_
      refine r_iconst ?_
      refine r_icmp_eq kX6_readGuests_39 (fun c3 => ?_) (fun c3 => absurd c3 (by decide))
      refine r_aload_n rfl ?_
      refine r_getIx g_38 (h24) ?_
      refine r_iconst ?_
      refine r_icmp_ne kX6_readGuests_49 (fun c4 => absurd c4 (by decide)) (fun c4 => ?_)
      refine r_iconst ?_
      refine r_zret rfl (by omega) ?_
      exact Or.inl hok
  · have h24 : a 38 2 ≠ 4 := fun q => ht (hkk.mp (h2.symm.trans q))
    by_cases e4 : g = 4
    · subst e4
      have hi : i = 36 := hi
      subst hi
      have hW := c_isWord_2 (sc := sc) p2.2 p2.1
      have hF := pR_full ht
      have kb := kW_b T n 36 wGuest
      by_cases z : kW T n wGuest 36 = 0
      · rw [if_pos z] at hF
        rw [z] at hW
        refine r_iload_n rfl ?_
        refine r_iconst ?_
        refine r_icmp_ge kX6_readGuests_39 (fun c1 => ?_) (fun c1 => absurd c1 (by decide))
        refine r_aload_n rfl ?_
        refine r_getI g_38 ?_
        refine r_iconst ?_
        refine r_icmp_ne kX6_readGuests_49 (fun c2 => ?_) (fun c2 => absurd c2 (by omega))
        refine r_aload_n rfl ?_
        refine r_aload_n rfl ?_
        refine r_ldcS ?_
        refine r_cV2I g_38 rfl (Nat.le_of_ble_eq_true rfl) (Nat.le_of_ble_eq_true rfl) (hW) ?_
        refine r_if_eq kX6_readGuests_63 (fun c3 => absurd c3 (by decide)) (fun c3 => ?_)
        refine r_iconst ?_
        refine r_goto kX6_readGuests_64 ?_
        refine r_cV2I g_38 rfl (Nat.le_of_ble_eq_true rfl) (Nat.le_of_ble_eq_true rfl) (c_X6_fail) ?_
        refine r_zret rfl (by omega) ?_
        exact Or.inr (fl p1 p2 (p3.trans hF) (by decide) hb2)
      · rw [if_neg z] at hF
        rw [show kW T n wGuest 36 = 1 by omega] at hW
        refine r_iload_n rfl ?_
        refine r_iconst ?_
        refine r_icmp_ge kX6_readGuests_39 (fun c1 => ?_) (fun c1 => absurd c1 (by decide))
        refine r_aload_n rfl ?_
        refine r_getI g_38 ?_
        refine r_iconst ?_
        refine r_icmp_ne kX6_readGuests_49 (fun c2 => ?_) (fun c2 => absurd c2 (by omega))
        refine r_aload_n rfl ?_
        refine r_aload_n rfl ?_
        refine r_ldcS ?_
        refine r_cV2I g_38 rfl (Nat.le_of_ble_eq_true rfl) (Nat.le_of_ble_eq_true rfl) (hW) ?_
        refine r_if_eq kX6_readGuests_63 (fun c3 => ?_) (fun c3 => absurd c3 (by decide))
        refine r_iconst ?_
        refine r_cV2I g_38 rfl (Nat.le_of_ble_eq_true rfl) (Nat.le_of_ble_eq_true rfl) (c_X6_fail) ?_
        refine r_zret rfl (by omega) ?_
        exact Or.inr (fl p1 p2 (p3.trans hF) (by decide) hb2)
    · have hrg := c_X6_readGuest (sc := sc) (k := g.toNat) (g := g) hi (by omega) (by omega) p2 ht hb2
      refine r_iload_n rfl ?_
      refine r_iconst ?_
      refine r_icmp_ge kX6_readGuests_39 (fun c1 => absurd c1 (by omega)) (fun c1 => ?_)
      refine r_aload_n rfl ?_
      refine r_getI g_38 ?_
      refine r_iconst ?_
      refine r_icmp_eq kX6_readGuests_39 (fun c2 => absurd c2 (by omega)) (fun c2 => ?_)
      refine r_aload_n rfl ?_
      refine r_aload_n rfl ?_
      refine r_iload_n rfl ?_
      refine r_cV3 g_38 rfl (Nat.le_of_ble_eq_true rfl) (Nat.le_of_ble_eq_true rfl) (hrg) (fun v_ m_ hq_ => ?_)
      skip
      skip
      rcases hq_ with ⟨rfl, r1, r2, r3, r4, r5, r6, r7, r8, r9, r10, r11⟩ | ⟨rfl, r1, r2, r3, r4⟩
      · refine r_if_ne kX6_readGuests_26 (fun c1 => ?_) (fun c1 => absurd c1 (by decide))
        refine r_aload_n rfl ?_
        refine r_iload_n rfl ?_
        refine r_iconst ?_
        first | refine r_iadd (az_wid (by omega) (by omega)) ?_ | refine r_iaddw ?_
        refine r_putI g_30 (by decide) ?_
        refine r_iinc rfl (az_wid (by omega) (by omega)) rfl ?_
        refine r_goto kX6_readGuests_2 ?_
        skip
        have e1 : 12 + 6 * (g + 1).toNat = i + 1 + 1 + 1 + 1 + 1 + 1 := by omega
        refine hK _ (by omega) ⟨by omega, dF_t p1 (dF_t r2 (dF_u _ (b := 30) (by decide) (by decide) _ _)), ?_, ?_, ?_, ?_, fun k k1 => ?_, az_upx _ _ _ _, fun j j0 j1 => ?_⟩
        · rw [e1]
          exact cX_u r3 (by decide) (by decide) _ _
        · rw [e1]
          exact p3.trans r1
        · rw [az_up_b _ _ _ (by decide), r4]
          exact p4
        · rw [az_up_b _ _ _ (by decide), r6]
          exact p5
        · rw [az_up_k _ _ k1, r5]
          exact p6 k k1
        · rw [az_up_b _ _ _ (by decide), az_up_b _ _ _ (by decide), az_up_b _ _ _ (by decide), az_up_b _ _ _ (by decide), az_up_b _ _ _ (by decide), r7, r8, r9, r10, r11]
          by_cases e : j = g
          · subst e
            rw [up1_at, up1_at, up1_at, up1_at, up1_at, ← hi]
            exact ⟨rfl, rfl, rfl, rfl, rfl⟩
          · rw [up1_ne _ _ e, up1_ne _ _ e, up1_ne _ _ e, up1_ne _ _ e, up1_ne _ _ e]
            exact p8 j j0 (by omega)
      · refine r_if_ne kX6_readGuests_26 (fun c1 => absurd c1 (by decide)) (fun c1 => ?_)
        refine r_iconst ?_
        refine r_zret rfl (by omega) ?_
        exact Or.inr ⟨rfl, dF_t p1 r1, p3.trans r2, r3, r4⟩
end CS
