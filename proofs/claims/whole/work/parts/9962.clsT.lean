/-! THE CLASS: a beach of a text -/
section CT
variable {sc : aX} {m : aM} {T : Int → Int} {n : Int} {Q : Option aV → aM → Prop}
theorem pP_all : ∀ (k i : Nat), i ≤ 36 → (pP T n k i).1 = 0 → ∃ g : Nat, (pP T n k i).2 = (g : Int) ∧ g ≤ 4 ∧ ∀ j, i ≤ j → j < 12 + 6 * g → pCk T n j = 0 := by
  intro k
  induction k with
  | zero => intro i _ h; exact absurd h (by show ¬ (1 : Int) = 0; decide)
  | succ k ih =>
    intro i hi h
    have e : pP T n (k + 1) i = if 12 ≤ i ∧ (i - 12) % 6 = 0 ∧ tK T n i = 0 then (0, (((i - 12) / 6 : Nat) : Int)) else if 36 ≤ i then (if kW T n wGuest i = 0 then 3 else 1, tB T n i) else if pCk T n i = 0 then pP T n k (i + 1) else (pCk T n i, tB T n i) := rfl
    rw [e] at h ⊢
    by_cases h1 : 12 ≤ i ∧ (i - 12) % 6 = 0 ∧ tK T n i = 0
    · rw [if_pos h1]
      exact ⟨(i - 12) / 6, rfl, by omega, fun j a b => by omega⟩
    · rw [if_neg h1] at h ⊢
      by_cases h2 : 36 ≤ i
      · rw [if_pos h2] at h
        dsimp only at h
        split at h <;> omega
      · rw [if_neg h2] at h ⊢
        by_cases h3 : pCk T n i = 0
        · rw [if_pos h3] at h ⊢
          obtain ⟨g, g1, g2, g3⟩ := ih (i + 1) (by omega) h
          refine ⟨g, g1, g2, fun j a b => ?_⟩
          by_cases e : j = i
          · subst e; exact h3
          · exact g3 j (by omega) b
        · rw [if_neg h3] at h
          exact absurd h h3
theorem kN_e {lo hi : Int} {i : Nat} (h : kN T n lo hi i = 0) : lo ≤ tV T n i ∧ tV T n i ≤ hi := by
  unfold kN at h
  split at h
  · split at h
    · next q => exact q
    · omega
  · omega
theorem pRd_0 (N : Int) : pRd T n N 0 = tV T n 1 := rfl
theorem pRd_1 (N : Int) : pRd T n N 1 = tV T n 2 := rfl
theorem pRd_2 (N : Int) : pRd T n N 2 = N := rfl
theorem pRd_h (N : Int) {h : Int} (h0 : 0 ≤ h) (h1 : h < 6) : pRd T n N (6 + h) = tV T n (5 + h.toNat) := by
  unfold pRd
  rw [if_neg (by omega), if_neg (by omega), if_neg (by omega), if_pos (by omega), show (6 + h - 6).toNat = h.toNat by omega]
theorem pRd_12 {N g : Int} (h0 : 0 ≤ g) (h1 : g < N) (hN : N ≤ 4) : pRd T n N (12 + g) = tD T n (12 + 6 * g.toNat + 1) := by
  unfold pRd
  rw [if_neg (by omega), if_neg (by omega), if_neg (by omega), if_neg (by omega), if_pos (by omega), show (12 + g - 12).toNat = g.toNat by omega]
theorem pRd_16 {N g : Int} (h0 : 0 ≤ g) (h1 : g < N) (hN : N ≤ 4) : pRd T n N (16 + g) = tV T n (12 + 6 * g.toNat + 2) := by
  unfold pRd
  rw [if_neg (by omega), if_neg (by omega), if_neg (by omega), if_neg (by omega), if_neg (by omega), if_pos (by omega), show (16 + g - 16).toNat = g.toNat by omega]
theorem pRd_20 {N g : Int} (h0 : 0 ≤ g) (h1 : g < N) (hN : N ≤ 4) : pRd T n N (20 + g) = tV T n (12 + 6 * g.toNat + 4) := by
  unfold pRd
  rw [if_neg (by omega), if_neg (by omega), if_neg (by omega), if_neg (by omega), if_neg (by omega), if_neg (by omega), if_pos (by omega), show (20 + g - 20).toNat = g.toNat by omega]
theorem pRd_24 {N g : Int} (h0 : 0 ≤ g) (h1 : g < N) (hN : N ≤ 4) : pRd T n N (24 + g) = tV T n (12 + 6 * g.toNat + 3) := by
  unfold pRd
  rw [if_neg (by omega), if_neg (by omega), if_neg (by omega), if_neg (by omega), if_neg (by omega), if_neg (by omega), if_neg (by omega), if_pos (by omega), show (24 + g - 24).toNat = g.toNat by omega]
theorem pRd_z {N j : Int} (hN : N ≤ 4) (h : (3 ≤ j ∧ j < 6) ∨ 28 ≤ j) : pRd T n N j = 0 := by
  unfold pRd
  rw [if_neg (by omega), if_neg (by omega), if_neg (by omega), if_neg (by omega), if_neg (by omega), if_neg (by omega), if_neg (by omega), if_neg (by omega)]
theorem nOK_rd (h : (pR T n 0).1 = 0) : nOK (pRd T n (pR T n 0).2) ∧ (0 ≤ (pR T n 0).2 ∧ (pR T n 0).2 ≤ 4) := by
  obtain ⟨g, g1, g2, g3⟩ := pP_all (T := T) (n := n) 40 0 (by decide) h
  have e : (pR T n 0).2 = (g : Int) := g1
  rw [e]
  have k1 := kN_e (show kN T n 0 2 1 = 0 from g3 1 (by omega) (by omega))
  have k2 := kN_e (show kN T n 0 9 2 = 0 from g3 2 (by omega) (by omega))
  refine ⟨⟨?_, ?_, ?_, ?_, ?_, ?_, fun h h0 h1 => ?_, fun j j0 j1 => ?_⟩, by omega⟩
  · rw [pRd_0]; exact k1
  · rw [pRd_1]; exact k2
  · rw [pRd_2]; omega
  · rw [pRd_z (by omega) (by omega)]; decide
  · rw [pRd_z (by omega) (by omega)]; decide
  · rw [pRd_z (by omega) (by omega)]; decide
  · rw [pRd_h _ h0 h1]
    have := g3 (5 + h.toNat) (by omega) (by omega)
    rw [ck_price (by omega)] at this
    exact kN_e this
  · rw [pRd_2] at j1
    have q : ∀ c, c < 6 → pCk T n (12 + 6 * j.toNat + c) = 0 := fun c hc => g3 _ (by omega) (by omega)
    have q1 := q 1 (by decide)
    have q2 := q 2 (by decide)
    have q3 := q 3 (by decide)
    have q4 := q 4 (by decide)
    rw [ck_g (by decide), if_neg (by decide), if_pos rfl] at q1
    rw [ck_g (by decide), if_neg (by decide), if_neg (by decide), if_pos rfl] at q2
    rw [ck_g (by decide), if_neg (by decide), if_neg (by decide), if_neg (by decide), if_pos rfl] at q3
    rw [ck_g (by decide), if_neg (by decide), if_neg (by decide), if_neg (by decide), if_neg (by decide), if_pos rfl] at q4
    have d1 := kD_b T n (12 + 6 * j.toNat + 1)
    have d2 := tD_b T n (12 + 6 * j.toNat + 1)
    have d3 := kN_e q2
    have d4 := kN_e q3
    have d5 := kN_e q4
    rw [pRd_12 j0 j1 (by omega), pRd_16 j0 j1 (by omega), pRd_20 j0 j1 (by omega), pRd_24 j0 j1 (by omega), pRd_z (j := 28 + j) (by omega) (by omega), pRd_z (j := 32 + j) (by omega) (by omega), pRd_z (j := 36 + j) (by omega) (by omega), pRd_z (j := 40 + j) (by omega) (by omega), pRd_z (j := 4) (by omega) (by omega)]
    omega
def qRB (m : aM) (T : Int → Int) (n : Int) : Option aV → aM → Prop := fun v m' => (∀ y, y ≠ 38 → (y < 30 ∨ 37 < y) → m' y = m y) ∧ m' 38 1 = 0 ∧ (((pR T n 0).1 = 0 ∧ v = some (.inl 1) ∧ m' 38 6 = m 38 6 ∧ m' 30 7 = 1 ∧ bR m' 30 (pRd T n (pR T n 0).2)) ∨ ((pR T n 0).1 ≠ 0 ∧ v = some (.inl 0) ∧ m' 38 6 = (pR T n 0).1 ∧ m' 38 3 = (pR T n 0).2))
theorem l_X6_rb {mc : aM} {x N : Int} (hx : x = 0 ∨ x = 1) (hN : mc 30 10 = N) (hNb : 0 ≤ N ∧ N ≤ 4) (K : ∀ m', m' = az_up (az_up (az_up (az_up (az_up mc 30 7 x) 30 11 0) 30 15 0) 30 13 (pMask (fun _ => 1) N)) 38 1 0 → Q (some (.inl x)) m') : az_E sc az_G 62 zX6_readBeach_42 [some (.inr (.inr (39))), some (.inr (.inr (31))), none] [.inl x] mc Q := by
  have hd := c_X1_dawn (sc := sc) (m := az_up mc 30 7 x) (b := 30) bSh_30.1 (by decide) ((az_up_k _ _ (by decide)).trans hN) hNb.1 hNb.2
  refine r_istore_n (Nat.le_of_ble_eq_true rfl) rfl ?_
  refine r_aload_n rfl ?_
  refine r_iload_n rfl ?_
  refine r_putZ g_30 (by decide) (by omega) ?_
  refine r_aload_n rfl ?_
  refine r_cV1V g_30 rfl (Nat.le_of_ble_eq_true rfl) (Nat.le_of_ble_eq_true rfl) (hd) ?_
  refine r_aload_n rfl ?_
  refine r_iconst ?_
  refine r_putI g_38 (by decide) ?_
  refine r_iload_n rfl ?_
  refine r_zret rfl (by omega) ?_
  exact K _ rfl
theorem rb_fr {m mc m' : aM} {x N : Int} (hf : dF m mc) (h : m' = az_up (az_up (az_up (az_up (az_up mc 30 7 x) 30 11 0) 30 15 0) 30 13 (pMask (fun _ => 1) N)) 38 1 0) : (∀ y, y ≠ 38 → (y < 30 ∨ 37 < y) → m' y = m y) ∧ m' 38 1 = 0 ∧ (∀ k, k ≠ 1 → m' 38 k = mc 38 k) ∧ (∀ y, 30 < y → y < 38 → m' y = mc y) ∧ (m' 30 7 = x ∧ m' 30 11 = 0 ∧ m' 30 15 = 0 ∧ m' 30 13 = pMask (fun _ => 1) N) ∧ ∀ k, k ≠ 7 → k ≠ 11 → k ≠ 13 → k ≠ 15 → m' 30 k = mc 30 k := by
  subst h
  refine ⟨fun y a b => ?_, az_upx _ _ _ _, fun k hk => ?_, fun y a b => ?_, ⟨?_, ?_, ?_, ?_⟩, fun k a b c d => ?_⟩
  · rw [az_up_b _ _ _ a, az_up_b _ _ _ (by omega), az_up_b _ _ _ (by omega), az_up_b _ _ _ (by omega), az_up_b _ _ _ (by omega)]
    exact hf.1 y a b
  · rw [az_up_k _ _ hk, az_up_b _ _ _ (by decide), az_up_b _ _ _ (by decide), az_up_b _ _ _ (by decide), az_up_b _ _ _ (by decide)]
  · rw [az_up_b _ _ _ (by omega), az_up_b _ _ _ (by omega), az_up_b _ _ _ (by omega), az_up_b _ _ _ (by omega), az_up_b _ _ _ (by omega)]
  · rw [az_up_b _ _ _ (by decide), az_up_k _ _ (by decide), az_up_k _ _ (by decide), az_up_k _ _ (by decide), az_upx]
  · rw [az_up_b _ _ _ (by decide), az_up_k _ _ (by decide), az_up_k _ _ (by decide), az_upx]
  · rw [az_up_b _ _ _ (by decide), az_up_k _ _ (by decide), az_upx]
  · rw [az_up_b _ _ _ (by decide), az_upx]
  · rw [az_up_b _ _ _ (by decide), az_up_k _ _ c, az_up_k _ _ d, az_up_k _ _ b, az_up_k _ _ a]
theorem l_X6_no {mc : aM} (hf : dF m mc) (hR : pR T n 0 = (mc 38 6, mc 38 3)) (hc : mc 38 6 ≠ 0) (hb : 0 ≤ mc 30 10 ∧ mc 30 10 ≤ 4) : az_E sc az_G 62 zX6_readBeach_42 [some (.inr (.inr (39))), some (.inr (.inr (31))), none] [.inl 0] mc (qRB m T n) := by
  refine l_X6_rb (Or.inl rfl) rfl hb (fun m' hm => ?_)
  obtain ⟨r1, r2, r3, r4, r5, r6⟩ := rb_fr hf hm
  refine ⟨r1, r2, Or.inr ?_⟩
  rw [hR]
  exact ⟨hc, rfl, r3 6 (by decide), r3 3 (by decide)⟩
theorem c_X6_readBeach (hQ : cQ m T n) (hX : iTx m) : az_C sc az_G 62 [.inr (.inr 39), .inr (.inr 31)] m (qRB m T n) := by
  have hQ1 : cQ (az_up m 38 4 0) T n := cQ_fr hQ (az_up_k _ _ (by decide)) (az_up_b _ _ _ (by decide))
  have had := c_X6_advance (sc := sc) (i := 0) hQ1 (az_upx _ _ _ _)
  refine r_aload_n rfl ?_
  refine r_iconst ?_
  refine r_putI g_38 (by decide) ?_
  refine r_aload_n rfl ?_
  refine r_cV1 g_38 rfl (Nat.le_of_ble_eq_true rfl) (Nat.le_of_ble_eq_true rfl) (had) (fun v_6 m_6 hq_6 => ?_)
  obtain ⟨rfl, q1, q2, q3, q4⟩ := hq_6
  refine r_aload_n rfl ?_
  refine r_cV1V g_30 rfl (Nat.le_of_ble_eq_true rfl) (Nat.le_of_ble_eq_true rfl) (c_X1_clear bSh_30.1 (by decide)) ?_
  skip
  have hX6 : cX m_6 T n 0 := ⟨⟨cQ_fr hQ1 (q1.2 1 (by decide) (by decide) (by decide)) (q1.1 39 (by decide)), q2, q3, q4⟩, iTx_fr hX (fun a ha => (q1.1 a (by omega)).trans (az_up_b _ _ _ (by omega)))⟩
  have hf6 : dF m m_6 := ⟨fun y a _ => (q1.1 y a).trans (az_up_b _ _ _ a), fun k a b c _ _ => (q1.2 k a b c).trans (az_up_k _ _ c)⟩
  have h66 : m_6 38 6 = m 38 6 := (q1.2 6 (by decide) (by decide) (by decide)).trans (az_up_k _ _ (by decide))
  obtain ⟨m2, hm2⟩ : ∃ x, x = az_up (az_up (az_up (az_up m_6 30 7 0) 30 10 0) 30 12 0) 30 14 0 := ⟨_, rfl⟩
  rw [← hm2]
  have hX2 : cX m2 T n 0 := by rw [hm2]; exact cX_u (cX_u (cX_u (cX_u hX6 (by decide) (by decide) _ _) (by decide) (by decide) _ _) (by decide) (by decide) _ _) (by decide) (by decide) _ _
  have hf2 : dF m m2 := by rw [hm2]; exact dF_t hf6 (dF_t (dF_u _ (by decide) (by decide) _ _) (dF_t (dF_u _ (by decide) (by decide) _ _) (dF_t (dF_u _ (by decide) (by decide) _ _) (dF_u _ (by decide) (by decide) _ _))))
  have e10 : m2 30 10 = 0 := by rw [hm2, az_up_k _ _ (by decide), az_up_k _ _ (by decide), az_upx]
  have e12 : m2 30 12 = 0 := by rw [hm2, az_up_k _ _ (by decide), az_upx]
  have e14 : m2 30 14 = 0 := by rw [hm2, az_upx]
  have e6 : m2 38 6 = m 38 6 := by rw [hm2, az_up_b _ _ _ (by decide), az_up_b _ _ _ (by decide), az_up_b _ _ _ (by decide), az_up_b _ _ _ (by decide)]; exact h66
  clear hm2
  refine r_aload_n rfl ?_
  refine r_aload_n rfl ?_
  refine r_cV2 g_38 rfl (Nat.le_of_ble_eq_true rfl) (Nat.le_of_ble_eq_true rfl) (c_X6_readLaw hX2 (by omega)) (fun v_ m_ hq_ => ?_)
  skip
  skip
  rcases hq_ with ⟨rfl, a1, a2, a3, a4, a5, a6, a7, a8⟩ | ⟨rfl, a1, a2, a3, a4⟩
  · have b10 : m_ 30 10 = 0 := (a7 10 (by decide) (by decide)).trans e10
    refine r_if_eq kX6_readBeach_41 (fun c1 => absurd c1 (by decide)) (fun c1 => ?_)
    refine r_aload_n rfl ?_
    refine r_aload_n rfl ?_
    refine r_cV2 g_38 rfl (Nat.le_of_ble_eq_true rfl) (Nat.le_of_ble_eq_true rfl) (c_X6_readSun a3 (by omega)) (fun v_ m_ hq_ => ?_)
    skip
    skip
    rcases hq_ with ⟨rfl, b1, b2, b3, b4, b5, b6, b7⟩ | ⟨rfl, b1, b2, b3, b4⟩
    · have c10 : m_ 30 10 = 0 := (congrFun b5 _).trans b10
      refine r_if_eq kX6_readBeach_41 (fun c1 => absurd c1 (by decide)) (fun c1 => ?_)
      refine r_aload_n rfl ?_
      refine r_aload_n rfl ?_
      refine r_cV2 g_38 rfl (Nat.le_of_ble_eq_true rfl) (Nat.le_of_ble_eq_true rfl) (c_X6_readGuests b3 c10) (fun v_ m_ hq_ => ?_)
      skip
      skip
      rcases hq_ with ⟨rfl, t1, t2, t3, t4, t5, t6, t7⟩ | ⟨rfl, t1, t2, t3, t4⟩
      · have hR : pR T n 0 = (0, m_ 30 10) := a1.trans (b1.trans t6)
        refine r_if_eq kX6_readBeach_41 (fun c1 => absurd c1 (by decide)) (fun c1 => ?_)
        refine r_iconst ?_
        refine r_goto kX6_readBeach_42 ?_
        skip
        obtain ⟨N, hN⟩ : ∃ N, N = m_ 30 10 := ⟨_, rfl⟩
        rw [← hN] at hR t5 t7
        refine l_X6_rb (Or.inr rfl) hN.symm t5 (fun m' hm => ?_)
        obtain ⟨r1, r2, r3, r4, r5, r6⟩ := rb_fr (dF_t hf2 (dF_t a2 (dF_t b2 t1))) hm
        refine ⟨r1, r2, Or.inl ?_⟩
        rw [hR]
        refine ⟨rfl, rfl, ?_, r5.1, ⟨⟨?_, ?_, ?_, ?_, ?_, ?_, ?_, ?_⟩, fun h h0 h1 => ?_, fun g g0 g1 => ?_⟩⟩
        · rw [r3 6 (by decide), t2, b4, a4, e6]
        · rw [r6 8 (by decide) (by decide) (by decide) (by decide), t4 8 (by decide), b5, a5]; rfl
        · rw [r6 9 (by decide) (by decide) (by decide) (by decide), t4 9 (by decide), b5, a6]; rfl
        · rw [r6 10 (by decide) (by decide) (by decide) (by decide), ← hN]; rfl
        · rw [r5.2.1, pRd_z (by omega) (by omega)]
        · rw [r6 12 (by decide) (by decide) (by decide) (by decide), t4 12 (by decide), b5, a7 12 (by decide) (by decide), e12, pRd_z (by omega) (by omega)]
        · rw [r5.2.2.1, pRd_z (by omega) (by omega)]
        · rw [r5.2.2.2]
          unfold pThB
          rw [pRd_2]
          refine mask_cong (fun g g0 g1 => ?_)
          rw [pRd_z (by omega) (by omega)]
          rfl
        · rw [r6 14 (by decide) (by decide) (by decide) (by decide), t4 14 (by decide), b5, a7 14 (by decide) (by decide), e14]
          unfold pShB
          rw [pRd_2]
          have hz : q01 (fun g => pRd T n N (40 + g)) N := fun g g0 g1 => Or.inl (pRd_z (by omega) (by omega))
          exact ((mask_0 hz (by omega)).mpr (fun g g0 g1 => pRd_z (by omega) (by omega))).symm
        · rw [r4 31 (by decide) (by decide), t3, pRd_h _ h0 h1]
          exact b6 h h0 h1
        · rw [pRd_2] at g1
          obtain ⟨w1, w2, w3, w4, w5⟩ := t7 g g0 g1
          rw [r4 32 (by decide) (by decide), r4 33 (by decide) (by decide), r4 34 (by decide) (by decide), r4 35 (by decide) (by decide), r4 36 (by decide) (by decide), pRd_12 g0 g1 (by omega), pRd_16 g0 g1 (by omega), pRd_20 g0 g1 (by omega), pRd_24 g0 g1 (by omega), pRd_z (j := 28 + g) (by omega) (by omega), pRd_z (j := 32 + g) (by omega) (by omega)]
          exact ⟨w1, w2, w3, w4, w5, fun h => absurd h (by decide)⟩
      · refine r_if_eq kX6_readBeach_41 (fun c1 => ?_) (fun c1 => absurd c1 (by decide))
        refine r_iconst ?_
        exact l_X6_no (dF_t hf2 (dF_t a2 (dF_t b2 t1))) (a1.trans (b1.trans t2)) t3 t4
    · refine r_if_eq kX6_readBeach_41 (fun c1 => ?_) (fun c1 => absurd c1 (by decide))
      refine r_iconst ?_
      exact l_X6_no (dF_t hf2 (dF_t a2 b1)) (a1.trans b2) b3 b4
  · refine r_if_eq kX6_readBeach_41 (fun c1 => ?_) (fun c1 => absurd c1 (by decide))
    refine r_iconst ?_
    exact l_X6_no (dF_t hf2 a1) a2 a3 a4
def qBc (m : aM) (T : Int → Int) (n : Int) : Option aV → aM → Prop := fun v m' => (∀ y, y ≠ 38 → y ≠ 40 → (y < 22 ∨ 37 < y) → m' y = m y) ∧ m' 38 1 = 0 ∧ m' 40 1 = m 40 1 ∧ (((pR T n 0).1 = 0 ∧ v = some (.inl (pR T n 0).2) ∧ m' 38 6 = m 38 6 ∧ m' 22 7 = 1 ∧ bR m' 22 (pRd T n (pR T n 0).2) ∧ m' 40 2 = 0) ∨ ((pR T n 0).1 ≠ 0 ∧ v = some (.inl (-1000100 - (pR T n 0).2)) ∧ m' 38 6 = (pR T n 0).1 ∧ (∀ y, 22 ≤ y → y < 30 → m' y = m y) ∧ m' 40 2 = m 40 2))
theorem c_X7_beach (hQ : cQ m T n) (hX : iTx m) : az_C sc az_G 65 [.inr (.inr 20)] m (qBc m T n) := by
  have hRb := qRb (T := T) hQ.2.1
  refine r_aload_n rfl ?_
  refine r_getR g_19 rfl ?_
  refine r_aload_n rfl ?_
  refine r_getR g_19 rfl ?_
  refine r_cV2 g_38 rfl (Nat.le_of_ble_eq_true rfl) (Nat.le_of_ble_eq_true rfl) (c_X6_readBeach hQ hX) (fun v_8 m_8 hq_8 => ?_)
  obtain ⟨u1, u2, u3⟩ := hq_8
  skip
  rcases u3 with ⟨r0, rfl, v1, v2, v3⟩ | ⟨r0, rfl, v1, v2⟩
  · have hnb := nOK_rd r0
    have hnk := nOK_2 hnb.1
    refine r_if_ne kX7_beach_25 (fun c1 => ?_) (fun c1 => absurd c1 (by decide))
    refine r_aload_n rfl ?_
    refine r_getR g_19 rfl ?_
    refine r_aload_n rfl ?_
    refine r_getR g_19 rfl ?_
    refine r_cV2 g_22 rfl (Nat.le_of_ble_eq_true rfl) (Nat.le_of_ble_eq_true rfl) (c_X1_become bSh_30 bSh_22 (by decide) (by decide) (by decide) (Or.inr v2)) (fun v_33 m_33 hq_33 => ?_)
    obtain ⟨rfl, w1⟩ := hq_33
    refine r_aload_n rfl ?_
    refine r_getR g_19 rfl ?_
    refine r_cV1V g_40 rfl (Nat.le_of_ble_eq_true rfl) (Nat.le_of_ble_eq_true rfl) (c_X4_forget) ?_
    skip
    have hB := bCp_R w1 hnk v3
    have h10 : m_33 22 10 = (pR T n 0).2 := hB.1.2.2.1
    refine r_aload_n rfl ?_
    refine r_getR g_19 rfl ?_
    refine r_getIx g_22 ((congrFun (az_up_b _ _ _ (by decide)) _).trans h10) ?_
    refine r_iret rfl ?_
    skip
    refine ⟨fun y a b c => ?_, ?_, ?_, Or.inl ⟨r0, rfl, ?_, ?_, ?_, az_upx _ _ _ _⟩⟩
    · rw [az_up_b _ _ _ b, w1.1 y (by omega)]
      exact u1 y a (by omega)
    · rw [az_up_b _ _ _ (by decide), w1.1 38 (by omega)]
      exact u2
    · rw [az_up_k _ _ (by decide), w1.1 40 (by omega), u1 40 (by decide) (by omega)]
    · rw [az_up_b _ _ _ (by decide), w1.1 38 (by omega)]
      exact v1
    · rw [az_up_b _ _ _ (by decide), w1.2.1 7 (by decide) (by decide)]
      exact v2
    · exact bR_fr hB (fun x a b => az_up_b _ _ _ (by omega))
  · refine r_if_ne kX7_beach_25 (fun c1 => absurd c1 (by decide)) (fun c1 => ?_)
    refine r_ldcI ?_
    refine r_aload_n rfl ?_
    refine r_getR g_19 rfl ?_
    refine r_getIx g_38 (v2) ?_
    first | refine r_isub (az_wid (by omega) (by omega)) ?_ | refine r_isubw ?_
    refine r_iret rfl ?_
    skip
    exact ⟨fun y a b c => u1 y a (by omega), u2, congrFun (u1 40 (by decide) (by omega)) _, Or.inr ⟨r0, rfl, v1, fun y a b => u1 y (by omega) (by omega), congrFun (u1 40 (by decide) (by omega)) _⟩⟩
end CT
