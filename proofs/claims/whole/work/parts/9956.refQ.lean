/-! THE REFERENCE: words, numbers, guests, a beach -/
section RQ
variable {sc : aX} {m : aM} {T : Int → Int} {n : Int} {Q : Option aV → aM → Prop}
def rP (m : aM) (T : Int → Int) (n : Int) (i : Nat) : Prop := m 283 = T ∧ m 279 19 = n ∧ m 279 15 = pA T n i ∧ (0 ≤ n ∧ n ≤ 400) ∧ (∀ x, 0 ≤ x → x < n → 0 ≤ T x ∧ T x ≤ 255)
def rFr (m m' : aM) : Prop := (∀ y, y ≠ 279 → y ≠ 289 → m' y = m y) ∧ (∀ k, k ≠ 6 → k ≠ 15 → k ≠ 16 → k ≠ 17 → k ≠ 18 → m' 279 k = m 279 k)
theorem rFr_r (m : aM) : rFr m m := ⟨fun _ _ _ => rfl, fun _ _ _ _ _ _ => rfl⟩
theorem rFr_t {m m1 m2 : aM} (h1 : rFr m m1) (h2 : rFr m1 m2) : rFr m m2 := ⟨fun y a b => (h2.1 y a b).trans (h1.1 y a b), fun k a b c d e => (h2.2 k a b c d e).trans (h1.2 k a b c d e)⟩
theorem rFr_6 (m : aM) (x : Int) : rFr m (az_up m 279 6 x) := ⟨fun _ a _ => az_up_b _ _ _ a, fun _ a _ _ _ _ => az_up_k _ _ a⟩
theorem rFr_9 (m : aM) (i x : Int) : rFr m (az_up m 289 i x) := ⟨fun _ _ a => az_up_b _ _ _ a, fun _ _ _ _ _ _ => congrFun (az_up_b _ _ _ (by decide)) _⟩
theorem rP_fr {m m' : aM} {i j : Nat} (h : rP m T n i) (hf : rFr m m') (h15 : m' 279 15 = pA T n j) : rP m' T n j := ⟨(hf.1 283 (by decide) (by decide)).trans h.1, (hf.2 19 (by decide) (by decide) (by decide) (by decide) (by decide)).trans h.2.1, h15, h.2.2.2⟩
/-- the next token is read -/
def qX (m : aM) (T : Int → Int) (n : Int) (i : Nat) : Option aV → aM → Prop := fun v m' => v = none ∧ rFr m m' ∧ m' 289 = m 289 ∧ m' 279 6 = m 279 6 ∧ m' 279 15 = pA T n (i + 1) ∧ m' 279 16 = tB T n i ∧ m' 279 17 = tK T n i ∧ (tK T n i = 1 ∨ tK T n i = 2 → m' 279 18 = tV T n i)
theorem tK_0 {i : Nat} (h : tK T n i = 1 ∨ tK T n i = 2) : pK0 T n (tB T n i) = tK T n i := by
  unfold tK pK at *
  split at h
  · omega
  · next h1 => rw [if_neg h1]
theorem c_X8_nextT {i : Nat} (hP : rP m T n i) : az_C sc az_G 67 [.inr (.inr 280)] m (qX m T n i) := by
  obtain ⟨h1, h2, h3, h4, h5⟩ := hP
  have hA := pA_b (T := T) h4.1 i
  refine az_C_mono (c_X8_next h1 h2 h3 h4.2 hA h5) (fun v m' hq => ?_)
  obtain ⟨rfl, vv, ⟨q1, q2, q3, q4, q5, q6⟩, q7⟩ := hq
  refine ⟨rfl, ⟨fun y a _ => q1 y a, fun k _ a b c d => q2 k a b c d⟩, q1 289 (by decide), q2 6 (by decide) (by decide) (by decide) (by decide), q3, q4, q5, fun h => ?_⟩
  rw [q6]
  have e := tK_0 h
  exact q7 (by rw [show pB T n (pA T n i) = tB T n i from rfl, e]; exact h)
theorem tV_w (hn : 0 ≤ n) {i : Nat} {ws : List Int} (hw : l26 ws) (hl : ws.length ≤ 8) (hk : tK T n i = 1) : tV T n i = hL ws ↔ tL T n i = ws := by
  have e := tK_0 (Or.inl hk)
  have h1 := tB_b (T := T) hn i
  have h2 := tE_b (T := T) hn i
  have hr := pE_run (T := T) h1.2 (by rw [e]; exact Or.inl hk)
  rw [e, hk] at hr
  unfold tV tL
  rw [e, hk]
  exact pV_w h2.1 hr hw hl
theorem tV_n (hn : 0 ≤ n) {i : Nat} (hk : tK T n i = 2) : 0 ≤ tV T n i ∧ tV T n i ≤ 999 := by
  have e := tK_0 (Or.inr hk)
  have h1 := tB_b (T := T) hn i
  have h2 := tE_b (T := T) hn i
  have hr := pE_run (T := T) h1.2 (by rw [e]; exact Or.inr hk)
  rw [e, hk] at hr
  unfold tV
  rw [e, hk]
  refine pV_n h2.1 ?_ hr
  unfold tK pK at hk
  split at hk
  · omega
  · next h3 =>
    unfold tE
    omega
theorem c_X8_mustBe1 : az_CI sc 68 [.inr (.inr 280), .inl 1] m 1 m := by
  refine r_aload_n rfl ?_
  refine r_iload_n rfl ?_
  refine r_if_eq kX8_mustBe_12 (fun c1 => absurd c1 (by decide)) (fun c1 => ?_)
  refine r_aload_n rfl ?_
  refine r_getI g_279 ?_
  refine r_goto kX8_mustBe_13 ?_
  refine r_putI g_279 (by decide) ?_
  refine r_iload_n rfl ?_
  refine r_zret rfl (by omega) ?_
  exact ⟨rfl, az_up_same rfl⟩
theorem c_X8_mustBe0 : az_CI sc 68 [.inr (.inr 280), .inl 0] m 0 (az_up m 279 6 1) := by
  refine r_aload_n rfl ?_
  refine r_iload_n rfl ?_
  refine r_if_eq kX8_mustBe_12 (fun c1 => ?_) (fun c1 => absurd c1 (by decide))
  refine r_iconst ?_
  refine r_putI g_279 (by decide) ?_
  refine r_iload_n rfl ?_
  refine r_zret rfl (by omega) ?_
  exact ⟨rfl, rfl⟩
/-- a token that is as it must be -/
def qY (m : aM) (T : Int → Int) (n : Int) (i : Nat) (F : Int → Int) : Option aV → aM → Prop := fun v m' => v = some (.inl 1) ∧ rFr m m' ∧ m' 279 15 = pA T n (i + 1) ∧ m' 289 = F ∧ m' 279 6 = m 279 6
/-- one that is not -/
def qZ (m : aM) (T : Int → Int) (n : Int) (i : Nat) (ck : Int) : Option aV → aM → Prop := fun v m' => v = some (.inl 0) ∧ rFr m m' ∧ m' 279 6 = ck ∧ m' 279 16 = tB T n i
theorem c_X8_isWord1 {i : Nat} {ws : List Int} {c : Int} (hP : rP m T n i) (hc : hL ws = c ∧ l26 ws) (hl : ws.length ≤ 8) (hk : kW T n ws i = 0) : az_C sc az_G 69 [.inr (.inr 280), .inr (.inl c)] m (qY m T n i (m 289)) := by
  unfold kW at hk
  split at hk
  · next h =>
    have hw := (tV_w (T := T) hP.2.2.2.1.1 hc.2 hl h.1).mpr h.2
    rw [hc.1] at hw
    have hcm := az_cmp_b (tV T n i) c
    refine r_aload_n rfl ?_
    refine r_cV1 g_279 rfl (Nat.le_of_ble_eq_true rfl) (Nat.le_of_ble_eq_true rfl) (c_X8_nextT hP) (fun v_ m_ hq_ => ?_)
    obtain ⟨rfl, q1, q2, q3, q4, q5, q6, q7⟩ := hq_; have q8 := q7 (Or.inl h.1)
    refine r_aload_n rfl ?_
    refine r_aload_n rfl ?_
    refine r_getIx g_279 (q6) ?_
    refine r_iconst ?_
    refine r_icmp_ne kX8_isWord_26 (fun c1 => absurd c1 (by omega)) (fun c1 => ?_)
    refine r_aload_n rfl ?_
    refine r_getLx g_279 (q8) ?_
    refine r_lload_n rfl ?_
    refine r_lcmp ?_
    refine r_if_ne kX8_isWord_26 (fun c2 => absurd c2 (by omega)) (fun c2 => ?_)
    refine r_iconst ?_
    refine r_goto kX8_isWord_27 ?_
    refine r_cV2I g_279 rfl (Nat.le_of_ble_eq_true rfl) (Nat.le_of_ble_eq_true rfl) (c_X8_mustBe1) ?_
    refine r_zret rfl (by omega) ?_
    exact ⟨rfl, q1, q4, q2, q3⟩
  · omega
theorem c_X8_isWord0 {i : Nat} {ws : List Int} {c : Int} (hP : rP m T n i) (hc : hL ws = c ∧ l26 ws) (hl : ws.length ≤ 8) (hk : kW T n ws i ≠ 0) : az_C sc az_G 69 [.inr (.inr 280), .inr (.inl c)] m (qZ m T n i 1) := by
  unfold kW at hk
  split at hk
  · omega
  · next h =>
    have hcm := az_cmp_b (tV T n i) c
    by_cases h1 : tK T n i = 1
    · have hw : tV T n i ≠ c := fun q => h ⟨h1, (tV_w (T := T) hP.2.2.2.1.1 hc.2 hl h1).mp (q.trans hc.1.symm)⟩
      refine r_aload_n rfl ?_
      refine r_cV1 g_279 rfl (Nat.le_of_ble_eq_true rfl) (Nat.le_of_ble_eq_true rfl) (c_X8_nextT hP) (fun v_ m_ hq_ => ?_)
      obtain ⟨rfl, q1, q2, q3, q4, q5, q6, q7⟩ := hq_; have q8 := q7 (Or.inl h1)
      refine r_aload_n rfl ?_
      refine r_aload_n rfl ?_
      refine r_getIx g_279 (q6) ?_
      refine r_iconst ?_
      refine r_icmp_ne kX8_isWord_26 (fun c1 => absurd c1 (by omega)) (fun c1 => ?_)
      refine r_aload_n rfl ?_
      refine r_getLx g_279 (q8) ?_
      refine r_lload_n rfl ?_
      refine r_lcmp ?_
      refine r_if_ne kX8_isWord_26 (fun c2 => ?_) (fun c2 => absurd c2 (by omega))
      refine r_iconst ?_
      refine r_cV2I g_279 rfl (Nat.le_of_ble_eq_true rfl) (Nat.le_of_ble_eq_true rfl) (c_X8_mustBe0) ?_
      refine r_zret rfl (by omega) ?_
      exact ⟨rfl, rFr_t q1 (rFr_6 _ _), az_upx _ _ _ _, (az_up_k _ _ (by decide)).trans q5⟩
    · refine r_aload_n rfl ?_
      refine r_cV1 g_279 rfl (Nat.le_of_ble_eq_true rfl) (Nat.le_of_ble_eq_true rfl) (c_X8_nextT hP) (fun v_ m_ hq_ => ?_)
      obtain ⟨rfl, q1, q2, q3, q4, q5, q6, q7⟩ := hq_
      refine r_aload_n rfl ?_
      refine r_aload_n rfl ?_
      refine r_getIx g_279 (q6) ?_
      refine r_iconst ?_
      refine r_icmp_ne kX8_isWord_26 (fun c1 => ?_) (fun c1 => absurd c1 (by omega))
      refine r_iconst ?_
      refine r_cV2I g_279 rfl (Nat.le_of_ble_eq_true rfl) (Nat.le_of_ble_eq_true rfl) (c_X8_mustBe0) ?_
      refine r_zret rfl (by omega) ?_
      exact ⟨rfl, rFr_t q1 (rFr_6 _ _), az_upx _ _ _ _, (az_up_k _ _ (by decide)).trans q5⟩
theorem c_X8_number1 {i : Nat} {p lo hi : Int} (hP : rP m T n i) (hp : 0 ≤ p ∧ p < 44) (hk : kN T n lo hi i = 0) : az_C sc az_G 70 [.inr (.inr 280), .inl p, .inl lo, .inl hi] m (qY m T n i (up1 (m 289) p (tV T n i))) := by
  unfold kN at hk
  split at hk
  · next h =>
    have hv := tV_n (T := T) hP.2.2.2.1.1 h
    split at hk
    · next h2 =>
      refine r_aload_n rfl ?_
      refine r_cV1 g_279 rfl (Nat.le_of_ble_eq_true rfl) (Nat.le_of_ble_eq_true rfl) (c_X8_nextT hP) (fun v_ m_ hq_ => ?_)
      obtain ⟨rfl, q1, q2, q3, q4, q5, q6, q7⟩ := hq_; have q8 := q7 (Or.inr h)
      refine r_aload_n rfl ?_
      refine r_getIx g_279 (q6) ?_
      refine r_iconst ?_
      refine r_icmp_eq kX8_number_19 (fun c1 => ?_) (fun c1 => absurd c1 (by omega))
      refine r_aload_n rfl ?_
      refine r_getLx g_279 (q8) ?_
      refine r_iload_n rfl ?_
      refine r_i2l ?_
      refine r_iload_n rfl ?_
      refine r_i2l ?_
      refine r_cS3I (by decide) (Nat.le_of_ble_eq_true rfl) (Nat.le_of_ble_eq_true rfl) (c_X8_in _ _ _) ?_
      refine r_if_ne kX8_number_40 (fun c2 => ?_) (fun c2 => absurd c2 (by omega))
      refine r_aload_n rfl ?_
      refine r_getR g_279 rfl ?_
      refine r_iload_n rfl ?_
      refine r_aload_n rfl ?_
      refine r_getLx g_279 (q8) ?_
      first | refine r_l2i (az_wid (by omega) (by omega)) ?_ | refine r_l2i rfl ?_
      refine r_iast g_289 (by decide) (by omega) (by omega) ?_
      refine r_iconst ?_
      refine r_zret rfl (by omega) ?_
      exact ⟨rfl, rFr_t q1 (rFr_9 _ _ _), (congrFun (az_up_b _ _ _ (by decide)) _).trans q4, by rw [up1_cell, q2], (congrFun (az_up_b _ _ _ (by decide)) _).trans q3⟩
    · omega
  · omega
theorem c_X8_number0 {i : Nat} {p lo hi : Int} (hP : rP m T n i) (hk : kN T n lo hi i ≠ 0) : az_C sc az_G 70 [.inr (.inr 280), .inl p, .inl lo, .inl hi] m (qZ m T n i (kN T n lo hi i)) := by
  unfold kN at hk ⊢
  split at hk
  · next h =>
    rw [if_pos h]
    split at hk
    · omega
    · next h2 =>
      rw [if_neg h2]
      refine r_aload_n rfl ?_
      refine r_cV1 g_279 rfl (Nat.le_of_ble_eq_true rfl) (Nat.le_of_ble_eq_true rfl) (c_X8_nextT hP) (fun v_ m_ hq_ => ?_)
      obtain ⟨rfl, q1, q2, q3, q4, q5, q6, q7⟩ := hq_; have q8 := q7 (Or.inr h)
      refine r_aload_n rfl ?_
      refine r_getIx g_279 (q6) ?_
      refine r_iconst ?_
      refine r_icmp_eq kX8_number_19 (fun c1 => ?_) (fun c1 => absurd c1 (by omega))
      refine r_aload_n rfl ?_
      refine r_getLx g_279 (q8) ?_
      refine r_iload_n rfl ?_
      refine r_i2l ?_
      refine r_iload_n rfl ?_
      refine r_i2l ?_
      refine r_cS3I (by decide) (Nat.le_of_ble_eq_true rfl) (Nat.le_of_ble_eq_true rfl) (c_X8_in _ _ _) ?_
      refine r_if_ne kX8_number_40 (fun c2 => absurd c2 (by omega)) (fun c2 => ?_)
      refine r_aload_n rfl ?_
      refine r_iconst ?_
      refine r_putI g_279 (by decide) ?_
      refine r_iconst ?_
      refine r_zret rfl (by omega) ?_
      exact ⟨rfl, rFr_t q1 (rFr_6 _ _), az_upx _ _ _ _, (az_up_k _ _ (by decide)).trans q5⟩
  · next h =>
    rw [if_neg h]
    refine r_aload_n rfl ?_
    refine r_cV1 g_279 rfl (Nat.le_of_ble_eq_true rfl) (Nat.le_of_ble_eq_true rfl) (c_X8_nextT hP) (fun v_ m_ hq_ => ?_)
    obtain ⟨rfl, q1, q2, q3, q4, q5, q6, q7⟩ := hq_
    refine r_aload_n rfl ?_
    refine r_getIx g_279 (q6) ?_
    refine r_iconst ?_
    refine r_icmp_eq kX8_number_19 (fun c1 => absurd c1 (by omega)) (fun c1 => ?_)
    refine r_aload_n rfl ?_
    refine r_iconst ?_
    refine r_putI g_279 (by decide) ?_
    refine r_iconst ?_
    refine r_zret rfl (by omega) ?_
    exact ⟨rfl, rFr_t q1 (rFr_6 _ _), az_upx _ _ _ _, (az_up_k _ _ (by decide)).trans q5⟩
theorem c_X8_ends1 {i : Nat} (hP : rP m T n i) (hk : kS T n i = 0) : az_C sc az_G 71 [.inr (.inr 280)] m (qY m T n i (m 289)) := by
  have h : tK T n i = 3 := by
    unfold kS at hk
    split at hk <;> omega
  refine r_aload_n rfl ?_
  refine r_cV1 g_279 rfl (Nat.le_of_ble_eq_true rfl) (Nat.le_of_ble_eq_true rfl) (c_X8_nextT hP) (fun v_ m_ hq_ => ?_)
  obtain ⟨rfl, q1, q2, q3, q4, q5, q6, q7⟩ := hq_
  refine r_aload_n rfl ?_
  refine r_aload_n rfl ?_
  refine r_getIx g_279 (q6) ?_
  refine r_iconst ?_
  refine r_icmp_ne kX8_ends_17 (fun c1 => absurd c1 (by omega)) (fun c1 => ?_)
  refine r_iconst ?_
  refine r_goto kX8_ends_18 ?_
  refine r_cV2I g_279 rfl (Nat.le_of_ble_eq_true rfl) (Nat.le_of_ble_eq_true rfl) (c_X8_mustBe1) ?_
  refine r_zret rfl (by omega) ?_
  exact ⟨rfl, q1, q4, q2, q3⟩
theorem c_X8_ends0 {i : Nat} (hP : rP m T n i) (hk : kS T n i ≠ 0) : az_C sc az_G 71 [.inr (.inr 280)] m (qZ m T n i 1) := by
  have h : tK T n i ≠ 3 := by
    unfold kS at hk
    split at hk <;> omega
  refine r_aload_n rfl ?_
  refine r_cV1 g_279 rfl (Nat.le_of_ble_eq_true rfl) (Nat.le_of_ble_eq_true rfl) (c_X8_nextT hP) (fun v_ m_ hq_ => ?_)
  obtain ⟨rfl, q1, q2, q3, q4, q5, q6, q7⟩ := hq_
  refine r_aload_n rfl ?_
  refine r_aload_n rfl ?_
  refine r_getIx g_279 (q6) ?_
  refine r_iconst ?_
  refine r_icmp_ne kX8_ends_17 (fun c1 => ?_) (fun c1 => absurd c1 (by omega))
  refine r_iconst ?_
  refine r_cV2I g_279 rfl (Nat.le_of_ble_eq_true rfl) (Nat.le_of_ble_eq_true rfl) (c_X8_mustBe0) ?_
  refine r_zret rfl (by omega) ?_
  exact ⟨rfl, rFr_t q1 (rFr_6 _ _), az_upx _ _ _ _, (az_up_k _ _ (by decide)).trans q5⟩
theorem tD_e (hn : 0 ≤ n) {i : Nat} (hk : tK T n i = 1) : tD T n i = if tV T n i = 409029 then 1 else if tV T n i = 54740 then 2 else if tV T n i = 3417476 then 3 else if tV T n i = 67012 then 4 else if tV T n i = 110638 then 5 else 0 := by
  have w1 := tV_w (T := T) hn wh_lone.2 (by decide) hk
  have w2 := tV_w (T := T) hn wh_aunt.2 (by decide) hk
  have w3 := tV_w (T := T) hn wh_child.2 (by decide) hk
  have w4 := tV_w (T := T) hn wh_band.2 (by decide) hk
  have w5 := tV_w (T := T) hn wh_clan.2 (by decide) hk
  rw [wh_lone.1] at w1
  rw [wh_aunt.1] at w2
  rw [wh_child.1] at w3
  rw [wh_band.1] at w4
  rw [wh_clan.1] at w5
  unfold tD pKd
  rw [if_pos hk]
  simp only [w1, w2, w3, w4, w5]
theorem c_X8_kindHere {i : Nat} (hP : rP m T n i) : az_C sc az_G 72 [.inr (.inr 280)] m (fun v m' => v = some (.inl (tD T n i)) ∧ rFr m m' ∧ m' 289 = m 289 ∧ m' 279 6 = m 279 6 ∧ m' 279 15 = pA T n (i + 1) ∧ m' 279 16 = tB T n i) := by
  by_cases h1 : tK T n i = 1
  · rw [tD_e hP.2.2.2.1.1 h1]
    have c1 := az_cmp_b (tV T n i) 409029
    have c2 := az_cmp_b (tV T n i) 54740
    have c3 := az_cmp_b (tV T n i) 3417476
    have c4 := az_cmp_b (tV T n i) 67012
    have c5 := az_cmp_b (tV T n i) 110638
    refine r_aload_n rfl ?_
    refine r_cV1 g_279 rfl (Nat.le_of_ble_eq_true rfl) (Nat.le_of_ble_eq_true rfl) (c_X8_nextT hP) (fun v_ m_ hq_ => ?_)
    obtain ⟨rfl, q1, q2, q3, q4, q5, q6, q7⟩ := hq_; have q8 := q7 (Or.inl h1)
    refine r_aload_n rfl ?_
    refine r_getIx g_279 (q6) ?_
    refine r_iconst ?_
    refine r_icmp_eq kX8_kindHere_16 (fun c1 => ?_) (fun c1 => absurd c1 (by omega))
    refine r_aload_n rfl ?_
    refine r_getLx g_279 (q8) ?_
    refine r_ldc2 ?_
    refine r_lcmp ?_
    refine r_if_ne kX8_kindHere_31 (fun c2 => ?_) (fun c2 => ?_)
    · refine r_aload_n rfl ?_
      refine r_getLx g_279 (q8) ?_
      refine r_ldc2 ?_
      refine r_lcmp ?_
      refine r_if_ne kX8_kindHere_46 (fun c3 => ?_) (fun c3 => ?_)
      · refine r_aload_n rfl ?_
        refine r_getLx g_279 (q8) ?_
        refine r_ldc2 ?_
        refine r_lcmp ?_
        refine r_if_ne kX8_kindHere_61 (fun c4 => ?_) (fun c4 => ?_)
        · refine r_aload_n rfl ?_
          refine r_getLx g_279 (q8) ?_
          refine r_ldc2 ?_
          refine r_lcmp ?_
          refine r_if_ne kX8_kindHere_76 (fun c5 => ?_) (fun c5 => ?_)
          · refine r_aload_n rfl ?_
            refine r_getLx g_279 (q8) ?_
            refine r_ldc2 ?_
            refine r_lcmp ?_
            refine r_if_ne kX8_kindHere_91 (fun c6 => ?_) (fun c6 => ?_)
            · refine r_iconst ?_
              refine r_iret rfl ?_
              refine ⟨az_oI ?_, q1, q2, q3, q4, q5⟩; (repeat' split) <;> omega
            · refine r_iconst ?_
              refine r_goto kX8_kindHere_92 ?_
              refine r_iret rfl ?_
              refine ⟨az_oI ?_, q1, q2, q3, q4, q5⟩; (repeat' split) <;> omega
          · refine r_iconst ?_
            refine r_goto kX8_kindHere_92 ?_
            refine r_iret rfl ?_
            refine ⟨az_oI ?_, q1, q2, q3, q4, q5⟩; (repeat' split) <;> omega
        · refine r_iconst ?_
          refine r_goto kX8_kindHere_92 ?_
          refine r_iret rfl ?_
          refine ⟨az_oI ?_, q1, q2, q3, q4, q5⟩; (repeat' split) <;> omega
      · refine r_iconst ?_
        refine r_goto kX8_kindHere_92 ?_
        refine r_iret rfl ?_
        refine ⟨az_oI ?_, q1, q2, q3, q4, q5⟩; (repeat' split) <;> omega
    · refine r_iconst ?_
      refine r_goto kX8_kindHere_92 ?_
      refine r_iret rfl ?_
      refine ⟨az_oI ?_, q1, q2, q3, q4, q5⟩; (repeat' split) <;> omega
  · have e : tD T n i = 0 := by
      unfold tD
      rw [if_neg h1]
    rw [e]
    refine r_aload_n rfl ?_
    refine r_cV1 g_279 rfl (Nat.le_of_ble_eq_true rfl) (Nat.le_of_ble_eq_true rfl) (c_X8_nextT hP) (fun v_ m_ hq_ => ?_)
    obtain ⟨rfl, q1, q2, q3, q4, q5, q6, q7⟩ := hq_
    refine r_aload_n rfl ?_
    refine r_getIx g_279 (q6) ?_
    refine r_iconst ?_
    refine r_icmp_eq kX8_kindHere_16 (fun c1 => absurd c1 (by omega)) (fun c1 => ?_)
    refine r_iconst ?_
    refine r_goto kX8_kindHere_92 ?_
    refine r_iret rfl ?_
    exact ⟨rfl, q1, q2, q3, q4, q5⟩
/-! a guest -/
theorem kW_1 {i : Nat} {ws : List Int} (h : kW T n ws i = 0) : tK T n i = 1 := by
  unfold kW at h
  split at h
  · next q => exact q.1
  · omega
theorem kW_b (T : Int → Int) (n : Int) (i : Nat) (ws : List Int) : kW T n ws i = 0 ∨ kW T n ws i = 1 := by
  unfold kW
  split
  · exact Or.inl rfl
  · exact Or.inr rfl
theorem kS_b (T : Int → Int) (n : Int) (i : Nat) : kS T n i = 0 ∨ kS T n i = 1 := by
  unfold kS
  split
  · exact Or.inl rfl
  · exact Or.inr rfl
theorem kD_b (T : Int → Int) (n : Int) (i : Nat) : kD T n i = 0 ∧ 1 ≤ tD T n i ∨ kD T n i = 1 ∧ tD T n i = 0 := by
  have := tD_b T n i
  unfold kD
  split <;> omega
theorem kN_b (T : Int → Int) (n lo hi : Int) (i : Nat) : kN T n lo hi i = 0 ∨ kN T n lo hi i = 1 ∨ kN T n lo hi i = 2 := by
  unfold kN
  (repeat' split) <;> omega
/-- token i is read, not yet judged -/
def rTk (m : aM) (T : Int → Int) (n : Int) (i : Nat) : Prop := rP m T n (i + 1) ∧ m 279 16 = tB T n i ∧ m 279 17 = tK T n i ∧ (tK T n i = 1 → m 279 18 = tV T n i)
def gF (F : Int → Int) (T : Int → Int) (n : Int) (g : Nat) : Int → Int := up1 (up1 (up1 (up1 (up1 F (12 + (g : Int)) (tD T n (12 + 6 * g + 1))) (16 + (g : Int)) (tV T n (12 + 6 * g + 2))) (24 + (g : Int)) (tV T n (12 + 6 * g + 3))) (20 + (g : Int)) (tV T n (12 + 6 * g + 4))) 2 ((g : Int) + 1)
def qG (m : aM) (T : Int → Int) (n : Int) (g : Nat) : Option aV → aM → Prop := fun v m' => rFr m m' ∧ ((v = some (.inl 1) ∧ g < 4 ∧ pR T n (12 + 6 * g) = pR T n (12 + 6 * (g + 1)) ∧ m' 279 15 = pA T n (12 + 6 * (g + 1)) ∧ m' 279 6 = m 279 6 ∧ m' 289 = gF (m 289) T n g) ∨ (v = some (.inl 0) ∧ pR T n (12 + 6 * g) = (m' 279 6, m' 279 16) ∧ m' 279 6 ≠ 0))
theorem c_X8_readsGuest {g : Nat} (hg : g ≤ 4) (hT : rTk m T n (12 + 6 * g)) (h0 : tK T n (12 + 6 * g) ≠ 0) (h2 : m 289 2 = g) : az_C sc az_G 73 [.inr (.inr 280)] m (qG m T n g) := by
  obtain ⟨hP, t1, t2, t3⟩ := hT
  have hn := hP.2.2.2.1.1
  have hcm := az_cmp_b (tV T n (12 + 6 * g)) 8033908
  by_cases k0 : kW T n wGuest (12 + 6 * g) = 0
  · have hk := kW_1 k0
    have t4 := t3 hk
    have hw : tV T n (12 + 6 * g) = 8033908 := by
      have hh := (tV_w (T := T) hn wh_guest.2 (by decide) hk).mpr (by
        unfold kW at k0
        split at k0
        · next q => exact q.2
        · omega)
      rw [hh, wh_guest.1]
    by_cases h4 : g = 4
    · subst h4
      have hR := pR_full h0
      rw [if_pos k0] at hR
      refine r_aload_n rfl ?_
      refine r_aload_n rfl ?_
      refine r_getIx g_279 (t2) ?_
      refine r_iconst ?_
      refine r_icmp_ne kX8_readsGuest_24 (fun c1 => absurd c1 (by omega)) (fun c1 => ?_)
      refine r_aload_n rfl ?_
      refine r_getLx g_279 (t4) ?_
      refine r_ldc2 ?_
      refine r_lcmp ?_
      refine r_if_ne kX8_readsGuest_24 (fun c2 => absurd c2 (by omega)) (fun c2 => ?_)
      refine r_iconst ?_
      refine r_goto kX8_readsGuest_25 ?_
      refine r_cV2I g_279 rfl (Nat.le_of_ble_eq_true rfl) (Nat.le_of_ble_eq_true rfl) (c_X8_mustBe1) ?_
      refine r_if_ne kX8_readsGuest_33 (fun c3 => ?_) (fun c3 => absurd c3 (by decide))
      refine r_aload_n rfl ?_
      refine r_getR g_279 rfl ?_
      refine r_iconst ?_
      refine r_ialdx g_289 rfl (by omega) (by omega) (by omega) (h2) ?_
      refine r_istore_n (Nat.le_of_ble_eq_true rfl) rfl ?_
      refine r_iload_n rfl ?_
      refine r_iconst ?_
      refine r_icmp_ne kX8_readsGuest_52 (fun c4 => absurd c4 (by omega)) (fun c4 => ?_)
      refine r_aload_n rfl ?_
      refine r_iconst ?_
      refine r_putI g_279 (by decide) ?_
      refine r_iconst ?_
      refine r_zret rfl (by omega) ?_
      refine ⟨rFr_6 _ _, Or.inr ⟨rfl, ?_, by rw [az_upx]; decide⟩⟩; rw [hR, az_upx, az_up_k _ _ (by decide), t1]
    · have s0 : pR T n (12 + 6 * g) = pR T n (12 + 6 * g + 1) := pR_ok (by omega) (by have := ck_g (T := T) (n := n) (g := g) (c := 0) (by omega); rw [if_pos rfl] at this; exact this.trans k0) (fun q => h0 q.2.2)
      have e1 : pCk T n (12 + 6 * g + 1) = kD T n (12 + 6 * g + 1) := by
        have := ck_g (T := T) (n := n) (g := g) (c := 1) (by omega)
        rw [if_neg (by decide), if_pos rfl] at this
        exact this
      have s1 : kD T n (12 + 6 * g + 1) = 0 → pR T n (12 + 6 * g + 1) = pR T n (12 + 6 * g + 1 + 1) := fun h => pR_ok (by omega) (e1.trans h) (by omega)
      have f1 : kD T n (12 + 6 * g + 1) ≠ 0 → pR T n (12 + 6 * g + 1) = (kD T n (12 + 6 * g + 1), tB T n (12 + 6 * g + 1)) := fun h => by rw [pR_no (by omega) (by rw [e1]; exact h) (by omega), e1]
      have e2 : pCk T n (12 + 6 * g + 2) = kN T n 0 20 (12 + 6 * g + 2) := by
        have := ck_g (T := T) (n := n) (g := g) (c := 2) (by omega)
        rw [if_neg (by decide), if_neg (by decide), if_pos rfl] at this
        exact this
      have s2 : kN T n 0 20 (12 + 6 * g + 2) = 0 → pR T n (12 + 6 * g + 2) = pR T n (12 + 6 * g + 2 + 1) := fun h => pR_ok (by omega) (e2.trans h) (by omega)
      have f2 : kN T n 0 20 (12 + 6 * g + 2) ≠ 0 → pR T n (12 + 6 * g + 2) = (kN T n 0 20 (12 + 6 * g + 2), tB T n (12 + 6 * g + 2)) := fun h => by rw [pR_no (by omega) (by rw [e2]; exact h) (by omega), e2]
      have e3 : pCk T n (12 + 6 * g + 3) = kN T n 0 200 (12 + 6 * g + 3) := by
        have := ck_g (T := T) (n := n) (g := g) (c := 3) (by omega)
        rw [if_neg (by decide), if_neg (by decide), if_neg (by decide), if_pos rfl] at this
        exact this
      have s3 : kN T n 0 200 (12 + 6 * g + 3) = 0 → pR T n (12 + 6 * g + 3) = pR T n (12 + 6 * g + 3 + 1) := fun h => pR_ok (by omega) (e3.trans h) (by omega)
      have f3 : kN T n 0 200 (12 + 6 * g + 3) ≠ 0 → pR T n (12 + 6 * g + 3) = (kN T n 0 200 (12 + 6 * g + 3), tB T n (12 + 6 * g + 3)) := fun h => by rw [pR_no (by omega) (by rw [e3]; exact h) (by omega), e3]
      have e4 : pCk T n (12 + 6 * g + 4) = kN T n 1 6 (12 + 6 * g + 4) := by
        have := ck_g (T := T) (n := n) (g := g) (c := 4) (by omega)
        rw [if_neg (by decide), if_neg (by decide), if_neg (by decide), if_neg (by decide), if_pos rfl] at this
        exact this
      have s4 : kN T n 1 6 (12 + 6 * g + 4) = 0 → pR T n (12 + 6 * g + 4) = pR T n (12 + 6 * g + 4 + 1) := fun h => pR_ok (by omega) (e4.trans h) (by omega)
      have f4 : kN T n 1 6 (12 + 6 * g + 4) ≠ 0 → pR T n (12 + 6 * g + 4) = (kN T n 1 6 (12 + 6 * g + 4), tB T n (12 + 6 * g + 4)) := fun h => by rw [pR_no (by omega) (by rw [e4]; exact h) (by omega), e4]
      have e5 : pCk T n (12 + 6 * g + 5) = kS T n (12 + 6 * g + 5) := by
        have := ck_g (T := T) (n := n) (g := g) (c := 5) (by omega)
        rw [if_neg (by decide), if_neg (by decide), if_neg (by decide), if_neg (by decide), if_neg (by decide)] at this
        exact this
      have s5 : kS T n (12 + 6 * g + 5) = 0 → pR T n (12 + 6 * g + 5) = pR T n (12 + 6 * g + 5 + 1) := fun h => pR_ok (by omega) (e5.trans h) (by omega)
      have f5 : kS T n (12 + 6 * g + 5) ≠ 0 → pR T n (12 + 6 * g + 5) = (kS T n (12 + 6 * g + 5), tB T n (12 + 6 * g + 5)) := fun h => by rw [pR_no (by omega) (by rw [e5]; exact h) (by omega), e5]
      have kb1 := kD_b T n (12 + 6 * g + 1)
      have kb5 := kS_b T n (12 + 6 * g + 5)
      by_cases z1 : kD T n (12 + 6 * g + 1) = 0
      · by_cases z2 : kN T n 0 20 (12 + 6 * g + 2) = 0
        · by_cases z3 : kN T n 0 200 (12 + 6 * g + 3) = 0
          · by_cases z4 : kN T n 1 6 (12 + 6 * g + 4) = 0
            · have g2 : ∀ m4 : aM, m4 289 = up1 (up1 (up1 (up1 (m 289) (12 + (g : Int)) (tD T n (12 + 6 * g + 1))) (16 + (g : Int)) (tV T n (12 + 6 * g + 2))) (24 + (g : Int)) (tV T n (12 + 6 * g + 3))) (20 + (g : Int)) (tV T n (12 + 6 * g + 4)) → m4 289 2 = (g : Int) := fun m4 h => by
                rw [h, up1_ne _ _ (by omega), up1_ne _ _ (by omega), up1_ne _ _ (by omega), up1_ne _ _ (by omega)]
                exact h2
              by_cases z5 : kS T n (12 + 6 * g + 5) = 0
              · refine r_aload_n rfl ?_
                refine r_aload_n rfl ?_
                refine r_getIx g_279 (t2) ?_
                refine r_iconst ?_
                refine r_icmp_ne kX8_readsGuest_24 (fun c1 => absurd c1 (by omega)) (fun c1 => ?_)
                refine r_aload_n rfl ?_
                refine r_getLx g_279 (t4) ?_
                refine r_ldc2 ?_
                refine r_lcmp ?_
                refine r_if_ne kX8_readsGuest_24 (fun c2 => absurd c2 (by omega)) (fun c2 => ?_)
                refine r_iconst ?_
                refine r_goto kX8_readsGuest_25 ?_
                refine r_cV2I g_279 rfl (Nat.le_of_ble_eq_true rfl) (Nat.le_of_ble_eq_true rfl) (c_X8_mustBe1) ?_
                refine r_if_ne kX8_readsGuest_33 (fun c3 => ?_) (fun c3 => absurd c3 (by decide))
                refine r_aload_n rfl ?_
                refine r_getR g_279 rfl ?_
                refine r_iconst ?_
                refine r_ialdx g_289 rfl (by omega) (by omega) (by omega) (h2) ?_
                refine r_istore_n (Nat.le_of_ble_eq_true rfl) rfl ?_
                refine r_iload_n rfl ?_
                refine r_iconst ?_
                refine r_icmp_ne kX8_readsGuest_52 (fun c4 => ?_) (fun c4 => absurd c4 (by omega))
                refine r_aload_n rfl ?_
                refine r_getR g_279 rfl ?_
                refine r_bipush ?_
                refine r_iload_n rfl ?_
                first | refine r_iadd (az_wid (by omega) (by omega)) ?_ | refine r_iaddw ?_
                refine r_aload_n rfl ?_
                refine r_cV1 g_279 rfl (Nat.le_of_ble_eq_true rfl) (Nat.le_of_ble_eq_true rfl) (c_X8_kindHere hP) (fun v_61 m_61 hq_61 => ?_)
                obtain ⟨rfl, u1, u2, u3, u4, u5⟩ := hq_61; have hP1 := rP_fr hP u1 u4
                refine r_iast g_289 (by decide) (by omega) (by omega) ?_
                refine r_aload_n rfl ?_
                refine r_aload_n rfl ?_
                refine r_getR g_279 rfl ?_
                refine r_bipush ?_
                refine r_iload_n rfl ?_
                first | refine r_iadd (az_wid (by omega) (by omega)) ?_ | refine r_iaddw ?_
                refine r_ialdx g_289 rfl (by omega) (by omega) (by omega) (az_upx _ _ _ _) ?_
                refine r_if_le kX8_readsGuest_82 (fun c5 => absurd c5 (by omega)) (fun c5 => ?_)
                refine r_iconst ?_
                refine r_goto kX8_readsGuest_83 ?_
                refine r_cV2I g_279 rfl (Nat.le_of_ble_eq_true rfl) (Nat.le_of_ble_eq_true rfl) (c_X8_mustBe1) ?_
                refine r_if_eq kX8_readsGuest_132 (fun c6 => absurd c6 (by decide)) (fun c6 => ?_)
                refine r_aload_n rfl ?_
                refine r_bipush ?_
                refine r_iload_n rfl ?_
                first | refine r_iadd (az_wid (by omega) (by omega)) ?_ | refine r_iaddw ?_
                refine r_iconst ?_
                refine r_bipush ?_
                refine r_cV4 g_279 rfl (Nat.le_of_ble_eq_true rfl) (Nat.le_of_ble_eq_true rfl) (c_X8_number1 (rP_fr hP1 (rFr_9 _ _ _) ((congrFun (az_up_b _ _ _ (by decide)) _).trans u4)) (by omega) z2) (fun v_97 m_97 hq_97 => ?_)
                obtain ⟨rfl, w2a, w2b, w2c, w2d⟩ := hq_97; have w2c2 : m_97 289 = up1 (up1 (m 289) (12 + (g : Int)) (tD T n (12 + 6 * g + 1))) (16 + (g : Int)) (tV T n (12 + 6 * g + 2)) := by { rw [w2c, up1_cell, u2] }; have hP2 := rP_fr (rP_fr hP1 (rFr_9 _ _ _) ((congrFun (az_up_b _ _ _ (by decide)) _).trans u4)) w2a w2b
                refine r_if_eq kX8_readsGuest_132 (fun c7 => absurd c7 (by decide)) (fun c7 => ?_)
                refine r_aload_n rfl ?_
                refine r_bipush ?_
                refine r_iload_n rfl ?_
                first | refine r_iadd (az_wid (by omega) (by omega)) ?_ | refine r_iaddw ?_
                refine r_iconst ?_
                refine r_sipush ?_
                refine r_cV4 g_279 rfl (Nat.le_of_ble_eq_true rfl) (Nat.le_of_ble_eq_true rfl) (c_X8_number1 hP2 (by omega) z3) (fun v_112 m_112 hq_112 => ?_)
                obtain ⟨rfl, w3a, w3b, w3c, w3d⟩ := hq_112; rw [w2c2] at w3c; have hP3 := rP_fr hP2 w3a w3b
                refine r_if_eq kX8_readsGuest_132 (fun c8 => absurd c8 (by decide)) (fun c8 => ?_)
                refine r_aload_n rfl ?_
                refine r_bipush ?_
                refine r_iload_n rfl ?_
                first | refine r_iadd (az_wid (by omega) (by omega)) ?_ | refine r_iaddw ?_
                refine r_iconst ?_
                refine r_bipush ?_
                refine r_cV4 g_279 rfl (Nat.le_of_ble_eq_true rfl) (Nat.le_of_ble_eq_true rfl) (c_X8_number1 hP3 (by omega) z4) (fun v_126 m_126 hq_126 => ?_)
                obtain ⟨rfl, w4a, w4b, w4c, w4d⟩ := hq_126; rw [w3c] at w4c; have hP4 := rP_fr hP3 w4a w4b
                refine r_if_ne kX8_readsGuest_134 (fun c9 => ?_) (fun c9 => absurd c9 (by decide))
                refine r_aload_n rfl ?_
                refine r_getR g_279 rfl ?_
                refine r_iconst ?_
                refine r_dup2 ?_
                refine r_ialdx g_289 rfl (by omega) (by omega) (by omega) (g2 m_126 w4c) ?_
                refine r_iconst ?_
                first | refine r_iadd (az_wid (by omega) (by omega)) ?_ | refine r_iaddw ?_
                refine r_iast g_289 (by decide) (by omega) (by omega) ?_
                refine r_aload_n rfl ?_
                refine r_cV1 g_279 rfl (Nat.le_of_ble_eq_true rfl) (Nat.le_of_ble_eq_true rfl) (c_X8_ends1 (rP_fr hP4 (rFr_9 _ _ _) ((congrFun (az_up_b _ _ _ (by decide)) _).trans w4b)) z5) (fun v_145 m_145 hq_145 => ?_)
                obtain ⟨rfl, v5a, v5b, v5c, v5d⟩ := hq_145
                refine r_zret rfl (by omega) ?_
                refine ⟨rFr_t u1 (rFr_t (rFr_9 _ _ _) (rFr_t w2a (rFr_t w3a (rFr_t w4a (rFr_t (rFr_9 _ _ _) v5a))))), Or.inl ⟨rfl, by omega, ?_, v5b, ?_, ?_⟩⟩
                · rw [s0, s1 (by omega), s2 z2, s3 z3, s4 z4, s5 z5, show 12 + 6 * g + 5 + 1 = 12 + 6 * (g + 1) by omega]
                · rw [v5d, az_up_b _ _ _ (by decide), w4d, w3d, w2d, az_up_b _ _ _ (by decide), u3]
                · rw [v5c, up1_cell, w4c]; rfl
              · refine r_aload_n rfl ?_
                refine r_aload_n rfl ?_
                refine r_getIx g_279 (t2) ?_
                refine r_iconst ?_
                refine r_icmp_ne kX8_readsGuest_24 (fun c1 => absurd c1 (by omega)) (fun c1 => ?_)
                refine r_aload_n rfl ?_
                refine r_getLx g_279 (t4) ?_
                refine r_ldc2 ?_
                refine r_lcmp ?_
                refine r_if_ne kX8_readsGuest_24 (fun c2 => absurd c2 (by omega)) (fun c2 => ?_)
                refine r_iconst ?_
                refine r_goto kX8_readsGuest_25 ?_
                refine r_cV2I g_279 rfl (Nat.le_of_ble_eq_true rfl) (Nat.le_of_ble_eq_true rfl) (c_X8_mustBe1) ?_
                refine r_if_ne kX8_readsGuest_33 (fun c3 => ?_) (fun c3 => absurd c3 (by decide))
                refine r_aload_n rfl ?_
                refine r_getR g_279 rfl ?_
                refine r_iconst ?_
                refine r_ialdx g_289 rfl (by omega) (by omega) (by omega) (h2) ?_
                refine r_istore_n (Nat.le_of_ble_eq_true rfl) rfl ?_
                refine r_iload_n rfl ?_
                refine r_iconst ?_
                refine r_icmp_ne kX8_readsGuest_52 (fun c4 => ?_) (fun c4 => absurd c4 (by omega))
                refine r_aload_n rfl ?_
                refine r_getR g_279 rfl ?_
                refine r_bipush ?_
                refine r_iload_n rfl ?_
                first | refine r_iadd (az_wid (by omega) (by omega)) ?_ | refine r_iaddw ?_
                refine r_aload_n rfl ?_
                refine r_cV1 g_279 rfl (Nat.le_of_ble_eq_true rfl) (Nat.le_of_ble_eq_true rfl) (c_X8_kindHere hP) (fun v_61 m_61 hq_61 => ?_)
                obtain ⟨rfl, u1, u2, u3, u4, u5⟩ := hq_61; have hP1 := rP_fr hP u1 u4
                refine r_iast g_289 (by decide) (by omega) (by omega) ?_
                refine r_aload_n rfl ?_
                refine r_aload_n rfl ?_
                refine r_getR g_279 rfl ?_
                refine r_bipush ?_
                refine r_iload_n rfl ?_
                first | refine r_iadd (az_wid (by omega) (by omega)) ?_ | refine r_iaddw ?_
                refine r_ialdx g_289 rfl (by omega) (by omega) (by omega) (az_upx _ _ _ _) ?_
                refine r_if_le kX8_readsGuest_82 (fun c5 => absurd c5 (by omega)) (fun c5 => ?_)
                refine r_iconst ?_
                refine r_goto kX8_readsGuest_83 ?_
                refine r_cV2I g_279 rfl (Nat.le_of_ble_eq_true rfl) (Nat.le_of_ble_eq_true rfl) (c_X8_mustBe1) ?_
                refine r_if_eq kX8_readsGuest_132 (fun c6 => absurd c6 (by decide)) (fun c6 => ?_)
                refine r_aload_n rfl ?_
                refine r_bipush ?_
                refine r_iload_n rfl ?_
                first | refine r_iadd (az_wid (by omega) (by omega)) ?_ | refine r_iaddw ?_
                refine r_iconst ?_
                refine r_bipush ?_
                refine r_cV4 g_279 rfl (Nat.le_of_ble_eq_true rfl) (Nat.le_of_ble_eq_true rfl) (c_X8_number1 (rP_fr hP1 (rFr_9 _ _ _) ((congrFun (az_up_b _ _ _ (by decide)) _).trans u4)) (by omega) z2) (fun v_97 m_97 hq_97 => ?_)
                obtain ⟨rfl, w2a, w2b, w2c, w2d⟩ := hq_97; have w2c2 : m_97 289 = up1 (up1 (m 289) (12 + (g : Int)) (tD T n (12 + 6 * g + 1))) (16 + (g : Int)) (tV T n (12 + 6 * g + 2)) := by { rw [w2c, up1_cell, u2] }; have hP2 := rP_fr (rP_fr hP1 (rFr_9 _ _ _) ((congrFun (az_up_b _ _ _ (by decide)) _).trans u4)) w2a w2b
                refine r_if_eq kX8_readsGuest_132 (fun c7 => absurd c7 (by decide)) (fun c7 => ?_)
                refine r_aload_n rfl ?_
                refine r_bipush ?_
                refine r_iload_n rfl ?_
                first | refine r_iadd (az_wid (by omega) (by omega)) ?_ | refine r_iaddw ?_
                refine r_iconst ?_
                refine r_sipush ?_
                refine r_cV4 g_279 rfl (Nat.le_of_ble_eq_true rfl) (Nat.le_of_ble_eq_true rfl) (c_X8_number1 hP2 (by omega) z3) (fun v_112 m_112 hq_112 => ?_)
                obtain ⟨rfl, w3a, w3b, w3c, w3d⟩ := hq_112; rw [w2c2] at w3c; have hP3 := rP_fr hP2 w3a w3b
                refine r_if_eq kX8_readsGuest_132 (fun c8 => absurd c8 (by decide)) (fun c8 => ?_)
                refine r_aload_n rfl ?_
                refine r_bipush ?_
                refine r_iload_n rfl ?_
                first | refine r_iadd (az_wid (by omega) (by omega)) ?_ | refine r_iaddw ?_
                refine r_iconst ?_
                refine r_bipush ?_
                refine r_cV4 g_279 rfl (Nat.le_of_ble_eq_true rfl) (Nat.le_of_ble_eq_true rfl) (c_X8_number1 hP3 (by omega) z4) (fun v_126 m_126 hq_126 => ?_)
                obtain ⟨rfl, w4a, w4b, w4c, w4d⟩ := hq_126; rw [w3c] at w4c; have hP4 := rP_fr hP3 w4a w4b
                refine r_if_ne kX8_readsGuest_134 (fun c9 => ?_) (fun c9 => absurd c9 (by decide))
                refine r_aload_n rfl ?_
                refine r_getR g_279 rfl ?_
                refine r_iconst ?_
                refine r_dup2 ?_
                refine r_ialdx g_289 rfl (by omega) (by omega) (by omega) (g2 m_126 w4c) ?_
                refine r_iconst ?_
                first | refine r_iadd (az_wid (by omega) (by omega)) ?_ | refine r_iaddw ?_
                refine r_iast g_289 (by decide) (by omega) (by omega) ?_
                refine r_aload_n rfl ?_
                refine r_cV1 g_279 rfl (Nat.le_of_ble_eq_true rfl) (Nat.le_of_ble_eq_true rfl) (c_X8_ends0 (rP_fr hP4 (rFr_9 _ _ _) ((congrFun (az_up_b _ _ _ (by decide)) _).trans w4b)) z5) (fun v_145 m_145 hq_145 => ?_)
                obtain ⟨rfl, v5a, v5b, v5c⟩ := hq_145
                refine r_zret rfl (by omega) ?_
                refine ⟨rFr_t u1 (rFr_t (rFr_9 _ _ _) (rFr_t w2a (rFr_t w3a (rFr_t w4a (rFr_t (rFr_9 _ _ _) v5a))))), Or.inr ⟨rfl, ?_, by rw [v5b]; decide⟩⟩; rw [s0, s1 (by omega), s2 z2, s3 z3, s4 z4, f5 z5, v5b, v5c]; rw [show kS T n (12 + 6 * g + 5) = 1 by omega]
            · refine r_aload_n rfl ?_
              refine r_aload_n rfl ?_
              refine r_getIx g_279 (t2) ?_
              refine r_iconst ?_
              refine r_icmp_ne kX8_readsGuest_24 (fun c1 => absurd c1 (by omega)) (fun c1 => ?_)
              refine r_aload_n rfl ?_
              refine r_getLx g_279 (t4) ?_
              refine r_ldc2 ?_
              refine r_lcmp ?_
              refine r_if_ne kX8_readsGuest_24 (fun c2 => absurd c2 (by omega)) (fun c2 => ?_)
              refine r_iconst ?_
              refine r_goto kX8_readsGuest_25 ?_
              refine r_cV2I g_279 rfl (Nat.le_of_ble_eq_true rfl) (Nat.le_of_ble_eq_true rfl) (c_X8_mustBe1) ?_
              refine r_if_ne kX8_readsGuest_33 (fun c3 => ?_) (fun c3 => absurd c3 (by decide))
              refine r_aload_n rfl ?_
              refine r_getR g_279 rfl ?_
              refine r_iconst ?_
              refine r_ialdx g_289 rfl (by omega) (by omega) (by omega) (h2) ?_
              refine r_istore_n (Nat.le_of_ble_eq_true rfl) rfl ?_
              refine r_iload_n rfl ?_
              refine r_iconst ?_
              refine r_icmp_ne kX8_readsGuest_52 (fun c4 => ?_) (fun c4 => absurd c4 (by omega))
              refine r_aload_n rfl ?_
              refine r_getR g_279 rfl ?_
              refine r_bipush ?_
              refine r_iload_n rfl ?_
              first | refine r_iadd (az_wid (by omega) (by omega)) ?_ | refine r_iaddw ?_
              refine r_aload_n rfl ?_
              refine r_cV1 g_279 rfl (Nat.le_of_ble_eq_true rfl) (Nat.le_of_ble_eq_true rfl) (c_X8_kindHere hP) (fun v_61 m_61 hq_61 => ?_)
              obtain ⟨rfl, u1, u2, u3, u4, u5⟩ := hq_61; have hP1 := rP_fr hP u1 u4
              refine r_iast g_289 (by decide) (by omega) (by omega) ?_
              refine r_aload_n rfl ?_
              refine r_aload_n rfl ?_
              refine r_getR g_279 rfl ?_
              refine r_bipush ?_
              refine r_iload_n rfl ?_
              first | refine r_iadd (az_wid (by omega) (by omega)) ?_ | refine r_iaddw ?_
              refine r_ialdx g_289 rfl (by omega) (by omega) (by omega) (az_upx _ _ _ _) ?_
              refine r_if_le kX8_readsGuest_82 (fun c5 => absurd c5 (by omega)) (fun c5 => ?_)
              refine r_iconst ?_
              refine r_goto kX8_readsGuest_83 ?_
              refine r_cV2I g_279 rfl (Nat.le_of_ble_eq_true rfl) (Nat.le_of_ble_eq_true rfl) (c_X8_mustBe1) ?_
              refine r_if_eq kX8_readsGuest_132 (fun c6 => absurd c6 (by decide)) (fun c6 => ?_)
              refine r_aload_n rfl ?_
              refine r_bipush ?_
              refine r_iload_n rfl ?_
              first | refine r_iadd (az_wid (by omega) (by omega)) ?_ | refine r_iaddw ?_
              refine r_iconst ?_
              refine r_bipush ?_
              refine r_cV4 g_279 rfl (Nat.le_of_ble_eq_true rfl) (Nat.le_of_ble_eq_true rfl) (c_X8_number1 (rP_fr hP1 (rFr_9 _ _ _) ((congrFun (az_up_b _ _ _ (by decide)) _).trans u4)) (by omega) z2) (fun v_97 m_97 hq_97 => ?_)
              obtain ⟨rfl, w2a, w2b, w2c, w2d⟩ := hq_97; have w2c2 : m_97 289 = up1 (up1 (m 289) (12 + (g : Int)) (tD T n (12 + 6 * g + 1))) (16 + (g : Int)) (tV T n (12 + 6 * g + 2)) := by { rw [w2c, up1_cell, u2] }; have hP2 := rP_fr (rP_fr hP1 (rFr_9 _ _ _) ((congrFun (az_up_b _ _ _ (by decide)) _).trans u4)) w2a w2b
              refine r_if_eq kX8_readsGuest_132 (fun c7 => absurd c7 (by decide)) (fun c7 => ?_)
              refine r_aload_n rfl ?_
              refine r_bipush ?_
              refine r_iload_n rfl ?_
              first | refine r_iadd (az_wid (by omega) (by omega)) ?_ | refine r_iaddw ?_
              refine r_iconst ?_
              refine r_sipush ?_
              refine r_cV4 g_279 rfl (Nat.le_of_ble_eq_true rfl) (Nat.le_of_ble_eq_true rfl) (c_X8_number1 hP2 (by omega) z3) (fun v_112 m_112 hq_112 => ?_)
              obtain ⟨rfl, w3a, w3b, w3c, w3d⟩ := hq_112; rw [w2c2] at w3c; have hP3 := rP_fr hP2 w3a w3b
              refine r_if_eq kX8_readsGuest_132 (fun c8 => absurd c8 (by decide)) (fun c8 => ?_)
              refine r_aload_n rfl ?_
              refine r_bipush ?_
              refine r_iload_n rfl ?_
              first | refine r_iadd (az_wid (by omega) (by omega)) ?_ | refine r_iaddw ?_
              refine r_iconst ?_
              refine r_bipush ?_
              refine r_cV4 g_279 rfl (Nat.le_of_ble_eq_true rfl) (Nat.le_of_ble_eq_true rfl) (c_X8_number0 hP3 z4) (fun v_126 m_126 hq_126 => ?_)
              obtain ⟨rfl, v4a, v4b, v4c⟩ := hq_126
              refine r_if_ne kX8_readsGuest_134 (fun c9 => absurd c9 (by decide)) (fun c9 => ?_)
              refine r_iconst ?_
              refine r_zret rfl (by omega) ?_
              refine ⟨rFr_t u1 (rFr_t (rFr_9 _ _ _) (rFr_t w2a (rFr_t w3a v4a))), Or.inr ⟨rfl, ?_, by rw [v4b]; exact z4⟩⟩; rw [s0, s1 (by omega), s2 z2, s3 z3, f4 z4, v4b, v4c]
          · refine r_aload_n rfl ?_
            refine r_aload_n rfl ?_
            refine r_getIx g_279 (t2) ?_
            refine r_iconst ?_
            refine r_icmp_ne kX8_readsGuest_24 (fun c1 => absurd c1 (by omega)) (fun c1 => ?_)
            refine r_aload_n rfl ?_
            refine r_getLx g_279 (t4) ?_
            refine r_ldc2 ?_
            refine r_lcmp ?_
            refine r_if_ne kX8_readsGuest_24 (fun c2 => absurd c2 (by omega)) (fun c2 => ?_)
            refine r_iconst ?_
            refine r_goto kX8_readsGuest_25 ?_
            refine r_cV2I g_279 rfl (Nat.le_of_ble_eq_true rfl) (Nat.le_of_ble_eq_true rfl) (c_X8_mustBe1) ?_
            refine r_if_ne kX8_readsGuest_33 (fun c3 => ?_) (fun c3 => absurd c3 (by decide))
            refine r_aload_n rfl ?_
            refine r_getR g_279 rfl ?_
            refine r_iconst ?_
            refine r_ialdx g_289 rfl (by omega) (by omega) (by omega) (h2) ?_
            refine r_istore_n (Nat.le_of_ble_eq_true rfl) rfl ?_
            refine r_iload_n rfl ?_
            refine r_iconst ?_
            refine r_icmp_ne kX8_readsGuest_52 (fun c4 => ?_) (fun c4 => absurd c4 (by omega))
            refine r_aload_n rfl ?_
            refine r_getR g_279 rfl ?_
            refine r_bipush ?_
            refine r_iload_n rfl ?_
            first | refine r_iadd (az_wid (by omega) (by omega)) ?_ | refine r_iaddw ?_
            refine r_aload_n rfl ?_
            refine r_cV1 g_279 rfl (Nat.le_of_ble_eq_true rfl) (Nat.le_of_ble_eq_true rfl) (c_X8_kindHere hP) (fun v_61 m_61 hq_61 => ?_)
            obtain ⟨rfl, u1, u2, u3, u4, u5⟩ := hq_61; have hP1 := rP_fr hP u1 u4
            refine r_iast g_289 (by decide) (by omega) (by omega) ?_
            refine r_aload_n rfl ?_
            refine r_aload_n rfl ?_
            refine r_getR g_279 rfl ?_
            refine r_bipush ?_
            refine r_iload_n rfl ?_
            first | refine r_iadd (az_wid (by omega) (by omega)) ?_ | refine r_iaddw ?_
            refine r_ialdx g_289 rfl (by omega) (by omega) (by omega) (az_upx _ _ _ _) ?_
            refine r_if_le kX8_readsGuest_82 (fun c5 => absurd c5 (by omega)) (fun c5 => ?_)
            refine r_iconst ?_
            refine r_goto kX8_readsGuest_83 ?_
            refine r_cV2I g_279 rfl (Nat.le_of_ble_eq_true rfl) (Nat.le_of_ble_eq_true rfl) (c_X8_mustBe1) ?_
            refine r_if_eq kX8_readsGuest_132 (fun c6 => absurd c6 (by decide)) (fun c6 => ?_)
            refine r_aload_n rfl ?_
            refine r_bipush ?_
            refine r_iload_n rfl ?_
            first | refine r_iadd (az_wid (by omega) (by omega)) ?_ | refine r_iaddw ?_
            refine r_iconst ?_
            refine r_bipush ?_
            refine r_cV4 g_279 rfl (Nat.le_of_ble_eq_true rfl) (Nat.le_of_ble_eq_true rfl) (c_X8_number1 (rP_fr hP1 (rFr_9 _ _ _) ((congrFun (az_up_b _ _ _ (by decide)) _).trans u4)) (by omega) z2) (fun v_97 m_97 hq_97 => ?_)
            obtain ⟨rfl, w2a, w2b, w2c, w2d⟩ := hq_97; have w2c2 : m_97 289 = up1 (up1 (m 289) (12 + (g : Int)) (tD T n (12 + 6 * g + 1))) (16 + (g : Int)) (tV T n (12 + 6 * g + 2)) := by { rw [w2c, up1_cell, u2] }; have hP2 := rP_fr (rP_fr hP1 (rFr_9 _ _ _) ((congrFun (az_up_b _ _ _ (by decide)) _).trans u4)) w2a w2b
            refine r_if_eq kX8_readsGuest_132 (fun c7 => absurd c7 (by decide)) (fun c7 => ?_)
            refine r_aload_n rfl ?_
            refine r_bipush ?_
            refine r_iload_n rfl ?_
            first | refine r_iadd (az_wid (by omega) (by omega)) ?_ | refine r_iaddw ?_
            refine r_iconst ?_
            refine r_sipush ?_
            refine r_cV4 g_279 rfl (Nat.le_of_ble_eq_true rfl) (Nat.le_of_ble_eq_true rfl) (c_X8_number0 hP2 z3) (fun v_112 m_112 hq_112 => ?_)
            obtain ⟨rfl, v3a, v3b, v3c⟩ := hq_112
            refine r_if_eq kX8_readsGuest_132 (fun c8 => ?_) (fun c8 => absurd c8 (by decide))
            refine r_iconst ?_
            refine r_zret rfl (by omega) ?_
            refine ⟨rFr_t u1 (rFr_t (rFr_9 _ _ _) (rFr_t w2a v3a)), Or.inr ⟨rfl, ?_, by rw [v3b]; exact z3⟩⟩; rw [s0, s1 (by omega), s2 z2, f3 z3, v3b, v3c]
        · refine r_aload_n rfl ?_
          refine r_aload_n rfl ?_
          refine r_getIx g_279 (t2) ?_
          refine r_iconst ?_
          refine r_icmp_ne kX8_readsGuest_24 (fun c1 => absurd c1 (by omega)) (fun c1 => ?_)
          refine r_aload_n rfl ?_
          refine r_getLx g_279 (t4) ?_
          refine r_ldc2 ?_
          refine r_lcmp ?_
          refine r_if_ne kX8_readsGuest_24 (fun c2 => absurd c2 (by omega)) (fun c2 => ?_)
          refine r_iconst ?_
          refine r_goto kX8_readsGuest_25 ?_
          refine r_cV2I g_279 rfl (Nat.le_of_ble_eq_true rfl) (Nat.le_of_ble_eq_true rfl) (c_X8_mustBe1) ?_
          refine r_if_ne kX8_readsGuest_33 (fun c3 => ?_) (fun c3 => absurd c3 (by decide))
          refine r_aload_n rfl ?_
          refine r_getR g_279 rfl ?_
          refine r_iconst ?_
          refine r_ialdx g_289 rfl (by omega) (by omega) (by omega) (h2) ?_
          refine r_istore_n (Nat.le_of_ble_eq_true rfl) rfl ?_
          refine r_iload_n rfl ?_
          refine r_iconst ?_
          refine r_icmp_ne kX8_readsGuest_52 (fun c4 => ?_) (fun c4 => absurd c4 (by omega))
          refine r_aload_n rfl ?_
          refine r_getR g_279 rfl ?_
          refine r_bipush ?_
          refine r_iload_n rfl ?_
          first | refine r_iadd (az_wid (by omega) (by omega)) ?_ | refine r_iaddw ?_
          refine r_aload_n rfl ?_
          refine r_cV1 g_279 rfl (Nat.le_of_ble_eq_true rfl) (Nat.le_of_ble_eq_true rfl) (c_X8_kindHere hP) (fun v_61 m_61 hq_61 => ?_)
          obtain ⟨rfl, u1, u2, u3, u4, u5⟩ := hq_61; have hP1 := rP_fr hP u1 u4
          refine r_iast g_289 (by decide) (by omega) (by omega) ?_
          refine r_aload_n rfl ?_
          refine r_aload_n rfl ?_
          refine r_getR g_279 rfl ?_
          refine r_bipush ?_
          refine r_iload_n rfl ?_
          first | refine r_iadd (az_wid (by omega) (by omega)) ?_ | refine r_iaddw ?_
          refine r_ialdx g_289 rfl (by omega) (by omega) (by omega) (az_upx _ _ _ _) ?_
          refine r_if_le kX8_readsGuest_82 (fun c5 => absurd c5 (by omega)) (fun c5 => ?_)
          refine r_iconst ?_
          refine r_goto kX8_readsGuest_83 ?_
          refine r_cV2I g_279 rfl (Nat.le_of_ble_eq_true rfl) (Nat.le_of_ble_eq_true rfl) (c_X8_mustBe1) ?_
          refine r_if_eq kX8_readsGuest_132 (fun c6 => absurd c6 (by decide)) (fun c6 => ?_)
          refine r_aload_n rfl ?_
          refine r_bipush ?_
          refine r_iload_n rfl ?_
          first | refine r_iadd (az_wid (by omega) (by omega)) ?_ | refine r_iaddw ?_
          refine r_iconst ?_
          refine r_bipush ?_
          refine r_cV4 g_279 rfl (Nat.le_of_ble_eq_true rfl) (Nat.le_of_ble_eq_true rfl) (c_X8_number0 (rP_fr hP1 (rFr_9 _ _ _) ((congrFun (az_up_b _ _ _ (by decide)) _).trans u4)) z2) (fun v_97 m_97 hq_97 => ?_)
          obtain ⟨rfl, v2a, v2b, v2c⟩ := hq_97
          refine r_if_eq kX8_readsGuest_132 (fun c7 => ?_) (fun c7 => absurd c7 (by decide))
          refine r_iconst ?_
          refine r_zret rfl (by omega) ?_
          refine ⟨rFr_t u1 (rFr_t (rFr_9 _ _ _) v2a), Or.inr ⟨rfl, ?_, by rw [v2b]; exact z2⟩⟩; rw [s0, s1 (by omega), f2 z2, v2b, v2c]
      · refine r_aload_n rfl ?_
        refine r_aload_n rfl ?_
        refine r_getIx g_279 (t2) ?_
        refine r_iconst ?_
        refine r_icmp_ne kX8_readsGuest_24 (fun c1 => absurd c1 (by omega)) (fun c1 => ?_)
        refine r_aload_n rfl ?_
        refine r_getLx g_279 (t4) ?_
        refine r_ldc2 ?_
        refine r_lcmp ?_
        refine r_if_ne kX8_readsGuest_24 (fun c2 => absurd c2 (by omega)) (fun c2 => ?_)
        refine r_iconst ?_
        refine r_goto kX8_readsGuest_25 ?_
        refine r_cV2I g_279 rfl (Nat.le_of_ble_eq_true rfl) (Nat.le_of_ble_eq_true rfl) (c_X8_mustBe1) ?_
        refine r_if_ne kX8_readsGuest_33 (fun c3 => ?_) (fun c3 => absurd c3 (by decide))
        refine r_aload_n rfl ?_
        refine r_getR g_279 rfl ?_
        refine r_iconst ?_
        refine r_ialdx g_289 rfl (by omega) (by omega) (by omega) (h2) ?_
        refine r_istore_n (Nat.le_of_ble_eq_true rfl) rfl ?_
        refine r_iload_n rfl ?_
        refine r_iconst ?_
        refine r_icmp_ne kX8_readsGuest_52 (fun c4 => ?_) (fun c4 => absurd c4 (by omega))
        refine r_aload_n rfl ?_
        refine r_getR g_279 rfl ?_
        refine r_bipush ?_
        refine r_iload_n rfl ?_
        first | refine r_iadd (az_wid (by omega) (by omega)) ?_ | refine r_iaddw ?_
        refine r_aload_n rfl ?_
        refine r_cV1 g_279 rfl (Nat.le_of_ble_eq_true rfl) (Nat.le_of_ble_eq_true rfl) (c_X8_kindHere hP) (fun v_61 m_61 hq_61 => ?_)
        obtain ⟨rfl, u1, u2, u3, u4, u5⟩ := hq_61; have hP1 := rP_fr hP u1 u4
        refine r_iast g_289 (by decide) (by omega) (by omega) ?_
        refine r_aload_n rfl ?_
        refine r_aload_n rfl ?_
        refine r_getR g_279 rfl ?_
        refine r_bipush ?_
        refine r_iload_n rfl ?_
        first | refine r_iadd (az_wid (by omega) (by omega)) ?_ | refine r_iaddw ?_
        refine r_ialdx g_289 rfl (by omega) (by omega) (by omega) (az_upx _ _ _ _) ?_
        refine r_if_le kX8_readsGuest_82 (fun c5 => ?_) (fun c5 => absurd c5 (by omega))
        refine r_iconst ?_
        refine r_cV2I g_279 rfl (Nat.le_of_ble_eq_true rfl) (Nat.le_of_ble_eq_true rfl) (c_X8_mustBe0) ?_
        refine r_if_eq kX8_readsGuest_132 (fun c6 => ?_) (fun c6 => absurd c6 (by decide))
        refine r_iconst ?_
        refine r_zret rfl (by omega) ?_
        refine ⟨rFr_t (rFr_t u1 (rFr_9 _ _ _)) (rFr_6 _ _), Or.inr ⟨rfl, ?_, by rw [az_upx]; decide⟩⟩; rw [s0, f1 (by omega), az_upx, az_up_k _ _ (by decide), az_up_b _ _ _ (by decide), u5]; rw [show kD T n (12 + 6 * g + 1) = 1 by omega]
  · have h0' := kW_b T n (12 + 6 * g) wGuest
    have hR : pR T n (12 + 6 * g) = (1, tB T n (12 + 6 * g)) := by
      by_cases h4 : g = 4
      · subst h4
        rw [pR_full h0, if_neg k0]
      · have e0 : pCk T n (12 + 6 * g) = kW T n wGuest (12 + 6 * g) := by
          have := ck_g (T := T) (n := n) (g := g) (c := 0) (by omega)
          rw [if_pos rfl] at this
          exact this
        rw [pR_no (by omega) (fun q => k0 (e0.symm.trans q)) (fun q => h0 q.2.2)]
        have e1 : pCk T n (12 + 6 * g) = 1 := by
          have e2 : pCk T n (12 + 6 * g) = kW T n wGuest (12 + 6 * g) := e0
          omega
        rw [e1]
    by_cases hk : tK T n (12 + 6 * g) = 1
    · have t4 := t3 hk
      have hw : tV T n (12 + 6 * g) ≠ 8033908 := fun q => k0 (by
        unfold kW
        rw [if_pos ⟨hk, (tV_w (T := T) hn wh_guest.2 (by decide) hk).mp (q.trans wh_guest.1.symm)⟩])
      refine r_aload_n rfl ?_
      refine r_aload_n rfl ?_
      refine r_getIx g_279 (t2) ?_
      refine r_iconst ?_
      refine r_icmp_ne kX8_readsGuest_24 (fun c1 => absurd c1 (by omega)) (fun c1 => ?_)
      refine r_aload_n rfl ?_
      refine r_getLx g_279 (t4) ?_
      refine r_ldc2 ?_
      refine r_lcmp ?_
      refine r_if_ne kX8_readsGuest_24 (fun c2 => ?_) (fun c2 => absurd c2 (by omega))
      refine r_iconst ?_
      refine r_cV2I g_279 rfl (Nat.le_of_ble_eq_true rfl) (Nat.le_of_ble_eq_true rfl) (c_X8_mustBe0) ?_
      refine r_if_ne kX8_readsGuest_33 (fun c3 => absurd c3 (by decide)) (fun c3 => ?_)
      refine r_iconst ?_
      refine r_zret rfl (by omega) ?_
      refine ⟨rFr_6 _ _, Or.inr ⟨rfl, ?_, by rw [az_upx]; decide⟩⟩; rw [hR, az_upx, az_up_k _ _ (by decide), t1]
    · refine r_aload_n rfl ?_
      refine r_aload_n rfl ?_
      refine r_getIx g_279 (t2) ?_
      refine r_iconst ?_
      refine r_icmp_ne kX8_readsGuest_24 (fun c1 => ?_) (fun c1 => absurd c1 (by omega))
      refine r_iconst ?_
      refine r_cV2I g_279 rfl (Nat.le_of_ble_eq_true rfl) (Nat.le_of_ble_eq_true rfl) (c_X8_mustBe0) ?_
      refine r_if_ne kX8_readsGuest_33 (fun c2 => absurd c2 (by decide)) (fun c2 => ?_)
      refine r_iconst ?_
      refine r_zret rfl (by omega) ?_
      refine ⟨rFr_6 _ _, Or.inr ⟨rfl, ?_, by rw [az_upx]; decide⟩⟩; rw [hR, az_upx, az_up_k _ _ (by decide), t1]
end RQ
