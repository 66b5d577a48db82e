/-! THE CLASS: what is taken from a text -/
section CR2
variable {sc : aX} {m : aM} {T : Int → Int} {n : Int} {Q : Option aV → aM → Prop}
def cX (m : aM) (T : Int → Int) (n : Int) (i : Nat) : Prop := cP m T n i ∧ iTx m
theorem cX_fr {m m' : aM} {i : Nat} (h : cX m T n i) (h1 : m' 38 = m 38) (h2 : m' 39 = m 39) (h3 : ∀ a, a < 19 → m' a = m a) : cX m' T n i := by
  obtain ⟨⟨hQ, a1, a2, a3⟩, hX⟩ := h
  refine ⟨⟨cQ_fr hQ (congrFun h1 _) h2, ?_, ?_, ?_⟩, iTx_fr hX h3⟩
  · rw [h1]; exact a1
  · rw [h1]; exact a2
  · rw [h1]; exact a3
/-- a token is taken -/
def qTk (m : aM) (T : Int → Int) (n : Int) (i : Nat) : Option aV → aM → Prop := fun v m' => v = some (.inl 1) ∧ (∀ y, y ≠ 38 → m' y = m y) ∧ (∀ k, k ≠ 2 → k ≠ 3 → k ≠ 4 → k ≠ 5 → m' 38 k = m 38 k) ∧ cX m' T n (i + 1)
def qTv (m : aM) (T : Int → Int) (n : Int) (i : Nat) (x : Int) : Option aV → aM → Prop := fun v m' => qTk m T n i v m' ∧ m' 38 5 = x
theorem cX_ad {m m' : aM} {i : Nat} (h : cX m T n i) {v : Option aV} (hq : qAd m T n (i + 1) v m') : cX m' T n (i + 1) := by
  obtain ⟨-, q1, q2, q3, q4⟩ := hq
  exact ⟨⟨cQ_fr h.1.1 (q1.2 1 (by decide) (by decide) (by decide)) (q1.1 39 (by decide)), q2, q3, q4⟩, iTx_fr h.2 (fun a ha => q1.1 a (by omega))⟩
theorem c_X6_fail {x : Int} : az_CI sc 50 [.inr (.inr 39), .inl x] m 0 (az_up m 38 6 x) := by
  refine r_aload_n rfl ?_
  refine r_iload_n rfl ?_
  refine r_putI g_38 (by decide) ?_
  refine r_iconst ?_
  refine r_zret rfl (by omega) ?_
  exact ⟨rfl, rfl⟩
theorem c_X6_adv {i : Nat} (h : cX m T n i) : az_C sc az_G 36 [.inr (.inr 39)] m (qAd m T n (i + 1)) := c_X6_advance h.1.1 h.1.2.2.1
theorem c_takeWord1 {i r : Nat} {ws : List Int} (hX : cX m T n i) (hW : az_CI sc 49 [.inr (.inr 39), .inr (.inr r)] m (1 - kW T n ws i) m) (hk : kW T n ws i = 0) : az_C sc az_G 51 [.inr (.inr 39), .inr (.inr r)] m (qTk m T n i) := by
  rw [hk] at hW
  refine r_aload_n rfl ?_
  refine r_aload_n rfl ?_
  refine r_cV2I g_38 rfl (Nat.le_of_ble_eq_true rfl) (Nat.le_of_ble_eq_true rfl) (hW) ?_
  refine r_if_ne kX6_takeWord_14 (fun c1 => ?_) (fun c1 => absurd c1 (by decide))
  refine r_aload_n rfl ?_
  refine r_cV1 g_38 rfl (Nat.le_of_ble_eq_true rfl) (Nat.le_of_ble_eq_true rfl) (c_X6_adv hX) (fun v_ m_ hq_ => ?_)
  have hc := cX_ad hX hq_; obtain ⟨rfl, q1, q2, q3, q4⟩ := hq_
  refine r_iconst ?_
  refine r_zret rfl (by omega) ?_
  exact ⟨rfl, q1.1, fun k a b c _ => q1.2 k a b c, hc⟩
theorem c_takeWord0 {i r : Nat} {ws : List Int} (hW : az_CI sc 49 [.inr (.inr 39), .inr (.inr r)] m (1 - kW T n ws i) m) (hk : kW T n ws i ≠ 0) : az_CI sc 51 [.inr (.inr 39), .inr (.inr r)] m 0 (az_up m 38 6 (kW T n ws i)) := by
  have h1 : kW T n ws i = 1 := by
    have := kW_b T n i ws
    omega
  rw [h1] at hW ⊢
  refine r_aload_n rfl ?_
  refine r_aload_n rfl ?_
  refine r_cV2I g_38 rfl (Nat.le_of_ble_eq_true rfl) (Nat.le_of_ble_eq_true rfl) (hW) ?_
  refine r_if_ne kX6_takeWord_14 (fun c1 => absurd c1 (by decide)) (fun c1 => ?_)
  refine r_aload_n rfl ?_
  refine r_iconst ?_
  refine r_cV2I g_38 rfl (Nat.le_of_ble_eq_true rfl) (Nat.le_of_ble_eq_true rfl) (c_X6_fail) ?_
  refine r_zret rfl (by omega) ?_
  exact ⟨rfl, rfl⟩
theorem c_takeSign1 {i : Nat} (hX : cX m T n i) (hk : kS T n i = 0) : az_C sc az_G 54 [.inr (.inr 39)] m (qTk m T n i) := by
  have h : tK T n i = 3 := by
    unfold kS at hk
    split at hk <;> omega
  have h2 := hX.1.2.2.2
  rw [h] at h2
  have h2 : m 38 2 = 3 := h2
  refine r_aload_n rfl ?_
  refine r_getIx g_38 (h2) ?_
  refine r_iconst ?_
  refine r_icmp_eq kX6_takeSign_14 (fun c1 => ?_) (fun c1 => absurd c1 (by decide))
  refine r_aload_n rfl ?_
  refine r_cV1 g_38 rfl (Nat.le_of_ble_eq_true rfl) (Nat.le_of_ble_eq_true rfl) (c_X6_adv hX) (fun v_ m_ hq_ => ?_)
  have hc := cX_ad hX hq_; obtain ⟨rfl, q1, q2, q3, q4⟩ := hq_
  refine r_iconst ?_
  refine r_zret rfl (by omega) ?_
  exact ⟨rfl, q1.1, fun k a b c _ => q1.2 k a b c, hc⟩
theorem c_takeSign0 {i : Nat} (hX : cX m T n i) (hk : kS T n i ≠ 0) : az_CI sc 54 [.inr (.inr 39)] m 0 (az_up m 38 6 (kS T n i)) := by
  have h : tK T n i ≠ 3 ∧ kS T n i = 1 := by
    unfold kS at hk ⊢
    split at hk
    · omega
    · next q => rw [if_neg q]; exact ⟨q, rfl⟩
  have h2 := hX.1.2.2.2
  have h3 : m 38 2 ≠ 3 := by
    rw [h2]
    unfold cKd
    (repeat' split) <;> omega
  rw [h.2]
  refine r_aload_n rfl ?_
  refine r_getI g_38 ?_
  refine r_iconst ?_
  refine r_icmp_eq kX6_takeSign_14 (fun c1 => absurd c1 (by omega)) (fun c1 => ?_)
  refine r_aload_n rfl ?_
  refine r_iconst ?_
  refine r_cV2I g_38 rfl (Nat.le_of_ble_eq_true rfl) (Nat.le_of_ble_eq_true rfl) (c_X6_fail) ?_
  refine r_zret rfl (by omega) ?_
  exact ⟨rfl, rfl⟩
theorem c_X6_figuresRead {i : Nat} (hX : cX m T n i) (hk : tK T n i = 2) : az_CI sc 52 [.inr (.inr 39)] m (tV T n i) m := by
  obtain ⟨⟨hQ, h3, h4, -⟩, -⟩ := hX
  have hn := hQ.2.1
  have hA := pA_b (T := T) hn.1 i
  have hB := tB_b (T := T) hn.1 i
  have hE := tE_b (T := T) hn.1 i
  have e := tK_0 (Or.inr hk)
  have hr := pE_run (T := T) hB.2 (by rw [e]; exact Or.inr hk)
  rw [e, hk] at hr
  have hlen : tE T n i - tB T n i ≤ 3 := by
    unfold tK pK at hk
    split at hk
    · omega
    · next q => unfold tE; omega
  have hv : tV T n i = pV T (tB T n i) 2 (tE T n i) := by
    unfold tV
    rw [e, hk]
  rw [hv]
  have h0 : pV T (tB T n i) 2 (tB T n i) = 0 := by
    unfold pV
    rw [Int.sub_self]
    rfl
  refine r_iconst ?_
  refine r_istore_n (Nat.le_of_ble_eq_true rfl) rfl ?_
  refine r_aload_n rfl ?_
  refine r_getIx g_38 (h3) ?_
  refine r_istore_n (Nat.le_of_ble_eq_true rfl) rfl ?_
  skip
  refine az_lop (α := Int) (fun x a => [some (.inr (.inr (39))), some (.inl (a)), some (.inl (x))]) (fun _ => m) (fun x a => a = pV T (tB T n i) 2 x) (tB T n i) (tE T n i) 0 hE.1 h0.symm (fun x a x0 x1 hp hK => ?_) (fun a hp => ?_)
  · have hs : pSort (T x) = 2 := hr x x0 x1
    have ht := hQ.2.2 x (by omega) (by omega)
    have hb := pV_n (T := T) x0 (by omega) (fun y y0 y1 => hr y y0 (by show y < tE T n i; omega))
    have hS := pV_S (T := T) (s := 2) x0
    have hS2 : pV T (tB T n i) 2 (x + 1) = 10 * pV T (tB T n i) 2 x + T x - 48 := by
      rw [hS]
      unfold pVs
      rw [if_neg (by omega), if_neg (by decide)]
    have hc : m 39 x = T x ∧ 48 ≤ T x ∧ T x ≤ 57 := by
      unfold pSort at hs
      split at hs
      · omega
      · split at hs
        · omega
        · split at hs <;> omega
    rw [← hp] at hb hS2
    clear hr hS
    refine r_iload_n rfl ?_
    refine r_aload_n rfl ?_
    refine r_getIx g_38 (h4) ?_
    refine r_icmp_ge kX6_figuresRead_36 (fun c1 => absurd c1 (by omega)) (fun c1 => ?_)
    refine r_bipush ?_
    refine r_iload_n rfl ?_
    first | refine r_imul (az_wid (by omega) (by omega)) ?_ | refine r_imulw ?_
    refine r_aload_n rfl ?_
    refine r_getR g_38 rfl ?_
    refine r_iload_n rfl ?_
    refine r_baldx g_39 rfl (by omega) (by decide) (by omega) (by omega) (hc.1) ?_
    first | refine r_iadd (az_wid (by omega) (by omega)) ?_ | refine r_iaddw ?_
    refine r_bipush ?_
    first | refine r_isub (az_wid (by omega) (by omega)) ?_ | refine r_isubw ?_
    refine r_istore_n (Nat.le_of_ble_eq_true rfl) rfl ?_
    refine r_iinc rfl (az_wid (by omega) (by omega)) rfl ?_
    refine r_goto kX6_figuresRead_7 ?_
    exact hK _ hS2.symm
  · refine r_iload_n rfl ?_
    refine r_aload_n rfl ?_
    refine r_getIx g_38 (h4) ?_
    refine r_icmp_ge kX6_figuresRead_36 (fun c1 => ?_) (fun c1 => absurd c1 (by omega))
    refine r_iload_n rfl ?_
    refine r_iret rfl ?_
    exact ⟨az_oI hp, rfl⟩
theorem c_takeNumber1 {i : Nat} {lo hi : Int} (hX : cX m T n i) (hk : kN T n lo hi i = 0) : az_C sc az_G 53 [.inr (.inr 39), .inl lo, .inl hi] m (qTv m T n i (tV T n i)) := by
  unfold kN at hk
  split at hk
  · next h =>
    split at hk
    · next hr =>
      have h2 := hX.1.2.2.2
      rw [h] at h2
      have h2 : m 38 2 = 2 := h2
      have hX2 : cX (az_up m 38 5 (tV T n i)) T n i := by
        obtain ⟨⟨hQ, a1, a2, a3⟩, hT⟩ := hX
        exact ⟨⟨cQ_fr hQ (az_up_k _ _ (by decide)) (az_up_b _ _ _ (by decide)), (az_up_k _ _ (by decide)).trans a1, (az_up_k _ _ (by decide)).trans a2, (az_up_k _ _ (by decide)).trans a3⟩, iTx_fr hT (fun a ha => az_up_b _ _ _ (by omega))⟩
      refine r_aload_n rfl ?_
      refine r_getIx g_38 (h2) ?_
      refine r_iconst ?_
      refine r_icmp_eq kX6_takeNumber_14 (fun c1 => ?_) (fun c1 => absurd c1 (by decide))
      refine r_aload_n rfl ?_
      refine r_cV1I g_38 rfl (Nat.le_of_ble_eq_true rfl) (Nat.le_of_ble_eq_true rfl) (c_X6_figuresRead hX h) ?_
      refine r_istore_n (Nat.le_of_ble_eq_true rfl) rfl ?_
      refine r_iload_n rfl ?_
      refine r_iload_n rfl ?_
      refine r_icmp_lt kX6_takeNumber_29 (fun c2 => absurd c2 (by omega)) (fun c2 => ?_)
      refine r_iload_n rfl ?_
      refine r_iload_n rfl ?_
      refine r_icmp_le kX6_takeNumber_35 (fun c3 => ?_) (fun c3 => absurd c3 (by omega))
      refine r_aload_n rfl ?_
      refine r_iload_n rfl ?_
      refine r_putI g_38 (by decide) ?_
      refine r_aload_n rfl ?_
      refine r_cV1 g_38 rfl (Nat.le_of_ble_eq_true rfl) (Nat.le_of_ble_eq_true rfl) (c_X6_adv hX2) (fun v_ m_ hq_ => ?_)
      have hc := cX_ad hX2 hq_; obtain ⟨rfl, q1, q2, q3, q4⟩ := hq_
      refine r_iconst ?_
      refine r_zret rfl (by omega) ?_
      exact ⟨⟨rfl, fun y hy => (q1.1 y hy).trans (az_up_b _ _ _ hy), fun k a b c d => (q1.2 k a b c).trans (az_up_k _ _ d), hc⟩, (q1.2 5 (by decide) (by decide) (by decide)).trans (az_upx _ _ _ _)⟩
    · omega
  · omega
theorem c_takeNumber0 {i : Nat} {lo hi : Int} (hX : cX m T n i) (hk : kN T n lo hi i ≠ 0) : az_CI sc 53 [.inr (.inr 39), .inl lo, .inl hi] m 0 (az_up m 38 6 (kN T n lo hi i)) := by
  have h2 := hX.1.2.2.2
  unfold kN at hk ⊢
  split at hk
  · next h =>
    rw [if_pos h]
    split at hk
    · omega
    · next hr =>
      rw [if_neg hr]
      rw [h] at h2
      have h2 : m 38 2 = 2 := h2
      refine r_aload_n rfl ?_
      refine r_getIx g_38 (h2) ?_
      refine r_iconst ?_
      refine r_icmp_eq kX6_takeNumber_14 (fun c1 => ?_) (fun c1 => absurd c1 (by decide))
      refine r_aload_n rfl ?_
      refine r_cV1I g_38 rfl (Nat.le_of_ble_eq_true rfl) (Nat.le_of_ble_eq_true rfl) (c_X6_figuresRead hX h) ?_
      refine r_istore_n (Nat.le_of_ble_eq_true rfl) rfl ?_
      refine r_iload_n rfl ?_
      refine r_iload_n rfl ?_
      refine r_icmp_lt kX6_takeNumber_29 (fun c2 => ?_) (fun c2 => ?_)
      · refine r_aload_n rfl ?_
        refine r_iconst ?_
        refine r_cV2I g_38 rfl (Nat.le_of_ble_eq_true rfl) (Nat.le_of_ble_eq_true rfl) (c_X6_fail) ?_
        refine r_zret rfl (by omega) ?_
        exact ⟨rfl, rfl⟩
      · refine r_iload_n rfl ?_
        refine r_iload_n rfl ?_
        refine r_icmp_le kX6_takeNumber_35 (fun c3 => absurd c3 (by omega)) (fun c3 => ?_)
        refine r_aload_n rfl ?_
        refine r_iconst ?_
        refine r_cV2I g_38 rfl (Nat.le_of_ble_eq_true rfl) (Nat.le_of_ble_eq_true rfl) (c_X6_fail) ?_
        refine r_zret rfl (by omega) ?_
        exact ⟨rfl, rfl⟩
  · next h =>
    rw [if_neg h]
    have h3 : m 38 2 ≠ 2 := by
      rw [h2]
      unfold cKd
      (repeat' split) <;> omega
    refine r_aload_n rfl ?_
    refine r_getI g_38 ?_
    refine r_iconst ?_
    refine r_icmp_eq kX6_takeNumber_14 (fun c1 => absurd c1 (by omega)) (fun c1 => ?_)
    refine r_aload_n rfl ?_
    refine r_iconst ?_
    refine r_cV2I g_38 rfl (Nat.le_of_ble_eq_true rfl) (Nat.le_of_ble_eq_true rfl) (c_X6_fail) ?_
    refine r_zret rfl (by omega) ?_
    exact ⟨rfl, rfl⟩
theorem c_sortOf_1 : az_C sc az_G 57 [.inl 1] m (fun v m' => v = some (.inr (.inr 7)) ∧ m' = m) := by
  refine r_iload_n rfl ?_
  refine r_tswI (by decide) rfl kX6_sortOf_32 ?_
  refine r_ldcS ?_
  refine r_aret rfl ?_
  exact ⟨rfl, rfl⟩
theorem c_sortOf_2 : az_C sc az_G 57 [.inl 2] m (fun v m' => v = some (.inr (.inr 8)) ∧ m' = m) := by
  refine r_iload_n rfl ?_
  refine r_tswI (by decide) rfl kX6_sortOf_35 ?_
  refine r_ldcS ?_
  refine r_aret rfl ?_
  exact ⟨rfl, rfl⟩
theorem c_sortOf_3 : az_C sc az_G 57 [.inl 3] m (fun v m' => v = some (.inr (.inr 9)) ∧ m' = m) := by
  refine r_iload_n rfl ?_
  refine r_tswI (by decide) rfl kX6_sortOf_38 ?_
  refine r_ldcS ?_
  refine r_aret rfl ?_
  exact ⟨rfl, rfl⟩
theorem c_sortOf_4 : az_C sc az_G 57 [.inl 4] m (fun v m' => v = some (.inr (.inr 10)) ∧ m' = m) := by
  refine r_iload_n rfl ?_
  refine r_tswI (by decide) rfl kX6_sortOf_41 ?_
  refine r_ldcS ?_
  refine r_aret rfl ?_
  exact ⟨rfl, rfl⟩
theorem c_sortOf_5 : az_C sc az_G 57 [.inl 5] m (fun v m' => v = some (.inr (.inr 11)) ∧ m' = m) := by
  refine r_iload_n rfl ?_
  refine r_tswO (by decide) kX6_sortOf_44 ?_
  refine r_ldcS ?_
  refine r_aret rfl ?_
  exact ⟨rfl, rfl⟩
theorem tD_k {i : Nat} : (tD T n i = 0 → kW T n wLone i ≠ 0 ∧ kW T n wAunt i ≠ 0 ∧ kW T n wChild i ≠ 0 ∧ kW T n wBand i ≠ 0 ∧ kW T n wClan i ≠ 0) ∧ (tD T n i = 1 → kW T n wLone i = 0) ∧ (tD T n i = 2 → kW T n wLone i ≠ 0 ∧ kW T n wAunt i = 0) ∧ (tD T n i = 3 → kW T n wLone i ≠ 0 ∧ kW T n wAunt i ≠ 0 ∧ kW T n wChild i = 0) ∧ (tD T n i = 4 → kW T n wLone i ≠ 0 ∧ kW T n wAunt i ≠ 0 ∧ kW T n wChild i ≠ 0 ∧ kW T n wBand i = 0) ∧ (tD T n i = 5 → kW T n wLone i ≠ 0 ∧ kW T n wAunt i ≠ 0 ∧ kW T n wChild i ≠ 0 ∧ kW T n wBand i ≠ 0 ∧ kW T n wClan i = 0) := by
  unfold tD kW pKd
  by_cases hk : tK T n i = 1
  · simp only [hk, true_and, if_true]
    generalize tL T n i = l
    by_cases h1 : l = wLone
    · subst h1
      decide
    · by_cases h2 : l = wAunt
      · subst h2
        decide
      · by_cases h3 : l = wChild
        · subst h3
          decide
        · by_cases h4 : l = wBand
          · subst h4
            decide
          · by_cases h5 : l = wClan
            · subst h5
              decide
            · simp [h1, h2, h3, h4, h5]
  · simp [hk]
theorem l_sort_no_1 {i : Nat} (hX : cX m T n i) (hk : kW T n wLone i ≠ 0) (K : az_E sc az_G 58 zX6_takeSort_2 [some (.inr (.inr (39))), some (.inl (2))] [] m Q) : az_E sc az_G 58 zX6_takeSort_2 [some (.inr (.inr (39))), some (.inl (1))] [] m Q := by
  have hW := c_isWord_3 (sc := sc) hX.2 hX.1
  have h1 : kW T n wLone i = 1 := by
    have := kW_b T n i wLone
    omega
  rw [h1] at hW
  refine r_iload_n rfl ?_
  refine r_iconst ?_
  refine r_icmp_gt kX6_takeSort_35 (fun c1 => absurd c1 (by decide)) (fun c1 => ?_)
  refine r_aload_n rfl ?_
  refine r_iload_n rfl ?_
  refine r_cS1 (by decide) (Nat.le_of_ble_eq_true rfl) (Nat.le_of_ble_eq_true rfl) (c_sortOf_1) (fun v_ m_ hq_ => ?_)
  obtain ⟨rfl, rfl⟩ := hq_
  refine r_cV2I g_38 rfl (Nat.le_of_ble_eq_true rfl) (Nat.le_of_ble_eq_true rfl) (hW) ?_
  refine r_if_eq kX6_takeSort_29 (fun c2 => ?_) (fun c2 => absurd c2 (by decide))
  refine r_iinc rfl (az_wid (by omega) (by omega)) rfl ?_
  refine r_goto kX6_takeSort_2 ?_
  exact K
theorem l_sort_ok_1 {i : Nat} (hX : cX m T n i) (hk : kW T n wLone i = 0) : az_E sc az_G 58 zX6_takeSort_2 [some (.inr (.inr (39))), some (.inl (1))] [] m (qTv m T n i 1) := by
  have hW := c_isWord_3 (sc := sc) hX.2 hX.1
  rw [hk] at hW
  have hX2 : cX (az_up m 38 5 1) T n i := by
    obtain ⟨⟨hQ, a1, a2, a3⟩, hT⟩ := hX
    exact ⟨⟨cQ_fr hQ (az_up_k _ _ (by decide)) (az_up_b _ _ _ (by decide)), (az_up_k _ _ (by decide)).trans a1, (az_up_k _ _ (by decide)).trans a2, (az_up_k _ _ (by decide)).trans a3⟩, iTx_fr hT (fun a ha => az_up_b _ _ _ (by omega))⟩
  refine r_iload_n rfl ?_
  refine r_iconst ?_
  refine r_icmp_gt kX6_takeSort_35 (fun c1 => absurd c1 (by decide)) (fun c1 => ?_)
  refine r_aload_n rfl ?_
  refine r_iload_n rfl ?_
  refine r_cS1 (by decide) (Nat.le_of_ble_eq_true rfl) (Nat.le_of_ble_eq_true rfl) (c_sortOf_1) (fun v_ m_ hq_ => ?_)
  obtain ⟨rfl, rfl⟩ := hq_
  refine r_cV2I g_38 rfl (Nat.le_of_ble_eq_true rfl) (Nat.le_of_ble_eq_true rfl) (hW) ?_
  refine r_if_eq kX6_takeSort_29 (fun c2 => absurd c2 (by decide)) (fun c2 => ?_)
  refine r_aload_n rfl ?_
  refine r_iload_n rfl ?_
  refine r_putI g_38 (by decide) ?_
  refine r_aload_n rfl ?_
  refine r_cV1 g_38 rfl (Nat.le_of_ble_eq_true rfl) (Nat.le_of_ble_eq_true rfl) (c_X6_adv hX2) (fun v_ m_ hq_ => ?_)
  have hc := cX_ad hX2 hq_; obtain ⟨rfl, q1, q2, q3, q4⟩ := hq_
  refine r_iconst ?_
  refine r_zret rfl (by omega) ?_
  exact ⟨⟨rfl, fun y hy => (q1.1 y hy).trans (az_up_b _ _ _ hy), fun k a b c d => (q1.2 k a b c).trans (az_up_k _ _ d), hc⟩, (q1.2 5 (by decide) (by decide) (by decide)).trans (az_upx _ _ _ _)⟩
theorem l_sort_no_2 {i : Nat} (hX : cX m T n i) (hk : kW T n wAunt i ≠ 0) (K : az_E sc az_G 58 zX6_takeSort_2 [some (.inr (.inr (39))), some (.inl (3))] [] m Q) : az_E sc az_G 58 zX6_takeSort_2 [some (.inr (.inr (39))), some (.inl (2))] [] m Q := by
  have hW := c_isWord_4 (sc := sc) hX.2 hX.1
  have h1 : kW T n wAunt i = 1 := by
    have := kW_b T n i wAunt
    omega
  rw [h1] at hW
  refine r_iload_n rfl ?_
  refine r_iconst ?_
  refine r_icmp_gt kX6_takeSort_35 (fun c1 => absurd c1 (by decide)) (fun c1 => ?_)
  refine r_aload_n rfl ?_
  refine r_iload_n rfl ?_
  refine r_cS1 (by decide) (Nat.le_of_ble_eq_true rfl) (Nat.le_of_ble_eq_true rfl) (c_sortOf_2) (fun v_ m_ hq_ => ?_)
  obtain ⟨rfl, rfl⟩ := hq_
  refine r_cV2I g_38 rfl (Nat.le_of_ble_eq_true rfl) (Nat.le_of_ble_eq_true rfl) (hW) ?_
  refine r_if_eq kX6_takeSort_29 (fun c2 => ?_) (fun c2 => absurd c2 (by decide))
  refine r_iinc rfl (az_wid (by omega) (by omega)) rfl ?_
  refine r_goto kX6_takeSort_2 ?_
  exact K
theorem l_sort_ok_2 {i : Nat} (hX : cX m T n i) (hk : kW T n wAunt i = 0) : az_E sc az_G 58 zX6_takeSort_2 [some (.inr (.inr (39))), some (.inl (2))] [] m (qTv m T n i 2) := by
  have hW := c_isWord_4 (sc := sc) hX.2 hX.1
  rw [hk] at hW
  have hX2 : cX (az_up m 38 5 2) T n i := by
    obtain ⟨⟨hQ, a1, a2, a3⟩, hT⟩ := hX
    exact ⟨⟨cQ_fr hQ (az_up_k _ _ (by decide)) (az_up_b _ _ _ (by decide)), (az_up_k _ _ (by decide)).trans a1, (az_up_k _ _ (by decide)).trans a2, (az_up_k _ _ (by decide)).trans a3⟩, iTx_fr hT (fun a ha => az_up_b _ _ _ (by omega))⟩
  refine r_iload_n rfl ?_
  refine r_iconst ?_
  refine r_icmp_gt kX6_takeSort_35 (fun c1 => absurd c1 (by decide)) (fun c1 => ?_)
  refine r_aload_n rfl ?_
  refine r_iload_n rfl ?_
  refine r_cS1 (by decide) (Nat.le_of_ble_eq_true rfl) (Nat.le_of_ble_eq_true rfl) (c_sortOf_2) (fun v_ m_ hq_ => ?_)
  obtain ⟨rfl, rfl⟩ := hq_
  refine r_cV2I g_38 rfl (Nat.le_of_ble_eq_true rfl) (Nat.le_of_ble_eq_true rfl) (hW) ?_
  refine r_if_eq kX6_takeSort_29 (fun c2 => absurd c2 (by decide)) (fun c2 => ?_)
  refine r_aload_n rfl ?_
  refine r_iload_n rfl ?_
  refine r_putI g_38 (by decide) ?_
  refine r_aload_n rfl ?_
  refine r_cV1 g_38 rfl (Nat.le_of_ble_eq_true rfl) (Nat.le_of_ble_eq_true rfl) (c_X6_adv hX2) (fun v_ m_ hq_ => ?_)
  have hc := cX_ad hX2 hq_; obtain ⟨rfl, q1, q2, q3, q4⟩ := hq_
  refine r_iconst ?_
  refine r_zret rfl (by omega) ?_
  exact ⟨⟨rfl, fun y hy => (q1.1 y hy).trans (az_up_b _ _ _ hy), fun k a b c d => (q1.2 k a b c).trans (az_up_k _ _ d), hc⟩, (q1.2 5 (by decide) (by decide) (by decide)).trans (az_upx _ _ _ _)⟩
theorem l_sort_no_3 {i : Nat} (hX : cX m T n i) (hk : kW T n wChild i ≠ 0) (K : az_E sc az_G 58 zX6_takeSort_2 [some (.inr (.inr (39))), some (.inl (4))] [] m Q) : az_E sc az_G 58 zX6_takeSort_2 [some (.inr (.inr (39))), some (.inl (3))] [] m Q := by
  have hW := c_isWord_5 (sc := sc) hX.2 hX.1
  have h1 : kW T n wChild i = 1 := by
    have := kW_b T n i wChild
    omega
  rw [h1] at hW
  refine r_iload_n rfl ?_
  refine r_iconst ?_
  refine r_icmp_gt kX6_takeSort_35 (fun c1 => absurd c1 (by decide)) (fun c1 => ?_)
  refine r_aload_n rfl ?_
  refine r_iload_n rfl ?_
  refine r_cS1 (by decide) (Nat.le_of_ble_eq_true rfl) (Nat.le_of_ble_eq_true rfl) (c_sortOf_3) (fun v_ m_ hq_ => ?_)
  obtain ⟨rfl, rfl⟩ := hq_
  refine r_cV2I g_38 rfl (Nat.le_of_ble_eq_true rfl) (Nat.le_of_ble_eq_true rfl) (hW) ?_
  refine r_if_eq kX6_takeSort_29 (fun c2 => ?_) (fun c2 => absurd c2 (by decide))
  refine r_iinc rfl (az_wid (by omega) (by omega)) rfl ?_
  refine r_goto kX6_takeSort_2 ?_
  exact K
theorem l_sort_ok_3 {i : Nat} (hX : cX m T n i) (hk : kW T n wChild i = 0) : az_E sc az_G 58 zX6_takeSort_2 [some (.inr (.inr (39))), some (.inl (3))] [] m (qTv m T n i 3) := by
  have hW := c_isWord_5 (sc := sc) hX.2 hX.1
  rw [hk] at hW
  have hX2 : cX (az_up m 38 5 3) T n i := by
    obtain ⟨⟨hQ, a1, a2, a3⟩, hT⟩ := hX
    exact ⟨⟨cQ_fr hQ (az_up_k _ _ (by decide)) (az_up_b _ _ _ (by decide)), (az_up_k _ _ (by decide)).trans a1, (az_up_k _ _ (by decide)).trans a2, (az_up_k _ _ (by decide)).trans a3⟩, iTx_fr hT (fun a ha => az_up_b _ _ _ (by omega))⟩
  refine r_iload_n rfl ?_
  refine r_iconst ?_
  refine r_icmp_gt kX6_takeSort_35 (fun c1 => absurd c1 (by decide)) (fun c1 => ?_)
  refine r_aload_n rfl ?_
  refine r_iload_n rfl ?_
  refine r_cS1 (by decide) (Nat.le_of_ble_eq_true rfl) (Nat.le_of_ble_eq_true rfl) (c_sortOf_3) (fun v_ m_ hq_ => ?_)
  obtain ⟨rfl, rfl⟩ := hq_
  refine r_cV2I g_38 rfl (Nat.le_of_ble_eq_true rfl) (Nat.le_of_ble_eq_true rfl) (hW) ?_
  refine r_if_eq kX6_takeSort_29 (fun c2 => absurd c2 (by decide)) (fun c2 => ?_)
  refine r_aload_n rfl ?_
  refine r_iload_n rfl ?_
  refine r_putI g_38 (by decide) ?_
  refine r_aload_n rfl ?_
  refine r_cV1 g_38 rfl (Nat.le_of_ble_eq_true rfl) (Nat.le_of_ble_eq_true rfl) (c_X6_adv hX2) (fun v_ m_ hq_ => ?_)
  have hc := cX_ad hX2 hq_; obtain ⟨rfl, q1, q2, q3, q4⟩ := hq_
  refine r_iconst ?_
  refine r_zret rfl (by omega) ?_
  exact ⟨⟨rfl, fun y hy => (q1.1 y hy).trans (az_up_b _ _ _ hy), fun k a b c d => (q1.2 k a b c).trans (az_up_k _ _ d), hc⟩, (q1.2 5 (by decide) (by decide) (by decide)).trans (az_upx _ _ _ _)⟩
theorem l_sort_no_4 {i : Nat} (hX : cX m T n i) (hk : kW T n wBand i ≠ 0) (K : az_E sc az_G 58 zX6_takeSort_2 [some (.inr (.inr (39))), some (.inl (5))] [] m Q) : az_E sc az_G 58 zX6_takeSort_2 [some (.inr (.inr (39))), some (.inl (4))] [] m Q := by
  have hW := c_isWord_6 (sc := sc) hX.2 hX.1
  have h1 : kW T n wBand i = 1 := by
    have := kW_b T n i wBand
    omega
  rw [h1] at hW
  refine r_iload_n rfl ?_
  refine r_iconst ?_
  refine r_icmp_gt kX6_takeSort_35 (fun c1 => absurd c1 (by decide)) (fun c1 => ?_)
  refine r_aload_n rfl ?_
  refine r_iload_n rfl ?_
  refine r_cS1 (by decide) (Nat.le_of_ble_eq_true rfl) (Nat.le_of_ble_eq_true rfl) (c_sortOf_4) (fun v_ m_ hq_ => ?_)
  obtain ⟨rfl, rfl⟩ := hq_
  refine r_cV2I g_38 rfl (Nat.le_of_ble_eq_true rfl) (Nat.le_of_ble_eq_true rfl) (hW) ?_
  refine r_if_eq kX6_takeSort_29 (fun c2 => ?_) (fun c2 => absurd c2 (by decide))
  refine r_iinc rfl (az_wid (by omega) (by omega)) rfl ?_
  refine r_goto kX6_takeSort_2 ?_
  exact K
theorem l_sort_ok_4 {i : Nat} (hX : cX m T n i) (hk : kW T n wBand i = 0) : az_E sc az_G 58 zX6_takeSort_2 [some (.inr (.inr (39))), some (.inl (4))] [] m (qTv m T n i 4) := by
  have hW := c_isWord_6 (sc := sc) hX.2 hX.1
  rw [hk] at hW
  have hX2 : cX (az_up m 38 5 4) T n i := by
    obtain ⟨⟨hQ, a1, a2, a3⟩, hT⟩ := hX
    exact ⟨⟨cQ_fr hQ (az_up_k _ _ (by decide)) (az_up_b _ _ _ (by decide)), (az_up_k _ _ (by decide)).trans a1, (az_up_k _ _ (by decide)).trans a2, (az_up_k _ _ (by decide)).trans a3⟩, iTx_fr hT (fun a ha => az_up_b _ _ _ (by omega))⟩
  refine r_iload_n rfl ?_
  refine r_iconst ?_
  refine r_icmp_gt kX6_takeSort_35 (fun c1 => absurd c1 (by decide)) (fun c1 => ?_)
  refine r_aload_n rfl ?_
  refine r_iload_n rfl ?_
  refine r_cS1 (by decide) (Nat.le_of_ble_eq_true rfl) (Nat.le_of_ble_eq_true rfl) (c_sortOf_4) (fun v_ m_ hq_ => ?_)
  obtain ⟨rfl, rfl⟩ := hq_
  refine r_cV2I g_38 rfl (Nat.le_of_ble_eq_true rfl) (Nat.le_of_ble_eq_true rfl) (hW) ?_
  refine r_if_eq kX6_takeSort_29 (fun c2 => absurd c2 (by decide)) (fun c2 => ?_)
  refine r_aload_n rfl ?_
  refine r_iload_n rfl ?_
  refine r_putI g_38 (by decide) ?_
  refine r_aload_n rfl ?_
  refine r_cV1 g_38 rfl (Nat.le_of_ble_eq_true rfl) (Nat.le_of_ble_eq_true rfl) (c_X6_adv hX2) (fun v_ m_ hq_ => ?_)
  have hc := cX_ad hX2 hq_; obtain ⟨rfl, q1, q2, q3, q4⟩ := hq_
  refine r_iconst ?_
  refine r_zret rfl (by omega) ?_
  exact ⟨⟨rfl, fun y hy => (q1.1 y hy).trans (az_up_b _ _ _ hy), fun k a b c d => (q1.2 k a b c).trans (az_up_k _ _ d), hc⟩, (q1.2 5 (by decide) (by decide) (by decide)).trans (az_upx _ _ _ _)⟩
theorem l_sort_no_5 {i : Nat} (hX : cX m T n i) (hk : kW T n wClan i ≠ 0) (K : az_E sc az_G 58 zX6_takeSort_2 [some (.inr (.inr (39))), some (.inl (6))] [] m Q) : az_E sc az_G 58 zX6_takeSort_2 [some (.inr (.inr (39))), some (.inl (5))] [] m Q := by
  have hW := c_isWord_7 (sc := sc) hX.2 hX.1
  have h1 : kW T n wClan i = 1 := by
    have := kW_b T n i wClan
    omega
  rw [h1] at hW
  refine r_iload_n rfl ?_
  refine r_iconst ?_
  refine r_icmp_gt kX6_takeSort_35 (fun c1 => absurd c1 (by decide)) (fun c1 => ?_)
  refine r_aload_n rfl ?_
  refine r_iload_n rfl ?_
  refine r_cS1 (by decide) (Nat.le_of_ble_eq_true rfl) (Nat.le_of_ble_eq_true rfl) (c_sortOf_5) (fun v_ m_ hq_ => ?_)
  obtain ⟨rfl, rfl⟩ := hq_
  refine r_cV2I g_38 rfl (Nat.le_of_ble_eq_true rfl) (Nat.le_of_ble_eq_true rfl) (hW) ?_
  refine r_if_eq kX6_takeSort_29 (fun c2 => ?_) (fun c2 => absurd c2 (by decide))
  refine r_iinc rfl (az_wid (by omega) (by omega)) rfl ?_
  refine r_goto kX6_takeSort_2 ?_
  exact K
theorem l_sort_ok_5 {i : Nat} (hX : cX m T n i) (hk : kW T n wClan i = 0) : az_E sc az_G 58 zX6_takeSort_2 [some (.inr (.inr (39))), some (.inl (5))] [] m (qTv m T n i 5) := by
  have hW := c_isWord_7 (sc := sc) hX.2 hX.1
  rw [hk] at hW
  have hX2 : cX (az_up m 38 5 5) T n i := by
    obtain ⟨⟨hQ, a1, a2, a3⟩, hT⟩ := hX
    exact ⟨⟨cQ_fr hQ (az_up_k _ _ (by decide)) (az_up_b _ _ _ (by decide)), (az_up_k _ _ (by decide)).trans a1, (az_up_k _ _ (by decide)).trans a2, (az_up_k _ _ (by decide)).trans a3⟩, iTx_fr hT (fun a ha => az_up_b _ _ _ (by omega))⟩
  refine r_iload_n rfl ?_
  refine r_iconst ?_
  refine r_icmp_gt kX6_takeSort_35 (fun c1 => absurd c1 (by decide)) (fun c1 => ?_)
  refine r_aload_n rfl ?_
  refine r_iload_n rfl ?_
  refine r_cS1 (by decide) (Nat.le_of_ble_eq_true rfl) (Nat.le_of_ble_eq_true rfl) (c_sortOf_5) (fun v_ m_ hq_ => ?_)
  obtain ⟨rfl, rfl⟩ := hq_
  refine r_cV2I g_38 rfl (Nat.le_of_ble_eq_true rfl) (Nat.le_of_ble_eq_true rfl) (hW) ?_
  refine r_if_eq kX6_takeSort_29 (fun c2 => absurd c2 (by decide)) (fun c2 => ?_)
  refine r_aload_n rfl ?_
  refine r_iload_n rfl ?_
  refine r_putI g_38 (by decide) ?_
  refine r_aload_n rfl ?_
  refine r_cV1 g_38 rfl (Nat.le_of_ble_eq_true rfl) (Nat.le_of_ble_eq_true rfl) (c_X6_adv hX2) (fun v_ m_ hq_ => ?_)
  have hc := cX_ad hX2 hq_; obtain ⟨rfl, q1, q2, q3, q4⟩ := hq_
  refine r_iconst ?_
  refine r_zret rfl (by omega) ?_
  exact ⟨⟨rfl, fun y hy => (q1.1 y hy).trans (az_up_b _ _ _ hy), fun k a b c d => (q1.2 k a b c).trans (az_up_k _ _ d), hc⟩, (q1.2 5 (by decide) (by decide) (by decide)).trans (az_upx _ _ _ _)⟩
theorem c_takeSort1 {i : Nat} (hX : cX m T n i) (hk : kD T n i = 0) : az_C sc az_G 58 [.inr (.inr 39)] m (qTv m T n i (tD T n i)) := by
  have hb := tD_b T n i
  have hd := kD_b T n i
  obtain ⟨-, t1, t2, t3, t4, t5⟩ := tD_k (T := T) (n := n) (i := i)
  refine r_iconst ?_
  refine r_istore_n (Nat.le_of_ble_eq_true rfl) rfl ?_
  skip
  rcases (show tD T n i = 1 ∨ tD T n i = 2 ∨ tD T n i = 3 ∨ tD T n i = 4 ∨ tD T n i = 5 by omega) with e | e | e | e | e
  · rw [e]
    exact l_sort_ok_1 hX (t1 e)
  · rw [e]
    obtain ⟨a1, a2⟩ := t2 e
    exact l_sort_no_1 hX a1 (l_sort_ok_2 hX a2)
  · rw [e]
    obtain ⟨a1, a2, a3⟩ := t3 e
    exact l_sort_no_1 hX a1 (l_sort_no_2 hX a2 (l_sort_ok_3 hX a3))
  · rw [e]
    obtain ⟨a1, a2, a3, a4⟩ := t4 e
    exact l_sort_no_1 hX a1 (l_sort_no_2 hX a2 (l_sort_no_3 hX a3 (l_sort_ok_4 hX a4)))
  · rw [e]
    obtain ⟨a1, a2, a3, a4, a5⟩ := t5 e
    exact l_sort_no_1 hX a1 (l_sort_no_2 hX a2 (l_sort_no_3 hX a3 (l_sort_no_4 hX a4 (l_sort_ok_5 hX a5))))
theorem c_takeSort0 {i : Nat} (hX : cX m T n i) (hk : kD T n i ≠ 0) : az_CI sc 58 [.inr (.inr 39)] m 0 (az_up m 38 6 (kD T n i)) := by
  have hd := kD_b T n i
  have e1 : kD T n i = 1 := by omega
  have e0 : tD T n i = 0 := by omega
  obtain ⟨a1, a2, a3, a4, a5⟩ := (tD_k (T := T) (n := n) (i := i)).1 e0
  rw [e1]
  refine r_iconst ?_
  refine r_istore_n (Nat.le_of_ble_eq_true rfl) rfl ?_
  skip
  refine l_sort_no_1 hX a1 (l_sort_no_2 hX a2 (l_sort_no_3 hX a3 (l_sort_no_4 hX a4 (l_sort_no_5 hX a5 ?_))))
  refine r_iload_n rfl ?_
  refine r_iconst ?_
  refine r_icmp_gt kX6_takeSort_35 (fun c1 => ?_) (fun c1 => absurd c1 (by decide))
  refine r_aload_n rfl ?_
  refine r_iconst ?_
  refine r_cV2I g_38 rfl (Nat.le_of_ble_eq_true rfl) (Nat.le_of_ble_eq_true rfl) (c_X6_fail) ?_
  refine r_zret rfl (by omega) ?_
  exact ⟨rfl, rfl⟩
end CR2
