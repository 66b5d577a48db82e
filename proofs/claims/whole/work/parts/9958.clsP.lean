/-! THE CLASS: tokens and words of a text -/
section CP
variable {sc : aX} {m : aM} {T : Int → Int} {n : Int} {Q : Option aV → aM → Prop}
theorem kX6_pass_0 : az_seek 0 (az_cd 35) = zX6_pass_0 := rfl
def cKd (k : Int) : Int := if k = 0 then 4 else if k = 4 then 0 else k
/-- the tape of the class -/
def cQ (m : aM) (T : Int → Int) (n : Int) : Prop := m 38 1 = n ∧ (0 ≤ n ∧ n ≤ 400) ∧ ∀ x, 0 ≤ x → x < n → (-128 ≤ m 39 x ∧ m 39 x < 128) ∧ T x = m 39 x % 256
/-- token i is at hand -/
def cP (m : aM) (T : Int → Int) (n : Int) (i : Nat) : Prop := cQ m T n ∧ m 38 3 = tB T n i ∧ m 38 4 = tE T n i ∧ m 38 2 = cKd (tK T n i)
theorem cQ_fr {m m' : aM} (h : cQ m T n) (h1 : m' 38 1 = m 38 1) (h2 : m' 39 = m 39) : cQ m' T n := by
  unfold cQ at *
  rw [h1, h2]
  exact h
theorem c_X6_isBetween {x lo hi : Int} (h0 : 0 ≤ x) (h1 : x < 400) : az_CI sc 34 [.inr (.inr 39), .inl x, .inl lo, .inl hi] m (if lo ≤ m 39 x ∧ m 39 x ≤ hi then 1 else 0) m := by
  refine r_aload_n rfl ?_
  refine r_getR g_38 rfl ?_
  refine r_iload_n rfl ?_
  refine r_bald g_39 rfl (by omega) (by decide) (by omega) (by omega) ?_
  refine r_iload_n rfl ?_
  refine r_icmp_lt kX6_isBetween_24 (fun c1 => ?_) (fun c1 => ?_)
  · refine r_iconst ?_
    refine r_zret rfl (by omega) ?_
    exact ⟨az_oI (by first | rw [if_pos (by omega)] | rw [if_neg (by omega)]), rfl⟩
  · refine r_aload_n rfl ?_
    refine r_getR g_38 rfl ?_
    refine r_iload_n rfl ?_
    refine r_bald g_39 rfl (by omega) (by decide) (by omega) (by omega) ?_
    refine r_iload_n rfl ?_
    refine r_icmp_gt kX6_isBetween_24 (fun c2 => ?_) (fun c2 => ?_)
    · refine r_iconst ?_
      refine r_zret rfl (by omega) ?_
      exact ⟨az_oI (by first | rw [if_pos (by omega)] | rw [if_neg (by omega)]), rfl⟩
    · refine r_iconst ?_
      refine r_goto kX6_isBetween_25 ?_
      refine r_zret rfl (by omega) ?_
      exact ⟨az_oI (by first | rw [if_pos (by omega)] | rw [if_neg (by omega)]), rfl⟩
theorem c_X6_pass {lo hi s : Int} (hQ : cQ m T n) (h4 : 0 ≤ m 38 4 ∧ m 38 4 ≤ n) (hs : ∀ x, 0 ≤ x → x < n → ((lo ≤ m 39 x ∧ m 39 x ≤ hi) ↔ pSort (T x) = s)) : az_CV sc 35 [.inr (.inr 39), .inl lo, .inl hi] m (az_up m 38 4 (pRun (pIs T s) n (m 38 4))) := by
  obtain ⟨a, ha⟩ : ∃ a, a = m 38 4 := ⟨_, rfl⟩
  rw [← ha] at h4 ⊢
  show az_E sc az_G 35 zX6_pass_0 [some (.inr (.inr (39))), some (.inl (lo)), some (.inl (hi))] [] m _
  refine az_Em (az_up_same ha.symm).symm ?_
  refine az_whl (α := Unit) (fun _ _ => [some (.inr (.inr (39))), some (.inl (lo)), some (.inl (hi))]) (fun g _ => az_up m 38 4 g) (fun g _ => a ≤ g ∧ pRun (pIs T s) n g = pRun (pIs T s) n a) n (fun g x hgn hp hK => ?_) a () h4.2 ⟨Int.le_refl _, rfl⟩
  obtain ⟨p1, p2⟩ := hp
  have e4 : az_up m 38 4 g 38 4 = g := az_upx _ _ _ _
  have e1 : az_up m 38 4 g 38 1 = n := (az_up_k _ _ (by decide)).trans hQ.1
  have e39 : az_up m 38 4 g 39 g = m 39 g := congrFun (az_up_b _ _ _ (by decide)) _
  have hn := hQ.2.1
  have hbt : g < 400 → az_CI sc 34 [.inr (.inr 39), .inl g, .inl lo, .inl hi] (az_up m 38 4 g) (if lo ≤ m 39 g ∧ m 39 g ≤ hi then 1 else 0) (az_up m 38 4 g) := fun h => by
    rw [← e39]
    exact c_X6_isBetween (by omega) h
  by_cases hc : g < n ∧ pSort (T g) = s
  · have hr := pRun_1 (C := pIs T s) hc.1 (by unfold pIs; exact decide_eq_true hc.2)
    have hh := (hs g (by omega) hc.1).mpr hc.2
    have hK2 := hK () hc.1 ⟨by omega, hr.symm.trans p2⟩
    have hbt2 := hbt (by omega)
    rw [if_pos hh] at hbt2
    refine r_aload_n rfl ?_
    refine r_getIx g_38 (e4) ?_
    refine r_aload_n rfl ?_
    refine r_getIx g_38 (e1) ?_
    refine r_icmp_ge kX6_pass_37 (fun c1 => absurd c1 (by omega)) (fun c1 => ?_)
    refine r_aload_n rfl ?_
    refine r_aload_n rfl ?_
    refine r_getIx g_38 (e4) ?_
    refine r_iload_n rfl ?_
    refine r_iload_n rfl ?_
    refine r_cV4I g_38 rfl (Nat.le_of_ble_eq_true rfl) (Nat.le_of_ble_eq_true rfl) (hbt2) ?_
    refine r_if_eq kX6_pass_37 (fun c2 => absurd c2 (by decide)) (fun c2 => ?_)
    refine r_aload_n rfl ?_
    refine r_dupR ?_
    refine r_getIx g_38 (e4) ?_
    refine r_iconst ?_
    first | refine r_iadd (az_wid (by omega) (by omega)) ?_ | refine r_iaddw ?_
    refine r_putI g_38 (by decide) ?_
    refine r_goto kX6_pass_0 ?_
    rw [az_upup]; exact hK2
  · have hr : pRun (pIs T s) n g = g := pRun_0 (fun q => hc ⟨q.1, by have := q.2; unfold pIs at this; simpa using this⟩)
    have hg : g = pRun (pIs T s) n a := hr.symm.trans p2
    by_cases hgn2 : g < n
    · have hh : ¬ (lo ≤ m 39 g ∧ m 39 g ≤ hi) := fun q => hc ⟨hgn2, (hs g (by omega) hgn2).mp q⟩
      have hbt2 := hbt (by omega)
      rw [if_neg hh] at hbt2
      refine r_aload_n rfl ?_
      refine r_getIx g_38 (e4) ?_
      refine r_aload_n rfl ?_
      refine r_getIx g_38 (e1) ?_
      refine r_icmp_ge kX6_pass_37 (fun c1 => absurd c1 (by omega)) (fun c1 => ?_)
      refine r_aload_n rfl ?_
      refine r_aload_n rfl ?_
      refine r_getIx g_38 (e4) ?_
      refine r_iload_n rfl ?_
      refine r_iload_n rfl ?_
      refine r_cV4I g_38 rfl (Nat.le_of_ble_eq_true rfl) (Nat.le_of_ble_eq_true rfl) (hbt2) ?_
      refine r_if_eq kX6_pass_37 (fun c2 => ?_) (fun c2 => absurd c2 (by decide))
      refine r_vret rfl ?_
      exact ⟨rfl, by rw [hg]⟩
    · refine r_aload_n rfl ?_
      refine r_getIx g_38 (e4) ?_
      refine r_aload_n rfl ?_
      refine r_getIx g_38 (e1) ?_
      refine r_icmp_ge kX6_pass_37 (fun c1 => ?_) (fun c1 => absurd c1 (by omega))
      refine r_vret rfl ?_
      exact ⟨rfl, by rw [hg]⟩
theorem hs_1 (hQ : cQ m T n) : ∀ x, 0 ≤ x → x < n → ((97 ≤ m 39 x ∧ m 39 x ≤ 122) ↔ pSort (T x) = 1) := fun x x0 x1 => by
  have h := hQ.2.2 x x0 x1
  unfold pSort
  (repeat' split) <;> omega
theorem hs_2 (hQ : cQ m T n) : ∀ x, 0 ≤ x → x < n → ((48 ≤ m 39 x ∧ m 39 x ≤ 57) ↔ pSort (T x) = 2) := fun x x0 x1 => by
  have h := hQ.2.2 x x0 x1
  unfold pSort
  (repeat' split) <;> omega
/-- the tape's fields but token, from, to -/
def cF3 (m m' : aM) : Prop := (∀ y, y ≠ 38 → m' y = m y) ∧ ∀ k, k ≠ 2 → k ≠ 3 → k ≠ 4 → m' 38 k = m 38 k
theorem cF3_2 {m a : aM} (h : cF3 m a) (x : Int) : cF3 m (az_up a 38 2 x) := ⟨fun y hy => (az_up_b _ _ _ hy).trans (h.1 y hy), fun k a b c => (az_up_k _ _ a).trans (h.2 k a b c)⟩
theorem cF3_3 {m a : aM} (h : cF3 m a) (x : Int) : cF3 m (az_up a 38 3 x) := ⟨fun y hy => (az_up_b _ _ _ hy).trans (h.1 y hy), fun k a b c => (az_up_k _ _ b).trans (h.2 k a b c)⟩
theorem cF3_4 {m a : aM} (h : cF3 m a) (x : Int) : cF3 m (az_up a 38 4 x) := ⟨fun y hy => (az_up_b _ _ _ hy).trans (h.1 y hy), fun k a b c => (az_up_k _ _ c).trans (h.2 k a b c)⟩
theorem cF3_r (m : aM) : cF3 m m := ⟨fun _ _ => rfl, fun _ _ _ _ => rfl⟩
def qAd (m : aM) (T : Int → Int) (n : Int) (i : Nat) : Option aV → aM → Prop := fun v m' => v = none ∧ cF3 m m' ∧ m' 38 3 = tB T n i ∧ m' 38 4 = tE T n i ∧ m' 38 2 = cKd (tK T n i)
theorem l_X6_adv {i : Nat} (hQ : cQ m T n) : az_E sc az_G 36 zX6_advance_60 [some (.inr (.inr (39)))] [] (az_up m 38 3 (tB T n i)) (qAd m T n i) := by
  have hn := hQ.2.1
  have hA := pA_b (T := T) hn.1 i
  have hB := tB_b (T := T) hn.1 i
  obtain ⟨b, hb⟩ : ∃ b, b = tB T n i := ⟨_, rfl⟩
  rw [← hb] at hB ⊢
  obtain ⟨m2, hm2⟩ : ∃ x, x = az_up (az_up m 38 3 b) 38 4 b := ⟨_, rfl⟩
  have f2 : cF3 m m2 := by rw [hm2]; exact cF3_4 (cF3_3 (cF3_r m) _) _
  have e3 : m2 38 3 = b := by rw [hm2, az_up_k _ _ (by decide), az_upx]
  have e4 : m2 38 4 = b := by rw [hm2, az_upx]
  have e1 : m2 38 1 = n := (f2.2 1 (by decide) (by decide) (by decide)).trans hQ.1
  have e39 : m2 39 = m 39 := f2.1 39 (by decide)
  have hQ2 : cQ m2 T n := cQ_fr hQ (f2.2 1 (by decide) (by decide) (by decide)) e39
  have hk0 := pK0_b T n b
  have hKt : tK T n i = pK T n b := by rw [hb]; rfl
  have hEt : tE T n i = pE T n b := by rw [hb]; rfl
  refine r_aload_n rfl ?_
  refine r_aload_n rfl ?_
  refine r_getIx g_38 (az_upx _ _ _ _) ?_
  refine r_putI g_38 (by decide) ?_
  rw [← hm2]
  by_cases hlt : b < n
  · have ht := hQ2.2.2 b (by omega) hlt
    have hK0 : pK0 T n b = pSort (T b) := by
      unfold pK0
      rw [if_pos hlt]
    by_cases hl : 97 ≤ m2 39 b ∧ m2 39 b ≤ 122
    · have s1 := (hs_1 hQ2 b (by omega) hlt).mp hl
      have hE : pE T n b = pRun (pIs T 1) n b := by
        unfold pE
        rw [hK0, s1, if_pos (Or.inl rfl)]
      have hK : pK T n b = 1 := by
        unfold pK
        rw [hK0, s1, if_neg (by omega)]
      have hps := c_X6_pass (sc := sc) (m := az_up m2 38 2 1) (T := T) (n := n) (lo := 97) (hi := 122) (s := 1) (cQ_fr hQ2 (az_up_k _ _ (by decide)) (az_up_b _ _ _ (by decide))) (by rw [az_up_k _ _ (by decide), e4]; omega) (by rw [az_up_b _ _ _ (by decide)]; exact hs_1 hQ2)
      rw [az_up_k _ _ (by decide), e4, ← hE] at hps
      have hbt := c_X6_isBetween (sc := sc) (m := m2) (x := b) (lo := 97) (hi := 122) (by omega) (by omega)
      rw [if_pos hl] at hbt
      refine r_aload_n rfl ?_
      refine r_getIx g_38 (e3) ?_
      refine r_aload_n rfl ?_
      refine r_getIx g_38 (e1) ?_
      refine r_icmp_lt kX6_advance_87 (fun c1 => ?_) (fun c1 => absurd c1 (by omega))
      refine r_aload_n rfl ?_
      refine r_aload_n rfl ?_
      refine r_getIx g_38 (e3) ?_
      refine r_bipush ?_
      refine r_bipush ?_
      refine r_cV4I g_38 rfl (Nat.le_of_ble_eq_true rfl) (Nat.le_of_ble_eq_true rfl) (hbt) ?_
      refine r_if_eq kX6_advance_118 (fun c2 => absurd c2 (by decide)) (fun c2 => ?_)
      refine r_aload_n rfl ?_
      refine r_iconst ?_
      refine r_putI g_38 (by decide) ?_
      refine r_aload_n rfl ?_
      refine r_bipush ?_
      refine r_bipush ?_
      refine r_cV3V g_38 rfl (Nat.le_of_ble_eq_true rfl) (Nat.le_of_ble_eq_true rfl) (hps) ?_
      refine r_goto kX6_advance_199 ?_
      refine r_vret rfl ?_
      refine ⟨rfl, cF3_4 (cF3_2 f2 _) _, ?_, ?_, ?_⟩
      · rw [az_up_k _ _ (by decide), az_up_k _ _ (by decide), e3]
        exact hb
      · rw [az_upx, hEt]
      · rw [az_up_k _ _ (by decide), az_upx, hKt, hK]
        rfl
    · have hbt := c_X6_isBetween (sc := sc) (m := m2) (x := b) (lo := 97) (hi := 122) (by omega) (by omega)
      rw [if_neg hl] at hbt
      have n1 : pSort (T b) ≠ 1 := fun q => hl ((hs_1 hQ2 b (by omega) hlt).mpr q)
      by_cases hd : 48 ≤ m2 39 b ∧ m2 39 b ≤ 57
      · have s2 := (hs_2 hQ2 b (by omega) hlt).mp hd
        have hE : pE T n b = pRun (pIs T 2) n b := by
          unfold pE
          rw [hK0, s2, if_pos (Or.inr rfl)]
        have hEb := pE_b (T := T) hB.2
        have hbt2 := c_X6_isBetween (sc := sc) (m := m2) (x := b) (lo := 48) (hi := 57) (by omega) (by omega)
        rw [if_pos hd] at hbt2
        have hps := c_X6_pass (sc := sc) (m := m2) (T := T) (n := n) (lo := 48) (hi := 57) (s := 2) hQ2 (by rw [e4]; omega) (hs_2 hQ2)
        rw [e4, ← hE] at hps
        obtain ⟨m3, hm3⟩ : ∃ x, x = az_up m2 38 4 (pE T n b) := ⟨_, rfl⟩
        rw [← hm3] at hps
        have e34 : m3 38 4 = pE T n b := by rw [hm3, az_upx]
        have e33 : m3 38 3 = b := by rw [hm3, az_up_k _ _ (by decide), e3]
        have f3 : cF3 m m3 := by rw [hm3]; exact cF3_4 f2 _
        have hKk : pK T n b = if 3 < pE T n b - b then 4 else 2 := by
          unfold pK
          rw [hK0, s2]
          by_cases h3 : 3 < pE T n b - b
          · rw [if_pos ⟨rfl, h3⟩, if_pos h3]
          · rw [if_neg (fun q => h3 q.2), if_neg h3]
        have H : ∀ x, x = cKd (pK T n b) → az_E sc az_G 36 zX6_advance_160 [some (.inr (.inr (39)))] [.inl x, .inr (.inr 39)] m3 (qAd m T n i) := by
          intro x hx
          refine r_putI g_38 (by decide) ?_
          refine r_goto kX6_advance_199 ?_
          refine r_vret rfl ?_
          refine ⟨rfl, cF3_2 f3 _, ?_, ?_, ?_⟩
          · rw [az_up_k _ _ (by decide), e33]
            exact hb
          · rw [az_up_k _ _ (by decide), e34, hEt]
          · rw [az_upx, hKt, hx]
        refine r_aload_n rfl ?_
        refine r_getIx g_38 (e3) ?_
        refine r_aload_n rfl ?_
        refine r_getIx g_38 (e1) ?_
        refine r_icmp_lt kX6_advance_87 (fun c1 => ?_) (fun c1 => absurd c1 (by omega))
        refine r_aload_n rfl ?_
        refine r_aload_n rfl ?_
        refine r_getIx g_38 (e3) ?_
        refine r_bipush ?_
        refine r_bipush ?_
        refine r_cV4I g_38 rfl (Nat.le_of_ble_eq_true rfl) (Nat.le_of_ble_eq_true rfl) (hbt) ?_
        refine r_if_eq kX6_advance_118 (fun c2 => ?_) (fun c2 => absurd c2 (by decide))
        refine r_aload_n rfl ?_
        refine r_aload_n rfl ?_
        refine r_getIx g_38 (e3) ?_
        refine r_bipush ?_
        refine r_bipush ?_
        refine r_cV4I g_38 rfl (Nat.le_of_ble_eq_true rfl) (Nat.le_of_ble_eq_true rfl) (hbt2) ?_
        refine r_if_eq kX6_advance_166 (fun c3 => absurd c3 (by decide)) (fun c3 => ?_)
        refine r_aload_n rfl ?_
        refine r_bipush ?_
        refine r_bipush ?_
        refine r_cV3V g_38 rfl (Nat.le_of_ble_eq_true rfl) (Nat.le_of_ble_eq_true rfl) (hps) ?_
        refine r_aload_n rfl ?_
        refine r_aload_n rfl ?_
        refine r_getIx g_38 (e34) ?_
        refine r_aload_n rfl ?_
        refine r_getIx g_38 (e33) ?_
        first | refine r_isub (az_wid (by omega) (by omega)) ?_ | refine r_isubw ?_
        refine r_iconst ?_
        refine r_icmp_gt kX6_advance_159 (fun c4 => ?_) (fun c4 => ?_)
        · refine r_iconst ?_
          exact H _ (by rw [hKk]; first | (rw [if_neg (by omega)]; rfl) | (rw [if_pos (by omega)]; rfl))
        · refine r_iconst ?_
          refine r_goto kX6_advance_160 ?_
          exact H _ (by rw [hKk]; first | (rw [if_neg (by omega)]; rfl) | (rw [if_pos (by omega)]; rfl))
      · have hbt2 := c_X6_isBetween (sc := sc) (m := m2) (x := b) (lo := 48) (hi := 57) (by omega) (by omega)
        rw [if_neg hd] at hbt2
        have n2 : pSort (T b) ≠ 2 := fun q => hd ((hs_2 hQ2 b (by omega) hlt).mpr q)
        have hsb := pSort_b (T b)
        have hE : pE T n b = b + 1 := by
          unfold pE
          rw [hK0, if_neg (by omega), if_pos (by omega)]
        have hK : pK T n b = pSort (T b) := by
          unfold pK
          rw [hK0, if_neg (by omega)]
        have h3 : m2 39 b = 59 ↔ pSort (T b) = 3 := by
          unfold pSort
          (repeat' split) <;> omega
        have H : ∀ x, x = cKd (pK T n b) → az_E sc az_G 36 zX6_advance_186 [some (.inr (.inr (39)))] [.inl x, .inr (.inr 39)] m2 (qAd m T n i) := by
          intro x hx
          have e32 : az_up m2 38 2 x 38 3 = b := (az_up_k _ _ (by decide)).trans e3
          refine r_putI g_38 (by decide) ?_
          refine r_aload_n rfl ?_
          refine r_aload_n rfl ?_
          refine r_getIx g_38 (e32) ?_
          refine r_iconst ?_
          first | refine r_iadd (az_wid (by omega) (by omega)) ?_ | refine r_iaddw ?_
          refine r_putI g_38 (by decide) ?_
          refine r_vret rfl ?_
          refine ⟨rfl, cF3_4 (cF3_2 f2 _) _, ?_, ?_, ?_⟩
          · rw [az_up_k _ _ (by decide), az_up_k _ _ (by decide), e3]
            exact hb
          · rw [az_upx, hEt, hE]
          · rw [az_up_k _ _ (by decide), az_upx, hKt, hx]
        refine r_aload_n rfl ?_
        refine r_getIx g_38 (e3) ?_
        refine r_aload_n rfl ?_
        refine r_getIx g_38 (e1) ?_
        refine r_icmp_lt kX6_advance_87 (fun c1 => ?_) (fun c1 => absurd c1 (by omega))
        refine r_aload_n rfl ?_
        refine r_aload_n rfl ?_
        refine r_getIx g_38 (e3) ?_
        refine r_bipush ?_
        refine r_bipush ?_
        refine r_cV4I g_38 rfl (Nat.le_of_ble_eq_true rfl) (Nat.le_of_ble_eq_true rfl) (hbt) ?_
        refine r_if_eq kX6_advance_118 (fun c2 => ?_) (fun c2 => absurd c2 (by decide))
        refine r_aload_n rfl ?_
        refine r_aload_n rfl ?_
        refine r_getIx g_38 (e3) ?_
        refine r_bipush ?_
        refine r_bipush ?_
        refine r_cV4I g_38 rfl (Nat.le_of_ble_eq_true rfl) (Nat.le_of_ble_eq_true rfl) (hbt2) ?_
        refine r_if_eq kX6_advance_166 (fun c3 => ?_) (fun c3 => absurd c3 (by decide))
        refine r_aload_n rfl ?_
        refine r_aload_n rfl ?_
        refine r_getR g_38 rfl ?_
        refine r_aload_n rfl ?_
        refine r_getIx g_38 (e3) ?_
        refine r_bald g_39 rfl (by omega) (by decide) (by omega) (by omega) ?_
        refine r_bipush ?_
        refine r_icmp_ne kX6_advance_185 (fun c4 => ?_) (fun c4 => ?_)
        · refine r_iconst ?_
          exact H _ (by rw [hK]; unfold cKd; first | rw [show pSort (T b) = 3 by omega]; rfl | rw [show pSort (T b) = 4 by omega]; rfl)
        · refine r_iconst ?_
          refine r_goto kX6_advance_186 ?_
          exact H _ (by rw [hK]; unfold cKd; first | rw [show pSort (T b) = 3 by omega]; rfl | rw [show pSort (T b) = 4 by omega]; rfl)
  · have hK0 : pK0 T n b = 0 := by omega
    have hE : pE T n b = b := by
      unfold pE
      rw [hK0, if_neg (by decide), if_neg (by decide)]
    have hK : pK T n b = 0 := by
      unfold pK
      rw [hK0, if_neg (by omega)]
    refine r_aload_n rfl ?_
    refine r_getIx g_38 (e3) ?_
    refine r_aload_n rfl ?_
    refine r_getIx g_38 (e1) ?_
    refine r_icmp_lt kX6_advance_87 (fun c1 => absurd c1 (by omega)) (fun c1 => ?_)
    refine r_aload_n rfl ?_
    refine r_iconst ?_
    refine r_putI g_38 (by decide) ?_
    refine r_goto kX6_advance_199 ?_
    refine r_vret rfl ?_
    refine ⟨rfl, cF3_2 f2 _, ?_, ?_, ?_⟩
    · rw [az_up_k _ _ (by decide), e3]
      exact hb
    · rw [az_up_k _ _ (by decide), e4, hEt, hE]
    · rw [az_upx, hKt, hK]
      rfl
theorem c_X6_advance {i : Nat} (hQ : cQ m T n) (h4 : m 38 4 = pA T n i) : az_C sc az_G 36 [.inr (.inr 39)] m (qAd m T n i) := by
  have hn := hQ.2.1
  have hA := pA_b (T := T) hn.1 i
  refine r_aload_n rfl ?_
  refine r_aload_n rfl ?_
  refine r_getIx g_38 (h4) ?_
  refine r_putI g_38 (by decide) ?_
  skip
  refine az_whl (α := Unit) (fun _ _ => [some (.inr (.inr (39)))]) (fun g _ => az_up m 38 3 g) (fun g _ => pA T n i ≤ g ∧ pB T n g = tB T n i) n (fun g x hgn hp hK => ?_) (pA T n i) () hA.2 ⟨Int.le_refl _, rfl⟩
  obtain ⟨p1, p2⟩ := hp
  have e3 : az_up m 38 3 g 38 3 = g := az_upx _ _ _ _
  have e1 : az_up m 38 3 g 38 1 = n := (az_up_k _ _ (by decide)).trans hQ.1
  have e39 : az_up m 38 3 g 39 = m 39 := az_up_b _ _ _ (by decide)
  have ht := fun h : g < n => hQ.2.2 g (by omega) h
  by_cases hc : g < n ∧ (T g = 32 ∨ T g = 10)
  · have hr : pB T n g = pB T n (g + 1) := pRun_1 hc.1 (by unfold pBlk; exact decide_eq_true hc.2)
    have hK2 := hK () hc.1 ⟨by omega, hr.symm.trans p2⟩
    have h2 : m 39 g = 32 ∨ m 39 g = 10 := by
      have := ht hc.1
      omega
    refine r_aload_n rfl ?_
    refine r_getIx g_38 (e3) ?_
    refine r_aload_n rfl ?_
    refine r_getIx g_38 (e1) ?_
    refine r_icmp_ge kX6_advance_60 (fun c1 => absurd c1 (by omega)) (fun c1 => ?_)
    refine r_aload_n rfl ?_
    refine r_getR g_38 rfl ?_
    refine r_aload_n rfl ?_
    refine r_getIx g_38 (e3) ?_
    refine r_baldx g_39 rfl (by omega) (by decide) (by omega) (by omega) (congrFun e39 _) ?_
    refine r_bipush ?_
    refine r_icmp_eq kX6_advance_47 (fun c2 => ?_) (fun c2 => ?_)
    · refine r_aload_n rfl ?_
      refine r_dupR ?_
      refine r_getIx g_38 (e3) ?_
      refine r_iconst ?_
      first | refine r_iadd (az_wid (by omega) (by omega)) ?_ | refine r_iaddw ?_
      refine r_putI g_38 (by decide) ?_
      refine r_goto kX6_advance_8 ?_
      rw [az_upup]; exact hK2
    · refine r_aload_n rfl ?_
      refine r_getR g_38 rfl ?_
      refine r_aload_n rfl ?_
      refine r_getIx g_38 (e3) ?_
      refine r_baldx g_39 rfl (by omega) (by decide) (by omega) (by omega) (congrFun e39 _) ?_
      refine r_bipush ?_
      refine r_icmp_ne kX6_advance_60 (fun c3 => absurd c3 (by omega)) (fun c3 => ?_)
      refine r_aload_n rfl ?_
      refine r_dupR ?_
      refine r_getIx g_38 (e3) ?_
      refine r_iconst ?_
      first | refine r_iadd (az_wid (by omega) (by omega)) ?_ | refine r_iaddw ?_
      refine r_putI g_38 (by decide) ?_
      refine r_goto kX6_advance_8 ?_
      rw [az_upup]; exact hK2
  · have hr : pB T n g = g := pRun_0 (fun q => hc ⟨q.1, by have := q.2; unfold pBlk at this; simpa using this⟩)
    have hg : g = tB T n i := hr.symm.trans p2
    have hX := l_X6_adv (sc := sc) (i := i) hQ
    rw [← hg] at hX
    have h2 : g < n → m 39 g ≠ 32 ∧ m 39 g ≠ 10 := fun h => by
      have := ht h
      omega
    by_cases hgn2 : g < n
    · have h3 := h2 hgn2
      refine r_aload_n rfl ?_
      refine r_getIx g_38 (e3) ?_
      refine r_aload_n rfl ?_
      refine r_getIx g_38 (e1) ?_
      refine r_icmp_ge kX6_advance_60 (fun c1 => absurd c1 (by omega)) (fun c1 => ?_)
      refine r_aload_n rfl ?_
      refine r_getR g_38 rfl ?_
      refine r_aload_n rfl ?_
      refine r_getIx g_38 (e3) ?_
      refine r_baldx g_39 rfl (by omega) (by decide) (by omega) (by omega) (congrFun e39 _) ?_
      refine r_bipush ?_
      refine r_icmp_eq kX6_advance_47 (fun c2 => absurd c2 (by omega)) (fun c2 => ?_)
      refine r_aload_n rfl ?_
      refine r_getR g_38 rfl ?_
      refine r_aload_n rfl ?_
      refine r_getIx g_38 (e3) ?_
      refine r_baldx g_39 rfl (by omega) (by decide) (by omega) (by omega) (congrFun e39 _) ?_
      refine r_bipush ?_
      refine r_icmp_ne kX6_advance_60 (fun c3 => ?_) (fun c3 => absurd c3 (by omega))
      exact hX
    · refine r_aload_n rfl ?_
      refine r_getIx g_38 (e3) ?_
      refine r_aload_n rfl ?_
      refine r_getIx g_38 (e1) ?_
      refine r_icmp_ge kX6_advance_60 (fun c1 => ?_) (fun c1 => absurd c1 (by omega))
      exact hX
/-! words -/
def iTx (m : aM) : Prop := ∀ a : Nat, 2 ≤ a → a < 19 → ∀ j : Nat, j < (az_G.getD a (0, 0, [])).2.1 → m a (j : Int) = az_m0 a (j : Int)
theorem iTx_fr {m m' : aM} (h : iTx m) (hf : ∀ a, a < 19 → m' a = m a) : iTx m' := fun a a0 a1 j j0 => by
  rw [hf a a1]
  exact h a a0 a1 j j0
theorem by_255 : ∀ b : Fin 128, az_and (b.val : Int) 255 = (b.val : Int) ∧ az_i2c (b.val : Int) = (b.val : Int) := by decide +kernel
theorem by_255i {b : Int} (h0 : 0 ≤ b) (h1 : b < 128) : az_and b 255 = b ∧ az_i2c b = b := by
  have := by_255 ⟨b.toNat, by omega⟩
  have e : ((b.toNat : Nat) : Int) = b := by omega
  simp only [e] at this
  exact this
theorem c_checkIndex3 {x l : Int} {r : Nat} (h0 : 0 ≤ x) (h1 : x < l) : az_CI sc 41 [.inl x, .inl l, .inr (.inr r)] m x m := by
  refine r_iload_n rfl ?_
  refine r_if_lt kJ3_checkIndex_8e157_9 (fun c1 => absurd c1 (by omega)) (fun c1 => ?_)
  refine r_iload_n rfl ?_
  refine r_iload_n rfl ?_
  refine r_icmp_lt kJ3_checkIndex_8e157_16 (fun c2 => ?_) (fun c2 => absurd c2 (by omega))
  refine r_iload_n rfl ?_
  refine r_iret rfl ?_
  exact ⟨rfl, rfl⟩
theorem c_checkIndex0 {x l : Int} (h0 : 0 ≤ x) (h1 : x < l) : az_CV sc 42 [.inl x, .inl l] m m := by
  refine r_iload_n rfl ?_
  refine r_iload_n rfl ?_
  refine r_gst2 ?_
  refine r_cS3I (by decide) (Nat.le_of_ble_eq_true rfl) (Nat.le_of_ble_eq_true rfl) (c_checkIndex3 h0 h1) ?_
  refine r_pop ?_
  refine r_vret rfl ?_
  exact ⟨rfl, rfl⟩
theorem c_isWordG {s : Nat} {rs : List Nat} {L : Int} {lt : Int → Int} {ws : List Int} {i : Nat} (hS_0 : az_G[s]? = some (9, 2, rs)) (hlen : az_CI sc 39 [.inr (.inr (s + 1))] m L m) (hch : ∀ x, 0 ≤ x → x < L → az_CI sc 48 [.inr (.inr (s + 1)), .inl x] m (lt x) m) (hL : 0 ≤ L ∧ L ≤ 5) (hw : ∀ b k : Int, 0 ≤ k → (rl T b k.toNat = ws ↔ (k = L ∧ ∀ y, 0 ≤ y → y < L → T (b + y) = lt y))) (hlt : ∀ y, 0 ≤ lt y ∧ lt y < 128) (hP : cP m T n i) : az_CI sc 49 [.inr (.inr 39), .inr (.inr (s + 1))] m (1 - kW T n ws i) m := by
  obtain ⟨hQ, h3, h4, h2⟩ := hP
  have hn := hQ.2.1
  have hA := pA_b (T := T) hn.1 i
  have hB := tB_b (T := T) hn.1 i
  have hE := tE_b (T := T) hn.1 i
  have hr := hw (tB T n i) (tE T n i - tB T n i) (by omega)
  have hr : tL T n i = ws ↔ (tE T n i - tB T n i = L ∧ ∀ y, 0 ≤ y → y < L → T (tB T n i + y) = lt y) := hr
  have hkk : cKd (tK T n i) = 1 ↔ tK T n i = 1 := by
    unfold cKd
    (repeat' split) <;> omega
  unfold kW
  by_cases hk : tK T n i = 1
  · by_cases hl : tE T n i - tB T n i = L
    · refine r_aload_n rfl ?_
      refine r_getIx g_38 (h2) ?_
      refine r_iconst ?_
      refine r_icmp_ne kX6_isWord_24 (fun c1 => absurd c1 (by omega)) (fun c1 => ?_)
      refine r_aload_n rfl ?_
      refine r_cV1I hS_0 rfl (Nat.le_of_ble_eq_true rfl) (Nat.le_of_ble_eq_true rfl) (hlen) ?_
      refine r_aload_n rfl ?_
      refine r_getIx g_38 (h4) ?_
      refine r_aload_n rfl ?_
      refine r_getIx g_38 (h3) ?_
      first | refine r_isub (az_wid (by omega) (by omega)) ?_ | refine r_isubw ?_
      refine r_icmp_eq kX6_isWord_26 (fun c2 => ?_) (fun c2 => absurd c2 (by omega))
      refine r_iconst ?_
      refine r_istore_n (Nat.le_of_ble_eq_true rfl) rfl ?_
      skip
      refine az_lop (α := Unit) (fun y _ => [some (.inr (.inr (39))), some (.inr (.inr (s + 1))), some (.inl (y))]) (fun _ => m) (fun y _ => ∀ z, 0 ≤ z → z < y → T (tB T n i + z) = lt z) 0 L () hL.1 (fun z z0 z1 => by omega) (fun y a y0 y1 hp hK => ?_) (fun a hp => ?_)
      · have ht := hQ.2.2 (tB T n i + y) (by omega) (by omega)
        have hb := hlt y
        have he : m 39 (tB T n i + y) = lt y ↔ T (tB T n i + y) = lt y := by
          clear hr hp hK hw
          omega
        by_cases hc : m 39 (tB T n i + y) = lt y
        · refine r_iload_n rfl ?_
          refine r_aload_n rfl ?_
          refine r_cV1I hS_0 rfl (Nat.le_of_ble_eq_true rfl) (Nat.le_of_ble_eq_true rfl) (hlen) ?_
          refine r_icmp_ge kX6_isWord_63 (fun c1 => absurd c1 (by omega)) (fun c1 => ?_)
          refine r_aload_n rfl ?_
          refine r_iload_n rfl ?_
          refine r_cV2I hS_0 rfl (Nat.le_of_ble_eq_true rfl) (Nat.le_of_ble_eq_true rfl) (hch y y0 y1) ?_
          refine r_aload_n rfl ?_
          refine r_getR g_38 rfl ?_
          refine r_aload_n rfl ?_
          refine r_getIx g_38 (h3) ?_
          refine r_iload_n rfl ?_
          first | refine r_iadd (az_wid (by omega) (by omega)) ?_ | refine r_iaddw ?_
          refine r_baldx g_39 rfl (by omega) (by decide) (by omega) (by omega) (hc) ?_
          refine r_icmp_eq kX6_isWord_57 (fun c2 => ?_) (fun c2 => absurd c2 (fun q => q rfl))
          refine r_iinc rfl (az_wid (by omega) (by omega)) rfl ?_
          refine r_goto kX6_isWord_28 ?_
          exact hK () (fun z z0 z1 => (if e : z = y then by rw [e]; exact he.mp hc else hp z z0 (by omega)))
        · refine r_iload_n rfl ?_
          refine r_aload_n rfl ?_
          refine r_cV1I hS_0 rfl (Nat.le_of_ble_eq_true rfl) (Nat.le_of_ble_eq_true rfl) (hlen) ?_
          refine r_icmp_ge kX6_isWord_63 (fun c1 => absurd c1 (by omega)) (fun c1 => ?_)
          refine r_aload_n rfl ?_
          refine r_iload_n rfl ?_
          refine r_cV2I hS_0 rfl (Nat.le_of_ble_eq_true rfl) (Nat.le_of_ble_eq_true rfl) (hch y y0 y1) ?_
          refine r_aload_n rfl ?_
          refine r_getR g_38 rfl ?_
          refine r_aload_n rfl ?_
          refine r_getIx g_38 (h3) ?_
          refine r_iload_n rfl ?_
          first | refine r_iadd (az_wid (by omega) (by omega)) ?_ | refine r_iaddw ?_
          refine r_bald g_39 rfl (by omega) (by decide) (by omega) (by omega) ?_
          refine r_icmp_eq kX6_isWord_57 (fun c2 => absurd c2 (fun q => hc q.symm)) (fun c2 => ?_)
          refine r_iconst ?_
          refine r_zret rfl (by omega) ?_
          exact ⟨az_oI (by rw [if_neg (fun q => hc (he.mpr ((hr.mp q.2).2 y y0 y1)))]; rfl), rfl⟩
      · refine r_iload_n rfl ?_
        refine r_aload_n rfl ?_
        refine r_cV1I hS_0 rfl (Nat.le_of_ble_eq_true rfl) (Nat.le_of_ble_eq_true rfl) (hlen) ?_
        refine r_icmp_ge kX6_isWord_63 (fun c1 => ?_) (fun c1 => absurd c1 (by omega))
        refine r_iconst ?_
        refine r_zret rfl (by omega) ?_
        exact ⟨az_oI (by rw [if_pos ⟨hk, hr.mpr ⟨hl, hp⟩⟩]; rfl), rfl⟩
    · rw [if_neg (fun q => hl (hr.mp q.2).1)]
      refine r_aload_n rfl ?_
      refine r_getIx g_38 (h2) ?_
      refine r_iconst ?_
      refine r_icmp_ne kX6_isWord_24 (fun c1 => absurd c1 (by omega)) (fun c1 => ?_)
      refine r_aload_n rfl ?_
      refine r_cV1I hS_0 rfl (Nat.le_of_ble_eq_true rfl) (Nat.le_of_ble_eq_true rfl) (hlen) ?_
      refine r_aload_n rfl ?_
      refine r_getIx g_38 (h4) ?_
      refine r_aload_n rfl ?_
      refine r_getIx g_38 (h3) ?_
      first | refine r_isub (az_wid (by omega) (by omega)) ?_ | refine r_isubw ?_
      refine r_icmp_eq kX6_isWord_26 (fun c2 => absurd c2 (by omega)) (fun c2 => ?_)
      refine r_iconst ?_
      refine r_zret rfl (by omega) ?_
      exact ⟨rfl, rfl⟩
  · rw [if_neg (fun q => hk q.1)]
    refine r_aload_n rfl ?_
    refine r_getIx g_38 (h2) ?_
    refine r_iconst ?_
    refine r_icmp_ne kX6_isWord_24 (fun c1 => ?_) (fun c1 => absurd c1 (by omega))
    refine r_iconst ?_
    refine r_zret rfl (by omega) ?_
    exact ⟨rfl, rfl⟩
end CP
