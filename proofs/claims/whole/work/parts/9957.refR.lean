/-! THE REFERENCE: a beach is read -/
section RR
variable {sc : aX} {m : aM} {T : Int → Int} {n : Int} {Q : Option aV → aM → Prop}
theorem pRd_S {g : Nat} (hg : g < 4) {F : Int → Int} (hF : ∀ j, 0 ≤ j → j < 44 → F j = pRd T n g j) : ∀ j, 0 ≤ j → j < 44 → gF F T n g j = pRd T n ((g : Int) + 1) j := by
  intro j j0 j1
  unfold gF
  by_cases h2 : j = 2
  · subst h2
    rw [up1_at]
    unfold pRd
    rw [if_neg (by decide), if_neg (by decide), if_pos rfl]
  rw [up1_ne _ _ h2]
  by_cases h20 : j = 20 + (g : Int)
  · subst h20
    rw [up1_at]
    unfold pRd
    rw [if_neg (by omega), if_neg (by omega), if_neg (by omega), if_neg (by omega), if_neg (by omega), if_neg (by omega), if_pos (by omega), show (20 + (g : Int) - 20).toNat = g by omega]
  rw [up1_ne _ _ h20]
  by_cases h24 : j = 24 + (g : Int)
  · subst h24
    rw [up1_at]
    unfold pRd
    rw [if_neg (by omega), if_neg (by omega), if_neg (by omega), if_neg (by omega), if_neg (by omega), if_neg (by omega), if_neg (by omega), if_pos (by omega), show (24 + (g : Int) - 24).toNat = g by omega]
  rw [up1_ne _ _ h24]
  by_cases h16 : j = 16 + (g : Int)
  · subst h16
    rw [up1_at]
    unfold pRd
    rw [if_neg (by omega), if_neg (by omega), if_neg (by omega), if_neg (by omega), if_neg (by omega), if_pos (by omega), show (16 + (g : Int) - 16).toNat = g by omega]
  rw [up1_ne _ _ h16]
  by_cases h12 : j = 12 + (g : Int)
  · subst h12
    rw [up1_at]
    unfold pRd
    rw [if_neg (by omega), if_neg (by omega), if_neg (by omega), if_neg (by omega), if_pos (by omega), show (12 + (g : Int) - 12).toNat = g by omega]
  rw [up1_ne _ _ h12, hF j j0 j1]
  have c1 : (12 ≤ j ∧ j < 12 + ((g : Int) + 1)) ↔ (12 ≤ j ∧ j < 12 + (g : Int)) := by omega
  have c2 : (16 ≤ j ∧ j < 16 + ((g : Int) + 1)) ↔ (16 ≤ j ∧ j < 16 + (g : Int)) := by omega
  have c3 : (20 ≤ j ∧ j < 20 + ((g : Int) + 1)) ↔ (20 ≤ j ∧ j < 20 + (g : Int)) := by omega
  have c4 : (24 ≤ j ∧ j < 24 + ((g : Int) + 1)) ↔ (24 ≤ j ∧ j < 24 + (g : Int)) := by omega
  unfold pRd
  simp only [c1, c2, c3, c4, if_neg h2]
/-- law and prices -/
def pRp (T : Int → Int) (n h : Int) : Int → Int := fun j => if j = 0 then tV T n 1 else if j = 1 then tV T n 2 else if 6 ≤ j ∧ j < 6 + h then tV T n (5 + (j - 6).toNat) else 0
theorem pRp_S {h : Int} (h0 : 0 ≤ h) {F : Int → Int} (hF : ∀ j, 0 ≤ j → j < 44 → F j = pRp T n h j) : ∀ j, 0 ≤ j → j < 44 → up1 F (6 + h) (tV T n (5 + h.toNat)) j = pRp T n (h + 1) j := by
  intro j j0 j1
  by_cases e : j = 6 + h
  · subst e
    rw [up1_at]
    unfold pRp
    rw [if_neg (by omega), if_neg (by omega), if_pos (by omega), show (6 + h - 6).toNat = h.toNat by omega]
  · rw [up1_ne _ _ e, hF j j0 j1]
    have c1 : (6 ≤ j ∧ j < 6 + (h + 1)) ↔ (6 ≤ j ∧ j < 6 + h) := by omega
    unfold pRp
    simp only [c1]
theorem pRp_6 (j : Int) : pRp T n 6 j = pRd T n 0 j := by
  unfold pRp pRd
  have c1 : (6 ≤ j ∧ j < 6 + 6) ↔ (6 ≤ j ∧ j < 12) := by omega
  simp only [c1]
  by_cases h0 : j = 0
  · rw [if_pos h0, if_pos h0]
  · rw [if_neg h0, if_neg h0]
    by_cases h1 : j = 1
    · rw [if_pos h1, if_pos h1]
    · rw [if_neg h1, if_neg h1]
      by_cases h6 : 6 ≤ j ∧ j < 12
      · rw [if_pos h6, if_neg (by omega), if_pos h6]
      · rw [if_neg h6, if_neg h6, if_neg (show ¬ (12 ≤ j ∧ j < 12 + 0) by omega), if_neg (show ¬ (16 ≤ j ∧ j < 16 + 0) by omega), if_neg (show ¬ (20 ≤ j ∧ j < 20 + 0) by omega), if_neg (show ¬ (24 ≤ j ∧ j < 24 + 0) by omega)]
        split <;> rfl
def qRd (m : aM) (T : Int → Int) (n : Int) : Option aV → aM → Prop := fun v m' => rFr m m' ∧ (((pR T n 0).1 = 0 ∧ v = some (.inl 1) ∧ m' 279 6 = m 279 6 ∧ (0 ≤ (pR T n 0).2 ∧ (pR T n 0).2 ≤ 4) ∧ ∀ j, 0 ≤ j → j < 44 → m' 289 j = pRd T n (pR T n 0).2 j) ∨ ((pR T n 0).1 ≠ 0 ∧ v = some (.inl 0) ∧ m' 279 6 = (pR T n 0).1 ∧ m' 279 16 = (pR T n 0).2))
theorem qRd_no {m m' : aM} {ck b : Int} (hf : rFr m m') (hR : pR T n 0 = (ck, b)) (hc : ck ≠ 0) (h6 : m' 279 6 = ck) (h16 : m' 279 16 = b) : qRd m T n (some (.inl 0)) m' := by
  refine ⟨hf, Or.inr ?_⟩
  rw [hR]
  exact ⟨hc, rfl, h6, h16⟩
/-- the guests -/
theorem l_X8_reads {m0 : aM} {x : Int} (hf : rFr m0 m) (hT : rTk m T n 12) (hR : pR T n 0 = pR T n 12) (h6 : m 279 6 = m0 279 6) (hF : ∀ j, 0 ≤ j → j < 44 → m 289 j = pRd T n 0 j) : az_E sc az_G 74 zX8_reads_119 [some (.inr (.inr 280)), some (.inl (x))] [] m (qRd m0 T n) := by
  refine az_whl (α := aM) (fun _ _ => [some (.inr (.inr 280)), some (.inl (x))]) (fun _ a => a) (fun g a => 0 ≤ g ∧ rFr m0 a ∧ rTk a T n (12 + 6 * g.toNat) ∧ pR T n 0 = pR T n (12 + 6 * g.toNat) ∧ a 279 6 = m0 279 6 ∧ ∀ j, 0 ≤ j → j < 44 → a 289 j = pRd T n (g.toNat : Int) j) 4 (fun g a hg4 hp hK => ?_) 0 m (by decide) ⟨Int.le_refl _, hf, hT, hR, h6, hF⟩
  obtain ⟨g0, p1, p2, p3, p4, p5⟩ := hp
  obtain ⟨k, hk⟩ : ∃ k : Nat, k = g.toNat := ⟨_, rfl⟩
  rw [← hk] at p2 p3 p5
  have hkg : g = (k : Int) := by omega
  by_cases ht : tK T n (12 + 6 * k) = 0
  · have hE := pR_end (T := T) (n := n) (g := k) (by omega) ht
    rw [hE] at p3
    refine r_aload_n rfl ?_
    refine r_getIx g_279 (p2.2.2.1) ?_
    refine r_if_eq kX8_reads_142 (fun c1 => ?_) (fun c1 => absurd c1 (by omega))
    refine r_iconst ?_
    refine r_zret rfl (by omega) ?_
    refine ⟨p1, Or.inl ?_⟩; rw [p3]; exact ⟨rfl, rfl, p4, by dsimp only; omega, p5⟩
  · have h2 : a 289 2 = (k : Int) := by
      rw [p5 2 (by decide) (by decide)]
      unfold pRd
      rw [if_neg (by decide), if_neg (by decide), if_pos rfl]
    have e17 := p2.2.2.1
    refine r_aload_n rfl ?_
    refine r_getIx g_279 (e17) ?_
    refine r_if_eq kX8_reads_142 (fun c1 => absurd c1 (by omega)) (fun c1 => ?_)
    refine r_aload_n rfl ?_
    refine r_cV1 g_279 rfl (Nat.le_of_ble_eq_true rfl) (Nat.le_of_ble_eq_true rfl) (c_X8_readsGuest (by omega) p2 ht h2) (fun v_127 m_127 hq_127 => ?_)
    obtain ⟨u1, u2⟩ := hq_127
    skip
    rcases u2 with ⟨rfl, v1, v2, v3, v4, v5⟩ | ⟨rfl, v1, v2⟩
    · have hP1 : rP m_127 T n (12 + 6 * (k + 1)) := rP_fr p2.1 u1 v3
      refine r_if_ne kX8_reads_135 (fun c1 => ?_) (fun c1 => absurd c1 (by decide))
      refine r_aload_n rfl ?_
      refine r_cV1 g_279 rfl (Nat.le_of_ble_eq_true rfl) (Nat.le_of_ble_eq_true rfl) (c_X8_nextT hP1) (fun v_136 m_136 hq_136 => ?_)
      obtain ⟨rfl, q1, q2, q3, q4, q5, q6, q7⟩ := hq_136
      refine r_goto kX8_reads_119 ?_
      skip
      have e1 : 12 + 6 * (g + 1).toNat = 12 + 6 * (k + 1) := by omega
      refine hK _ (by omega) ⟨by omega, rFr_t p1 (rFr_t u1 q1), ?_, ?_, ?_, ?_⟩
      · rw [e1]
        exact ⟨rP_fr hP1 q1 q4, q5, q6, fun h => q7 (Or.inl h)⟩
      · rw [e1, p3]
        exact v2
      · rw [q3, v4]
        exact p4
      · intro j j0 j1
        rw [q2, v5, show ((g + 1).toNat : Int) = (k : Int) + 1 by omega]
        exact pRd_S v1 p5 j j0 j1
    · refine r_if_ne kX8_reads_135 (fun c1 => absurd c1 (by decide)) (fun c1 => ?_)
      refine r_iconst ?_
      refine r_zret rfl (by omega) ?_
      exact qRd_no (rFr_t p1 u1) (p3.trans v1) v2 rfl rfl
/-- the prices -/
theorem l_X8_reads2 {m0 : aM} (hf : rFr m0 m) (hP : rP m T n 5) (hR : pR T n 0 = pR T n 5) (h6 : m 279 6 = m0 279 6) (hF : ∀ j, 0 ≤ j → j < 44 → m 289 j = pRp T n 0 j) : az_E sc az_G 74 zX8_reads_78 [some (.inr (.inr 280)), some (.inl (0))] [] m (qRd m0 T n) := by
  refine az_whl (α := aM) (fun h _ => [some (.inr (.inr 280)), some (.inl (h))]) (fun _ a => a) (fun h a => 0 ≤ h ∧ rFr m0 a ∧ rP a T n (5 + h.toNat) ∧ pR T n 0 = pR T n (5 + h.toNat) ∧ a 279 6 = m0 279 6 ∧ ∀ j, 0 ≤ j → j < 44 → a 289 j = pRp T n h j) 6 (fun h a hh6 hp hK => ?_) 0 m (by decide) ⟨Int.le_refl _, hf, hP, hR, h6, hF⟩
  obtain ⟨g0, p1, p2, p3, p4, p5⟩ := hp
  by_cases e6 : h = 6
  · subst e6
    have c11 : pCk T n 11 = kS T n 11 := rfl
    have p2 : rP a T n 11 := p2
    have p3 : pR T n 0 = pR T n 11 := p3
    have kb := kS_b T n 11
    by_cases z : kS T n 11 = 0
    · have hR12 : pR T n 11 = pR T n 12 := pR_ok (by decide) (c11.trans z) (by omega)
      refine r_iload_n rfl ?_
      refine r_bipush ?_
      refine r_icmp_ge kX8_reads_106 (fun c1 => ?_) (fun c1 => absurd c1 (by omega))
      refine r_aload_n rfl ?_
      refine r_cV1 g_279 rfl (Nat.le_of_ble_eq_true rfl) (Nat.le_of_ble_eq_true rfl) (c_X8_ends1 p2 z) (fun v_107 m_107 hq_107 => ?_)
      obtain ⟨rfl, w1, w2, w3, w4⟩ := hq_107; have hP12 := rP_fr p2 w1 w2
      refine r_if_ne kX8_reads_115 (fun c2 => ?_) (fun c2 => absurd c2 (by decide))
      refine r_aload_n rfl ?_
      refine r_cV1 g_279 rfl (Nat.le_of_ble_eq_true rfl) (Nat.le_of_ble_eq_true rfl) (c_X8_nextT hP12) (fun v_116 m_116 hq_116 => ?_)
      obtain ⟨rfl, q1, q2, q3, q4, q5, q6, q7⟩ := hq_116
      skip
      exact l_X8_reads (rFr_t p1 (rFr_t w1 q1)) ⟨rP_fr hP12 q1 q4, q5, q6, fun h => q7 (Or.inl h)⟩ (p3.trans hR12) (q3.trans (w4.trans p4)) (fun j j0 j1 => by rw [q2, w3, p5 j j0 j1, pRp_6])
    · have hR11 : pR T n 11 = (kS T n 11, tB T n 11) := by rw [pR_no (by decide) (by rw [c11]; exact z) (by omega), c11]
      refine r_iload_n rfl ?_
      refine r_bipush ?_
      refine r_icmp_ge kX8_reads_106 (fun c1 => ?_) (fun c1 => absurd c1 (by omega))
      refine r_aload_n rfl ?_
      refine r_cV1 g_279 rfl (Nat.le_of_ble_eq_true rfl) (Nat.le_of_ble_eq_true rfl) (c_X8_ends0 p2 z) (fun v_107 m_107 hq_107 => ?_)
      obtain ⟨rfl, w1, w2, w3⟩ := hq_107
      refine r_if_ne kX8_reads_115 (fun c2 => absurd c2 (by decide)) (fun c2 => ?_)
      refine r_iconst ?_
      refine r_zret rfl (by omega) ?_
      exact qRd_no (rFr_t p1 w1) (p3.trans hR11) z (by omega) w3
  · have ch := ck_price (T := T) (n := n) (h := h.toNat) (by omega)
    by_cases z : kN T n 0 30 (5 + h.toNat) = 0
    · have hRn : pR T n (5 + h.toNat) = pR T n (5 + h.toNat + 1) := pR_ok (by omega) (ch.trans z) (by omega)
      refine r_iload_n rfl ?_
      refine r_bipush ?_
      refine r_icmp_ge kX8_reads_106 (fun c1 => absurd c1 (by omega)) (fun c1 => ?_)
      refine r_aload_n rfl ?_
      refine r_bipush ?_
      refine r_iload_n rfl ?_
      first | refine r_iadd (az_wid (by omega) (by omega)) ?_ | refine r_iaddw ?_
      refine r_iconst ?_
      refine r_bipush ?_
      refine r_cV4 g_279 rfl (Nat.le_of_ble_eq_true rfl) (Nat.le_of_ble_eq_true rfl) (c_X8_number1 p2 (by omega) z) (fun v_92 m_92 hq_92 => ?_)
      obtain ⟨rfl, w1, w2, w3, w4⟩ := hq_92
      refine r_if_ne kX8_reads_100 (fun c2 => ?_) (fun c2 => absurd c2 (by decide))
      refine r_iinc rfl (az_wid (by omega) (by omega)) rfl ?_
      refine r_goto kX8_reads_78 ?_
      skip
      have e1 : 5 + (h + 1).toNat = 5 + h.toNat + 1 := by omega
      refine hK _ (by omega) ⟨by omega, rFr_t p1 w1, ?_, ?_, w4.trans p4, fun j j0 j1 => ?_⟩
      · rw [e1]
        exact rP_fr p2 w1 w2
      · rw [e1]
        exact p3.trans hRn
      · rw [w3]
        exact pRp_S g0 p5 j j0 j1
    · have hRn : pR T n (5 + h.toNat) = (kN T n 0 30 (5 + h.toNat), tB T n (5 + h.toNat)) := by rw [pR_no (by omega) (by rw [ch]; exact z) (by omega), ch]
      refine r_iload_n rfl ?_
      refine r_bipush ?_
      refine r_icmp_ge kX8_reads_106 (fun c1 => absurd c1 (by omega)) (fun c1 => ?_)
      refine r_aload_n rfl ?_
      refine r_bipush ?_
      refine r_iload_n rfl ?_
      first | refine r_iadd (az_wid (by omega) (by omega)) ?_ | refine r_iaddw ?_
      refine r_iconst ?_
      refine r_bipush ?_
      refine r_cV4 g_279 rfl (Nat.le_of_ble_eq_true rfl) (Nat.le_of_ble_eq_true rfl) (c_X8_number0 p2 z) (fun v_92 m_92 hq_92 => ?_)
      obtain ⟨rfl, w1, w2, w3⟩ := hq_92
      refine r_if_ne kX8_reads_100 (fun c2 => absurd c2 (by decide)) (fun c2 => ?_)
      refine r_iconst ?_
      refine r_zret rfl (by omega) ?_
      exact qRd_no (rFr_t p1 w1) (p3.trans hRn) z w2 w3
theorem c_X8_reads (hT : m 283 = T) (hn : m 279 19 = n) (hn4 : 0 ≤ n ∧ n ≤ 400) (hT2 : ∀ x, 0 ≤ x → x < n → 0 ≤ T x ∧ T x ≤ 255) : az_C sc az_G 74 [.inr (.inr 280)] m (qRd m T n) := by
  refine r_iconst ?_
  refine r_istore_n (Nat.le_of_ble_eq_true rfl) rfl ?_
  skip
  refine az_lop (α := aM) (fun k _ => [some (.inr (.inr 280)), some (.inl (k))]) (fun a => a) (fun k a => (∀ y, y ≠ 289 → a y = m y) ∧ ∀ j, 0 ≤ j → j < k → a 289 j = 0) 0 44 m (by decide) ⟨fun _ _ => rfl, fun j j0 j1 => by omega⟩ (fun k a h0 h1 hp hK => ?_) (fun a hp => ?_)
  · refine r_iload_n rfl ?_
    refine r_bipush ?_
    refine r_icmp_ge kX8_reads_21 (fun c1 => absurd c1 (by omega)) (fun c1 => ?_)
    refine r_aload_n rfl ?_
    refine r_getR g_279 rfl ?_
    refine r_iload_n rfl ?_
    refine r_iconst ?_
    refine r_iast g_289 (by decide) (by omega) (by omega) ?_
    refine r_iinc rfl (az_wid (by omega) (by omega)) rfl ?_
    refine r_goto kX8_reads_2 ?_
    exact hK _ ⟨fun y hy => (az_up_b _ _ _ hy).trans (hp.1 y hy), fun j j0 j1 => az_up_eq (fun _ => rfl) (fun e => hp.2 j j0 (by omega))⟩
  · obtain ⟨p1, p2⟩ := hp
    obtain ⟨m1, hm1⟩ : ∃ x, x = az_up a 279 15 0 := ⟨_, rfl⟩
    have hP : rP m1 T n 0 := by
      rw [hm1]
      exact ⟨(az_up_b _ _ _ (by decide)).trans ((p1 283 (by decide)).trans hT), (az_up_k _ _ (by decide)).trans ((congrFun (p1 279 (by decide)) _).trans hn), az_upx _ _ _ _, hn4, hT2⟩
    have hf : rFr m m1 := by
      rw [hm1]
      exact ⟨fun y a b => (az_up_b _ _ _ a).trans (p1 y b), fun k a b c d e => (az_up_k _ _ b).trans (congrFun (p1 279 (by decide)) _)⟩
    have h6 : m1 279 6 = m 279 6 := by
      rw [hm1]
      exact (az_up_k _ _ (by decide)).trans (congrFun (p1 279 (by decide)) _)
    have hF : ∀ j, 0 ≤ j → j < 44 → m1 289 j = 0 := fun j j0 j1 => by
      rw [hm1, az_up_b _ _ _ (by decide)]
      exact p2 j j0 j1
    refine r_iload_n rfl ?_
    refine r_bipush ?_
    refine r_icmp_ge kX8_reads_21 (fun c1 => ?_) (fun c1 => absurd c1 (by decide))
    refine r_aload_n rfl ?_
    refine r_iconst ?_
    refine r_putI g_279 (by decide) ?_
    rw [← hm1]
    have kb0 := kW_b T n 0 wLaw
    have kb3 := kS_b T n 3
    have kb4 := kW_b T n 4 wSun
    have c0 : pCk T n 0 = kW T n wLaw 0 := rfl
    have s0 : kW T n wLaw 0 = 0 → pR T n 0 = pR T n 1 := fun h => pR_ok (by decide) (c0.trans h) (by omega)
    have f0 : kW T n wLaw 0 ≠ 0 → pR T n 0 = (kW T n wLaw 0, tB T n 0) := fun h => by rw [pR_no (by decide) (by rw [c0]; exact h) (by omega), c0]
    have c1 : pCk T n 1 = kN T n 0 2 1 := rfl
    have s1 : kN T n 0 2 1 = 0 → pR T n 1 = pR T n 2 := fun h => pR_ok (by decide) (c1.trans h) (by omega)
    have f1 : kN T n 0 2 1 ≠ 0 → pR T n 1 = (kN T n 0 2 1, tB T n 1) := fun h => by rw [pR_no (by decide) (by rw [c1]; exact h) (by omega), c1]
    have c2 : pCk T n 2 = kN T n 0 9 2 := rfl
    have s2 : kN T n 0 9 2 = 0 → pR T n 2 = pR T n 3 := fun h => pR_ok (by decide) (c2.trans h) (by omega)
    have f2 : kN T n 0 9 2 ≠ 0 → pR T n 2 = (kN T n 0 9 2, tB T n 2) := fun h => by rw [pR_no (by decide) (by rw [c2]; exact h) (by omega), c2]
    have c3 : pCk T n 3 = kS T n 3 := rfl
    have s3 : kS T n 3 = 0 → pR T n 3 = pR T n 4 := fun h => pR_ok (by decide) (c3.trans h) (by omega)
    have f3 : kS T n 3 ≠ 0 → pR T n 3 = (kS T n 3, tB T n 3) := fun h => by rw [pR_no (by decide) (by rw [c3]; exact h) (by omega), c3]
    have c4 : pCk T n 4 = kW T n wSun 4 := rfl
    have s4 : kW T n wSun 4 = 0 → pR T n 4 = pR T n 5 := fun h => pR_ok (by decide) (c4.trans h) (by omega)
    have f4 : kW T n wSun 4 ≠ 0 → pR T n 4 = (kW T n wSun 4, tB T n 4) := fun h => by rw [pR_no (by decide) (by rw [c4]; exact h) (by omega), c4]
    by_cases z0 : kW T n wLaw 0 = 0
    · by_cases z1 : kN T n 0 2 1 = 0
      · by_cases z2 : kN T n 0 9 2 = 0
        · by_cases z3 : kS T n 3 = 0
          · by_cases z4 : kW T n wSun 4 = 0
            · refine r_aload_n rfl ?_
              refine r_ldc2 ?_
              refine r_cV2 g_279 rfl (Nat.le_of_ble_eq_true rfl) (Nat.le_of_ble_eq_true rfl) (c_X8_isWord1 hP wh_law (by decide) z0) (fun v_30 m_30 hq_30 => ?_)
              obtain ⟨rfl, w0a, w0b, w0c, w0d⟩ := hq_30; have hP1 := rP_fr hP w0a w0b
              refine r_if_eq kX8_reads_74 (fun c1 => absurd c1 (by decide)) (fun c1 => ?_)
              refine r_aload_n rfl ?_
              refine r_iconst ?_
              refine r_iconst ?_
              refine r_iconst ?_
              refine r_cV4 g_279 rfl (Nat.le_of_ble_eq_true rfl) (Nat.le_of_ble_eq_true rfl) (c_X8_number1 hP1 (by decide) z1) (fun v_40 m_40 hq_40 => ?_)
              obtain ⟨rfl, w1a, w1b, w1c, w1d⟩ := hq_40; have hP2 := rP_fr hP1 w1a w1b
              refine r_if_eq kX8_reads_74 (fun c2 => absurd c2 (by decide)) (fun c2 => ?_)
              refine r_aload_n rfl ?_
              refine r_iconst ?_
              refine r_iconst ?_
              refine r_bipush ?_
              refine r_cV4 g_279 rfl (Nat.le_of_ble_eq_true rfl) (Nat.le_of_ble_eq_true rfl) (c_X8_number1 hP2 (by decide) z2) (fun v_51 m_51 hq_51 => ?_)
              obtain ⟨rfl, w2a, w2b, w2c, w2d⟩ := hq_51; have hP3 := rP_fr hP2 w2a w2b
              refine r_if_eq kX8_reads_74 (fun c3 => absurd c3 (by decide)) (fun c3 => ?_)
              refine r_aload_n rfl ?_
              refine r_cV1 g_279 rfl (Nat.le_of_ble_eq_true rfl) (Nat.le_of_ble_eq_true rfl) (c_X8_ends1 hP3 z3) (fun v_58 m_58 hq_58 => ?_)
              obtain ⟨rfl, w3a, w3b, w3c, w3d⟩ := hq_58; have hP4 := rP_fr hP3 w3a w3b
              refine r_if_eq kX8_reads_74 (fun c4 => absurd c4 (by decide)) (fun c4 => ?_)
              refine r_aload_n rfl ?_
              refine r_ldc2 ?_
              refine r_cV2 g_279 rfl (Nat.le_of_ble_eq_true rfl) (Nat.le_of_ble_eq_true rfl) (c_X8_isWord1 hP4 wh_sun (by decide) z4) (fun v_68 m_68 hq_68 => ?_)
              obtain ⟨rfl, w4a, w4b, w4c, w4d⟩ := hq_68; have hP5 := rP_fr hP4 w4a w4b
              refine r_if_ne kX8_reads_76 (fun c5 => ?_) (fun c5 => absurd c5 (by decide))
              refine r_iconst ?_
              refine r_istore_n (Nat.le_of_ble_eq_true rfl) rfl ?_
              refine l_X8_reads2 (rFr_t (rFr_t (rFr_t (rFr_t (rFr_t hf w0a) w1a) w2a) w3a) w4a) hP5 (by rw [s0 z0, s1 z1, s2 z2, s3 z3, s4 z4]) (w4d.trans (w3d.trans (w2d.trans (w1d.trans (w0d.trans h6))))) (fun j j0 j1 => ?_)
              rw [w4c, w3c, w2c, w1c, w0c]
              unfold pRp
              by_cases e0 : j = 0
              · rw [e0, up1_ne _ _ (by decide), up1_at, if_pos rfl]
              · by_cases e1 : j = 1
                · rw [e1, up1_at, if_neg (by decide), if_pos rfl]
                · rw [up1_ne _ _ e1, up1_ne _ _ e0, if_neg e0, if_neg e1, if_neg (by omega)]
                  exact hF j j0 j1
            · refine r_aload_n rfl ?_
              refine r_ldc2 ?_
              refine r_cV2 g_279 rfl (Nat.le_of_ble_eq_true rfl) (Nat.le_of_ble_eq_true rfl) (c_X8_isWord1 hP wh_law (by decide) z0) (fun v_30 m_30 hq_30 => ?_)
              obtain ⟨rfl, w0a, w0b, w0c, w0d⟩ := hq_30; have hP1 := rP_fr hP w0a w0b
              refine r_if_eq kX8_reads_74 (fun c1 => absurd c1 (by decide)) (fun c1 => ?_)
              refine r_aload_n rfl ?_
              refine r_iconst ?_
              refine r_iconst ?_
              refine r_iconst ?_
              refine r_cV4 g_279 rfl (Nat.le_of_ble_eq_true rfl) (Nat.le_of_ble_eq_true rfl) (c_X8_number1 hP1 (by decide) z1) (fun v_40 m_40 hq_40 => ?_)
              obtain ⟨rfl, w1a, w1b, w1c, w1d⟩ := hq_40; have hP2 := rP_fr hP1 w1a w1b
              refine r_if_eq kX8_reads_74 (fun c2 => absurd c2 (by decide)) (fun c2 => ?_)
              refine r_aload_n rfl ?_
              refine r_iconst ?_
              refine r_iconst ?_
              refine r_bipush ?_
              refine r_cV4 g_279 rfl (Nat.le_of_ble_eq_true rfl) (Nat.le_of_ble_eq_true rfl) (c_X8_number1 hP2 (by decide) z2) (fun v_51 m_51 hq_51 => ?_)
              obtain ⟨rfl, w2a, w2b, w2c, w2d⟩ := hq_51; have hP3 := rP_fr hP2 w2a w2b
              refine r_if_eq kX8_reads_74 (fun c3 => absurd c3 (by decide)) (fun c3 => ?_)
              refine r_aload_n rfl ?_
              refine r_cV1 g_279 rfl (Nat.le_of_ble_eq_true rfl) (Nat.le_of_ble_eq_true rfl) (c_X8_ends1 hP3 z3) (fun v_58 m_58 hq_58 => ?_)
              obtain ⟨rfl, w3a, w3b, w3c, w3d⟩ := hq_58; have hP4 := rP_fr hP3 w3a w3b
              refine r_if_eq kX8_reads_74 (fun c4 => absurd c4 (by decide)) (fun c4 => ?_)
              refine r_aload_n rfl ?_
              refine r_ldc2 ?_
              refine r_cV2 g_279 rfl (Nat.le_of_ble_eq_true rfl) (Nat.le_of_ble_eq_true rfl) (c_X8_isWord0 hP4 wh_sun (by decide) z4) (fun v_68 m_68 hq_68 => ?_)
              obtain ⟨rfl, w4a, w4b, w4c⟩ := hq_68
              refine r_if_ne kX8_reads_76 (fun c5 => absurd c5 (by decide)) (fun c5 => ?_)
              refine r_iconst ?_
              refine r_zret rfl (by omega) ?_
              exact qRd_no (rFr_t (rFr_t (rFr_t (rFr_t (rFr_t hf w0a) w1a) w2a) w3a) w4a) (by rw [s0 z0, s1 z1, s2 z2, s3 z3, f4 z4]) z4 (by omega) w4c
          · refine r_aload_n rfl ?_
            refine r_ldc2 ?_
            refine r_cV2 g_279 rfl (Nat.le_of_ble_eq_true rfl) (Nat.le_of_ble_eq_true rfl) (c_X8_isWord1 hP wh_law (by decide) z0) (fun v_30 m_30 hq_30 => ?_)
            obtain ⟨rfl, w0a, w0b, w0c, w0d⟩ := hq_30; have hP1 := rP_fr hP w0a w0b
            refine r_if_eq kX8_reads_74 (fun c1 => absurd c1 (by decide)) (fun c1 => ?_)
            refine r_aload_n rfl ?_
            refine r_iconst ?_
            refine r_iconst ?_
            refine r_iconst ?_
            refine r_cV4 g_279 rfl (Nat.le_of_ble_eq_true rfl) (Nat.le_of_ble_eq_true rfl) (c_X8_number1 hP1 (by decide) z1) (fun v_40 m_40 hq_40 => ?_)
            obtain ⟨rfl, w1a, w1b, w1c, w1d⟩ := hq_40; have hP2 := rP_fr hP1 w1a w1b
            refine r_if_eq kX8_reads_74 (fun c2 => absurd c2 (by decide)) (fun c2 => ?_)
            refine r_aload_n rfl ?_
            refine r_iconst ?_
            refine r_iconst ?_
            refine r_bipush ?_
            refine r_cV4 g_279 rfl (Nat.le_of_ble_eq_true rfl) (Nat.le_of_ble_eq_true rfl) (c_X8_number1 hP2 (by decide) z2) (fun v_51 m_51 hq_51 => ?_)
            obtain ⟨rfl, w2a, w2b, w2c, w2d⟩ := hq_51; have hP3 := rP_fr hP2 w2a w2b
            refine r_if_eq kX8_reads_74 (fun c3 => absurd c3 (by decide)) (fun c3 => ?_)
            refine r_aload_n rfl ?_
            refine r_cV1 g_279 rfl (Nat.le_of_ble_eq_true rfl) (Nat.le_of_ble_eq_true rfl) (c_X8_ends0 hP3 z3) (fun v_58 m_58 hq_58 => ?_)
            obtain ⟨rfl, w3a, w3b, w3c⟩ := hq_58
            refine r_if_eq kX8_reads_74 (fun c4 => ?_) (fun c4 => absurd c4 (by decide))
            refine r_iconst ?_
            refine r_zret rfl (by omega) ?_
            exact qRd_no (rFr_t (rFr_t (rFr_t (rFr_t hf w0a) w1a) w2a) w3a) (by rw [s0 z0, s1 z1, s2 z2, f3 z3]) z3 (by omega) w3c
        · refine r_aload_n rfl ?_
          refine r_ldc2 ?_
          refine r_cV2 g_279 rfl (Nat.le_of_ble_eq_true rfl) (Nat.le_of_ble_eq_true rfl) (c_X8_isWord1 hP wh_law (by decide) z0) (fun v_30 m_30 hq_30 => ?_)
          obtain ⟨rfl, w0a, w0b, w0c, w0d⟩ := hq_30; have hP1 := rP_fr hP w0a w0b
          refine r_if_eq kX8_reads_74 (fun c1 => absurd c1 (by decide)) (fun c1 => ?_)
          refine r_aload_n rfl ?_
          refine r_iconst ?_
          refine r_iconst ?_
          refine r_iconst ?_
          refine r_cV4 g_279 rfl (Nat.le_of_ble_eq_true rfl) (Nat.le_of_ble_eq_true rfl) (c_X8_number1 hP1 (by decide) z1) (fun v_40 m_40 hq_40 => ?_)
          obtain ⟨rfl, w1a, w1b, w1c, w1d⟩ := hq_40; have hP2 := rP_fr hP1 w1a w1b
          refine r_if_eq kX8_reads_74 (fun c2 => absurd c2 (by decide)) (fun c2 => ?_)
          refine r_aload_n rfl ?_
          refine r_iconst ?_
          refine r_iconst ?_
          refine r_bipush ?_
          refine r_cV4 g_279 rfl (Nat.le_of_ble_eq_true rfl) (Nat.le_of_ble_eq_true rfl) (c_X8_number0 hP2 z2) (fun v_51 m_51 hq_51 => ?_)
          obtain ⟨rfl, w2a, w2b, w2c⟩ := hq_51
          refine r_if_eq kX8_reads_74 (fun c3 => ?_) (fun c3 => absurd c3 (by decide))
          refine r_iconst ?_
          refine r_zret rfl (by omega) ?_
          exact qRd_no (rFr_t (rFr_t (rFr_t hf w0a) w1a) w2a) (by rw [s0 z0, s1 z1, f2 z2]) z2 (w2b) w2c
      · refine r_aload_n rfl ?_
        refine r_ldc2 ?_
        refine r_cV2 g_279 rfl (Nat.le_of_ble_eq_true rfl) (Nat.le_of_ble_eq_true rfl) (c_X8_isWord1 hP wh_law (by decide) z0) (fun v_30 m_30 hq_30 => ?_)
        obtain ⟨rfl, w0a, w0b, w0c, w0d⟩ := hq_30; have hP1 := rP_fr hP w0a w0b
        refine r_if_eq kX8_reads_74 (fun c1 => absurd c1 (by decide)) (fun c1 => ?_)
        refine r_aload_n rfl ?_
        refine r_iconst ?_
        refine r_iconst ?_
        refine r_iconst ?_
        refine r_cV4 g_279 rfl (Nat.le_of_ble_eq_true rfl) (Nat.le_of_ble_eq_true rfl) (c_X8_number0 hP1 z1) (fun v_40 m_40 hq_40 => ?_)
        obtain ⟨rfl, w1a, w1b, w1c⟩ := hq_40
        refine r_if_eq kX8_reads_74 (fun c2 => ?_) (fun c2 => absurd c2 (by decide))
        refine r_iconst ?_
        refine r_zret rfl (by omega) ?_
        exact qRd_no (rFr_t (rFr_t hf w0a) w1a) (by rw [s0 z0, f1 z1]) z1 (w1b) w1c
    · refine r_aload_n rfl ?_
      refine r_ldc2 ?_
      refine r_cV2 g_279 rfl (Nat.le_of_ble_eq_true rfl) (Nat.le_of_ble_eq_true rfl) (c_X8_isWord0 hP wh_law (by decide) z0) (fun v_30 m_30 hq_30 => ?_)
      obtain ⟨rfl, w0a, w0b, w0c⟩ := hq_30
      refine r_if_eq kX8_reads_74 (fun c1 => ?_) (fun c1 => absurd c1 (by decide))
      refine r_iconst ?_
      refine r_zret rfl (by omega) ?_
      exact qRd_no (rFr_t hf w0a) (by rw [f0 z0]) z0 (by omega) w0c
def bF (m : aM) (m' : aM) : Prop := (∀ y, y ≠ 279 → y ≠ 284 → y ≠ 289 → m' y = m y) ∧ (∀ k, k ≠ 5 → k ≠ 6 → k ≠ 7 → k ≠ 9 → k ≠ 15 → k ≠ 16 → k ≠ 17 → k ≠ 18 → k ≠ 19 → m' 279 k = m 279 k) ∧ m' 279 5 = 0
def qBe (m : aM) (R : Int × Int) (T : Int → Int) (n : Int) : Option aV → aM → Prop := fun v m' => bF m m' ∧ ((R.1 = 0 ∧ v = some (.inl R.2) ∧ m' 279 6 = m 279 6 ∧ m' 279 7 = 1 ∧ m' 279 9 = 0 ∧ (0 ≤ R.2 ∧ R.2 ≤ 4) ∧ ∀ j, 0 ≤ j → j < 44 → m' 284 j = pRd T n R.2 j) ∨ (R.1 ≠ 0 ∧ v = some (.inl (-1000100 - R.2)) ∧ m' 279 6 = R.1 ∧ m' 279 7 = m 279 7 ∧ m' 279 9 = m 279 9 ∧ m' 284 = m 284))
theorem qRbP (hn : 0 ≤ n ∧ n ≤ 400) : ∀ (k i : Nat), i ≤ 1000 → -1000000 ≤ (pP T n k i).2 ∧ (pP T n k i).2 ≤ 1000000 := by
  intro k
  induction k with
  | zero => intro i _; show (-1000000 : Int) ≤ 0 ∧ (0 : Int) ≤ 1000000; decide
  | succ k ih =>
    intro i hi
    have hb := tB_b (T := T) hn.1 i
    have ha := pA_b (T := T) hn.1 i
    show -1000000 ≤ (if 12 ≤ i ∧ (i - 12) % 6 = 0 ∧ tK T n i = 0 then (0, (((i - 12) / 6 : Nat) : Int)) else if 36 ≤ i then (if kW T n wGuest i = 0 then 3 else 1, tB T n i) else if pCk T n i = 0 then pP T n k (i + 1) else (pCk T n i, tB T n i)).2 ∧ (if 12 ≤ i ∧ (i - 12) % 6 = 0 ∧ tK T n i = 0 then (0, (((i - 12) / 6 : Nat) : Int)) else if 36 ≤ i then (if kW T n wGuest i = 0 then 3 else 1, tB T n i) else if pCk T n i = 0 then pP T n k (i + 1) else (pCk T n i, tB T n i)).2 ≤ 1000000
    split
    · dsimp only
      omega
    · split
      · dsimp only
        omega
      · split
        · exact ih (i + 1) (by omega)
        · dsimp only
          omega
theorem qRb (hn : 0 ≤ n ∧ n ≤ 400) : -1000000 ≤ (pR T n 0).2 ∧ (pR T n 0).2 ≤ 1000000 := qRbP hn _ _ (by decide)
theorem c_X8_beach (hT : m 283 = T) (hn : m 279 5 = n) (hn4 : 0 ≤ n ∧ n ≤ 400) (hT2 : ∀ x, 0 ≤ x → x < n → 0 ≤ T x ∧ T x ≤ 255) : az_C sc az_G 76 [.inr (.inr 280)] m (qBe m (pR T n 0) T n) := by
  obtain ⟨m1, hm1⟩ : ∃ x, x = az_up (az_up m 279 19 n) 279 5 0 := ⟨_, rfl⟩
  have e6 : m1 279 6 = m 279 6 := by rw [hm1, az_up_k _ _ (by decide), az_up_k _ _ (by decide)]
  refine r_aload_n rfl ?_
  refine r_aload_n rfl ?_
  refine r_getIx g_279 (hn) ?_
  refine r_putI g_279 (by decide) ?_
  refine r_aload_n rfl ?_
  refine r_iconst ?_
  refine r_putI g_279 (by decide) ?_
  rw [← hm1]
  have hr := c_X8_reads (sc := sc) (m := m1) (T := T) (n := n) (by rw [hm1, az_up_b _ _ _ (by decide), az_up_b _ _ _ (by decide)]; exact hT) (by rw [hm1, az_up_k _ _ (by decide), az_upx]) hn4 hT2
  have l1 : ∀ y, y ≠ 279 → m1 y = m y := fun y hy => by rw [hm1, az_up_b _ _ _ hy, az_up_b _ _ _ hy]
  have k1 : ∀ k, k ≠ 5 → k ≠ 19 → m1 279 k = m 279 k := fun k a b => by rw [hm1, az_up_k _ _ a, az_up_k _ _ b]
  have k5 : m1 279 5 = 0 := by rw [hm1, az_upx]
  refine r_aload_n rfl ?_
  refine r_getIx g_279 (e6) ?_
  refine r_istore_n (Nat.le_of_ble_eq_true rfl) rfl ?_
  refine r_aload_n rfl ?_
  refine r_cV1 g_279 rfl (Nat.le_of_ble_eq_true rfl) (Nat.le_of_ble_eq_true rfl) (hr) (fun v_19 m_19 hq_19 => ?_)
  obtain ⟨u1, u2⟩ := hq_19
  skip
  rcases u2 with ⟨r0, rfl, v1, v2, v3⟩ | ⟨r0, rfl, v1, v2⟩
  · have e2 := v3 2 (by decide) (by decide)
    have e22 : pRd T n (pR T n 0).2 2 = (pR T n 0).2 := by
      unfold pRd
      rw [if_neg (by decide), if_neg (by decide), if_pos rfl]
    rw [e22] at e2
    obtain ⟨m2, hm2⟩ : ∃ x, x = az_up (az_up (az_up m_19 279 6 (m 279 6)) 279 7 1) 279 9 0 := ⟨_, rfl⟩
    have l2 : ∀ y, y ≠ 279 → m2 y = m_19 y := fun y hy => by rw [hm2, az_up_b _ _ _ hy, az_up_b _ _ _ hy, az_up_b _ _ _ hy]
    have k2 : ∀ k, k ≠ 6 → k ≠ 7 → k ≠ 9 → m2 279 k = m_19 279 k := fun k a b c => by rw [hm2, az_up_k _ _ c, az_up_k _ _ b, az_up_k _ _ a]
    have hc : ∀ j, 0 ≤ j → j < 44 → az_cp m2 289 0 284 0 44 284 j = m_19 289 j := fun j j0 j1 => by rw [az_cp_in _ (by omega) (by omega), show (0 : Int) + (j - 0) = j by omega, l2 289 (by decide)]
    refine r_if_ne kX8_beach_33 (fun c1 => ?_) (fun c1 => absurd c1 (by decide))
    refine r_aload_n rfl ?_
    refine r_iload_n rfl ?_
    refine r_putI g_279 (by decide) ?_
    refine r_aload_n rfl ?_
    refine r_iconst ?_
    refine r_putZ g_279 (by decide) (by omega) ?_
    refine r_aload_n rfl ?_
    refine r_iconst ?_
    refine r_putI g_279 (by decide) ?_
    rw [← hm2]
    refine r_aload_n rfl ?_
    refine r_getR g_279 rfl ?_
    refine r_iconst ?_
    refine r_aload_n rfl ?_
    refine r_getR g_279 rfl ?_
    refine r_iconst ?_
    refine r_cS4V (by decide) (Nat.le_of_ble_eq_true rfl) (Nat.le_of_ble_eq_true rfl) (l_X8_copies g_289 g_284 (by decide) (by decide) (by decide) 0 0 (by decide) (by decide)) ?_
    refine r_aload_n rfl ?_
    refine r_getR g_279 rfl ?_
    refine r_iconst ?_
    refine r_ialdx g_284 rfl (by omega) (by omega) (by omega) ((hc 2 (by decide) (by decide)).trans e2) ?_
    refine r_iret rfl ?_
    skip
    refine ⟨⟨fun y a b c => ?_, fun k a1 a2 a3 a4 a5 a6 a7 a8 a9 => ?_, ?_⟩, Or.inl ⟨r0, rfl, ?_, ?_, ?_, v2, fun j j0 j1 => ?_⟩⟩
    · rw [az_cp_b _ _ _ _ b, l2 y a, u1.1 y a c, l1 y a]
    · rw [az_cp_b _ _ _ _ (by decide), k2 k a2 a3 a4, u1.2 k a2 a5 a6 a7 a8, k1 k a1 a9]
    · rw [az_cp_b _ _ _ _ (by decide), k2 5 (by decide) (by decide) (by decide), u1.2 5 (by decide) (by decide) (by decide) (by decide) (by decide), k5]
    · rw [az_cp_b _ _ _ _ (by decide), hm2, az_up_k _ _ (by decide), az_up_k _ _ (by decide), az_upx]
    · rw [az_cp_b _ _ _ _ (by decide), hm2, az_up_k _ _ (by decide), az_upx]
    · rw [az_cp_b _ _ _ _ (by decide), hm2, az_upx]
    · rw [hc j j0 j1]
      exact v3 j j0 j1
  · have hge : 0 ≤ (pR T n 0).1 ∨ (pR T n 0).1 < 0 := by omega
    have hRb : -1000000 ≤ (pR T n 0).2 ∧ (pR T n 0).2 ≤ 1000000 := qRb hn4
    refine r_if_ne kX8_beach_33 (fun c1 => absurd c1 (by decide)) (fun c1 => ?_)
    refine r_ldcI ?_
    refine r_aload_n rfl ?_
    refine r_getIx g_279 (v2) ?_
    first | refine r_isub (az_wid (by omega) (by omega)) ?_ | refine r_isubw ?_
    refine r_iret rfl ?_
    skip
    refine ⟨⟨fun y a b c => ?_, fun k a1 a2 a3 a4 a5 a6 a7 a8 a9 => ?_, ?_⟩, Or.inr ⟨r0, rfl, v1, ?_, ?_, ?_⟩⟩
    · rw [u1.1 y a c, l1 y a]
    · rw [u1.2 k a2 a5 a6 a7 a8, k1 k a1 a9]
    · rw [u1.2 5 (by decide) (by decide) (by decide) (by decide) (by decide), k5]
    · rw [u1.2 7 (by decide) (by decide) (by decide) (by decide) (by decide), k1 7 (by decide) (by decide)]
    · rw [u1.2 9 (by decide) (by decide) (by decide) (by decide) (by decide), k1 9 (by decide) (by decide)]
    · rw [u1.1 284 (by decide) (by decide), l1 284 (by decide)]
end RR
