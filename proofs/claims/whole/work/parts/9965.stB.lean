/-! STEPS: acts -/
section SB
variable {sc : aX} {m : aM}
theorem iA_act {m1 m2 : aM} {f' : Int → Int} (hI : iA m) (hz : m 279 7 = 1) (hN : nOK f') (hc : cM m m1 f') (hr : rM m1 m2 f') : iA m2 := by
  obtain ⟨a1, a2, a3, a4, a5, a6, a7, a8⟩ := hI
  obtain ⟨b1, b2, b3, b4⟩ := a2
  obtain ⟨c1, c2, c3, c4, c5, c6⟩ := hc
  obtain ⟨r1, r2, r3, r4, r5⟩ := hr
  have hP := b2
  have hkb := kb_b hP.1.1 hP.1.2
  have hi : ∀ x, 245 ≤ x → m1 x = m x := fun x hx => c1 x (by omega) (by omega) (by omega) (by omega)
  have q1 : ∀ x, x ≠ 279 → x ≠ 284 → x ≠ 285 → x < 290 → m2 x = m1 x := fun x e1 e2 e3 e4 => r1 x e1 e2 e3 (by omega) (by omega) (by omega)
  have q2 : ∀ x, x ≠ 279 → x ≠ 284 → x ≠ 285 → x ≠ 40 → (x < 22 ∨ 30 ≤ x) → (x < kb (m 40 1) ∨ kb (m 40 1) + 8 ≤ x) → (x < 234 ∨ 244 < x) → x < 290 → m2 x = m x := fun x e1 e2 e3 e4 e5 e6 e7 e8 => (q1 x e1 e2 e3 e8).trans (c1 x e4 e5 e6 e7)
  have k2 : ∀ k, k ≠ 9 → k ≠ 23 → m2 279 k = m 279 k := fun k e1 e2 => (r2 k e1 e2).trans (congrFun (hi 279 (by decide)) _)
  have h7 := k2 7 (by decide) (by decide)
  have h9 : m2 279 9 = pMn (m 279 9) := by rw [r3, hi 279 (by decide)]
  rw [hi 285 (by decide), hi 284 (by decide), hi 279 (by decide)] at r4
  have e401 : m2 40 1 = (m 40 1 + 1) % 24 := by rw [q1 40 (by decide) (by decide) (by decide) (by decide)]; exact c2
  have e402 : m2 40 2 = pMn (m 40 2) := by rw [q1 40 (by decide) (by decide) (by decide) (by decide)]; exact c3
  have hP1 := hP.1
  have hP2 := hP.2
  rw [b1] at hP2
  refine ⟨⟨?_, ?_, ?_, ?_, ?_⟩, ⟨?_, ⟨?_, ?_⟩, fun _ => by rw [h7]; exact hz, fun k k0 k1 => ?_⟩, ?_, ?_, ?_, ?_, ?_, ?_⟩
  · rw [r5]
    exact bR_fr c6 (fun x x0 x1 => q1 x (by omega) (by omega) (by omega) (by omega))
  · rw [r5]; exact hN
  · rw [q1 22 (by decide) (by decide) (by decide) (by decide), c5, a1.2.2.1, h7]
  · rw [h7]; exact Or.inr hz
  · intro _; rw [h7]; exact hz
  · rw [e402, h9, b1]
  · rw [e401]; omega
  · rw [e402, b1]
    unfold pMn
    split <;> omega
  · have eix : ix m2 k = ((m 40 1 + 1) % 24 + 24 - pMn (m 279 9) + k) % 24 := by unfold ix; rw [e401, h9]
    rw [h9] at k1
    by_cases h24 : m 279 9 = 24
    · have hp : pMn (m 279 9) = 24 := by unfold pMn; rw [if_pos h24]
      rw [hp] at eix k1
      have r6 := r4.2 h24
      by_cases h23 : k = 23
      · subst h23
        have e1 : ix m2 23 = m 40 1 := by omega
        rw [e1]
        refine pk_fr (m := m1) (f := m 284) ⟨by rw [c4.2, a1.2.2.1]; exact hz, a1.2.1, c4.1⟩ (fun x x0 x1 => q1 x (by omega) (by omega) (by omega) (by omega)) (fun j j0 j1 => ?_)
        have := r6.2 j j0 j1
        rw [show (44 : Int) * 23 + j = 1012 + j by omega]
        exact this
      · have e1 : ix m2 k = ix m (k + 1) := by rw [eix]; unfold ix; rw [h24]; omega
        have e2 : ix m (k + 1) ≠ m 40 1 := by unfold ix; rw [h24]; omega
        have hb := kb_b (i := ix m (k + 1)) (by unfold ix; omega) (by unfold ix; omega)
        have e3 : kb (ix m (k + 1)) + 8 ≤ kb (m 40 1) ∨ kb (m 40 1) + 8 ≤ kb (ix m (k + 1)) := by
          have : 0 ≤ ix m (k + 1) := by unfold ix; omega
          unfold kb
          omega
        rw [e1]
        refine pk_fr (b4 (k + 1) (by omega) (by omega)) (fun x x0 x1 => q2 x (by omega) (by omega) (by omega) (by omega) (by omega) (by omega) (by omega) (by omega)) (fun j j0 j1 => ?_)
        have := r6.1 (44 * k + j) (by omega) (by omega)
        rw [this]
        congr 1
        omega
    · have hp : pMn (m 279 9) = m 279 9 + 1 := by unfold pMn; rw [if_neg h24]
      rw [hp] at eix k1
      have r6 := r4.1 (by omega)
      by_cases hka : k = m 279 9
      · have e1 : ix m2 k = m 40 1 := by omega
        rw [e1]
        refine pk_fr (m := m1) (f := m 284) ⟨by rw [c4.2, a1.2.2.1]; exact hz, a1.2.1, c4.1⟩ (fun x x0 x1 => q1 x (by omega) (by omega) (by omega) (by omega)) (fun j j0 j1 => ?_)
        have := r6.2 j j0 j1
        rw [hka]
        exact this
      · have e1 : ix m2 k = ix m k := by rw [eix]; unfold ix; omega
        have e2 : ix m k ≠ m 40 1 := by unfold ix; omega
        have hb := kb_b (i := ix m k) (by unfold ix; omega) (by unfold ix; omega)
        have e3 : kb (ix m k) + 8 ≤ kb (m 40 1) ∨ kb (m 40 1) + 8 ≤ kb (ix m k) := by
          have : 0 ≤ ix m k := by unfold ix; omega
          unfold kb
          omega
        rw [e1]
        refine pk_fr (b4 k k0 (by omega)) (fun x x0 x1 => q2 x (by omega) (by omega) (by omega) (by omega) (by omega) (by omega) (by omega) (by omega)) (fun j j0 j1 => ?_)
        exact r6.1 (44 * k + j) (by omega)
  · exact iIm_fr a3 (q2 286 (by decide) (by decide) (by decide) (by decide) (by decide) (by omega) (by decide) (by decide)) (q2 287 (by decide) (by decide) (by decide) (by decide) (by decide) (by omega) (by decide) (by decide)) (fun x x0 x1 => q2 x (by omega) (by omega) (by omega) (by omega) (by omega) (by omega) (by omega) (by omega)) h7
  · exact iRow_fr a4 (fun x x0 x1 => q2 x (by omega) (by omega) (by omega) (by omega) (by omega) (by omega) (by omega) (by omega)) (q2 280 (by decide) (by decide) (by decide) (by decide) (by decide) (by omega) (by decide) (by decide)) (q2 281 (by decide) (by decide) (by decide) (by decide) (by decide) (by omega) (by decide) (by decide)) (q2 282 (by decide) (by decide) (by decide) (by decide) (by decide) (by omega) (by decide) (by decide))
  · rw [q2 19 (by decide) (by decide) (by decide) (by decide) (by decide) (by omega) (by decide) (by decide), k2 3 (by decide) (by decide)]
    exact a5
  · exact iTp_fr a6 (q2 38 (by decide) (by decide) (by decide) (by decide) (by decide) (by omega) (by decide) (by decide)) (q2 39 (by decide) (by decide) (by decide) (by decide) (by decide) (by omega) (by decide) (by decide)) (q2 283 (by decide) (by decide) (by decide) (by decide) (by decide) (by omega) (by decide) (by decide)) (k2 5 (by decide) (by decide)) (k2 6 (by decide) (by decide))
  · exact iTr_fr a7 (q2 245 (by decide) (by decide) (by decide) (by decide) (by decide) (by omega) (by decide) (by decide)) (q2 246 (by decide) (by decide) (by decide) (by decide) (by decide) (by omega) (by decide) (by decide)) (q2 288 (by decide) (by decide) (by decide) (by decide) (by decide) (by omega) (by decide) (by decide)) (k2 13 (by decide) (by decide))
  · exact iTx_fr a8 (fun a ha => q2 a (by omega) (by omega) (by omega) (by omega) (by omega) (by omega) (by omega) (by omega))
theorem st_act {M7 M8 : Nat} {a7 a8 : List aV} {p : Int × Option (Int → Int)} (hI : iA m) (h7 : az_C sc az_G M7 a7 m (qC m p)) (h8 : ∀ m1, (∀ x, 245 ≤ x → m1 x = m x) → az_C sc az_G M8 a8 m1 (qM m1 p)) (hp : ∀ f', p.2 = some f' → m 279 7 = 1 ∧ nOK f') : stp sc m M7 M8 a7 a8 := by
  refine az_C_mono h7 (fun v m1 h => ?_)
  obtain ⟨rfl, h⟩ := h
  have hkb := kb_b hI.2.1.2.1.1.1 hI.2.1.2.1.1.2
  have hh : ∀ x, 245 ≤ x → m1 x = m x := fun x hx => by
    rcases h with ⟨-, rfl⟩ | ⟨f', -, hc⟩
    · rfl
    · exact hc.1 x (by omega) (by omega) (by omega) (by omega)
  refine ⟨p.1, rfl, az_C_mono (h8 m1 hh) (fun v' m2 h2 => ?_)⟩
  obtain ⟨rfl, h2⟩ := h2
  refine ⟨rfl, ?_⟩
  rcases h with ⟨e1, rfl⟩ | ⟨f', e1, hc⟩
  · rcases h2 with ⟨-, rfl⟩ | ⟨f2, e2, -⟩
    · exact hI
    · rw [e1] at e2
      cases e2
  · rcases h2 with ⟨e2, -⟩ | ⟨f2, e2, hr⟩
    · rw [e1] at e2
      cases e2
    · rw [e1] at e2
      cases e2
      exact iA_act hI (hp f' e1).1 (hp f' e1).2 hc hr
theorem rH_9 {m1 : aM} (hI : iA m) (h : ∀ x, 245 ≤ x → m1 x = m x) : nOK (m1 284) ∧ (0 ≤ m1 279 9 ∧ m1 279 9 ≤ 24) ∧ (m1 279 7 = 0 ∨ m1 279 7 = 1) := by
  have hr := rH_fr hI h
  refine ⟨hr.1, ?_, hr.2.2⟩
  have h1 := hI.2.1.2.1.2
  rw [hI.2.1.1] at h1
  rw [h 279 (by decide)]
  exact h1
theorem st_leave (hI : iA m) (g : Int) : stp sc m 88 90 [.inr (.inr 20), .inl g] [.inr (.inr 280), .inl g] := by
  have hN := hI.1.2.1
  refine st_act hI (c_X7_leave hI.1 hI.2.1.2.1) (fun m1 hh => ?_) (fun f' e => ?_)
  · have hr := rH_9 hI hh
    have h := c_X8_leave (sc := sc) (g := g) hr.1 hr.2.1
    rw [hh 284 (by decide)] at h
    exact h
  · unfold pLeave at e
    by_cases hg : 0 ≤ g ∧ g ≤ m 284 2 - 1
    · rw [if_pos hg] at e
      by_cases hl : m 284 (32 + g) = 1
      · rw [if_pos hl] at e
        cases e
      · rw [if_neg hl] at e
        cases e
        refine ⟨hI.1.2.2.2.2 (by omega), ?_⟩
        have hn := nOK_2 hN
        have eo : ∀ j, j ≠ 32 + g → up1 (m 284) (32 + g) 1 j = m 284 j := fun j h => up1_ne _ _ h
        obtain ⟨n0, n1, n2, n3, n4, n5, n6, n7⟩ := hN
        unfold nOK
        rw [eo 0 (by omega), eo 1 (by omega), eo 2 (by omega), eo 3 (by omega), eo 4 (by omega), eo 5 (by omega)]
        refine ⟨n0, n1, n2, n3, n4, n5, fun h h0 h1 => ?_, fun j j0 j1 => ?_⟩
        · rw [eo _ (by omega)]; exact n6 h h0 h1
        · rw [eo (12 + j) (by omega), eo (16 + j) (by omega), eo (20 + j) (by omega), eo (24 + j) (by omega), eo (28 + j) (by omega), eo (36 + j) (by omega), eo (40 + j) (by omega)]
          have := n7 j j0 j1
          by_cases ej : j = g
          · subst ej
            rw [up1_at]
            omega
          · rw [eo _ (by omega)]
            exact this
    · rw [if_neg hg] at e
      cases e
theorem or_63 : ∀ c : Fin 64, ∀ h : Fin 6, 0 ≤ az_or (c.val : Int) (az_shl 1 (h.val : Int)) ∧ az_or (c.val : Int) (az_shl 1 (h.val : Int)) ≤ 63 := by decide +kernel
theorem or_63i {c h : Int} (hc : 0 ≤ c ∧ c ≤ 63) (hh : 0 ≤ h ∧ h ≤ 5) : 0 ≤ az_or c (az_shl 1 h) ∧ az_or c (az_shl 1 h) ≤ 63 := by
  have := or_63 ⟨c.toNat, by omega⟩ ⟨h.toNat, by omega⟩
  have e1 : ((c.toNat : Nat) : Int) = c := by omega
  have e2 : ((h.toNat : Nat) : Int) = h := by omega
  simp only [e1, e2] at this
  exact this
theorem st_cloud (hI : iA m) (h : Int) : stp sc m 92 93 [.inr (.inr 20), .inl h] [.inr (.inr 280), .inl h] := by
  have hN := hI.1.2.1
  refine st_act hI (c_X7_cloud hI.1 hI.2.1.2.1) (fun m1 hh => ?_) (fun f' e => ?_)
  · have hr := rH_9 hI hh
    have h := c_X8_cloud (sc := sc) (h := h) hr.1 hr.2.1 hr.2.2
    rw [hh 284 (by decide), hh 279 (by decide)] at h
    exact h
  · unfold pCloud at e
    by_cases hz : m 279 7 = 0
    · rw [if_pos hz] at e
      cases e
    rw [if_neg hz] at e
    have hz1 := hI.1.2.2.2.1
    by_cases hh : 0 ≤ h ∧ h ≤ 5
    · rw [if_pos hh] at e
      split at e
      · cases e
      · cases e
        refine ⟨by omega, ?_⟩
        have hn := nOK_2 hN
        have h5 := or_63i (nOK_5 hN) hh
        have eo : ∀ j, j ≠ 5 → up1 (m 284) 5 (az_or (m 284 5) (az_shl 1 h)) j = m 284 j := fun j h => up1_ne _ _ h
        obtain ⟨n0, n1, n2, n3, n4, n5, n6, n7⟩ := hN
        unfold nOK
        rw [eo 0 (by omega), eo 1 (by omega), eo 2 (by omega), eo 3 (by omega), eo 4 (by omega), up1_at]
        refine ⟨n0, n1, n2, n3, n4, h5, fun h h0 h1 => ?_, fun j j0 j1 => ?_⟩
        · rw [eo _ (by omega)]; exact n6 h h0 h1
        · rw [eo (12 + j) (by omega), eo (16 + j) (by omega), eo (20 + j) (by omega), eo (24 + j) (by omega), eo (28 + j) (by omega), eo (32 + j) (by omega), eo (36 + j) (by omega), eo (40 + j) (by omega)]
          exact n7 j j0 j1
    · rw [if_neg hh] at e
      cases e
theorem st_shade (hI : iA m) (g is : Int) : stp sc m 94 95 [.inr (.inr 20), .inl g, .inl is] [.inr (.inr 280), .inl g, .inl is] := by
  have hN := hI.1.2.1
  refine st_act hI (c_X7_shade hI.1 hI.2.1.2.1) (fun m1 hh => ?_) (fun f' e => ?_)
  · have hr := rH_9 hI hh
    have h := c_X8_shade (sc := sc) (g := g) (is := is) hr.1 hr.2.1
    rw [hh 284 (by decide)] at h
    exact h
  · unfold pShade at e
    by_cases hg : (0 ≤ g ∧ g ≤ m 284 2 - 1) ∧ (0 ≤ is ∧ is ≤ 1)
    · rw [if_pos hg] at e
      cases e
      refine ⟨hI.1.2.2.2.2 (by omega), ?_⟩
      have hn := nOK_2 hN
      have eo : ∀ j, j ≠ 40 + g → up1 (m 284) (40 + g) is j = m 284 j := fun j h => up1_ne _ _ h
      obtain ⟨n0, n1, n2, n3, n4, n5, n6, n7⟩ := hN
      unfold nOK
      rw [eo 0 (by omega), eo 1 (by omega), eo 2 (by omega), eo 3 (by omega), eo 4 (by omega), eo 5 (by omega)]
      refine ⟨n0, n1, n2, n3, n4, n5, fun h h0 h1 => ?_, fun j j0 j1 => ?_⟩
      · rw [eo _ (by omega)]; exact n6 h h0 h1
      · rw [eo (12 + j) (by omega), eo (16 + j) (by omega), eo (20 + j) (by omega), eo (24 + j) (by omega), eo (28 + j) (by omega), eo (32 + j) (by omega), eo (36 + j) (by omega)]
        have := n7 j j0 j1
        by_cases ej : j = g
        · subst ej
          rw [up1_at]
          omega
        · rw [eo _ (by omega)]
          exact this
    · rw [if_neg hg] at e
      cases e
theorem st_gift (hI : iA m) (g n : Int) : stp sc m 96 97 [.inr (.inr 20), .inl g, .inl n] [.inr (.inr 280), .inl g, .inl n] := by
  have hN := hI.1.2.1
  refine st_act hI (c_X7_gift hI.1 hI.2.1.2.1) (fun m1 hh => ?_) (fun f' e => ?_)
  · have hr := rH_9 hI hh
    have h := c_X8_gift (sc := sc) (g := g) (n := n) hr.1 hr.2.1
    rw [hh 284 (by decide)] at h
    exact h
  · unfold pGift at e
    by_cases hg : (0 ≤ g ∧ g ≤ m 284 2 - 1) ∧ (1 ≤ n ∧ n ≤ 999)
    · rw [if_pos hg] at e
      by_cases hl : 9999 < m 284 (24 + g) + pOver (m 284) g n
      · rw [if_pos hl] at e
        cases e
      · rw [if_neg hl] at e
        cases e
        refine ⟨hI.1.2.2.2.2 (by omega), ?_⟩
        have hn := nOK_2 hN
        have hG := nOK_g hN g hg.1.1 (by omega)
        obtain ⟨ov, hov⟩ : ∃ x, x = pOver (m 284) g n := ⟨_, rfl⟩
        obtain ⟨le, hle⟩ : ∃ x, x = pLess (m 284) g n := ⟨_, rfl⟩
        have hb : 0 ≤ ov ∧ 0 ≤ le ∧ le ≤ 9999 := by
          rw [hov, hle]
          unfold pOver pLess
          (repeat' split) <;> omega
        rw [← hov, ← hle]
        rw [← hov] at hl
        have eo : ∀ j, j ≠ 28 + g → j ≠ 24 + g → up1 (up1 (m 284) (28 + g) le) (24 + g) (m 284 (24 + g) + ov) j = m 284 j := fun j h h2 => by rw [up1_ne _ _ h2, up1_ne _ _ h]
        obtain ⟨n0, n1, n2, n3, n4, n5, n6, n7⟩ := hN
        unfold nOK
        rw [eo 0 (by omega) (by omega), eo 1 (by omega) (by omega), eo 2 (by omega) (by omega), eo 3 (by omega) (by omega), eo 4 (by omega) (by omega), eo 5 (by omega) (by omega)]
        refine ⟨n0, n1, n2, n3, n4, n5, fun h h0 h1 => ?_, fun j j0 j1 => ?_⟩
        · rw [eo _ (by omega) (by omega)]; exact n6 h h0 h1
        · rw [eo (12 + j) (by omega) (by omega), eo (16 + j) (by omega) (by omega), eo (20 + j) (by omega) (by omega), eo (32 + j) (by omega) (by omega), eo (36 + j) (by omega) (by omega), eo (40 + j) (by omega) (by omega)]
          have := n7 j j0 j1
          by_cases ej : j = g
          · subst ej
            rw [up1_at, up1_ne _ _ (by omega), up1_at]
            omega
          · rw [eo (24 + j) (by omega) (by omega), eo (28 + j) (by omega) (by omega)]
            exact this
    · rw [if_neg hg] at e
      cases e
theorem st_hour (hI : iA m) : stp sc m 83 86 [.inr (.inr 20)] [.inr (.inr 280)] := by
  have hN := hI.1.2.1
  refine st_act hI (c_X7_hour hI.1 hI.2.1.2.1) (fun m1 hh => ?_) (fun f' e => ?_)
  · have hr := rH_9 hI hh
    have h := c_X8_hour (sc := sc) hr.1 hr.2.1 hr.2.2
    rw [hh 284 (by decide), hh 279 (by decide)] at h
    exact h
  · unfold pHour at e
    by_cases hz : m 279 7 = 0
    · rw [if_pos hz] at e
      cases e
    rw [if_neg hz] at e
    have hz1 := hI.1.2.2.2.1
    by_cases h6 : m 284 4 = 6
    · rw [if_pos h6] at e
      cases e
    · rw [if_neg h6] at e
      cases e
      refine ⟨by omega, ?_⟩
      have hn := nOK_2 hN
      have eo : ∀ j, j ≠ 4 → (j < 36 ∨ 40 ≤ j) → up1 (pHrF (m 284) (m 284 2)) 4 (m 284 4 + 1) j = m 284 j := fun j h h2 => by rw [up1_ne _ _ h, pHrF_o _ _ (by omega)]
      obtain ⟨n0, n1, n2, n3, n4, n5, n6, n7⟩ := hN
      unfold nOK
      rw [eo 0 (by omega) (by omega), eo 1 (by omega) (by omega), eo 2 (by omega) (by omega), eo 3 (by omega) (by omega), up1_at, eo 5 (by omega) (by omega)]
      refine ⟨n0, n1, n2, n3, by omega, n5, fun h h0 h1 => ?_, fun j j0 j1 => ?_⟩
      · rw [eo _ (by omega) (by omega)]; exact n6 h h0 h1
      · rw [eo (12 + j) (by omega) (by omega), eo (16 + j) (by omega) (by omega), eo (20 + j) (by omega) (by omega), eo (24 + j) (by omega) (by omega), eo (28 + j) (by omega) (by omega), eo (32 + j) (by omega) (by omega), eo (40 + j) (by omega) (by omega), up1_ne _ _ (by omega)]
        have := n7 j j0 j1
        have e36 : pHrF (m 284) (m 284 2) (36 + j) = if m 284 (32 + j) = 0 then m 284 (36 + j) + 1 else m 284 (36 + j) := by
          unfold pHrF
          rw [show (36 : Int) + j - 4 = 32 + j by omega]
          by_cases q : m 284 (32 + j) = 0
          · rw [if_pos ⟨by omega, by omega, q⟩, if_pos q]
          · rw [if_neg (fun w => q w.2.2), if_neg q]
        rw [e36]
        split <;> omega
theorem st_sunset (hI : iA m) : stp sc m 111 120 [.inr (.inr 20)] [.inr (.inr 280)] := by
  have hN := hI.1.2.1
  refine st_act hI (c_X7_sunset hI.1 hI.2.1.2.1) (fun m1 hh => ?_) (fun f' e => ?_)
  · have hr := rH_9 hI hh
    have h := c_X8_sunset (sc := sc) hr.1 hr.2.1 hr.2.2
    rw [hh 284 (by decide), hh 279 (by decide)] at h
    exact h
  · unfold pSunset at e
    by_cases hz : m 279 7 = 0 ∨ m 284 4 < 6
    · rw [if_pos hz] at e
      cases e
    rw [if_neg hz] at e
    have hz1 := hI.1.2.2.2.1
    by_cases h9 : m 284 3 = 999
    · rw [if_pos h9] at e
      cases e
    · rw [if_neg h9] at e
      cases e
      refine ⟨by omega, ?_⟩
      have hN0 := hN
      have hn := nOK_2 hN
      have eo : ∀ j, j ≠ 3 → j ≠ 4 → j ≠ 5 → (j < 24 ∨ 40 ≤ j) → up1 (up1 (up1 (pSun (m 284) (m 284 2)) 3 (m 284 3 + 1)) 4 0) 5 0 j = m 284 j := fun j j3 j4 j5 hj => by rw [up1_ne _ _ j5, up1_ne _ _ j4, up1_ne _ _ j3, pSun_o _ (by omega) (by omega)]
      have es : ∀ j, 6 ≤ j → up1 (up1 (up1 (pSun (m 284) (m 284 2)) 3 (m 284 3 + 1)) 4 0) 5 0 j = pSun (m 284) (m 284 2) j := fun j hj => by rw [up1_ne _ _ (by omega), up1_ne _ _ (by omega), up1_ne _ _ (by omega)]
      have e3 : up1 (up1 (up1 (pSun (m 284) (m 284 2)) 3 (m 284 3 + 1)) 4 0) 5 0 3 = m 284 3 + 1 := by rw [up1_ne _ _ (by decide), up1_ne _ _ (by decide), up1_at]
      have e4 : up1 (up1 (up1 (pSun (m 284) (m 284 2)) 3 (m 284 3 + 1)) 4 0) 5 0 4 = 0 := by rw [up1_ne _ _ (by decide), up1_at]
      have e5 : up1 (up1 (up1 (pSun (m 284) (m 284 2)) 3 (m 284 3 + 1)) 4 0) 5 0 5 = 0 := up1_at _ _ _
      obtain ⟨n0, n1, n2, n3, n4, n5, n6, n7⟩ := hN
      unfold nOK
      rw [eo 0 (by omega) (by omega) (by omega) (by omega), eo 1 (by omega) (by omega) (by omega) (by omega), eo 2 (by omega) (by omega) (by omega) (by omega), e3, e4, e5]
      refine ⟨n0, n1, n2, by omega, by decide, by decide, fun h h0 h1 => ?_, fun j j0 j1 => ?_⟩
      · rw [eo _ (by omega) (by omega) (by omega) (by omega)]; exact n6 h h0 h1
      · rw [eo (12 + j) (by omega) (by omega) (by omega) (by omega), eo (16 + j) (by omega) (by omega) (by omega) (by omega), eo (20 + j) (by omega) (by omega) (by omega) (by omega), eo (40 + j) (by omega) (by omega) (by omega) (by omega), es (24 + j) (by omega), es (28 + j) (by omega), es (32 + j) (by omega), es (36 + j) (by omega)]
        have hj := n7 j j0 j1
        have hp := pPaidS_b hN0 j0 j1
        have hs := pSP_b hN0 j0 j1
        have g24 : pSun (m 284) (m 284 2) (24 + j) = pNP (m 284) j := by
          unfold pSun
          rw [if_pos (by omega), show (24 : Int) + j - 24 = j by omega]
        have g28 : pSun (m 284) (m 284 2) (28 + j) = pND (m 284) j := by
          unfold pSun
          rw [if_neg (by omega), if_pos (by omega), show (28 : Int) + j - 28 = j by omega]
        have g32 : pSun (m 284) (m 284 2) (32 + j) = 0 := by
          unfold pSun
          rw [if_neg (by omega), if_neg (by omega), if_pos (by omega)]
        have g36 : pSun (m 284) (m 284 2) (36 + j) = 0 := by
          unfold pSun
          rw [if_neg (by omega), if_neg (by omega), if_neg (by omega), if_pos (by omega)]
        rw [g24, g28, g32, g36]
        have hl1 := pLeast_b (v := m 284 (28 + j) + m 284 (28 + j) / 10) (by omega)
        have hl2 := pLeast_b (v := pLeast (m 284 (28 + j) + m 284 (28 + j) / 10) + pSP (m 284) j - pPaidS (m 284) j) (by omega)
        have gn : pNP (m 284) j = m 284 (24 + j) - pPaidS (m 284) j := rfl
        have gd : pND (m 284) j = pLeast (pLeast (m 284 (28 + j) + m 284 (28 + j) / 10) + pSP (m 284) j - pPaidS (m 284) j) := rfl
        rw [gn, gd]
        omega
end SB
