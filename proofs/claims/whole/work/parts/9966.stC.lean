/-! STEPS: undo, images, beaches -/
section SC
variable {sc : aX} {m : aM}
theorem iPt_fr2 {m' : aM} (h : iPt m) (h401 : m' 40 1 = m 40 1) (h402 : m' 40 2 = m 40 2) (hc : ∀ x, 42 ≤ x → x < 234 → m' x = m x) (h85 : m' 285 = m 285) (h7 : m' 279 7 = m 279 7) (h9 : m' 279 9 = m 279 9) : iPt m' := by
  obtain ⟨h1, h2, h3, h4⟩ := h
  have e : ∀ k, ix m' k = ix m k := fun k => by unfold ix; rw [h401, h9]
  refine ⟨by rw [h402, h9]; exact h1, by unfold iP0; rw [h401, h402]; exact h2, by rw [h9, h7]; exact h3, fun k k0 k1 => ?_⟩
  rw [h9] at k1
  rw [e, h85]
  have hk := kb_b (i := ix m k) (by unfold ix; omega) (by unfold ix; omega)
  exact pk_fr (h4 k k0 k1) (fun x x0 x1 => hc x (by omega) (by omega)) (fun j _ _ => rfl)
theorem st_undo (hI : iA m) : stp sc m 122 123 [.inr (.inr 20)] [.inr (.inr 280)] := by
  have hI0 := hI
  obtain ⟨a1, a2, a3, a4, a5, a6, a7, a8⟩ := hI
  obtain ⟨b1, b2, b3, b4⟩ := a2
  have hP1 := b2.1
  have hP2 := b2.2
  have hix : 1 ≤ m 40 2 → ix m (m 279 9 - 1) = (m 40 1 + 23) % 24 := fun h => by unfold ix; omega
  have hpk : 1 ≤ m 40 2 → pk m (kb ((m 40 1 + 23) % 24)) (fun j => m 285 (44 * (m 279 9 - 1) + j)) := fun h => by
    rw [← hix h]
    exact b4 _ (by omega) (by omega)
  refine az_C_mono (c_X7_undo a1 b2 (fun h => Or.inr (hpk h).1)) (fun v m1 h => ?_)
  rcases h with ⟨h0, rfl, rfl⟩ | ⟨h0, rfl, hU⟩
  · refine ⟨_, rfl, ?_⟩
    have h9 : m1 279 9 = 0 := by omega
    have h8 := c_X8_undo (sc := sc) (m := m1) (by omega)
    rw [if_pos h9, if_pos h9] at h8
    refine az_C_mono h8 (fun v' m2 h => ?_)
    obtain ⟨rfl, rfl⟩ := h
    exact ⟨rfl, hI0⟩
  · obtain ⟨u1, u2, u3, mm, u4, u5⟩ := hU
    have hi : ∀ x, 245 ≤ x → m1 x = m x := fun x hx => u1 x (by omega) (by omega)
    have h9 : m1 279 9 = m 279 9 := congrFun (hi 279 (by decide)) _
    have h8 := c_X8_undo (sc := sc) (m := m1) (by omega)
    rw [if_neg (by omega), if_neg (by omega), h9] at h8
    refine ⟨_, rfl, az_C_mono h8 (fun v' m2 h => ?_)⟩
    obtain ⟨rfl, rfl⟩ := h
    refine ⟨az_oI (by omega), ?_⟩
    obtain ⟨m2, hm2⟩ : ∃ x, x = az_cp (az_up m1 279 9 (m 279 9 - 1)) 285 (44 * (m 279 9 - 1)) 284 0 44 := ⟨_, rfl⟩
    rw [← hm2]
    have q1 : ∀ x, x ≠ 279 → x ≠ 284 → m2 x = m1 x := fun x e1 e2 => by rw [hm2, az_cp_b _ _ _ _ e2, az_up_b _ _ _ e1]
    have q2 : ∀ x, x ≠ 279 → x ≠ 284 → x ≠ 40 → (x < 22 ∨ 30 ≤ x) → m2 x = m x := fun x e1 e2 e3 e4 => (q1 x e1 e2).trans (u1 x e3 e4)
    have k2 : ∀ k, k ≠ 9 → m2 279 k = m 279 k := fun k e => by rw [hm2, az_cp_b _ _ _ _ (by decide), az_up_k _ _ e, hi 279 (by decide)]
    have e9 : m2 279 9 = m 279 9 - 1 := by rw [hm2, az_cp_b _ _ _ _ (by decide), az_upx]
    have h7 := k2 7 (by decide)
    have hz : m 279 7 = 1 := b3 (by omega)
    have e84 : ∀ j, 0 ≤ j → j < 44 → m2 284 j = (fun j => m 285 (44 * (m 279 9 - 1) + j)) j := fun j j0 j1 => by
      rw [hm2, az_cp_in _ (by omega) (by omega), az_up_b _ _ _ (by decide), hi 285 (by decide), show 44 * (m 279 9 - 1) + (j - 0) = 44 * (m 279 9 - 1) + j by omega]
    have hp := hpk (by omega)
    have hkb := kb_b (i := (m 40 1 + 23) % 24) (by omega) (by omega)
    have hB0 : bR mm (kb ((m 40 1 + 23) % 24)) (fun j => m 285 (44 * (m 279 9 - 1) + j)) := bR_fr hp.2.2 (fun x x0 x1 => u4 x (by omega))
    have hB1 := bCp_R u5 (nOK_2 hp.2.1) hB0
    have e7 : m1 22 7 = 1 := by
      rw [u5.2.1 7 (by decide) (by decide), u4 _ (by omega)]
      exact hp.1
    have e40 : m2 40 = m1 40 := q1 40 (by decide) (by decide)
    refine ⟨⟨?_, ?_, ?_, ?_, ?_⟩, ⟨?_, ⟨?_, ?_⟩, fun _ => by rw [h7]; exact hz, fun k k0 k1 => ?_⟩, ?_, ?_, ?_, ?_, ?_, ?_⟩
    · exact bR_cong e84 (nOK_2 hp.2.1) (bR_fr hB1 (fun x x0 x1 => q1 x (by omega) (by omega)))
    · exact nOK_cong e84 hp.2.1
    · rw [q1 22 (by decide) (by decide), e7, h7, hz]
    · rw [h7]; exact Or.inr hz
    · intro _; rw [h7]; exact hz
    · rw [e40, u3, e9, b1]
    · rw [e40, u2]; omega
    · rw [e40, u3]; omega
    · rw [e9] at k1
      have e1 : ix m2 k = ix m k := by unfold ix; rw [e40, u2, e9]; omega
      have hb := kb_b (i := ix m k) (by unfold ix; omega) (by unfold ix; omega)
      rw [e1]
      refine pk_fr (b4 k k0 (by omega)) (fun x x0 x1 => q2 x (by omega) (by omega) (by omega) (by omega)) (fun j j0 j1 => ?_)
      rw [q2 285 (by decide) (by decide) (by decide) (by decide)]
    · exact iIm_fr a3 (q2 286 (by decide) (by decide) (by decide) (by decide)) (q2 287 (by decide) (by decide) (by decide) (by decide)) (fun x x0 x1 => q2 x (by omega) (by omega) (by omega) (by omega)) h7
    · exact iRow_fr a4 (fun x x0 x1 => q2 x (by omega) (by omega) (by omega) (by omega)) (q2 280 (by decide) (by decide) (by decide) (by decide)) (q2 281 (by decide) (by decide) (by decide) (by decide)) (q2 282 (by decide) (by decide) (by decide) (by decide))
    · rw [q2 19 (by decide) (by decide) (by decide) (by decide), k2 3 (by decide)]
      exact a5
    · exact iTp_fr a6 (q2 38 (by decide) (by decide) (by decide) (by decide)) (q2 39 (by decide) (by decide) (by decide) (by decide)) (q2 283 (by decide) (by decide) (by decide) (by decide)) (k2 5 (by decide)) (k2 6 (by decide))
    · exact iTr_fr a7 (q2 245 (by decide) (by decide) (by decide) (by decide)) (q2 246 (by decide) (by decide) (by decide) (by decide)) (q2 288 (by decide) (by decide) (by decide) (by decide)) (k2 13 (by decide))
    · exact iTx_fr a8 (fun a ha => q2 a (by omega) (by omega) (by omega) (by omega))
theorem st_image (hI : iA m) (k : Int) : stp sc m 178 179 [.inr (.inr 20), .inl k] [.inr (.inr 280), .inl k] := by
  have hI0 := hI
  obtain ⟨a1, a2, a3, a4, a5, a6, a7, a8⟩ := hI
  have hz1 := a1.2.2.2.1
  refine az_C_mono (c_X7_image a1) (fun v m1 h => ?_)
  rcases h with ⟨hk, rfl, rfl⟩ | ⟨hk, hz, rfl, rfl⟩ | ⟨hk, hz, rfl, hc⟩
  · have h8 := c_X8_image (sc := sc) (m := m1) (k := k) hz1
    unfold pImg at h8
    rw [if_neg hk] at h8
    refine ⟨_, rfl, az_C_mono h8 (fun v' m2 h => ?_)⟩
    obtain ⟨rfl, rfl⟩ := h
    exact ⟨rfl, hI0⟩
  · have h8 := c_X8_image (sc := sc) (m := m1) (k := k) hz1
    unfold pImg at h8
    rw [if_pos hk, if_pos hz] at h8
    refine ⟨_, rfl, az_C_mono h8 (fun v' m2 h => ?_)⟩
    obtain ⟨rfl, rfl⟩ := h
    exact ⟨rfl, hI0⟩
  · have hb := ib_b hk.1 (show k < 2 by omega)
    have hf := hc.1
    have e79 : m1 279 = m 279 := hf 279 (by omega)
    have h8 := c_X8_image (sc := sc) (m := m1) (k := k) (by rw [e79]; exact hz1)
    unfold pImg at h8
    rw [if_pos hk, if_neg (by rw [e79]; exact hz)] at h8
    refine ⟨_, rfl, az_C_mono h8 (fun v' m2 h => ?_)⟩
    obtain ⟨rfl, rfl⟩ := h
    refine ⟨rfl, ?_⟩
    obtain ⟨m2, hm2⟩ : ∃ x, x = az_up (az_cp m1 284 0 286 (44 * k) 44) 287 k 1 := ⟨_, rfl⟩
    have e2 : (1, az_up (az_cp m1 284 0 286 (44 * k) 44) 287 k 1).2 = m2 := hm2.symm
    rw [e2]
    have q1 : ∀ x, x ≠ 286 → x ≠ 287 → m2 x = m1 x := fun x e1 e2 => by rw [hm2, az_up_b _ _ _ e2, az_cp_b _ _ _ _ e1]
    have q2 : ∀ x, x ≠ 286 → x ≠ 287 → (x < 263 ∨ 279 ≤ x) → m2 x = m x := fun x e1 e2 e3 => (q1 x e1 e2).trans (hf x (by omega))
    have e279 : m2 279 = m 279 := q2 279 (by decide) (by decide) (by decide)
    have hz7 : m 279 7 = 1 := by omega
    have hn := nOK_2 a1.2.1
    have hBn : bR m1 (ib k) (m 284) := bCp_R hc hn a1.1
    refine ⟨iB_fr a1 (fun x x0 x1 => q2 x (by omega) (by omega) (by omega)) (q2 284 (by decide) (by decide) (by decide)) (congrFun e279 _), iPt_fr a2 (q2 40 (by decide) (by decide) (by decide)) (fun x x0 x1 => q2 x (by omega) (by omega) (by omega)) (q2 285 (by decide) (by decide) (by decide)) (congrFun e279 _) (congrFun e279 _), fun k' k0 k1 => ?_, iRow_fr a4 (fun x x0 x1 => q2 x (by omega) (by omega) (by omega)) (q2 280 (by decide) (by decide) (by decide)) (q2 281 (by decide) (by decide) (by decide)) (q2 282 (by decide) (by decide) (by decide)), ?_, iTp_fr a6 (q2 38 (by decide) (by decide) (by decide)) (q2 39 (by decide) (by decide) (by decide)) (q2 283 (by decide) (by decide) (by decide)) (congrFun e279 _) (congrFun e279 _), iTr_fr a7 (q2 245 (by decide) (by decide) (by decide)) (q2 246 (by decide) (by decide) (by decide)) (q2 288 (by decide) (by decide) (by decide)) (congrFun e279 _), iTx_fr a8 (fun a ha => q2 a (by omega) (by omega) (by omega))⟩
    · by_cases e : k' = k
      · subst e
        refine Or.inr ⟨by rw [hm2, az_upx], by rw [e279]; exact hz7, ?_⟩
        refine pk_fr (m := m1) (f := m 284) ⟨by rw [hc.2.1 7 (by decide) (by decide), a1.2.2.1]; exact hz7, a1.2.1, hBn⟩ (fun x x0 x1 => q1 x (by omega) (by omega)) (fun j j0 j1 => ?_)
        rw [hm2, az_up_b _ _ _ (by decide), az_cp_in _ (by omega) (by omega), show (0 : Int) + (44 * k' + j - 44 * k') = j by omega, hf 284 (by omega)]
      · have hb' := ib_b k0 (show k' < 2 by omega)
        have hne : ib k' + 8 ≤ ib k ∨ ib k + 8 ≤ ib k' := by
          unfold ib
          omega
        have e287 : m2 287 k' = m 287 k' := by rw [hm2, az_up_k _ _ e, az_cp_b _ _ _ _ (by decide), hf 287 (by omega)]
        have ec : ∀ x, ib k' ≤ x → x < ib k' + 8 → m2 x = m x := fun x x0 x1 => (q1 x (by omega) (by omega)).trans (hf x (by omega))
        have e286 : ∀ j, 0 ≤ j → j < 44 → m2 286 (44 * k' + j) = m 286 (44 * k' + j) := fun j j0 j1 => by rw [hm2, az_up_b _ _ _ (by decide), az_cp_out _ (by omega), hf 286 (by omega)]
        rw [e287, e279]
        rcases a3 k' k0 k1 with ⟨w1, w2⟩ | ⟨w1, w2, w3⟩
        · refine Or.inl ⟨w1, ?_⟩
          rw [ec _ (by omega) (by omega)]
          exact w2
        · exact Or.inr ⟨w1, w2, pk_fr w3 ec e286⟩
    · rw [q2 19 (by decide) (by decide) (by decide), e279]
      exact a5
theorem st_restore (hI : iA m) (k : Int) : stp sc m 180 181 [.inr (.inr 20), .inl k] [.inr (.inr 280), .inl k] := by
  have hI0 := hI
  obtain ⟨a1, a2, a3, a4, a5, a6, a7, a8⟩ := hI
  obtain ⟨b1, b2, b3, b4⟩ := a2
  have hzz : ∀ k, 0 ≤ k → k ≤ 1 → m (ib k) 7 = 0 ∨ m (ib k) 7 = 1 := fun k k0 k1 => by
    rcases a3 k k0 k1 with ⟨w1, w2⟩ | ⟨w1, w2, w3⟩
    · exact Or.inl w2
    · exact Or.inr w3.1
  refine az_C_mono (c_X7_restore hzz) (fun v m1 h => ?_)
  rcases h with ⟨hk, rfl, rfl⟩ | ⟨hk, hz, rfl, rfl⟩ | ⟨hk, hz, rfl, mm, hc, hm1⟩
  · have h8 := c_X8_restore (sc := sc) (m := m1) (k := k)
    unfold pRes at h8
    rw [if_neg hk] at h8
    refine ⟨_, rfl, az_C_mono h8 (fun v' m2 h => ?_)⟩
    obtain ⟨rfl, rfl⟩ := h
    exact ⟨rfl, hI0⟩
  · have h8 := c_X8_restore (sc := sc) (m := m1) (k := k)
    have h0 : m1 287 k = 0 := by
      rcases a3 k hk.1 hk.2 with ⟨w1, w2⟩ | ⟨w1, w2, w3⟩
      · exact w1
      · have := w3.1
        omega
    unfold pRes at h8
    rw [if_pos hk, if_pos h0] at h8
    refine ⟨_, rfl, az_C_mono h8 (fun v' m2 h => ?_)⟩
    obtain ⟨rfl, rfl⟩ := h
    exact ⟨rfl, hI0⟩
  · have hb := ib_b hk.1 (show k < 2 by omega)
    have hw : m 287 k = 1 ∧ m 279 7 = 1 ∧ pk m (ib k) (fun j => m 286 (44 * k + j)) := by
      rcases a3 k hk.1 hk.2 with ⟨w1, w2⟩ | w
      · omega
      · exact w
    obtain ⟨w1, w2, w3⟩ := hw
    have hf : ∀ x, x ≠ 40 → (x < 22 ∨ 30 ≤ x) → m1 x = m x := fun x e1 e2 => by rw [hm1, az_up_b _ _ _ e1, hc.1 x (by omega)]
    have h8 := c_X8_restore (sc := sc) (m := m1) (k := k)
    unfold pRes at h8
    rw [if_pos hk, if_neg (by rw [hf 287 (by decide) (by decide)]; omega)] at h8
    refine ⟨_, rfl, az_C_mono h8 (fun v' m2 h => ?_)⟩
    obtain ⟨rfl, rfl⟩ := h
    refine ⟨rfl, ?_⟩
    obtain ⟨m2, hm2⟩ : ∃ x, x = az_up (az_cp m1 286 (44 * k) 284 0 44) 279 9 0 := ⟨_, rfl⟩
    have e2 : (1, az_up (az_cp m1 286 (44 * k) 284 0 44) 279 9 0).2 = m2 := hm2.symm
    rw [e2]
    have q1 : ∀ x, x ≠ 279 → x ≠ 284 → m2 x = m1 x := fun x e1 e2 => by rw [hm2, az_up_b _ _ _ e1, az_cp_b _ _ _ _ e2]
    have q2 : ∀ x, x ≠ 279 → x ≠ 284 → x ≠ 40 → (x < 22 ∨ 30 ≤ x) → m2 x = m x := fun x e1 e2 e3 e4 => (q1 x e1 e2).trans (hf x e3 e4)
    have k2 : ∀ k, k ≠ 9 → m2 279 k = m 279 k := fun k e => by rw [hm2, az_up_k _ _ e, az_cp_b _ _ _ _ (by decide), hf 279 (by decide) (by decide)]
    have e9 : m2 279 9 = 0 := by rw [hm2, az_upx]
    have h7 := k2 7 (by decide)
    have e84 : ∀ j, 0 ≤ j → j < 44 → m2 284 j = (fun j => m 286 (44 * k + j)) j := fun j j0 j1 => by
      rw [hm2, az_up_b _ _ _ (by decide), az_cp_in _ (by omega) (by omega), hf 286 (by decide) (by decide), show 44 * k + (j - 0) = 44 * k + j by omega]
    have hB1 := bCp_R hc (nOK_2 w3.2.1) w3.2.2
    have e22 : ∀ x, 22 ≤ x → x < 30 → m2 x = mm x := fun x x0 x1 => by rw [q1 x (by omega) (by omega), hm1, az_up_b _ _ _ (by omega)]
    have e40 : m2 40 = m1 40 := q1 40 (by decide) (by decide)
    have e401 : m1 40 1 = m 40 1 := by rw [hm1, az_up_k _ _ (by decide), hc.1 40 (by omega)]
    have e402 : m1 40 2 = 0 := by rw [hm1, az_upx]
    refine ⟨⟨?_, ?_, ?_, ?_, ?_⟩, ⟨?_, ⟨?_, ?_⟩, fun _ => by rw [h7]; exact w2, fun k k0 k1 => ?_⟩, ?_, ?_, ?_, ?_, ?_, ?_⟩
    · exact bR_cong e84 (nOK_2 w3.2.1) (bR_fr hB1 (fun x x0 x1 => e22 x x0 (by omega)))
    · exact nOK_cong e84 w3.2.1
    · rw [e22 22 (by decide) (by decide), hc.2.1 7 (by decide) (by decide), hz, h7, w2]
    · rw [h7]; exact Or.inr w2
    · intro _; rw [h7]; exact w2
    · rw [e40, e402, e9]
    · rw [e40, e401]; exact b2.1
    · rw [e40, e402]; decide
    · rw [e9] at k1
      omega
    · exact iIm_fr a3 (q2 286 (by decide) (by decide) (by decide) (by decide)) (q2 287 (by decide) (by decide) (by decide) (by decide)) (fun x x0 x1 => q2 x (by omega) (by omega) (by omega) (by omega)) h7
    · exact iRow_fr a4 (fun x x0 x1 => q2 x (by omega) (by omega) (by omega) (by omega)) (q2 280 (by decide) (by decide) (by decide) (by decide)) (q2 281 (by decide) (by decide) (by decide) (by decide)) (q2 282 (by decide) (by decide) (by decide) (by decide))
    · rw [q2 19 (by decide) (by decide) (by decide) (by decide), k2 3 (by decide)]
      exact a5
    · exact iTp_fr a6 (q2 38 (by decide) (by decide) (by decide) (by decide)) (q2 39 (by decide) (by decide) (by decide) (by decide)) (q2 283 (by decide) (by decide) (by decide) (by decide)) (k2 5 (by decide)) (k2 6 (by decide))
    · exact iTr_fr a7 (q2 245 (by decide) (by decide) (by decide) (by decide)) (q2 246 (by decide) (by decide) (by decide) (by decide)) (q2 288 (by decide) (by decide) (by decide) (by decide)) (k2 13 (by decide))
    · exact iTx_fr a8 (fun a ha => q2 a (by omega) (by omega) (by omega) (by omega))
theorem st_beach (hI : iA m) : stp sc m 65 76 [.inr (.inr 20)] [.inr (.inr 280)] := by
  obtain ⟨a1, a2, a3, a4, a5, a6, a7, a8⟩ := hI
  obtain ⟨b1, b2, b3, b4⟩ := a2
  obtain ⟨t1, t2, t3, t4⟩ := a6
  have hQ : cQ m (m 283) (m 279 5) := ⟨t1, t2, t3⟩
  have hT2 : ∀ x, 0 ≤ x → x < m 279 5 → 0 ≤ m 283 x ∧ m 283 x ≤ 255 := fun x x0 x1 => by
    have := t3 x x0 x1
    omega
  refine az_C_mono (c_X7_beach hQ a8) (fun v m1 h => ?_)
  obtain ⟨u1, u2, u3, u4⟩ := h
  have hi : ∀ x, 245 ≤ x → m1 x = m x := fun x hx => u1 x (by omega) (by omega) (by omega)
  have h8 := c_X8_beach (sc := sc) (m := m1) (T := m 283) (n := m 279 5) (hi 283 (by decide)) (by rw [hi 279 (by decide)]) t2 hT2
  obtain ⟨R, hR⟩ : ∃ R, R = pR (m 283) (m 279 5) 0 := ⟨_, rfl⟩
  rw [← hR] at u4 h8
  have fin : ∀ m2, bF m1 m2 → (∀ y, y ≠ 38 → y ≠ 40 → y ≠ 279 → y ≠ 284 → y ≠ 289 → (y < 22 ∨ 37 < y) → m2 y = m y) ∧ m2 38 1 = m2 279 5 ∧ (∀ k, k ≠ 5 → k ≠ 6 → k ≠ 7 → k ≠ 9 → k ≠ 15 → k ≠ 16 → k ≠ 17 → k ≠ 18 → k ≠ 19 → m2 279 k = m 279 k) ∧ m2 279 5 = 0 := fun m2 hF => by
    refine ⟨fun y e1 e2 e3 e4 e5 e6 => (hF.1 y e3 e4 e5).trans (u1 y e1 e2 e6), ?_, fun k e1 e2 e3 e4 e5 e6 e7 e8 e9 => (hF.2.1 k e1 e2 e3 e4 e5 e6 e7 e8 e9).trans (congrFun (hi 279 (by decide)) _), hF.2.2⟩
    rw [hF.1 38 (by decide) (by decide) (by decide), u2, hF.2.2]
  rcases u4 with ⟨r0, rfl, v1, v2, v3, v4⟩ | ⟨r0, rfl, v1, v2, v3⟩
  · refine ⟨_, rfl, az_C_mono h8 (fun v' m2 h => ?_)⟩
    obtain ⟨hF, h⟩ := h
    rcases h with ⟨-, rfl, w1, w2, w3, w4, w5⟩ | ⟨q, -⟩
    · obtain ⟨q1, q3, q4, q5⟩ := fin m2 hF
      have hnr : nOK (pRd (m 283) (m 279 5) R.2) := by
        have := nOK_rd (T := m 283) (n := m 279 5) (by rw [← hR]; exact r0)
        rw [← hR] at this
        exact this.1
      have e38 : m2 38 = m1 38 := hF.1 38 (by decide) (by decide) (by decide)
      have e40 : m2 40 = m1 40 := hF.1 40 (by decide) (by decide) (by decide)
      refine ⟨rfl, ⟨?_, ?_, ?_, ?_, ?_⟩, ⟨?_, ⟨?_, ?_⟩, fun h => by rw [w3] at h; omega, fun k k0 k1 => by rw [w3] at k1; omega⟩, fun k k0 k1 => ?_, ?_, ?_, ⟨q3, by rw [q5]; decide, fun x x0 x1 => by rw [q5] at x1; omega, ?_⟩, ?_, ?_⟩
      · exact bR_cong w5 (nOK_2 hnr) (bR_fr v3 (fun x x0 x1 => hF.1 x (by omega) (by omega) (by omega)))
      · exact nOK_cong w5 hnr
      · rw [hF.1 22 (by decide) (by decide) (by decide), v2, w2]
      · rw [w2]; exact Or.inr rfl
      · intro _; exact w2
      · rw [e40, v4, w3]
      · rw [e40, u3]; exact b2.1
      · rw [e40, v4]; decide
      · have hb := ib_b k0 (show k < 2 by omega)
        have ec : ∀ x, ib k ≤ x → x < ib k + 8 → m2 x = m x := fun x x0 x1 => q1 x (by omega) (by omega) (by omega) (by omega) (by omega) (by omega)
        rw [q1 287 (by decide) (by decide) (by decide) (by decide) (by decide) (by decide), q1 286 (by decide) (by decide) (by decide) (by decide) (by decide) (by decide)]
        rcases a3 k k0 k1 with ⟨x1, x2⟩ | ⟨x1, x2, x3⟩
        · refine Or.inl ⟨x1, ?_⟩
          rw [ec _ (by omega) (by omega)]
          exact x2
        · exact Or.inr ⟨x1, w2, pk_fr x3 ec (fun j _ _ => rfl)⟩
      · exact iRow_fr a4 (fun x x0 x1 => q1 x (by omega) (by omega) (by omega) (by omega) (by omega) (by omega)) (q1 280 (by decide) (by decide) (by decide) (by decide) (by decide) (by decide)) (q1 281 (by decide) (by decide) (by decide) (by decide) (by decide) (by decide)) (q1 282 (by decide) (by decide) (by decide) (by decide) (by decide) (by decide))
      · rw [q1 19 (by decide) (by decide) (by decide) (by decide) (by decide) (by decide), q4 3 (by decide) (by decide) (by decide) (by decide) (by decide) (by decide) (by decide) (by decide) (by decide)]
        exact a5
      · rw [e38, v1, t4, w1, hi 279 (by decide)]
      · exact iTr_fr a7 (q1 245 (by decide) (by decide) (by decide) (by decide) (by decide) (by decide)) (q1 246 (by decide) (by decide) (by decide) (by decide) (by decide) (by decide)) (q1 288 (by decide) (by decide) (by decide) (by decide) (by decide) (by decide)) (q4 13 (by decide) (by decide) (by decide) (by decide) (by decide) (by decide) (by decide) (by decide) (by decide))
      · exact iTx_fr a8 (fun a ha => q1 a (by omega) (by omega) (by omega) (by omega) (by omega) (by omega))
    · exact absurd r0 q
  · refine ⟨_, rfl, az_C_mono h8 (fun v' m2 h => ?_)⟩
    obtain ⟨hF, h⟩ := h
    rcases h with ⟨q, -⟩ | ⟨-, rfl, w1, w2, w3, w4⟩
    · exact absurd q r0
    · obtain ⟨q1, q3, q4, q5⟩ := fin m2 hF
      have e38 : m2 38 = m1 38 := hF.1 38 (by decide) (by decide) (by decide)
      have e401 : m2 40 1 = m 40 1 := by rw [hF.1 40 (by decide) (by decide) (by decide)]; exact u3
      have e402 : m2 40 2 = m 40 2 := by rw [hF.1 40 (by decide) (by decide) (by decide)]; exact v3
      have h7 : m2 279 7 = m 279 7 := w2.trans (congrFun (hi 279 (by decide)) _)
      have h9 : m2 279 9 = m 279 9 := w3.trans (congrFun (hi 279 (by decide)) _)
      have e22 : ∀ x, 22 ≤ x → x < 30 → m2 x = m x := fun x x0 x1 => (hF.1 x (by omega) (by omega) (by omega)).trans (v2 x x0 x1)
      refine ⟨rfl, iB_fr a1 e22 (w4.trans (hi 284 (by decide))) h7, ?_, iIm_fr a3 (q1 286 (by decide) (by decide) (by decide) (by decide) (by decide) (by decide)) (q1 287 (by decide) (by decide) (by decide) (by decide) (by decide) (by decide)) (fun x x0 x1 => q1 x (by omega) (by omega) (by omega) (by omega) (by omega) (by omega)) h7, iRow_fr a4 (fun x x0 x1 => q1 x (by omega) (by omega) (by omega) (by omega) (by omega) (by omega)) (q1 280 (by decide) (by decide) (by decide) (by decide) (by decide) (by decide)) (q1 281 (by decide) (by decide) (by decide) (by decide) (by decide) (by decide)) (q1 282 (by decide) (by decide) (by decide) (by decide) (by decide) (by decide)), ?_, ⟨q3, by rw [q5]; decide, fun x x0 x1 => by rw [q5] at x1; omega, by rw [e38, v1, w1]⟩, iTr_fr a7 (q1 245 (by decide) (by decide) (by decide) (by decide) (by decide) (by decide)) (q1 246 (by decide) (by decide) (by decide) (by decide) (by decide) (by decide)) (q1 288 (by decide) (by decide) (by decide) (by decide) (by decide) (by decide)) (q4 13 (by decide) (by decide) (by decide) (by decide) (by decide) (by decide) (by decide) (by decide) (by decide)), iTx_fr a8 (fun a ha => q1 a (by omega) (by omega) (by omega) (by omega) (by omega) (by omega))⟩
      · exact iPt_fr2 ⟨b1, b2, b3, b4⟩ e401 e402 (fun x x0 x1 => q1 x (by omega) (by omega) (by omega) (by omega) (by omega) (by omega)) (q1 285 (by decide) (by decide) (by decide) (by decide) (by decide) (by decide)) h7 h9
      · rw [q1 19 (by decide) (by decide) (by decide) (by decide) (by decide) (by decide), q4 3 (by decide) (by decide) (by decide) (by decide) (by decide) (by decide) (by decide) (by decide) (by decide)]
        exact a5
end SC
