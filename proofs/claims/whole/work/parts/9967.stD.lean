/-! STEPS: rows, tape, kinds, trace -/
section SD
variable {sc : aX} {m : aM}
theorem iA_rows {m2 : aM} (hI : iA m) (H : ∀ x, x ≠ 19 → x ≠ 279 → (x < 247 ∨ 262 < x) → x ≠ 280 → x ≠ 281 → x ≠ 282 → m2 x = m x) (F : ∀ k, k ≠ 3 → m2 279 k = m 279 k) (hs : m2 19 9 = m2 279 3) (hr : iRow m2) : iA m2 := by
  obtain ⟨a1, a2, a3, a4, a5, a6, a7, a8⟩ := hI
  have h7 := F 7 (by decide)
  exact ⟨iB_fr a1 (fun x a b => H x (by omega) (by omega) (by omega) (by omega) (by omega) (by omega)) (H 284 (by decide) (by decide) (by decide) (by decide) (by decide) (by decide)) h7, iPt_fr a2 (H 40 (by decide) (by decide) (by decide) (by decide) (by decide) (by decide)) (fun x a b => H x (by omega) (by omega) (by omega) (by omega) (by omega) (by omega)) (H 285 (by decide) (by decide) (by decide) (by decide) (by decide) (by decide)) h7 (F 9 (by decide)), iIm_fr a3 (H 286 (by decide) (by decide) (by decide) (by decide) (by decide) (by decide)) (H 287 (by decide) (by decide) (by decide) (by decide) (by decide) (by decide)) (fun x a b => H x (by omega) (by omega) (by omega) (by omega) (by omega) (by omega)) h7, hr, hs, iTp_fr a6 (H 38 (by decide) (by decide) (by decide) (by decide) (by decide) (by decide)) (H 39 (by decide) (by decide) (by decide) (by decide) (by decide) (by decide)) (H 283 (by decide) (by decide) (by decide) (by decide) (by decide) (by decide)) (F 5 (by decide)) (F 6 (by decide)), iTr_fr a7 (H 245 (by decide) (by decide) (by decide) (by decide) (by decide) (by decide)) (H 246 (by decide) (by decide) (by decide) (by decide) (by decide) (by decide)) (H 288 (by decide) (by decide) (by decide) (by decide) (by decide) (by decide)) (F 13 (by decide)), iTx_fr a8 (fun a ha => H a (by omega) (by omega) (by omega) (by omega) (by omega) (by omega))⟩
/-- only the status is another, on both sides -/
theorem iA_st (hI : iA m) (x : Int) : iA (az_up (az_up m 19 9 x) 279 3 x) := by
  refine iA_same hI (fun y a b _ _ => ?_) (fun k a _ => ?_) ?_
  · rw [az_up_b _ _ _ b, az_up_b _ _ _ a]
  · rw [az_up_k _ _ a, az_up_b _ _ _ (by decide)]
  · rw [az_up_b _ _ _ (by decide), az_upx, az_upx]
theorem pZero_e (m : aM) (row : Int) : (∀ b, b ≠ 282 → pZero m row b = m b) ∧ ∀ j, pZero m row 282 j = if 40 * row ≤ j ∧ j < 40 * row + 40 then 0 else m 282 j := by
  unfold pZero
  refine az_fold_inv (hi := 40) (step := fun k mm => az_up mm 282 (40 * row + k) 0) (fun g a => (∀ b, b ≠ 282 → a b = m b) ∧ (0 ≤ g → ∀ j, a 282 j = if 40 * row ≤ j ∧ j < 40 * row + g then 0 else m 282 j) ∧ 0 ≤ g) (fun g a hg hp => ?_) 40 0 m (by decide) ⟨fun _ _ => rfl, fun _ j => by rw [if_neg (by omega)], Int.le_refl _⟩ |> fun h => ⟨h.1, h.2.1 (by decide)⟩
  obtain ⟨p1, p2, p3⟩ := hp
  refine ⟨fun b hb => (az_up_b _ _ _ hb).trans (p1 b hb), fun _ j => ?_, by omega⟩
  by_cases e : j = 40 * row + g
  · rw [e, az_upx, if_pos (by omega)]
  · rw [az_up_k _ _ e, p2 p3 j]
    by_cases h : 40 * row ≤ j ∧ j < 40 * row + g
    · rw [if_pos h, if_pos (by omega)]
    · rw [if_neg h, if_neg (by omega)]
theorem st_row (hI : iA m) (row lane n : Int) : stp sc m 14 19 [.inr (.inr 20), .inl row, .inl lane, .inl n] [.inr (.inr 280), .inl row, .inl lane, .inl n] := by
  have hI0 := hI
  obtain ⟨a1, a2, a3, a4, a5, a6, a7, a8⟩ := hI
  refine az_C_mono (c_X7_row row lane n) (fun v m1 h => ?_)
  have h8 := c_X8_row (sc := sc) (m := m1) row lane n
  unfold pRow at h8
  rcases h with ⟨hv, hn, rfl, rfl⟩ | ⟨hv, hn, rfl, F, rfl, hF⟩ | ⟨hv, rfl, rfl⟩
  · rw [if_pos hv, if_pos hn] at h8
    refine ⟨_, rfl, az_C_mono h8 (fun v' m2 h => ?_)⟩
    obtain ⟨rfl, rfl⟩ := h
    exact ⟨rfl, iA_st hI0 4⟩
  · rw [if_pos hv, if_neg (by omega)] at h8
    refine ⟨_, rfl, az_C_mono h8 (fun v' m2 h => ?_)⟩
    obtain ⟨rfl, rfl⟩ := h
    refine ⟨rfl, ?_⟩
    have hrb := rb_b hv.1.1 (show row < 8 by omega)
    obtain ⟨m1, hm1⟩ : ∃ x, x = az_up (az_set (az_up (az_up m (rb row) 1 lane) (rb row) 2 n) (rb row + 1) F) 19 9 0 := ⟨_, rfl⟩
    obtain ⟨mz, hmz⟩ : ∃ x, x = pZero (az_up (az_up m1 280 row lane) 281 row n) row := ⟨_, rfl⟩
    rw [← hm1, ← hmz]
    have hz := pZero_e (az_up (az_up m1 280 row lane) 281 row n) row
    rw [← hmz] at hz
    have l1 : ∀ x, x ≠ 19 → x ≠ rb row → x ≠ rb row + 1 → m1 x = m x := fun x e1 e2 e3 => by
      rw [hm1, az_up_b _ _ _ e1]
      show (if x = rb row + 1 then F else _) = _
      rw [if_neg e3, az_up_b _ _ _ e2, az_up_b _ _ _ e2]
    have d1 : m1 (rb row) 1 = lane ∧ m1 (rb row) 2 = n := by
      have e : m1 (rb row) = az_up (az_up m (rb row) 1 lane) (rb row) 2 n (rb row) := by
        rw [hm1, az_up_b _ _ _ (by omega)]
        show (if rb row = rb row + 1 then F else _) = _
        rw [if_neg (by omega)]
      rw [e]
      exact ⟨(az_up_k _ _ (by decide)).trans (az_upx _ _ _ _), az_upx _ _ _ _⟩
    have d2 : m1 (rb row + 1) = F := by
      rw [hm1, az_up_b _ _ _ (by omega)]
      show (if rb row + 1 = rb row + 1 then F else _) = _
      rw [if_pos rfl]
    obtain ⟨m2, hm2⟩ : ∃ x, x = az_up mz 279 3 0 := ⟨_, rfl⟩
    rw [← hm2]
    show iA m2
    have q1 : ∀ x, x ≠ 279 → x ≠ 280 → x ≠ 281 → x ≠ 282 → m2 x = m1 x := fun x e1 e2 e3 e4 => by rw [hm2, az_up_b _ _ _ e1, hz.1 x e4, az_up_b _ _ _ e3, az_up_b _ _ _ e2]
    have q280 : ∀ r, m2 280 r = if r = row then lane else m 280 r := fun r => by
      rw [hm2, az_up_b _ _ _ (by decide), hz.1 280 (by decide), az_up_b _ _ _ (by decide)]
      by_cases e : r = row
      · rw [e, az_upx, if_pos rfl]
      · rw [az_up_k _ _ e, if_neg e, l1 280 (by decide) (by omega) (by omega)]
    have q281 : ∀ r, m2 281 r = if r = row then n else m 281 r := fun r => by
      rw [hm2, az_up_b _ _ _ (by decide), hz.1 281 (by decide)]
      by_cases e : r = row
      · rw [e, az_upx, if_pos rfl]
      · rw [az_up_k _ _ e, if_neg e, az_up_b _ _ _ (by decide), l1 281 (by decide) (by omega) (by omega)]
    have q282 : ∀ j, m2 282 j = if 40 * row ≤ j ∧ j < 40 * row + 40 then 0 else m 282 j := fun j => by
      rw [hm2, az_up_b _ _ _ (by decide), hz.2 j, az_up_b _ _ _ (by decide), az_up_b _ _ _ (by decide), l1 282 (by decide) (by omega) (by omega)]
    refine iA_rows hI0 (fun x e1 e2 e3 e4 e5 e6 => ?_) (fun k e => ?_) ?_ ⟨fun r r0 r1 => ?_, fun r r0 r1 => ?_⟩
    · rw [q1 x e2 e4 e5 e6, l1 x e1 (by omega) (by omega)]
    · rw [hm2, az_up_k _ _ e, hz.1 279 (by decide), az_up_b _ _ _ (by decide), az_up_b _ _ _ (by decide), l1 279 (by decide) (by omega) (by omega)]
    · rw [q1 19 (by decide) (by decide) (by decide) (by decide), hm1, az_upx, hm2, az_upx]
    · rw [q280, q281]
      by_cases e : r = row
      · rw [if_pos e, if_pos e]
        omega
      · rw [if_neg e, if_neg e]
        exact a4.1 r r0 r1
    · unfold rowP
      by_cases e : r = row
      · subst e
        rw [q281, q280, if_pos rfl, if_pos rfl, q1 (rb r) (by omega) (by omega) (by omega) (by omega), q1 (rb r + 1) (by omega) (by omega) (by omega) (by omega), d1.1, d1.2, d2]
        refine ⟨by omega, fun _ => ⟨rfl, rfl, fun i i0 i1 => ?_⟩⟩
        rw [hF i i0 i1, q282, if_pos (by omega)]
      · have hne := rb_i r0 hv.1.1 e
        have hb := rb_b r0 r1
        rw [q281, q280, if_neg e, if_neg e, q1 (rb r) (by omega) (by omega) (by omega) (by omega), q1 (rb r + 1) (by omega) (by omega) (by omega) (by omega), l1 (rb r) (by omega) (by omega) (by omega), l1 (rb r + 1) (by omega) (by omega) (by omega)]
        have hrp := a4.2 r r0 r1
        refine ⟨hrp.1, fun h => ⟨(hrp.2 h).1, (hrp.2 h).2.1, fun i i0 i1 => ?_⟩⟩
        have h40 := (a4.1 r r0 (by omega)).1
        rw [q282, if_neg (by omega)]
        exact (hrp.2 h).2.2 i i0 i1
  · rw [if_neg hv] at h8
    refine ⟨_, rfl, az_C_mono h8 (fun v' m2 h => ?_)⟩
    obtain ⟨rfl, rfl⟩ := h
    exact ⟨rfl, hI0⟩
theorem st_drop (hI : iA m) (row : Int) : stp sc m 28 29 [.inr (.inr 20), .inl row] [.inr (.inr 280), .inl row] := by
  have hI0 := hI
  obtain ⟨a1, a2, a3, a4, a5, a6, a7, a8⟩ := hI
  refine az_C_mono (c_X7_drop row a4) (fun v m1 h => ?_)
  obtain ⟨rfl, h⟩ := h
  have h8 := c_X8_drop (sc := sc) (m := m1) row
  unfold pDrop at h8 ⊢
  by_cases hr : 0 ≤ row ∧ row ≤ 7
  · rw [if_pos hr] at h h8 ⊢
    by_cases hs : m 281 row < 0
    · rw [if_pos hs] at h ⊢
      subst h
      rw [if_pos (by rw [az_up_b _ _ _ (by decide)]; exact hs)] at h8
      refine ⟨_, rfl, az_C_mono h8 (fun v' m2 h => ?_)⟩
      obtain ⟨rfl, rfl⟩ := h
      exact ⟨rfl, iA_st hI0 1⟩
    · rw [if_neg hs] at h ⊢
      have hrb := rb_b hr.1 (show row < 8 by omega)
      have l1 : ∀ x, x ≠ 19 → x ≠ rb row → m1 x = m x := fun x e1 e2 => by rw [h, az_up_b _ _ _ e1, az_up_b _ _ _ e2, az_up_b _ _ _ e2]
      have d1 : m1 (rb row) 1 = -1 := by rw [h, az_up_b _ _ _ (by omega), az_up_k _ _ (by decide), az_upx]
      have e281 : m1 281 = m 281 := l1 281 (by decide) (by omega)
      rw [if_neg (by rw [e281]; exact hs), e281] at h8
      refine ⟨_, rfl, az_C_mono h8 (fun v' m2 h2 => ?_)⟩
      obtain ⟨rfl, rfl⟩ := h2
      refine ⟨rfl, ?_⟩
      obtain ⟨m2, hm2⟩ : ∃ x, x = az_up (az_up m1 281 row (-1)) 279 3 0 := ⟨_, rfl⟩
      have e2 : (m 281 row, az_up (az_up m1 281 row (-1)) 279 3 0).2 = m2 := hm2.symm
      rw [e2]
      have q1 : ∀ x, x ≠ 279 → x ≠ 281 → m2 x = m1 x := fun x e1 e2 => by rw [hm2, az_up_b _ _ _ e1, az_up_b _ _ _ e2]
      have q281 : ∀ r, m2 281 r = if r = row then -1 else m 281 r := fun r => by
        rw [hm2, az_up_b _ _ _ (by decide)]
        by_cases e : r = row
        · rw [e, az_upx, if_pos rfl]
        · rw [az_up_k _ _ e, if_neg e, e281]
      refine iA_rows hI0 (fun x e1 e2 e3 e4 e5 e6 => ?_) (fun k e => ?_) ?_ ⟨fun r r0 r1 => ?_, fun r r0 r1 => ?_⟩
      · rw [q1 x e2 e5, l1 x e1 (by omega)]
      · rw [hm2, az_up_k _ _ e, az_up_b _ _ _ (by decide), l1 279 (by decide) (by omega)]
      · rw [q1 19 (by decide) (by decide), h, az_upx, hm2, az_upx]
      · rw [q281, q1 280 (by decide) (by decide), l1 280 (by decide) (by omega)]
        have := a4.1 r r0 r1
        refine ⟨?_, this.2⟩
        split <;> omega
      · unfold rowP
        by_cases e : r = row
        · subst e
          rw [q281, if_pos rfl, q1 (rb r) (by omega) (by omega), d1]
          exact ⟨by decide, fun q => absurd q (by decide)⟩
        · have hne := rb_i r0 hr.1 e
          have hb := rb_b r0 r1
          rw [q281, if_neg e, q1 280 (by decide) (by decide), q1 282 (by decide) (by decide), q1 (rb r) (by omega) (by omega), q1 (rb r + 1) (by omega) (by omega), l1 280 (by decide) (by omega), l1 282 (by decide) (by omega), l1 (rb r) (by omega) (by omega), l1 (rb r + 1) (by omega) (by omega)]
          exact a4.2 r r0 r1
  · rw [if_neg hr] at h h8 ⊢
    subst h
    refine ⟨_, rfl, az_C_mono h8 (fun v' m2 h => ?_)⟩
    obtain ⟨rfl, rfl⟩ := h
    exact ⟨rfl, hI0⟩
theorem st_set (hI : iA m) (row i v : Int) (hi : -2147483648 ≤ i ∧ i < 2147483648) : stp sc m 23 24 [.inr (.inr 20), .inl row, .inl i, .inl v] [.inr (.inr 280), .inl row, .inl i, .inl v] := by
  have hI0 := hI
  obtain ⟨a1, a2, a3, a4, a5, a6, a7, a8⟩ := hI
  refine az_C_mono (c_X7_set row i v a4 hi) (fun v0 m1 h => ?_)
  obtain ⟨rfl, h⟩ := h
  by_cases hr : 0 ≤ row ∧ row ≤ 7
  · have hrb := rb_b hr.1 (show row < 8 by omega)
    rw [if_pos hr] at h
    have hl : ∀ x, 263 ≤ x → m1 x = m x := fun x hx => by
      rw [h]
      split
      · rw [az_up_b _ _ _ (by omega)]
      · split
        · rw [az_up_b _ _ _ (by omega), az_up_b _ _ _ (by omega)]
        · rw [az_up_b _ _ _ (by omega)]
    have h8 := c_X8_set (sc := sc) (m := m1) row i v (by unfold pRowsOK; rw [hl 281 (by decide), hl 280 (by decide)]; exact a4.1)
    unfold pSet at h8 ⊢
    rw [if_pos hr, hl 281 (by decide), hl 280 (by decide)] at h8
    rw [if_pos hr]
    by_cases hs : m 281 row < 0
    · rw [if_pos hs] at h h8 ⊢
      subst h
      refine ⟨_, rfl, az_C_mono h8 (fun v' m2 h => ?_)⟩
      obtain ⟨rfl, rfl⟩ := h
      exact ⟨rfl, iA_st hI0 1⟩
    · rw [if_neg hs] at h h8 ⊢
      by_cases hp : 0 ≤ i ∧ i ≤ m 281 row - 1
      · rw [if_pos hp] at h h8 ⊢
        refine ⟨_, rfl, az_C_mono h8 (fun v' m2 h2 => ?_)⟩
        obtain ⟨rfl, rfl⟩ := h2
        refine ⟨rfl, ?_⟩
        obtain ⟨x, hx⟩ : ∃ x, x = pNar (m 280 row) v := ⟨_, rfl⟩
        obtain ⟨m2, hm2⟩ : ∃ y, y = az_up (az_up m1 282 (40 * row + i) x) 279 3 0 := ⟨_, rfl⟩
        have e2 : (pNar (m 280 row) v, az_up (az_up m1 282 (40 * row + i) (pNar (m 280 row) v)) 279 3 0).2 = m2 := by rw [hm2, hx]
        rw [e2]
        rw [← hx] at h
        have h40 := (a4.1 row hr.1 hr.2).1
        have l1 : ∀ y, y ≠ 19 → y ≠ rb row + 1 → m1 y = m y := fun y e1 e2 => by rw [h, az_up_b _ _ _ e1, az_up_b _ _ _ e2]
        have q1 : ∀ y, y ≠ 279 → y ≠ 282 → m2 y = m1 y := fun y e1 e2 => by rw [hm2, az_up_b _ _ _ e1, az_up_b _ _ _ e2]
        have d2 : ∀ j, m1 (rb row + 1) j = if j = i then x else m (rb row + 1) j := fun j => by
          rw [h, az_up_b _ _ _ (by omega)]
          by_cases e : j = i
          · rw [e, az_upx, if_pos rfl]
          · rw [az_up_k _ _ e, if_neg e]
        have q282 : ∀ j, m2 282 j = if j = 40 * row + i then x else m 282 j := fun j => by
          rw [hm2, az_up_b _ _ _ (by decide)]
          by_cases e : j = 40 * row + i
          · rw [e, az_upx, if_pos rfl]
          · rw [az_up_k _ _ e, if_neg e, l1 282 (by decide) (by omega)]
        refine iA_rows hI0 (fun y e1 e2 e3 e4 e5 e6 => ?_) (fun k e => ?_) ?_ ⟨fun r r0 r1 => ?_, fun r r0 r1 => ?_⟩
        · rw [q1 y e2 e6, l1 y e1 (by omega)]
        · rw [hm2, az_up_k _ _ e, az_up_b _ _ _ (by decide), l1 279 (by decide) (by omega)]
        · rw [q1 19 (by decide) (by decide), h, az_upx, hm2, az_upx]
        · rw [q1 281 (by decide) (by decide), q1 280 (by decide) (by decide), l1 281 (by decide) (by omega), l1 280 (by decide) (by omega)]
          exact a4.1 r r0 r1
        · unfold rowP
          have hb := rb_b r0 r1
          have hrp := a4.2 r r0 r1
          have hr40 := (a4.1 r r0 (by omega)).1
          by_cases e : r = row
          · subst e
            rw [q1 281 (by decide) (by decide), q1 280 (by decide) (by decide), l1 281 (by decide) (by omega), l1 280 (by decide) (by omega), q1 (rb r) (by omega) (by omega), l1 (rb r) (by omega) (by omega), q1 (rb r + 1) (by omega) (by omega)]
            refine ⟨hrp.1, fun hh => ⟨(hrp.2 hh).1, (hrp.2 hh).2.1, fun j j0 j1 => ?_⟩⟩
            rw [d2, q282]
            by_cases ej : j = i
            · rw [if_pos ej, if_pos (by omega)]
            · rw [if_neg ej, if_neg (by omega)]
              exact (hrp.2 hh).2.2 j j0 j1
          · have hne := rb_i r0 hr.1 e
            rw [q1 281 (by decide) (by decide), q1 280 (by decide) (by decide), l1 281 (by decide) (by omega), l1 280 (by decide) (by omega), q1 (rb r) (by omega) (by omega), l1 (rb r) (by omega) (by omega), q1 (rb r + 1) (by omega) (by omega), l1 (rb r + 1) (by omega) (by omega)]
            refine ⟨hrp.1, fun hh => ⟨(hrp.2 hh).1, (hrp.2 hh).2.1, fun j j0 j1 => ?_⟩⟩
            rw [q282, if_neg (by omega)]
            exact (hrp.2 hh).2.2 j j0 j1
      · rw [if_neg hp] at h h8 ⊢
        subst h
        refine ⟨_, rfl, az_C_mono h8 (fun v' m2 h => ?_)⟩
        obtain ⟨rfl, rfl⟩ := h
        exact ⟨rfl, iA_st hI0 2⟩
  · rw [if_neg hr] at h
    subst h
    have h8 := c_X8_set (sc := sc) (m := m1) row i v a4.1
    refine ⟨_, rfl, az_C_mono h8 (fun v' m2 h => ?_)⟩
    obtain ⟨rfl, rfl⟩ := h
    refine ⟨rfl, ?_⟩
    unfold pSet
    rw [if_neg hr]
    exact hI0
theorem st_copy (hI : iA m) (a i b j n : Int) (hi : -2147483648 ≤ i ∧ i < 2147483648) (hj : -2147483648 ≤ j ∧ j < 2147483648) (hn : -2147483648 ≤ n ∧ n < 2147483648) : stp sc m 25 26 [.inr (.inr 20), .inl a, .inl i, .inl b, .inl j, .inl n] [.inr (.inr 280), .inl a, .inl i, .inl b, .inl j, .inl n] := by
  have hI0 := hI
  obtain ⟨a1, a2, a3, a4, a5, a6, a7, a8⟩ := hI
  refine az_C_mono (c_X7_copy a4 hi hj hn) (fun v0 m1 h => ?_)
  obtain ⟨rfl, h⟩ := h
  unfold cCpM at h
  by_cases hab : (0 ≤ a ∧ a ≤ 7) ∧ (0 ≤ b ∧ b ≤ 7)
  · have hra := rb_b hab.1.1 (show a < 8 by omega)
    have hrb := rb_b hab.2.1 (show b < 8 by omega)
    rw [if_pos hab] at h
    have hl : ∀ x, 263 ≤ x → m1 x = m x := fun x hx => by
      rw [h]
      split
      · rw [az_up_b _ _ _ (by omega)]
      · split
        · rw [az_up_b _ _ _ (by omega)]
        · split
          · rw [az_up_b _ _ _ (by omega), az_cp_b _ _ _ _ (by omega)]
          · rw [az_up_b _ _ _ (by omega)]
    have h8 := c_X8_copy (sc := sc) (m := m1) (a := a) (i := i) (b := b) (j := j) (n := n) (by unfold pRowsOK; rw [hl 281 (by decide), hl 280 (by decide)]; exact a4.1) hi hj hn
    have ep : pCpOK m1 a i b j n = pCpOK m a i b j n := by
      unfold pCpOK
      rw [hl 281 (by decide)]
    unfold pCopy at h8 ⊢
    rw [if_pos hab, hl 281 (by decide), hl 280 (by decide), ep] at h8
    rw [if_pos hab]
    by_cases hs : m 281 a < 0 ∨ m 281 b < 0
    · rw [if_pos hs] at h h8 ⊢
      subst h
      refine ⟨_, rfl, az_C_mono h8 (fun v' m2 h => ?_)⟩
      obtain ⟨rfl, rfl⟩ := h
      exact ⟨rfl, iA_st hI0 1⟩
    · rw [if_neg hs] at h h8 ⊢
      by_cases hla : m 280 a ≠ m 280 b
      · rw [if_pos hla] at h h8 ⊢
        subst h
        refine ⟨_, rfl, az_C_mono h8 (fun v' m2 h => ?_)⟩
        obtain ⟨rfl, rfl⟩ := h
        exact ⟨rfl, iA_st hI0 5⟩
      · rw [if_neg hla] at h h8 ⊢
        by_cases hp : pCpOK m a i b j n
        · rw [if_pos hp] at h h8 ⊢
          refine ⟨_, rfl, az_C_mono h8 (fun v' m2 h2 => ?_)⟩
          obtain ⟨rfl, rfl⟩ := h2
          refine ⟨rfl, ?_⟩
          obtain ⟨p1, p2, p3, p4, p5⟩ := hp
          obtain ⟨m2, hm2⟩ : ∃ y, y = az_up (az_cp m1 282 (40 * a + i) 282 (40 * b + j) n) 279 3 0 := ⟨_, rfl⟩
          have e2 : (n, az_up (az_cp m1 282 (40 * a + i) 282 (40 * b + j) n) 279 3 0).2 = m2 := hm2.symm
          rw [e2]
          have ha40 := (a4.1 a hab.1.1 hab.1.2).1
          have hb40 := (a4.1 b hab.2.1 hab.2.2).1
          have l1 : ∀ y, y ≠ 19 → y ≠ rb b + 1 → m1 y = m y := fun y e1 e2 => by rw [h, az_up_b _ _ _ e1, az_cp_b _ _ _ _ e2]
          have q1 : ∀ y, y ≠ 279 → y ≠ 282 → m2 y = m1 y := fun y e1 e2 => by rw [hm2, az_up_b _ _ _ e1, az_cp_b _ _ _ _ e2]
          have d2 : ∀ y, m1 (rb b + 1) y = if j ≤ y ∧ y < j + n then m (rb a + 1) (i + (y - j)) else m (rb b + 1) y := fun y => by
            rw [h, az_up_b _ _ _ (by omega)]
            by_cases e : j ≤ y ∧ y < j + n
            · rw [az_cp_in _ e.1 e.2, if_pos e]
            · rw [az_cp_out _ (by omega), if_neg e]
          have q282 : ∀ y, m2 282 y = if 40 * b + j ≤ y ∧ y < 40 * b + j + n then m 282 (40 * a + i + (y - (40 * b + j))) else m 282 y := fun y => by
            rw [hm2, az_up_b _ _ _ (by decide)]
            by_cases e : 40 * b + j ≤ y ∧ y < 40 * b + j + n
            · rw [az_cp_in _ e.1 e.2, if_pos e, l1 282 (by decide) (by omega)]
            · rw [az_cp_out _ (by omega), if_neg e, l1 282 (by decide) (by omega)]
          refine iA_rows hI0 (fun y e1 e2 e3 e4 e5 e6 => ?_) (fun k e => ?_) ?_ ⟨fun r r0 r1 => ?_, fun r r0 r1 => ?_⟩
          · rw [q1 y e2 e6, l1 y e1 (by omega)]
          · rw [hm2, az_up_k _ _ e, az_cp_b _ _ _ _ (by decide), l1 279 (by decide) (by omega)]
          · rw [q1 19 (by decide) (by decide), h, az_upx, hm2, az_upx]
          · rw [q1 281 (by decide) (by decide), q1 280 (by decide) (by decide), l1 281 (by decide) (by omega), l1 280 (by decide) (by omega)]
            exact a4.1 r r0 r1
          · unfold rowP
            have hb := rb_b r0 r1
            have hrp := a4.2 r r0 r1
            have hr40 := (a4.1 r r0 (by omega)).1
            by_cases e : r = b
            · subst e
              have hap := (a4.2 a hab.1.1 (by omega)).2 (by omega)
              rw [q1 281 (by decide) (by decide), q1 280 (by decide) (by decide), l1 281 (by decide) (by omega), l1 280 (by decide) (by omega), q1 (rb r) (by omega) (by omega), l1 (rb r) (by omega) (by omega), q1 (rb r + 1) (by omega) (by omega)]
              refine ⟨hrp.1, fun hh => ⟨(hrp.2 hh).1, (hrp.2 hh).2.1, fun y y0 y1 => ?_⟩⟩
              rw [d2, q282]
              by_cases ej : j ≤ y ∧ y < j + n
              · rw [if_pos ej, if_pos (by omega), hap.2.2 _ (by omega) (by omega)]
                congr 1
                omega
              · rw [if_neg ej, if_neg (by omega)]
                exact (hrp.2 hh).2.2 y y0 y1
            · have hne := rb_i r0 hab.2.1 e
              rw [q1 281 (by decide) (by decide), q1 280 (by decide) (by decide), l1 281 (by decide) (by omega), l1 280 (by decide) (by omega), q1 (rb r) (by omega) (by omega), l1 (rb r) (by omega) (by omega), q1 (rb r + 1) (by omega) (by omega), l1 (rb r + 1) (by omega) (by omega)]
              refine ⟨hrp.1, fun hh => ⟨(hrp.2 hh).1, (hrp.2 hh).2.1, fun y y0 y1 => ?_⟩⟩
              rw [q282, if_neg (by omega)]
              exact (hrp.2 hh).2.2 y y0 y1
        · rw [if_neg hp] at h h8 ⊢
          subst h
          refine ⟨_, rfl, az_C_mono h8 (fun v' m2 h => ?_)⟩
          obtain ⟨rfl, rfl⟩ := h
          exact ⟨rfl, iA_st hI0 2⟩
  · rw [if_neg hab] at h
    subst h
    have h8 := c_X8_copy (sc := sc) (m := m1) (a := a) (i := i) (b := b) (j := j) (n := n) a4.1 hi hj hn
    refine ⟨_, rfl, az_C_mono h8 (fun v' m2 h => ?_)⟩
    obtain ⟨rfl, rfl⟩ := h
    refine ⟨rfl, ?_⟩
    unfold pCopy
    rw [if_neg hab]
    exact hI0
theorem st_as (hI : iA m) (g k : Int) : stp sc m 185 187 [.inr (.inr 20), .inl g, .inl k] [.inr (.inr 280), .inl g, .inl k] := by
  have hI0 := hI
  obtain ⟨a1, a2, a3, a4, a5, a6, a7, a8⟩ := hI
  have hAb : iAb m := ⟨a8 2 (by decide) (by decide) 0 (by decide +kernel), a8 2 (by decide) (by decide) 1 (by decide +kernel), a8 2 (by decide) (by decide) 2 (by decide +kernel), a8 2 (by decide) (by decide) 3 (by decide +kernel), a8 2 (by decide) (by decide) 4 (by decide +kernel), a8 2 (by decide) (by decide) 5 (by decide +kernel)⟩
  refine az_C_mono (c_X7_as a1 hAb) (fun v0 m1 h => ?_)
  obtain ⟨rfl, h⟩ := h
  have hn := nOK_2 a1.2.1
  by_cases hg : (0 ≤ g ∧ g ≤ m 284 2 - 1) ∧ (0 ≤ k ∧ k ≤ 5)
  · rw [if_pos hg] at h
    have hl : m1 284 = m 284 := by
      rw [h]
      split <;> rw [az_up_b _ _ _ (by decide)]
    have h8 := c_X8_as (sc := sc) (m := m1) g k (by rw [hl]; exact hn)
    unfold pAs at h8 ⊢
    rw [hl, if_pos hg] at h8
    rw [if_pos hg]
    by_cases hp : pIsOf (m 284 (12 + g)) k = 0
    · rw [if_pos hp] at h h8 ⊢
      subst h
      refine ⟨_, rfl, az_C_mono h8 (fun v' m2 h => ?_)⟩
      obtain ⟨rfl, rfl⟩ := h
      exact ⟨rfl, iA_st hI0 3⟩
    · rw [if_neg hp] at h h8 ⊢
      subst h
      refine ⟨_, rfl, az_C_mono h8 (fun v' m2 h => ?_)⟩
      obtain ⟨rfl, rfl⟩ := h
      exact ⟨rfl, iA_st hI0 0⟩
  · rw [if_neg hg] at h
    subst h
    have h8 := c_X8_as (sc := sc) (m := m1) g k hn
    refine ⟨_, rfl, az_C_mono h8 (fun v' m2 h => ?_)⟩
    obtain ⟨rfl, rfl⟩ := h
    refine ⟨rfl, ?_⟩
    unfold pAs
    rw [if_neg hg]
    exact hI0
/-- tape and trace apart, nothing that counts is other -/
theorem iA_tt {m2 : aM} (hI : iA m) (H : ∀ x, x ≠ 38 → x ≠ 39 → x ≠ 245 → x ≠ 246 → x ≠ 279 → x ≠ 283 → x ≠ 288 → m2 x = m x) (F : ∀ k, k ≠ 5 → k ≠ 13 → m2 279 k = m 279 k) (hp : iTp m2) (hr : iTr m2) : iA m2 := by
  obtain ⟨a1, a2, a3, a4, a5, a6, a7, a8⟩ := hI
  have h7 := F 7 (by decide) (by decide)
  refine ⟨iB_fr a1 (fun x a b => H x (by omega) (by omega) (by omega) (by omega) (by omega) (by omega) (by omega)) (H 284 (by decide) (by decide) (by decide) (by decide) (by decide) (by decide) (by decide)) h7, iPt_fr a2 (H 40 (by decide) (by decide) (by decide) (by decide) (by decide) (by decide) (by decide)) (fun x a b => H x (by omega) (by omega) (by omega) (by omega) (by omega) (by omega) (by omega)) (H 285 (by decide) (by decide) (by decide) (by decide) (by decide) (by decide) (by decide)) h7 (F 9 (by decide) (by decide)), iIm_fr a3 (H 286 (by decide) (by decide) (by decide) (by decide) (by decide) (by decide) (by decide)) (H 287 (by decide) (by decide) (by decide) (by decide) (by decide) (by decide) (by decide)) (fun x a b => H x (by omega) (by omega) (by omega) (by omega) (by omega) (by omega) (by omega)) h7, iRow_fr a4 (fun x a b => H x (by omega) (by omega) (by omega) (by omega) (by omega) (by omega) (by omega)) (H 280 (by decide) (by decide) (by decide) (by decide) (by decide) (by decide) (by decide)) (H 281 (by decide) (by decide) (by decide) (by decide) (by decide) (by decide) (by decide)) (H 282 (by decide) (by decide) (by decide) (by decide) (by decide) (by decide) (by decide)), ?_, hp, hr, iTx_fr a8 (fun a ha => H a (by omega) (by omega) (by omega) (by omega) (by omega) (by omega) (by omega))⟩
  rw [H 19 (by decide) (by decide) (by decide) (by decide) (by decide) (by decide) (by decide), F 3 (by decide) (by decide)]
  exact a5
theorem st_feed (hI : iA m) (w n : Int) : stp sc m 32 33 [.inr (.inr 20), .inr (.inl w), .inl n] [.inr (.inr 280), .inr (.inl w), .inl n] := by
  have hI0 := hI
  obtain ⟨a1, a2, a3, a4, a5, a6, a7, a8⟩ := hI
  obtain ⟨t1, t2, t3, t4⟩ := a6
  refine az_C_mono (c_X7_feed (w := w) (n := n) (by rw [t1]; exact t2) t1) (fun v0 m1 h => ?_)
  obtain ⟨rfl, h⟩ := h
  unfold cFeed at h
  have hl : ∀ x, x ≠ 38 → x ≠ 39 → m1 x = m x := fun x e1 e2 => by
    rw [h]
    split
    · split
      · rfl
      · rw [az_up_b _ _ _ e1]
        exact if_neg e2
    · rfl
  have e79 : m1 279 = m 279 := hl 279 (by decide) (by decide)
  have e83 : m1 283 = m 283 := hl 283 (by decide) (by decide)
  have h8 := c_X8_feed (sc := sc) (m := m1) (w := w) (n := n) (by rw [e79]; exact t2)
  unfold pFeed at h8 ⊢
  rw [e79, e83] at h8
  by_cases hn : 1 ≤ n ∧ n ≤ 8
  · rw [if_pos hn] at h h8 ⊢
    rw [t1] at h
    by_cases hf : 400 < m 279 5 + n
    · rw [if_pos hf] at h h8 ⊢
      subst h
      refine ⟨_, rfl, az_C_mono h8 (fun v' m2 h => ?_)⟩
      obtain ⟨rfl, rfl⟩ := h
      exact ⟨rfl, hI0⟩
    · rw [if_neg hf] at h h8 ⊢
      refine ⟨_, rfl, az_C_mono h8 (fun v' m2 h2 => ?_)⟩
      obtain ⟨rfl, rfl⟩ := h2
      refine ⟨rfl, ?_⟩
      obtain ⟨m2, hm2⟩ : ∃ y, y = az_up (az_set m1 283 (pFdT (m 283) w (m 279 5) n n)) 279 5 (m 279 5 + n) := ⟨_, rfl⟩
      have e2 : (m 279 5 + n, az_up (az_set m1 283 (pFdT (m 283) w (m 279 5) n n)) 279 5 (m 279 5 + n)).2 = m2 := hm2.symm
      rw [e2]
      have q1 : ∀ x, x ≠ 279 → x ≠ 283 → m2 x = m1 x := fun x e1 e2 => by
        rw [hm2, az_up_b _ _ _ e1]
        exact if_neg e2
      have e5 : m2 279 5 = m 279 5 + n := by rw [hm2, az_upx]
      have k2 : ∀ k, k ≠ 5 → m2 279 k = m 279 k := fun k e => by
        rw [hm2, az_up_k _ _ e, ← e79]
        rfl
      have e283 : m2 283 = pFdT (m 283) w (m 279 5) n n := by
        rw [hm2, az_up_b _ _ _ (by decide)]
        exact if_pos rfl
      have e39 : m2 39 = pFdC (m 39) w (m 279 5) n n := by
        rw [q1 39 (by decide) (by decide), h, az_up_b _ _ _ (by decide)]
        exact if_pos rfl
      have e381 : m2 38 1 = m 279 5 + n := by rw [q1 38 (by decide) (by decide), h, az_upx]
      have e386 : m2 38 6 = m 38 6 := by
        rw [q1 38 (by decide) (by decide), h, az_up_k _ _ (by decide)]
        rfl
      refine iA_tt hI0 (fun x e1 e2 e3 e4 e5 e6 e7 => (q1 x e5 e6).trans (hl x e1 e2)) (fun k e1 _ => k2 k e1) ⟨by rw [e381, e5], by rw [e5]; omega, fun x x0 x1 => ?_, by rw [e386, k2 6 (by decide)]; exact t4⟩ (iTr_fr a7 ((q1 245 (by decide) (by decide)).trans (hl 245 (by decide) (by decide))) ((q1 246 (by decide) (by decide)).trans (hl 246 (by decide) (by decide))) ((q1 288 (by decide) (by decide)).trans (hl 288 (by decide) (by decide))) (k2 13 (by decide)))
      rw [e5] at x1
      rw [e39, e283]
      unfold pFdC pFdT
      by_cases hx : m 279 5 ≤ x ∧ x < m 279 5 + n
      · rw [if_pos hx, if_pos hx]
        exact ⟨az_i2b_b _, byt_rel _ _⟩
      · rw [if_neg hx, if_neg hx]
        exact t3 x x0 (by omega)
  · rw [if_neg hn] at h h8 ⊢
    subst h
    refine ⟨_, rfl, az_C_mono h8 (fun v' m2 h => ?_)⟩
    obtain ⟨rfl, rfl⟩ := h
    exact ⟨rfl, hI0⟩
theorem rNtl_b {b : Nat} (h1 : b ≠ 279) (h2 : b ≠ 288) : ∀ (xs : List Int) (m : aM) (L : Int), rNtl m L xs b = m b := by
  intro xs
  induction xs with
  | nil => intro m L; rfl
  | cons x xs ih =>
    intro m L
    show rNtl (rNt m L x) (L + 1) xs b = _
    rw [ih]
    unfold rNt
    rw [az_up_b _ _ _ h1, az_up_b _ _ _ h2]
theorem rNtl_k {k : Int} (h : k ≠ 13) : ∀ (xs : List Int) (m : aM) (L : Int), rNtl m L xs 279 k = m 279 k := by
  intro xs
  induction xs with
  | nil => intro m L; rfl
  | cons x xs ih =>
    intro m L
    show rNtl (rNt m L x) (L + 1) xs 279 k = _
    rw [ih]
    unfold rNt
    rw [az_up_k _ _ h, az_up_b _ _ _ (by decide)]
theorem ntl_eq : ∀ (xs : List Int) (c r : aM) (L : Int), 0 ≤ L → c 245 1 = L → r 279 13 = L → (∀ i, 0 ≤ i → i < L → c 246 i = r 288 i) → cNtl c L xs 245 1 = L + xs.length ∧ rNtl r L xs 279 13 = L + xs.length ∧ ∀ i, 0 ≤ i → i < L + xs.length → cNtl c L xs 246 i = rNtl r L xs 288 i := by
  intro xs
  induction xs with
  | nil =>
    intro c r L h0 h1 h2 h3
    have e : L + (([] : List Int).length : Int) = L := by
      simp
    rw [e]
    exact ⟨h1, h2, h3⟩
  | cons x xs ih =>
    intro c r L h0 h1 h2 h3
    have e : L + ((x :: xs).length : Int) = (L + 1) + (xs.length : Int) := by
      show L + ((xs.length + 1 : Nat) : Int) = _
      omega
    rw [e]
    refine ih (cNt c L x) (rNt r L x) (L + 1) (by omega) (cNt_1 _ _ _) (rNt_13 _ _ _) (fun i i0 i1 => ?_)
    have e1 : cNt c L x 246 = az_up c 246 L x 246 := az_up_b _ _ _ (by decide)
    have e2 : rNt r L x 288 = az_up r 288 L x 288 := az_up_b _ _ _ (by decide)
    rw [e1, e2]
    by_cases ei : i = L
    · rw [ei, az_upx, az_upx]
    · rw [az_up_k _ _ ei, az_up_k _ _ ei]
      exact h3 i i0 (by omega)
theorem pAskL_b (k w : Int) : ((pAskL k w).length : Int) ≤ 6 := by
  unfold pAskL pMkL pSzL
  (repeat' split) <;> simp
theorem st_ask (hI : iA m) (g w : Int) : stp sc m 204 208 [.inr (.inr 20), .inl g, .inl w] [.inr (.inr 280), .inl g, .inl w] := by
  have hI0 := hI
  obtain ⟨a1, a2, a3, a4, a5, a6, a7, a8⟩ := hI
  refine az_C_mono (c_X7_ask a1) (fun v0 m1 h => ?_)
  obtain ⟨rfl, h⟩ := h
  unfold cAsk at h
  by_cases hg : (0 ≤ g ∧ g ≤ m 284 2 - 1) ∧ (0 ≤ w ∧ w ≤ 1)
  · rw [if_pos hg] at h
    obtain ⟨xs, hxs⟩ : ∃ xs, xs = pAskL (m 284 (12 + g)) w := ⟨_, rfl⟩
    rw [← hxs] at h
    have hlen := pAskL_b (m 284 (12 + g)) w
    rw [← hxs] at hlen
    have hl : ∀ x, x ≠ 245 → x ≠ 246 → m1 x = m x := fun x e1 e2 => by rw [h, cNtl_b _ e1 e2, az_up_b _ _ _ e1]
    have e84 : m1 284 = m 284 := hl 284 (by decide) (by decide)
    have h8 := c_X8_ask (sc := sc) (m := m1) (g := g) (w := w) (by rw [e84]; exact a1.2.1)
    unfold pAsk at h8 ⊢
    rw [e84, if_pos hg, ← hxs] at h8
    rw [if_pos hg]
    refine ⟨_, rfl, az_C_mono h8 (fun v' m2 h2 => ?_)⟩
    obtain ⟨rfl, rfl⟩ := h2
    refine ⟨rfl, ?_⟩
    obtain ⟨m2, hm2⟩ : ∃ y, y = rNtl (az_up m1 279 13 0) 0 xs := ⟨_, rfl⟩
    have e2 : (pAskV (m 284) g w, rNtl (az_up m1 279 13 0) 0 xs).2 = m2 := hm2.symm
    rw [e2]
    have q1 : ∀ x, x ≠ 279 → x ≠ 288 → m2 x = m1 x := fun x e1 e2 => by rw [hm2, rNtl_b e1 e2, az_up_b _ _ _ e1]
    have k2 : ∀ k, k ≠ 13 → m2 279 k = m 279 k := fun k e => by rw [hm2, rNtl_k e, az_up_k _ _ e, hl 279 (by decide) (by decide)]
    obtain ⟨n1, n2, n3⟩ := ntl_eq xs (az_up m 245 1 0) (az_up m1 279 13 0) 0 (Int.le_refl _) (az_upx _ _ _ _) (az_upx _ _ _ _) (fun i i0 i1 => by omega)
    rw [← h] at n1 n3
    rw [← hm2] at n2 n3
    refine iA_tt hI0 (fun x e1 e2 e3 e4 e5 e6 e7 => (q1 x e5 e7).trans (hl x e3 e4)) (fun k _ e => k2 k e) (iTp_fr a6 ((q1 38 (by decide) (by decide)).trans (hl 38 (by decide) (by decide))) ((q1 39 (by decide) (by decide)).trans (hl 39 (by decide) (by decide))) ((q1 283 (by decide) (by decide)).trans (hl 283 (by decide) (by decide))) (k2 5 (by decide)) (k2 6 (by decide))) ⟨?_, ?_, fun i i0 i1 => ?_⟩
    · rw [q1 245 (by decide) (by decide), n1, n2]
    · rw [n2]; omega
    · rw [n2] at i1
      rw [q1 246 (by decide) (by decide)]
      exact n3 i i0 i1
  · rw [if_neg hg] at h
    subst h
    have h8 := c_X8_ask (sc := sc) (m := m1) (g := g) (w := w) a1.2.1
    refine ⟨_, rfl, az_C_mono h8 (fun v' m2 h => ?_)⟩
    obtain ⟨rfl, rfl⟩ := h
    refine ⟨rfl, ?_⟩
    unfold pAsk
    rw [if_neg hg]
    exact hI0
end SD
