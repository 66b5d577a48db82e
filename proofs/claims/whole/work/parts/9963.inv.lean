/-! CLASS AND REFERENCE: what holds between them -/
section IV
variable {sc : aX} {m m' : aM}
def pk (m : aM) (b : Nat) (f : Int → Int) : Prop := m b 7 = 1 ∧ nOK f ∧ bR m b f
def ix (m : aM) (k : Int) : Int := (m 40 1 + 24 - m 279 9 + k) % 24
def iPt (m : aM) : Prop := m 40 2 = m 279 9 ∧ iP0 m ∧ (0 < m 279 9 → m 279 7 = 1) ∧ ∀ k, 0 ≤ k → k < m 279 9 → pk m (kb (ix m k)) (fun j => m 285 (44 * k + j))
def iIm (m : aM) : Prop := ∀ k, 0 ≤ k → k ≤ 1 → (m 287 k = 0 ∧ m (ib k) 7 = 0) ∨ (m 287 k = 1 ∧ m 279 7 = 1 ∧ pk m (ib k) (fun j => m 286 (44 * k + j)))
def iTp (m : aM) : Prop := m 38 1 = m 279 5 ∧ (0 ≤ m 279 5 ∧ m 279 5 ≤ 400) ∧ (∀ x, 0 ≤ x → x < m 279 5 → (-128 ≤ m 39 x ∧ m 39 x < 128) ∧ m 283 x = m 39 x % 256) ∧ m 38 6 = m 279 6
def iTr (m : aM) : Prop := m 245 1 = m 279 13 ∧ (0 ≤ m 279 13 ∧ m 279 13 ≤ 16) ∧ ∀ i, 0 ≤ i → i < m 279 13 → m 246 i = m 288 i
def iA (m : aM) : Prop := iB m ∧ iPt m ∧ iIm m ∧ iRow m ∧ m 19 9 = m 279 3 ∧ iTp m ∧ iTr m ∧ iTx m
theorem pk_fr {b : Nat} {f f' : Int → Int} (h : pk m b f) (hc : ∀ x, b ≤ x → x < b + 8 → m' x = m x) (hf : ∀ j, 0 ≤ j → j < 44 → f' j = f j) : pk m' b f' := by
  obtain ⟨h1, h2, h3⟩ := h
  refine ⟨?_, nOK_cong hf h2, bR_cong hf (nOK_2 h2) (bR_fr h3 hc)⟩
  rw [hc b (by omega) (by omega)]
  exact h1
theorem iIm_fr (h : iIm m) (h86 : m' 286 = m 286) (h87 : m' 287 = m 287) (hc : ∀ x, 263 ≤ x → x < 279 → m' x = m x) (h7 : m' 279 7 = m 279 7) : iIm m' := fun k k0 k1 => by
  have hb := ib_b k0 (show k < 2 by omega)
  rw [h87, h86, h7]
  rcases h k k0 k1 with ⟨a1, a2⟩ | ⟨a1, a2, a3⟩
  · refine Or.inl ⟨a1, ?_⟩
    rw [hc _ (by omega) (by omega)]
    exact a2
  · exact Or.inr ⟨a1, a2, pk_fr a3 (fun x x0 x1 => hc x (by omega) (by omega)) (fun j _ _ => rfl)⟩
theorem iRow_fr (h : iRow m) (hc : ∀ x, 247 ≤ x → x < 263 → m' x = m x) (h80 : m' 280 = m 280) (h81 : m' 281 = m 281) (h82 : m' 282 = m 282) : iRow m' := by
  refine ⟨?_, fun r r0 r1 => ?_⟩
  · unfold pRowsOK
    rw [h80, h81]
    exact h.1
  · have hb := rb_b r0 r1
    have := h.2 r r0 r1
    unfold rowP at *
    rw [h80, h81, h82, hc (rb r) (by omega) (by omega), hc (rb r + 1) (by omega) (by omega)]
    exact this
theorem iTp_fr (h : iTp m) (h38 : m' 38 = m 38) (h39 : m' 39 = m 39) (h83 : m' 283 = m 283) (h5 : m' 279 5 = m 279 5) (h6 : m' 279 6 = m 279 6) : iTp m' := by
  unfold iTp at *
  rw [h38, h39, h83, h5, h6]
  exact h
theorem iTr_fr (h : iTr m) (h45 : m' 245 = m 245) (h46 : m' 246 = m 246) (h88 : m' 288 = m 288) (h13 : m' 279 13 = m 279 13) : iTr m' := by
  unfold iTr at *
  rw [h45, h46, h88, h13]
  exact h
theorem iB_fr (h : iB m) (hc : ∀ x, 22 ≤ x → x < 30 → m' x = m x) (h84 : m' 284 = m 284) (h7 : m' 279 7 = m 279 7) : iB m' := by
  obtain ⟨h1, h2, h3, h4, h5⟩ := h
  unfold iB
  rw [h84, h7, hc 22 (by decide) (by decide)]
  exact ⟨bR_fr h1 (fun x a b => hc x a (by omega)), h2, h3, h4, h5⟩
theorem iPt_fr (h : iPt m) (h40 : m' 40 = m 40) (hc : ∀ x, 42 ≤ x → x < 234 → m' x = m x) (h85 : m' 285 = m 285) (h7 : m' 279 7 = m 279 7) (h9 : m' 279 9 = m 279 9) : iPt m' := by
  obtain ⟨h1, h2, h3, h4⟩ := h
  have e : ∀ k, ix m' k = ix m k := fun k => by unfold ix; rw [h40, h9]
  refine ⟨by rw [h40, h9]; exact h1, by unfold iP0; rw [h40]; exact h2, by rw [h9, h7]; exact h3, fun k k0 k1 => ?_⟩
  rw [h9] at k1
  rw [e, h85]
  have hk := kb_b (i := ix m k) (by unfold ix; omega) (by unfold ix; omega)
  exact pk_fr (h4 k k0 k1) (fun x x0 x1 => hc x (by omega) (by omega)) (fun j _ _ => rfl)
/-- nothing that counts is other than it was -/
theorem iA_same (hI : iA m) (H : ∀ x, x ≠ 19 → x ≠ 279 → (x < 234 ∨ 244 < x) → x < 290 → m' x = m x) (F : ∀ k, k ≠ 3 → k ≠ 23 → m' 279 k = m 279 k) (hs : m' 19 9 = m' 279 3) : iA m' := by
  obtain ⟨a1, a2, a3, a4, a5, a6, a7, a8⟩ := hI
  have h7 := F 7 (by decide) (by decide)
  exact ⟨iB_fr a1 (fun x a b => H x (by omega) (by omega) (by omega) (by omega)) (H 284 (by decide) (by decide) (by decide) (by decide)) h7, iPt_fr a2 (H 40 (by decide) (by decide) (by decide) (by decide)) (fun x a b => H x (by omega) (by omega) (by omega) (by omega)) (H 285 (by decide) (by decide) (by decide) (by decide)) h7 (F 9 (by decide) (by decide)), iIm_fr a3 (H 286 (by decide) (by decide) (by decide) (by decide)) (H 287 (by decide) (by decide) (by decide) (by decide)) (fun x a b => H x (by omega) (by omega) (by omega) (by omega)) h7, iRow_fr a4 (fun x a b => H x (by omega) (by omega) (by omega) (by omega)) (H 280 (by decide) (by decide) (by decide) (by decide)) (H 281 (by decide) (by decide) (by decide) (by decide)) (H 282 (by decide) (by decide) (by decide) (by decide)), hs, iTp_fr a6 (H 38 (by decide) (by decide) (by decide) (by decide)) (H 39 (by decide) (by decide) (by decide) (by decide)) (H 283 (by decide) (by decide) (by decide) (by decide)) (F 5 (by decide) (by decide)) (F 6 (by decide) (by decide)), iTr_fr a7 (H 245 (by decide) (by decide) (by decide) (by decide)) (H 246 (by decide) (by decide) (by decide) (by decide)) (H 288 (by decide) (by decide) (by decide) (by decide)) (F 13 (by decide) (by decide)), iTx_fr a8 (fun a ha => H a (by omega) (by omega) (by omega) (by omega))⟩
/-- one call of both -/
def stp (sc : aX) (m : aM) (M7 M8 : Nat) (a7 a8 : List aV) : Prop := az_C sc az_G M7 a7 m (fun v m1 => ∃ x : Int, v = some (.inl x) ∧ az_C sc az_G M8 a8 m1 (fun v' m2 => v' = some (.inl x) ∧ iA m2))
theorem st_same {M7 M8 : Nat} {a7 a8 : List aV} {x : Int} (hI : iA m) (h7 : az_CI sc M7 a7 m x m) (h8 : az_CI sc M8 a8 m x m) : stp sc m M7 M8 a7 a8 := by
  refine az_C_mono h7 (fun v m1 h => ?_)
  obtain ⟨rfl, rfl⟩ := h
  refine ⟨x, rfl, az_C_mono h8 (fun v' m2 h => ?_)⟩
  obtain ⟨rfl, rfl⟩ := h
  exact ⟨rfl, hI⟩
theorem st_q {M7 M8 : Nat} {a7 a8 : List aV} {x st : Int} (hI : iA m) (h7 : az_C sc az_G M7 a7 m (qS m x st)) (h8 : ∀ m1, frC m m1 → az_C sc az_G M8 a8 m1 (qP m1 x st)) : stp sc m M7 M8 a7 a8 := by
  refine az_C_mono h7 (fun v m1 h => ?_)
  obtain ⟨rfl, f1, s1⟩ := h
  refine ⟨x, rfl, az_C_mono (h8 m1 f1) (fun v' m2 h => ?_)⟩
  obtain ⟨rfl, f2, s2⟩ := h
  refine ⟨rfl, iA_same hI (fun y a b c d => ?_) (fun k a b => ?_) ?_⟩
  · rw [f2.1 y b (by omega) (by omega) (by omega), f1.1 y a c]
  · rw [f2.2 k b a, f1.1 279 (by decide) (by decide)]
  · rw [s2, f2.1 19 (by decide) (by decide) (by decide) (by decide), s1]
/-- what the reference asks of its own cells -/
def rH (m : aM) : Prop := nOK (m 284) ∧ pRowsOK m ∧ (m 279 7 = 0 ∨ m 279 7 = 1)
theorem rH_fr (hI : iA m) (h : ∀ x, 245 ≤ x → m' x = m x) : rH m' := by
  unfold rH pRowsOK
  rw [h 284 (by decide), h 281 (by decide), h 280 (by decide), h 279 (by decide)]
  exact ⟨hI.1.2.1, hI.2.2.2.1.1, hI.1.2.2.2.1⟩
theorem frC_hi (h : frC m m') : ∀ x, 245 ≤ x → m' x = m x := fun x hx => h.1 x (by omega) (by omega)
theorem pTl_hi (h : ∀ x, 245 ≤ x → m' x = m x) (row good most : Int) : pTl m' row good most = pTl m row good most := by
  have e1 : pIn m' row most = pIn m row most := by
    unfold pIn
    rw [h 284 (by decide), h 282 (by decide)]
  unfold pTl
  rw [h 284 (by decide), h 281 (by decide), h 279 (by decide), e1]
theorem pIt_hi (h : ∀ x, 245 ≤ x → m' x = m x) (row : Int) : pIt m' row = pIt m row := by
  unfold pIt
  rw [h 282 (by decide)]
end IV
