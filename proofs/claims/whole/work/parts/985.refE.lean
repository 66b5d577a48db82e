/-! THE REFERENCE: what a row tells; worth, best, rounds -/
section RE
variable {sc : aX} {m : aM} {f t c : Int → Int} {sp : Int} {Q : Option aV → aM → Prop}
def frR (m m' : aM) : Prop := (∀ b, b ≠ 279 → b ≠ 290 → b ≠ 291 → b ≠ 292 → m' b = m b) ∧ (∀ k, k ≠ 23 → k ≠ 3 → m' 279 k = m 279 k)
theorem frR_r (m : aM) : frR m m := ⟨fun _ _ _ _ _ => rfl, fun _ _ _ => rfl⟩
theorem frR_t {m m1 m2 : aM} (h1 : frR m m1) (h2 : frR m1 m2) : frR m m2 := ⟨fun b a1 a2 a3 a4 => (h2.1 b a1 a2 a3 a4).trans (h1.1 b a1 a2 a3 a4), fun k a1 a2 => (h2.2 k a1 a2).trans (h1.2 k a1 a2)⟩
theorem frR_2 {m m1 : aM} (h : fr2 m m1) : frR m m1 := ⟨fun b _ a2 _ a4 => h b a2 a4, fun k _ _ => congrFun (h 279 (by decide) (by decide)) k⟩
theorem frR_st (m : aM) (x : Int) : frR m (az_up m 279 3 x) := by
  refine ⟨fun b h _ _ _ => ?_, fun k _ h => ?_⟩
  · funext j
    simp [az_up, h]
  · simp [az_up, h]
/-- what a call answers, and the status that it leaves -/
def qP (m : aM) (x st : Int) : Option aV → aM → Prop := fun v m' => v = some (.inl x) ∧ frR m m' ∧ m' 279 3 = st
def pIn (m : aM) (row most : Int) : Prop := ∀ g, 0 ≤ g → g < m 284 2 → 0 ≤ m 282 (40 * row + g) ∧ m 282 (40 * row + g) ≤ most
def pIt (m : aM) (row : Int) : Int → Int := fun g => m 282 (40 * row + g)
noncomputable def pTl (m : aM) (row good most : Int) : Int × Int := if m 279 7 = 0 then (-1000002, m 279 3) else if ¬ (0 ≤ row ∧ row ≤ 7) ∨ good = 0 then (-1000001, m 279 3) else if m 281 row < 0 then (-1000011, 1) else if m 281 row < m 284 2 then (-1000012, 2) else @ite _ (pIn m row most) (Classical.propDecidable _) (0, 0) (-1000001, m 279 3)
/-- what tells leaves where it refuses nothing -/
def pTq (m : aM) (row : Int) (m' : aM) : Prop := (∀ g, 0 ≤ g → g < m 284 2 → m' 290 g = pIt m row g) ∧ (∀ h, 0 ≤ h → h < 6 → m' 291 h = pPrice (m 284) h) ∧ m' 279 23 = m 284 0
theorem c_X8_tells {row good most : Int} (hN : nOK (m 284)) (hR : pRowsOK m) (hZ : m 279 7 = 0 ∨ m 279 7 = 1) (hm : 0 ≤ most) : az_C sc az_G 133 [.inr (.inr 280), .inl row, .inl good, .inl most] m (fun v m' => qP m (pTl m row good most).1 (pTl m row good most).2 v m' ∧ ((pTl m row good most).1 = 0 → pTq m row m')) := by
  have hn := nOK_2 hN
  have hf : m 284 = m 284 := rfl
  have hR2 : (0 ≤ row ∧ row ≤ 7) → (-1 ≤ m 281 row ∧ m 281 row ≤ 40) := fun h => (hR row h.1 h.2).1
  by_cases hb : m 279 7 = 0
  · have e : pTl m row good most = (-1000002, m 279 3) := by unfold pTl; rw [if_pos hb]
    rw [e]
    refine r_aload_n rfl ?_
    refine r_getZ g_279 ?_
    refine r_if_ne kX8_tells_10 (fun c1 => absurd c1 (by omega)) (fun c1 => ?_)
    refine r_ldcI ?_
    refine r_iret rfl ?_
    exact ⟨⟨rfl, frR_r m, rfl⟩, fun h => absurd h (by dsimp only; omega)⟩
  by_cases hg : ¬ (0 ≤ row ∧ row ≤ 7) ∨ good = 0
  · have e : pTl m row good most = (-1000001, m 279 3) := by unfold pTl; rw [if_neg hb, if_pos hg]
    rw [e]
    refine r_aload_n rfl ?_
    refine r_getZ g_279 ?_
    refine r_if_ne kX8_tells_10 (fun c1 => ?_) (fun c1 => absurd c1 (by omega))
    refine r_iload_n rfl ?_
    refine r_cS1I (by decide) (Nat.le_of_ble_eq_true rfl) (Nat.le_of_ble_eq_true rfl) (c_X8_isRow _) ?_
    refine r_if_eq kX8_tells_21 (fun c2 => ?_) (fun c2 => ?_)
    · refine r_ldcI ?_
      refine r_iret rfl ?_
      exact ⟨⟨rfl, frR_r m, rfl⟩, fun h => absurd h (by dsimp only; omega)⟩
    · refine r_iload_n rfl ?_
      refine r_if_ne kX8_tells_24 (fun c3 => absurd c3 (by omega)) (fun c3 => ?_)
      refine r_ldcI ?_
      refine r_iret rfl ?_
      exact ⟨⟨rfl, frR_r m, rfl⟩, fun h => absurd h (by dsimp only; omega)⟩
  by_cases hs1 : m 281 row < 0
  · have e : pTl m row good most = (-1000011, 1) := by unfold pTl; rw [if_neg hb, if_neg hg, if_pos hs1]
    rw [e]
    refine r_aload_n rfl ?_
    refine r_getZ g_279 ?_
    refine r_if_ne kX8_tells_10 (fun c1 => ?_) (fun c1 => absurd c1 (by omega))
    refine r_iload_n rfl ?_
    refine r_cS1I (by decide) (Nat.le_of_ble_eq_true rfl) (Nat.le_of_ble_eq_true rfl) (c_X8_isRow _) ?_
    refine r_if_eq kX8_tells_21 (fun c2 => absurd c2 (by omega)) (fun c2 => ?_)
    refine r_iload_n rfl ?_
    refine r_if_ne kX8_tells_24 (fun c3 => ?_) (fun c3 => absurd c3 (by omega))
    refine r_aload_n rfl ?_
    refine r_getR g_279 rfl ?_
    refine r_iload_n rfl ?_
    refine r_iald g_281 rfl (by omega) (by omega) (by omega) ?_
    refine r_if_ge kX8_tells_39 (fun c4 => absurd c4 (by omega)) (fun c4 => ?_)
    refine r_aload_n rfl ?_
    refine r_iconst ?_
    refine r_cV2I g_279 rfl (Nat.le_of_ble_eq_true rfl) (Nat.le_of_ble_eq_true rfl) (c_X8_found _) ?_
    refine r_iret rfl ?_
    exact ⟨⟨rfl, frR_st m 1, az_up_at _ _ _ _⟩, fun h => absurd h (by dsimp only; omega)⟩
  by_cases hs2 : m 281 row < m 284 2
  · have e : pTl m row good most = (-1000012, 2) := by unfold pTl; rw [if_neg hb, if_neg hg, if_neg hs1, if_pos hs2]
    rw [e]
    refine r_aload_n rfl ?_
    refine r_getZ g_279 ?_
    refine r_if_ne kX8_tells_10 (fun c1 => ?_) (fun c1 => absurd c1 (by omega))
    refine r_iload_n rfl ?_
    refine r_cS1I (by decide) (Nat.le_of_ble_eq_true rfl) (Nat.le_of_ble_eq_true rfl) (c_X8_isRow _) ?_
    refine r_if_eq kX8_tells_21 (fun c2 => absurd c2 (by omega)) (fun c2 => ?_)
    refine r_iload_n rfl ?_
    refine r_if_ne kX8_tells_24 (fun c3 => ?_) (fun c3 => absurd c3 (by omega))
    refine r_aload_n rfl ?_
    refine r_getR g_279 rfl ?_
    refine r_iload_n rfl ?_
    refine r_iald g_281 rfl (by omega) (by omega) (by omega) ?_
    refine r_if_ge kX8_tells_39 (fun c4 => ?_) (fun c4 => absurd c4 (by omega))
    refine r_aload_n rfl ?_
    refine r_getR g_279 rfl ?_
    refine r_iload_n rfl ?_
    refine r_iald g_281 rfl (by omega) (by omega) (by omega) ?_
    refine r_aload_n rfl ?_
    refine r_getR g_279 rfl ?_
    refine r_iconst ?_
    refine r_ialdx g_284 rfl (by omega) (by omega) (by omega) (congrFun hf _) ?_
    refine r_icmp_ge kX8_tells_60 (fun c5 => absurd c5 (by omega)) (fun c5 => ?_)
    refine r_aload_n rfl ?_
    refine r_iconst ?_
    refine r_cV2I g_279 rfl (Nat.le_of_ble_eq_true rfl) (Nat.le_of_ble_eq_true rfl) (c_X8_found _) ?_
    refine r_iret rfl ?_
    exact ⟨⟨rfl, frR_st m 2, az_up_at _ _ _ _⟩, fun h => absurd h (by dsimp only; omega)⟩
  have e1 : pIn m row most → pTl m row good most = (0, 0) := fun h => by unfold pTl; rw [if_neg hb, if_neg hg, if_neg hs1, if_neg hs2, if_pos h]
  have e2 : ¬ pIn m row most → pTl m row good most = (-1000001, m 279 3) := fun h => by unfold pTl; rw [if_neg hb, if_neg hg, if_neg hs1, if_neg hs2, if_neg h]
  refine r_aload_n rfl ?_
  refine r_getZ g_279 ?_
  refine r_if_ne kX8_tells_10 (fun c1 => ?_) (fun c1 => absurd c1 (by omega))
  refine r_iload_n rfl ?_
  refine r_cS1I (by decide) (Nat.le_of_ble_eq_true rfl) (Nat.le_of_ble_eq_true rfl) (c_X8_isRow _) ?_
  refine r_if_eq kX8_tells_21 (fun c2 => absurd c2 (by omega)) (fun c2 => ?_)
  refine r_iload_n rfl ?_
  refine r_if_ne kX8_tells_24 (fun c3 => ?_) (fun c3 => absurd c3 (by omega))
  refine r_aload_n rfl ?_
  refine r_getR g_279 rfl ?_
  refine r_iload_n rfl ?_
  refine r_iald g_281 rfl (by omega) (by omega) (by omega) ?_
  refine r_if_ge kX8_tells_39 (fun c4 => ?_) (fun c4 => absurd c4 (by omega))
  refine r_aload_n rfl ?_
  refine r_getR g_279 rfl ?_
  refine r_iload_n rfl ?_
  refine r_iald g_281 rfl (by omega) (by omega) (by omega) ?_
  refine r_aload_n rfl ?_
  refine r_getR g_279 rfl ?_
  refine r_iconst ?_
  refine r_ialdx g_284 rfl (by omega) (by omega) (by omega) (congrFun hf _) ?_
  refine r_icmp_ge kX8_tells_60 (fun c5 => ?_) (fun c5 => absurd c5 (by omega))
  refine r_iconst ?_
  refine r_istore (Nat.le_of_ble_eq_true rfl) rfl ?_
  skip
  refine az_lop (α := aM) (fun g _ => [some (.inr (.inr 280)), some (.inl (row)), some (.inl (good)), some (.inl (most)), some (.inl (g))]) (fun a => a) (fun g a => fr2 m a ∧ ∀ j, 0 ≤ j → j < g → a 290 j = pIt m row j ∧ 0 ≤ pIt m row j ∧ pIt m row j ≤ most) 0 (m 284 2) m hn.1 ⟨fr2_r m, fun j j0 j1 => by omega⟩ (fun g a h0 h1 hp hK => ?_) (fun a hp => ?_)
  · obtain ⟨hp1, hp2⟩ := hp
    have hf : a 284 = m 284 := hp1 _ (by decide) (by decide)
    have hi : a 282 = m 282 := hp1 _ (by decide) (by decide)
    refine r_iload rfl ?_
    refine r_aload_n rfl ?_
    refine r_getR g_279 rfl ?_
    refine r_iconst ?_
    refine r_ialdx g_284 rfl (by omega) (by omega) (by omega) (congrFun hf _) ?_
    refine r_icmp_ge kX8_tells_124 (fun c1 => absurd c1 (by omega)) (fun c1 => ?_)
    refine r_aload_n rfl ?_
    refine r_getR g_279 rfl ?_
    refine r_bipush ?_
    refine r_iload_n rfl ?_
    first | refine r_imul (az_wid (by omega) (by omega)) ?_ | refine r_imulw ?_
    refine r_iload rfl ?_
    first | refine r_iadd (az_wid (by omega) (by omega)) ?_ | refine r_iaddw ?_
    refine r_ialdx g_282 rfl (by omega) (by omega) (by omega) (congrFun hi _) ?_
    refine r_i2l ?_
    refine r_lconst0 ?_
    refine r_iload_n rfl ?_
    refine r_i2l ?_
    refine r_cS3I (by decide) (Nat.le_of_ble_eq_true rfl) (Nat.le_of_ble_eq_true rfl) (c_X8_in _ _ _) ?_
    refine r_if_ne kX8_tells_99 (fun c2 => ?_) (fun c2 => ?_)
    · refine r_aload_n rfl ?_
      refine r_getR g_279 rfl ?_
      refine r_iload rfl ?_
      refine r_aload_n rfl ?_
      refine r_getR g_279 rfl ?_
      refine r_bipush ?_
      refine r_iload_n rfl ?_
      first | refine r_imul (az_wid (by omega) (by omega)) ?_ | refine r_imulw ?_
      refine r_iload rfl ?_
      first | refine r_iadd (az_wid (by omega) (by omega)) ?_ | refine r_iaddw ?_
      refine r_ialdx g_282 rfl (by omega) (by omega) (by omega) (congrFun hi _) ?_
      refine r_iast g_290 (by decide) (by omega) (by omega) ?_
      refine r_iinc rfl (az_wid (by omega) (by omega)) rfl ?_
      refine r_goto kX8_tells_63 ?_
      refine hK (az_up a 290 g (pIt m row g)) ⟨fr2_t hp1 (fr2_u _ _ _), fun j j0 j1 => ?_⟩; exact ⟨az_up_eq (fun e => by rw [e]) (fun e => (hp2 j j0 (by omega)).1), (if e : j = g then by rw [e]; unfold pIt; omega else (hp2 j j0 (by omega)).2)⟩
    · refine r_ldcI ?_
      refine r_iret rfl ?_
      rw [e2 (fun q => by have := q g h0 h1; omega)]; exact ⟨⟨rfl, frR_2 hp1, congrFun (hp1 279 (by decide) (by decide)) _⟩, fun h => absurd h (by dsimp only; omega)⟩
  · obtain ⟨hp1, hp2⟩ := hp
    have hf : a 284 = m 284 := hp1 _ (by decide) (by decide)
    rw [e1 (fun g h0 h1 => (hp2 g h0 h1).2)]
    refine r_iload rfl ?_
    refine r_aload_n rfl ?_
    refine r_getR g_279 rfl ?_
    refine r_iconst ?_
    refine r_ialdx g_284 rfl (by omega) (by omega) (by omega) (congrFun hf _) ?_
    refine r_icmp_ge kX8_tells_124 (fun c1 => ?_) (fun c1 => absurd c1 (by omega))
    refine r_aload_n rfl ?_
    refine r_iconst ?_
    refine r_putI g_279 (by decide) ?_
    refine r_aload_n rfl ?_
    refine r_cV1V g_279 rfl (Nat.le_of_ble_eq_true rfl) (Nat.le_of_ble_eq_true rfl) (c_X8_layNow (f := m 284) hf hN) ?_
    refine r_iconst ?_
    refine r_iret rfl ?_
    skip
    refine ⟨⟨rfl, ⟨fun b b1 b2 b3 b4 => ?_, fun k k1 k2 => ?_⟩, ?_⟩, fun _ => ⟨fun g h0 h1 => (hp2 g h0 h1).1, fun h h0 h1 => ?_, ?_⟩⟩
    · funext j
      have := congrFun (hp1 b b2 b4) j
      simp [az_up, az_set, b1, b3, this]
    · have := congrFun (hp1 279 (by decide) (by decide)) k
      simp [az_up, az_set, k1, k2, this]
    · simp [az_up, az_set]
    · simp [az_up, az_set, pCosts, h0, h1]
    · simp [az_up, az_set]
/-- a row that refuses nothing tells a day -/
theorem rD_tl {row good : Int} {m' : aM} (hN : nOK (m 284)) (h : (pTl m row good 6).1 = 0) (hf : frR m m') (hq : pTq m row m') : rD m' (m 284) (pIt m row) (pPrice (m 284)) (m 284 0) := by
  refine ⟨hf.1 _ (by decide) (by decide) (by decide) (by decide), hq.1, hq.2.1, hq.2.2, hN, ?_, fun h h0 h1 => pPrice_b (nOK_p hN) h0 h1, nOK_0 hN⟩
  intro g h0 h1
  unfold pTl at h
  split at h
  · exact absurd h (by dsimp only; omega)
  · split at h
    · exact absurd h (by dsimp only; omega)
    · split at h
      · exact absurd h (by dsimp only; omega)
      · split at h
        · exact absurd h (by dsimp only; omega)
        · split at h
          · next h5 => exact h5 g h0 h1
          · exact absurd h (by dsimp only; omega)
theorem pTl_n (m : aM) (row good most : Int) : (pTl m row good most).1 ≤ 0 := by
  unfold pTl
  (repeat' split) <;> (dsimp only; omega)
theorem qP_2 {m m1 m2 : aM} {x y st : Int} {v : Option aV} (h : qP m x st v m1) (hf : fr2 m1 m2) (hy : y = y) : qP m y st (some (.inl y)) m2 := ⟨rfl, frR_t h.2.1 (frR_2 hf), (congrFun (hf 279 (by decide) (by decide)) _).trans h.2.2⟩
theorem qP_e {m m1 : aM} {x y st : Int} {v : Option aV} (h : qP m x st v m1) (e : x = y) : qP m y st v m1 := by
  subst e
  exact h
theorem qP_v {m m1 : aM} {x y z st : Int} {v : Option aV} (h : qP m x st v m1) (e : y = z) : qP m z st (some (.inl y)) m1 := by
  subst e
  exact ⟨rfl, h.2⟩
theorem pTl_g {m : aM} {row good most : Int} (h : ¬ (pTl m row good most).1 < 0) : good ≠ 0 := by
  intro e
  apply h
  unfold pTl
  (repeat' split) <;> first | (dsimp only; omega) | (exfalso; omega)
def pOr (x y : Int) : Int := if x < 0 then x else y
def p01 (P : Prop) [Decidable P] : Int := if P then 1 else 0
theorem p01_1 {P : Prop} [Decidable P] (h : P) : p01 P = 1 := if_pos h
theorem p01_0 {P : Prop} [Decidable P] (h : ¬ P) : p01 P = 0 := if_neg h
theorem p01_e {P : Prop} [Decidable P] (h : p01 P ≠ 0) : P := by
  unfold p01 at h
  by_cases q : P
  · exact q
  · rw [if_neg q] at h
    exact absurd rfl h
theorem pTl_z {m : aM} {row good most : Int} (h : ¬ (pTl m row good most).1 < 0) : (pTl m row good most).1 = 0 := by
  have := pTl_n m row good most
  omega
theorem c_X8_best {row g : Int} (hN : nOK (m 284)) (hR : pRowsOK m) (hZ : m 279 7 = 0 ∨ m 279 7 = 1) : az_C sc az_G 140 [.inr (.inr 280), .inl row, .inl g] m (qP m (pOr (pTl m row (p01 ((0 ≤ g ∧ g ≤ m 284 2 - 1))) 6).1 (pBst (m 284) (pIt m row) (pPrice (m 284)) (m 284 0) g)) (pTl m row (p01 ((0 ≤ g ∧ g ≤ m 284 2 - 1))) 6).2) := by
  have hn := nOK_2 hN
  have hf : m 284 = m 284 := rfl
  by_cases hno : (pTl m row (p01 ((0 ≤ g ∧ g ≤ m 284 2 - 1))) 6).1 < 0
  · refine r_aload_n rfl ?_
    refine r_iload_n rfl ?_
    refine r_aload_n rfl ?_
    refine r_iload_n rfl ?_
    refine r_cV2I g_279 rfl (Nat.le_of_ble_eq_true rfl) (Nat.le_of_ble_eq_true rfl) (c_X8_isGuest2 hf hn) ?_
    refine r_bipush ?_
    refine r_cV4 g_279 rfl (Nat.le_of_ble_eq_true rfl) (Nat.le_of_ble_eq_true rfl) (c_X8_tells hN hR hZ (by decide)) (fun v_ m_ hq_ => ?_)
    obtain ⟨hq1, hq2⟩ := hq_; obtain ⟨rfl, hq3, hq4⟩ := hq1
    refine r_istore_n (Nat.le_of_ble_eq_true rfl) rfl ?_
    refine r_iload_n rfl ?_
    refine r_if_ge kX8_best_21 (fun c1 => absurd c1 (by have h2 := hno; unfold p01 at h2; omega)) (fun c1 => ?_)
    refine r_iload_n rfl ?_
    refine r_goto kX8_best_26 ?_
    refine r_iret rfl ?_
    exact ⟨az_oI (by unfold pOr; rw [if_pos hno]; rfl), hq3, hq4⟩
  · have hz := pTl_z hno
    have hg := p01_e (pTl_g hno)
    refine r_aload_n rfl ?_
    refine r_iload_n rfl ?_
    refine r_aload_n rfl ?_
    refine r_iload_n rfl ?_
    refine r_cV2I g_279 rfl (Nat.le_of_ble_eq_true rfl) (Nat.le_of_ble_eq_true rfl) (c_X8_isGuest2 hf hn) ?_
    refine r_bipush ?_
    refine r_cV4 g_279 rfl (Nat.le_of_ble_eq_true rfl) (Nat.le_of_ble_eq_true rfl) (c_X8_tells hN hR hZ (by decide)) (fun v_ m_ hq_ => ?_)
    obtain ⟨hq1, hq2⟩ := hq_; obtain ⟨rfl, hq3, hq4⟩ := hq1; have hD := rD_tl hN hz hq3 (hq2 hz)
    refine r_istore_n (Nat.le_of_ble_eq_true rfl) rfl ?_
    refine r_iload_n rfl ?_
    refine r_if_ge kX8_best_21 (fun c1 => ?_) (fun c1 => absurd c1 (by have h2 := hno; unfold p01 at h2; omega))
    refine r_aload_n rfl ?_
    refine r_iload_n rfl ?_
    refine r_cV2 g_279 rfl (Nat.le_of_ble_eq_true rfl) (Nat.le_of_ble_eq_true rfl) (c_X8_bestOf hD hg.1 (by omega)) (fun v_ m_ hq_ => ?_)
    obtain ⟨rfl, hfr, hto⟩ := hq_
    refine r_iret rfl ?_
    exact ⟨az_oI (by unfold pOr; rw [if_neg hno]), frR_t hq3 (frR_2 hfr), (congrFun (hfr 279 (by decide) (by decide)) _).trans hq4⟩
theorem c_X8_worth {row g w : Int} (hN : nOK (m 284)) (hR : pRowsOK m) (hZ : m 279 7 = 0 ∨ m 279 7 = 1) : az_C sc az_G 136 [.inr (.inr 280), .inl row, .inl g, .inl w] m (qP m (pOr (pTl m row (p01 ((0 ≤ g ∧ g ≤ m 284 2 - 1) ∧ 0 ≤ w ∧ w ≤ 2)) 6).1 (if w = 0 then pWor (m 284) (pIt m row) (pPrice (m 284)) (m 284 0) g else if w = 1 then pPay (m 284) (pIt m row) (pPrice (m 284)) (m 284 0) g else pShr (m 284) (pIt m row) (pPrice (m 284)) (m 284 0) g)) (pTl m row (p01 ((0 ≤ g ∧ g ≤ m 284 2 - 1) ∧ 0 ≤ w ∧ w ≤ 2)) 6).2) := by
  have hn := nOK_2 hN
  have hf : m 284 = m 284 := rfl
  have H : ∀ good, good = p01 ((0 ≤ g ∧ g ≤ m 284 2 - 1) ∧ 0 ≤ w ∧ w ≤ 2) → az_E sc az_G 136 zX8_worth_27 [some (.inr (.inr 280)), some (.inl (row)), some (.inl (g)), some (.inl (w)), none, none] [.inl good, .inl row, .inr (.inr 280)] m (qP m (pOr (pTl m row (p01 ((0 ≤ g ∧ g ≤ m 284 2 - 1) ∧ 0 ≤ w ∧ w ≤ 2)) 6).1 (if w = 0 then pWor (m 284) (pIt m row) (pPrice (m 284)) (m 284 0) g else if w = 1 then pPay (m 284) (pIt m row) (pPrice (m 284)) (m 284 0) g else pShr (m 284) (pIt m row) (pPrice (m 284)) (m 284 0) g)) (pTl m row (p01 ((0 ≤ g ∧ g ≤ m 284 2 - 1) ∧ 0 ≤ w ∧ w ≤ 2)) 6).2) := by
    intro good hgo
    by_cases hno : (pTl m row (p01 ((0 ≤ g ∧ g ≤ m 284 2 - 1) ∧ 0 ≤ w ∧ w ≤ 2)) 6).1 < 0
    · refine r_bipush ?_
      refine r_cV4 g_279 rfl (Nat.le_of_ble_eq_true rfl) (Nat.le_of_ble_eq_true rfl) (c_X8_tells hN hR hZ (by decide)) (fun v_ m_ hq_ => ?_)
      rw [hgo] at hq_; obtain ⟨hq1, hq2⟩ := hq_; obtain ⟨rfl, hq3, hq4⟩ := hq1
      refine r_istore (Nat.le_of_ble_eq_true rfl) rfl ?_
      refine r_iload rfl ?_
      refine r_if_ge kX8_worth_42 (fun c1 => absurd c1 (by omega)) (fun c1 => ?_)
      refine r_iload rfl ?_
      refine r_iret rfl ?_
      exact ⟨az_oI (by unfold pOr; rw [if_pos hno]), hq3, hq4⟩
    · have hz := pTl_z hno
      have hg := p01_e (pTl_g hno)
      have hb := fun h => pShr_b (sp := m 284 0) hn (t := pIt m row) (c := pPrice (m 284)) h (fun h h0 h1 => pPrice_b (nOK_p hN) h0 h1) hg.1.1 (by omega)
      refine r_bipush ?_
      refine r_cV4 g_279 rfl (Nat.le_of_ble_eq_true rfl) (Nat.le_of_ble_eq_true rfl) (c_X8_tells hN hR hZ (by decide)) (fun v_ m_ hq_ => ?_)
      rw [hgo] at hq_; obtain ⟨hq1, hq2⟩ := hq_; obtain ⟨rfl, hq3, hq4⟩ := hq1; have hD := rD_tl hN hz hq3 (hq2 hz)
      refine r_istore (Nat.le_of_ble_eq_true rfl) rfl ?_
      refine r_iload rfl ?_
      refine r_if_ge kX8_worth_42 (fun c1 => ?_) (fun c1 => absurd c1 (by omega))
      refine r_aload_n rfl ?_
      refine r_iload_n rfl ?_
      refine r_cV2 g_279 rfl (Nat.le_of_ble_eq_true rfl) (Nat.le_of_ble_eq_true rfl) (c_X8_worthOf hD hg.1.1 (by omega)) (fun v_ m_ hq_ => ?_)
      obtain ⟨rfl, s1, rfl, hs1⟩ := hq_
      refine r_istore (Nat.le_of_ble_eq_true rfl) rfl ?_
      refine r_iload_n rfl ?_
      refine r_if_ne kX8_worth_58 (fun c2 => ?_) (fun c2 => ?_)
      · refine r_iload_n rfl ?_
        refine r_iconst ?_
        refine r_icmp_ne kX8_worth_71 (fun c3 => ?_) (fun c3 => ?_)
        · refine r_aload_n rfl ?_
          refine r_getR g_279 rfl ?_
          refine r_iload_n rfl ?_
          refine r_ialdx g_292 rfl (by omega) (by omega) (by omega) (hs1 _ hg.1.1 (by omega)) ?_
          refine r_iret rfl ?_
          exact ⟨az_oI (by unfold pOr; rw [if_neg hno]; first | (rw [if_pos (show w = 0 by omega)]) | (rw [if_neg (show ¬ w = 0 by omega), if_pos (show w = 1 by omega)]; rfl) | (rw [if_neg (show ¬ w = 0 by omega), if_neg (show ¬ w = 1 by omega)])), frR_t hq3 (frR_2 (fr2_s _ s1)), hq4⟩
        · refine r_aload_n rfl ?_
          refine r_iload_n rfl ?_
          refine r_cV2I g_279 rfl (Nat.le_of_ble_eq_true rfl) (Nat.le_of_ble_eq_true rfl) (c_X8_payOf hD.1 hD.2.1 hN hD.2.2.2.2.2.1 (hs1 _ hg.1.1 (by omega)) (hb hD.2.2.2.2.2.1) hg.1.1 (by omega)) ?_
          refine r_goto kX8_worth_77 ?_
          refine r_iret rfl ?_
          exact ⟨az_oI (by unfold pOr; rw [if_neg hno]; first | (rw [if_pos (show w = 0 by omega)]) | (rw [if_neg (show ¬ w = 0 by omega), if_pos (show w = 1 by omega)]; rfl) | (rw [if_neg (show ¬ w = 0 by omega), if_neg (show ¬ w = 1 by omega)])), frR_t hq3 (frR_2 (fr2_s _ s1)), hq4⟩
      · refine r_iload rfl ?_
        refine r_goto kX8_worth_77 ?_
        refine r_iret rfl ?_
        exact ⟨az_oI (by unfold pOr; rw [if_neg hno]; first | (rw [if_pos (show w = 0 by omega)]) | (rw [if_neg (show ¬ w = 0 by omega), if_pos (show w = 1 by omega)]; rfl) | (rw [if_neg (show ¬ w = 0 by omega), if_neg (show ¬ w = 1 by omega)])), frR_t hq3 (frR_2 (fr2_s _ s1)), hq4⟩
  refine r_aload_n rfl ?_
  refine r_iload_n rfl ?_
  refine r_aload_n rfl ?_
  refine r_iload_n rfl ?_
  refine r_cV2I g_279 rfl (Nat.le_of_ble_eq_true rfl) (Nat.le_of_ble_eq_true rfl) (c_X8_isGuest2 hf hn) ?_
  refine r_if_eq kX8_worth_26 (fun c1 => ?_) (fun c1 => ?_)
  · refine r_iconst ?_
    exact H _ (by unfold p01; first | rw [if_pos (by omega)] | rw [if_neg (by omega)])
  · refine r_iload_n rfl ?_
    refine r_i2l ?_
    refine r_lconst0 ?_
    refine r_ldc2 ?_
    refine r_cS3I (by decide) (Nat.le_of_ble_eq_true rfl) (Nat.le_of_ble_eq_true rfl) (c_X8_in _ _ _) ?_
    refine r_if_eq kX8_worth_26 (fun c2 => ?_) (fun c2 => ?_)
    · refine r_iconst ?_
      exact H _ (by unfold p01; first | rw [if_pos (by omega)] | rw [if_neg (by omega)])
    · refine r_iconst ?_
      refine r_goto kX8_worth_27 ?_
      exact H _ (by unfold p01; first | rw [if_pos (by omega)] | rw [if_neg (by omega)])
theorem c_X8_rounds {row g : Int} (hN : nOK (m 284)) (hR : pRowsOK m) (hZ : m 279 7 = 0 ∨ m 279 7 = 1) : az_C sc az_G 144 [.inr (.inr 280), .inl row, .inl g] m (qP m (pOr (pTl m row (p01 (g = -1 ∨ (0 ≤ g ∧ g ≤ m 284 2 - 1))) 6).1 (if g < 0 then (pTrn (m 284) (pPrice (m 284)) (m 284 0) 20 (pIt m row) 1).2 else (pTrn (m 284) (pPrice (m 284)) (m 284 0) 20 (pIt m row) 1).1 g)) (pTl m row (p01 (g = -1 ∨ (0 ≤ g ∧ g ≤ m 284 2 - 1))) 6).2) := by
  have hn := nOK_2 hN
  have hf : m 284 = m 284 := rfl
  have H : ∀ good, good = p01 (g = -1 ∨ (0 ≤ g ∧ g ≤ m 284 2 - 1)) → az_E sc az_G 144 zX8_rounds_20 [some (.inr (.inr 280)), some (.inl (row)), some (.inl (g)), none, none] [.inl good, .inl row, .inr (.inr 280)] m (qP m (pOr (pTl m row (p01 (g = -1 ∨ (0 ≤ g ∧ g ≤ m 284 2 - 1))) 6).1 (if g < 0 then (pTrn (m 284) (pPrice (m 284)) (m 284 0) 20 (pIt m row) 1).2 else (pTrn (m 284) (pPrice (m 284)) (m 284 0) 20 (pIt m row) 1).1 g)) (pTl m row (p01 (g = -1 ∨ (0 ≤ g ∧ g ≤ m 284 2 - 1))) 6).2) := by
    intro good hgo
    by_cases hno : (pTl m row (p01 (g = -1 ∨ (0 ≤ g ∧ g ≤ m 284 2 - 1))) 6).1 < 0
    · refine r_bipush ?_
      refine r_cV4 g_279 rfl (Nat.le_of_ble_eq_true rfl) (Nat.le_of_ble_eq_true rfl) (c_X8_tells hN hR hZ (by decide)) (fun v_ m_ hq_ => ?_)
      rw [hgo] at hq_; obtain ⟨hq1, hq2⟩ := hq_; obtain ⟨rfl, hq3, hq4⟩ := hq1
      refine r_istore_n (Nat.le_of_ble_eq_true rfl) rfl ?_
      refine r_iload_n rfl ?_
      refine r_if_ge kX8_rounds_32 (fun c1 => absurd c1 (by omega)) (fun c1 => ?_)
      refine r_iload_n rfl ?_
      refine r_iret rfl ?_
      exact ⟨az_oI (by unfold pOr; rw [if_pos hno]), hq3, hq4⟩
    · have hz := pTl_z hno
      have hg := p01_e (pTl_g hno)
      refine r_bipush ?_
      refine r_cV4 g_279 rfl (Nat.le_of_ble_eq_true rfl) (Nat.le_of_ble_eq_true rfl) (c_X8_tells hN hR hZ (by decide)) (fun v_ m_ hq_ => ?_)
      rw [hgo] at hq_; obtain ⟨hq1, hq2⟩ := hq_; obtain ⟨rfl, hq3, hq4⟩ := hq1; have hD := rD_tl hN hz hq3 (hq2 hz)
      refine r_istore_n (Nat.le_of_ble_eq_true rfl) rfl ?_
      refine r_iload_n rfl ?_
      refine r_if_ge kX8_rounds_32 (fun c1 => ?_) (fun c1 => absurd c1 (by omega))
      refine r_aload_n rfl ?_
      refine r_cV1 g_279 rfl (Nat.le_of_ble_eq_true rfl) (Nat.le_of_ble_eq_true rfl) (c_X8_turns hD) (fun v_ m_ hq_ => ?_)
      obtain ⟨rfl, hfr, hD2⟩ := hq_; have ht := hD2.2.1
      refine r_istore (Nat.le_of_ble_eq_true rfl) rfl ?_
      refine r_iload_n rfl ?_
      refine r_if_ge kX8_rounds_47 (fun c2 => ?_) (fun c2 => ?_)
      · refine r_aload_n rfl ?_
        refine r_getR g_279 rfl ?_
        refine r_iload_n rfl ?_
        refine r_ialdx g_290 rfl (by omega) (by omega) (by omega) (ht _ (by omega) (by omega)) ?_
        refine r_iret rfl ?_
        exact ⟨az_oI (by unfold pOr; rw [if_neg hno]; (repeat' split) <;> first | rfl | (exfalso; omega)), frR_t hq3 (frR_2 hfr), (congrFun (hfr 279 (by decide) (by decide)) _).trans hq4⟩
      · refine r_iload rfl ?_
        refine r_goto kX8_rounds_53 ?_
        refine r_iret rfl ?_
        exact ⟨az_oI (by unfold pOr; rw [if_neg hno]; (repeat' split) <;> first | rfl | (exfalso; omega)), frR_t hq3 (frR_2 hfr), (congrFun (hfr 279 (by decide) (by decide)) _).trans hq4⟩
  refine r_aload_n rfl ?_
  refine r_iload_n rfl ?_
  refine r_iload_n rfl ?_
  refine r_iconst ?_
  refine r_icmp_eq kX8_rounds_15 (fun c1 => ?_) (fun c1 => ?_)
  · refine r_iconst ?_
    refine r_goto kX8_rounds_20 ?_
    exact H _ (by unfold p01; first | rw [if_pos (by omega)] | rw [if_neg (by omega)])
  · refine r_aload_n rfl ?_
    refine r_iload_n rfl ?_
    refine r_cV2I g_279 rfl (Nat.le_of_ble_eq_true rfl) (Nat.le_of_ble_eq_true rfl) (c_X8_isGuest2 hf hn) ?_
    refine r_if_eq kX8_rounds_19 (fun c2 => ?_) (fun c2 => ?_)
    · refine r_iconst ?_
      exact H _ (by unfold p01; first | rw [if_pos (by omega)] | rw [if_neg (by omega)])
    · refine r_iconst ?_
      refine r_goto kX8_rounds_20 ?_
      exact H _ (by unfold p01; first | rw [if_pos (by omega)] | rw [if_neg (by omega)])
end RE
