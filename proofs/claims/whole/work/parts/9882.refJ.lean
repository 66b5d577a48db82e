/-! THE REFERENCE: acts -/
section RJ
variable {sc : aX} {m : aM} {f t c : Int → Int} {sp : Int} {Q : Option aV → aM → Prop}
def pMn (a : Int) : Int := if a = 24 then 24 else a + 1
/-- what is remembered -/
def remS (B f : Int → Int) (a : Int) (B' : Int → Int) : Prop := (a < 24 → (∀ k, k < 44 * a → B' k = B k) ∧ ∀ k, 0 ≤ k → k < 44 → B' (44 * a + k) = f k) ∧ (a = 24 → (∀ k, 0 ≤ k → k < 1012 → B' k = B (k + 44)) ∧ ∀ k, 0 ≤ k → k < 44 → B' (1012 + k) = f k)
def remM (m m' : aM) : Prop := (∀ b, b ≠ 279 → b ≠ 285 → m' b = m b) ∧ (∀ k, k ≠ 9 → m' 279 k = m 279 k) ∧ m' 279 9 = pMn (m 279 9) ∧ remS (m 285) (m 284) (m 279 9) (m' 285)
theorem az_up_b (m : aM) {a b : Nat} (i v : Int) (h : b ≠ a) : az_up m a i v b = m b := by
  funext j
  simp [az_up, h]
theorem az_up_k (m : aM) {a : Nat} {i j : Int} (v : Int) (h : j ≠ i) : az_up m a i v a j = m a j := by
  simp [az_up, h]
theorem az_cp_b (m : aM) {s d b : Nat} (i j n : Int) (h : b ≠ d) : az_cp m s i d j n b = m b := by
  funext x
  simp [az_cp, h]
theorem az_cp_in (m : aM) {s d : Nat} {i j n x : Int} (h0 : j ≤ x) (h1 : x < j + n) : az_cp m s i d j n d x = m s (i + (x - j)) := by
  simp [az_cp, h0, h1]
theorem az_cp_out (m : aM) {s d : Nat} {i j n x : Int} (h : x < j ∨ j + n ≤ x) : az_cp m s i d j n d x = m d x := by
  simp only [az_cp]
  rw [if_neg (by omega)]
theorem c_X8_remember (ha : 0 ≤ m 279 9 ∧ m 279 9 ≤ 24) : az_C sc az_G 84 [.inr (.inr 280)] m (fun v m' => v = none ∧ remM m m') := by
  by_cases h24 : m 279 9 = 24
  · refine r_aload_n rfl ?_
    refine r_getI g_279 ?_
    refine r_bipush ?_
    refine r_icmp_ne kX8_remember_49 (fun c1 => absurd c1 (by omega)) (fun c1 => ?_)
    refine r_iconst ?_
    refine r_istore_n (Nat.le_of_ble_eq_true rfl) rfl ?_
    skip
    refine az_Em (az_s0 m 285).symm ?_
    refine az_lop (α := Int → Int) (fun k _ => [some (.inr (.inr 280)), some (.inl (k))]) (fun a => az_set m 285 a) (fun k a => (∀ j, 0 ≤ j → j < k → a j = m 285 (j + 44)) ∧ ∀ j, k ≤ j → a j = m 285 j) 0 1012 (m 285) (by decide) ⟨fun j j0 j1 => by omega, fun _ _ => rfl⟩ (fun k a h0 h1 hp hK => ?_) (fun a hp => ?_)
    · refine r_iload_n rfl ?_
      refine r_sipush ?_
      refine r_icmp_ge kX8_remember_39 (fun c1 => absurd c1 (by omega)) (fun c1 => ?_)
      refine r_aload_n rfl ?_
      refine r_getR g_279 rfl ?_
      refine r_iload_n rfl ?_
      refine r_aload_n rfl ?_
      refine r_getR g_279 rfl ?_
      refine r_iload_n rfl ?_
      refine r_bipush ?_
      first | refine r_iadd (az_wid (by omega) (by omega)) ?_ | refine r_iaddw ?_
      refine r_ialdx g_285 rfl (by omega) (by omega) (by omega) (congrFun (rfl : a = a) _) ?_
      refine r_iast g_285 (by decide) (by omega) (by omega) ?_
      refine r_iinc rfl (az_wid (by omega) (by omega)) rfl ?_
      refine r_goto kX8_remember_11 ?_
      refine az_Em (az_us _ _ _ _ _) (hK (up1 a k (a (k + 44))) ⟨fun j j0 j1 => up1_eq (fun e => by rw [hp.2 _ (by omega), e]) (fun e => hp.1 j j0 (by omega)), fun j j0 => by rw [up1_ne _ _ (by omega)]; exact hp.2 j (by omega)⟩)
    · have hA_0 := g_284
      have h9 : az_set m 285 a 279 9 = 24 := h24
      refine r_iload_n rfl ?_
      refine r_sipush ?_
      refine r_icmp_ge kX8_remember_39 (fun c1 => ?_) (fun c1 => absurd c1 (by decide))
      refine r_aload_n rfl ?_
      refine r_dupR ?_
      refine r_getIx g_279 (h9) ?_
      refine r_iconst ?_
      first | refine r_isub (az_wid (by omega) (by omega)) ?_ | refine r_isubw ?_
      refine r_putI g_279 (by decide) ?_
      refine r_aload_n rfl ?_
      refine r_getR g_279 rfl ?_
      refine r_iconst ?_
      refine r_aload_n rfl ?_
      refine r_getR g_279 rfl ?_
      refine r_bipush ?_
      refine r_aload_n rfl ?_
      refine r_getIx g_279 (az_up_at _ _ _ _) ?_
      first | refine r_imul (az_wid (by omega) (by omega)) ?_ | refine r_imulw ?_
      refine r_cS4V (by decide) (Nat.le_of_ble_eq_true rfl) (Nat.le_of_ble_eq_true rfl) (l_X8_copies g_284 g_285 (by decide) (by decide) (by decide) 0 (44 * 23) (by decide) (by decide)) ?_
      refine r_aload_n rfl ?_
      refine r_dupR ?_
      refine r_getIx g_279 ((congrFun (az_cp_b _ _ _ _ (by decide)) _).trans (az_up_at _ _ _ _)) ?_
      refine r_iconst ?_
      first | refine r_iadd (az_wid (by omega) (by omega)) ?_ | refine r_iaddw ?_
      refine r_putI g_279 (by decide) ?_
      refine r_vret rfl ?_
      skip
      refine ⟨rfl, fun b hb hb2 => ?_, fun k hk => ?_, ?_, ?_⟩
      · rw [az_up_b _ _ _ hb, az_cp_b _ _ _ _ hb2, az_up_b _ _ _ hb]
        exact if_neg hb2
      · rw [az_up_k _ _ hk, az_cp_b _ _ _ _ (by decide), az_up_k _ _ hk]
        rfl
      · rw [az_up_at, h24]
        rfl
      · refine ⟨fun h => absurd h (by omega), fun _ => ⟨fun k k0 k1 => ?_, fun k k0 k1 => ?_⟩⟩
        · rw [az_up_b _ _ _ (by decide), az_cp_out _ (by omega), az_up_b _ _ _ (by decide)]
          exact hp.1 k k0 k1
        · rw [az_up_b _ _ _ (by decide), az_cp_in _ (by omega) (by omega), az_up_b _ _ _ (by decide), show (0 : Int) + (1012 + k - 44 * 23) = k by omega]
          rfl
  · refine r_aload_n rfl ?_
    refine r_getI g_279 ?_
    refine r_bipush ?_
    refine r_icmp_ne kX8_remember_49 (fun c1 => ?_) (fun c1 => absurd c1 (by omega))
    refine r_aload_n rfl ?_
    refine r_getR g_279 rfl ?_
    refine r_iconst ?_
    refine r_aload_n rfl ?_
    refine r_getR g_279 rfl ?_
    refine r_bipush ?_
    refine r_aload_n rfl ?_
    refine r_getI g_279 ?_
    first | refine r_imul (az_wid (by omega) (by omega)) ?_ | refine r_imulw ?_
    refine r_cS4V (by decide) (Nat.le_of_ble_eq_true rfl) (Nat.le_of_ble_eq_true rfl) (l_X8_copies g_284 g_285 (by decide) (by decide) (by decide) 0 (44 * m 279 9) (by decide) ⟨by omega, by show _ ≤ (1056 : Int); omega, by omega⟩) ?_
    refine r_aload_n rfl ?_
    refine r_dupR ?_
    refine r_getIx g_279 (congrFun (az_cp_b _ _ _ _ (by decide)) _) ?_
    refine r_iconst ?_
    first | refine r_iadd (az_wid (by omega) (by omega)) ?_ | refine r_iaddw ?_
    refine r_putI g_279 (by decide) ?_
    refine r_vret rfl ?_
    skip
    refine ⟨rfl, fun b hb hb2 => ?_, fun k hk => ?_, ?_, ?_⟩
    · rw [az_up_b _ _ _ hb, az_cp_b _ _ _ _ hb2]
    · rw [az_up_k _ _ hk, az_cp_b _ _ _ _ (by decide)]
    · rw [az_up_at]
      unfold pMn
      rw [if_neg h24]
    · refine ⟨fun h => ⟨fun k k0 => ?_, fun k k0 k1 => ?_⟩, fun h => absurd h h24⟩
      · rw [az_up_b _ _ _ (by decide), az_cp_out _ (by omega)]
      · rw [az_up_b _ _ _ (by decide), az_cp_in _ (by omega) (by omega), show (0 : Int) + (44 * m 279 9 + k - 44 * m 279 9) = k by omega]
/-- an act: what was is remembered, the beach is another -/
def rM (m m' : aM) (f' : Int → Int) : Prop := (∀ b, b ≠ 279 → b ≠ 284 → b ≠ 285 → b ≠ 290 → b ≠ 291 → b ≠ 292 → m' b = m b) ∧ (∀ k, k ≠ 9 → k ≠ 23 → m' 279 k = m 279 k) ∧ m' 279 9 = pMn (m 279 9) ∧ remS (m 285) (m 284) (m 279 9) (m' 285) ∧ m' 284 = f'
theorem rM_s {m m1 : aM} (h : remM m m1) (F : Int → Int) : rM m (az_set m1 284 F) F := by
  obtain ⟨h1, h2, h3, h4⟩ := h
  exact ⟨fun b b1 b2 b3 _ _ _ => (if_neg b2).trans (h1 b b1 b3), fun k k1 _ => h2 k k1, h3, h4, if_pos rfl⟩
theorem rM_u {m m1 : aM} (h : remM m m1) (i v : Int) : rM m (az_up m1 284 i v) (up1 (m 284) i v) := by
  rw [az_us0, h.1 284 (by decide) (by decide)]
  exact rM_s h _
def qM (m : aM) (p : Int × Option (Int → Int)) : Option aV → aM → Prop := fun v m' => v = some (.inl p.1) ∧ ((p.2 = none ∧ m' = m) ∨ ∃ f', p.2 = some f' ∧ rM m m' f')
theorem qM_0 {m : aM} {x : Int} : qM m (x, none) (some (.inl x)) m := ⟨rfl, Or.inl ⟨rfl, rfl⟩⟩
theorem qM_1 {m m' : aM} {x : Int} {f' : Int → Int} (h : rM m m' f') : qM m (x, some f') (some (.inl x)) m' := ⟨rfl, Or.inr ⟨f', rfl, h⟩⟩
theorem pPrice_c {F f : Int → Int} {h : Int} (h5 : F 5 = f 5) (h6 : F (6 + h) = f (6 + h)) : pPrice F h = pPrice f h := by
  unfold pPrice
  rw [h5, h6]
theorem c_X8_priceOf3 {h : Int} (h5 : m 284 5 = f 5) (h6 : m 284 (6 + h) = f (6 + h)) (hb : 0 ≤ f (6 + h) ∧ f (6 + h) ≤ 30) (h0 : 0 ≤ h) (h1 : h < 6) : az_CI sc 85 [.inr (.inr 280), .inl h] m (pPrice f h) m := by
  rw [← pPrice_c h5 h6]
  exact c_X8_priceOf h h0 h1 (by rw [h6]; exact hb)
def pLeave (f : Int → Int) (g : Int) : Int × Option (Int → Int) := if 0 ≤ g ∧ g ≤ f 2 - 1 then (if f (32 + g) = 1 then (-1000002, none) else (f (36 + g), some (up1 f (32 + g) 1))) else (-1000001, none)
theorem c_X8_leave {g : Int} (hN : nOK (m 284)) (ha : 0 ≤ m 279 9 ∧ m 279 9 ≤ 24) : az_C sc az_G 90 [.inr (.inr 280), .inl g] m (qM m (pLeave (m 284) g)) := by
  have hn := nOK_2 hN
  have hf : m 284 = m 284 := rfl
  unfold pLeave
  by_cases hg : 0 ≤ g ∧ g ≤ m 284 2 - 1
  · rw [if_pos hg]
    by_cases hl : m 284 (32 + g) = 1
    · rw [if_pos hl]
      refine r_aload_n rfl ?_
      refine r_iload_n rfl ?_
      refine r_cV2I g_279 rfl (Nat.le_of_ble_eq_true rfl) (Nat.le_of_ble_eq_true rfl) (c_X8_isGuest2 hf hn) ?_
      refine r_if_ne kX8_leave_11 (fun c1 => ?_) (fun c1 => absurd c1 (by omega))
      refine r_aload_n rfl ?_
      refine r_getR g_279 rfl ?_
      refine r_bipush ?_
      refine r_iload_n rfl ?_
      first | refine r_iadd (az_wid (by omega) (by omega)) ?_ | refine r_iaddw ?_
      refine r_ialdx g_284 rfl (by omega) (by omega) (by omega) (congrFun hf _) ?_
      refine r_iconst ?_
      refine r_icmp_ne kX8_leave_27 (fun c2 => absurd c2 (by omega)) (fun c2 => ?_)
      refine r_ldcI ?_
      refine r_iret rfl ?_
      exact qM_0
    · rw [if_neg hl]
      refine r_aload_n rfl ?_
      refine r_iload_n rfl ?_
      refine r_cV2I g_279 rfl (Nat.le_of_ble_eq_true rfl) (Nat.le_of_ble_eq_true rfl) (c_X8_isGuest2 hf hn) ?_
      refine r_if_ne kX8_leave_11 (fun c1 => ?_) (fun c1 => absurd c1 (by omega))
      refine r_aload_n rfl ?_
      refine r_getR g_279 rfl ?_
      refine r_bipush ?_
      refine r_iload_n rfl ?_
      first | refine r_iadd (az_wid (by omega) (by omega)) ?_ | refine r_iaddw ?_
      refine r_ialdx g_284 rfl (by omega) (by omega) (by omega) (congrFun hf _) ?_
      refine r_iconst ?_
      refine r_icmp_ne kX8_leave_27 (fun c2 => ?_) (fun c2 => absurd c2 (by omega))
      refine r_aload_n rfl ?_
      refine r_cV1 g_279 rfl (Nat.le_of_ble_eq_true rfl) (Nat.le_of_ble_eq_true rfl) (c_X8_remember ha) (fun v_ m_ hq_ => ?_)
      obtain ⟨rfl, hR⟩ := hq_
      refine r_aload_n rfl ?_
      refine r_getR g_279 rfl ?_
      refine r_bipush ?_
      refine r_iload_n rfl ?_
      first | refine r_iadd (az_wid (by omega) (by omega)) ?_ | refine r_iaddw ?_
      refine r_iconst ?_
      refine r_iast g_284 (by decide) (by omega) (by omega) ?_
      refine r_aload_n rfl ?_
      refine r_getR g_279 rfl ?_
      refine r_bipush ?_
      refine r_iload_n rfl ?_
      first | refine r_iadd (az_wid (by omega) (by omega)) ?_ | refine r_iaddw ?_
      refine r_ialdx g_284 rfl (by omega) (by omega) (by omega) ((az_up_eq (fun e => absurd e (by omega)) (fun _ => congrFun (hR.1 284 (by decide) (by decide)) _))) ?_
      refine r_iret rfl ?_
      exact qM_1 (rM_u hR _ _)
  · rw [if_neg hg]
    refine r_aload_n rfl ?_
    refine r_iload_n rfl ?_
    refine r_cV2I g_279 rfl (Nat.le_of_ble_eq_true rfl) (Nat.le_of_ble_eq_true rfl) (c_X8_isGuest2 hf hn) ?_
    refine r_if_ne kX8_leave_11 (fun c1 => absurd c1 (by omega)) (fun c1 => ?_)
    refine r_ldcI ?_
    refine r_iret rfl ?_
    exact qM_0
def pCloud (z : Int) (f : Int → Int) (h : Int) : Int × Option (Int → Int) := if z = 0 then (-1000002, none) else if 0 ≤ h ∧ h ≤ 5 then (if pBit (f 5) h = 1 ∨ h < f 4 then (-1000002, none) else (pPrice (up1 f 5 (az_or (f 5) (az_shl 1 h))) h, some (up1 f 5 (az_or (f 5) (az_shl 1 h))))) else (-1000001, none)
theorem c_X8_cloud {h : Int} (hN : nOK (m 284)) (ha : 0 ≤ m 279 9 ∧ m 279 9 ≤ 24) (hZ : m 279 7 = 0 ∨ m 279 7 = 1) : az_C sc az_G 93 [.inr (.inr 280), .inl h] m (qM m (pCloud (m 279 7) (m 284) h)) := by
  have hn := nOK_2 hN
  have hf : m 284 = m 284 := rfl
  unfold pCloud
  by_cases hz : m 279 7 = 0
  · rw [if_pos hz]
    refine r_aload_n rfl ?_
    refine r_getZ g_279 ?_
    refine r_if_ne kX8_cloud_10 (fun c1 => absurd c1 (by omega)) (fun c1 => ?_)
    refine r_ldcI ?_
    refine r_iret rfl ?_
    exact qM_0
  rw [if_neg hz]
  by_cases hh : 0 ≤ h ∧ h ≤ 5
  · rw [if_pos hh]
    have hp := nOK_p hN h hh.1 (by omega)
    have H : ¬ (pBit (m 284 5) h = 1 ∨ h < m 284 4) → az_E sc az_G 93 zX8_cloud_52 [some (.inr (.inr 280)), some (.inl (h))] [] m (qM m (pPrice (up1 (m 284) 5 (az_or (m 284 5) (az_shl 1 h))) h, some (up1 (m 284) 5 (az_or (m 284 5) (az_shl 1 h))))) := by
      intro hl
      refine r_aload_n rfl ?_
      refine r_cV1 g_279 rfl (Nat.le_of_ble_eq_true rfl) (Nat.le_of_ble_eq_true rfl) (c_X8_remember ha) (fun v_ m_ hq_ => ?_)
      obtain ⟨rfl, hR⟩ := hq_; have hf := hR.1 284 (by decide) (by decide)
      refine r_aload_n rfl ?_
      refine r_getR g_279 rfl ?_
      refine r_iconst ?_
      refine r_dup2 ?_
      refine r_ialdx g_284 rfl (by omega) (by omega) (by omega) (congrFun hf _) ?_
      refine r_iconst ?_
      refine r_iload_n rfl ?_
      refine r_ishl rfl ?_
      refine r_ior rfl ?_
      refine r_iast g_284 (by decide) (by omega) (by omega) ?_
      refine r_aload_n rfl ?_
      refine r_iload_n rfl ?_
      refine r_cV2I g_279 rfl (Nat.le_of_ble_eq_true rfl) (Nat.le_of_ble_eq_true rfl) (c_X8_priceOf3 (f := up1 (m 284) 5 (az_or (m 284 5) (az_shl 1 h))) (by rw [az_upx, up1_at]) (by rw [az_up_k _ _ (by omega), up1_ne _ _ (by omega), hf]) (by rw [up1_ne _ _ (by omega)]; exact hp) hh.1 (by omega)) ?_
      refine r_iret rfl ?_
      exact qM_1 (rM_u hR _ _)
    by_cases hl : pBit (m 284 5) h = 1 ∨ h < m 284 4
    · rw [if_pos hl]
      unfold pBit at hl
      refine r_aload_n rfl ?_
      refine r_getZ g_279 ?_
      refine r_if_ne kX8_cloud_10 (fun c1 => ?_) (fun c1 => absurd c1 (by omega))
      refine r_iload_n rfl ?_
      refine r_i2l ?_
      refine r_lconst0 ?_
      refine r_ldc2 ?_
      refine r_cS3I (by decide) (Nat.le_of_ble_eq_true rfl) (Nat.le_of_ble_eq_true rfl) (c_X8_in _ _ _) ?_
      refine r_if_ne kX8_cloud_25 (fun c2 => ?_) (fun c2 => absurd c2 (by omega))
      refine r_aload_n rfl ?_
      refine r_getR g_279 rfl ?_
      refine r_iconst ?_
      refine r_ialdx g_284 rfl (by omega) (by omega) (by omega) (congrFun hf _) ?_
      refine r_iload_n rfl ?_
      refine r_ishr rfl ?_
      refine r_iconst ?_
      refine r_iand rfl ?_
      refine r_iconst ?_
      refine r_icmp_eq kX8_cloud_49 (fun c3 => ?_) (fun c3 => ?_)
      · refine r_ldcI ?_
        refine r_iret rfl ?_
        exact qM_0
      · refine r_iload_n rfl ?_
        refine r_aload_n rfl ?_
        refine r_getR g_279 rfl ?_
        refine r_iconst ?_
        refine r_ialdx g_284 rfl (by omega) (by omega) (by omega) (congrFun hf _) ?_
        refine r_icmp_ge kX8_cloud_52 (fun c4 => absurd c4 (by omega)) (fun c4 => ?_)
        refine r_ldcI ?_
        refine r_iret rfl ?_
        exact qM_0
    · rw [if_neg hl]
      have H2 := H hl
      unfold pBit at hl
      refine r_aload_n rfl ?_
      refine r_getZ g_279 ?_
      refine r_if_ne kX8_cloud_10 (fun c1 => ?_) (fun c1 => absurd c1 (by omega))
      refine r_iload_n rfl ?_
      refine r_i2l ?_
      refine r_lconst0 ?_
      refine r_ldc2 ?_
      refine r_cS3I (by decide) (Nat.le_of_ble_eq_true rfl) (Nat.le_of_ble_eq_true rfl) (c_X8_in _ _ _) ?_
      refine r_if_ne kX8_cloud_25 (fun c2 => ?_) (fun c2 => absurd c2 (by omega))
      refine r_aload_n rfl ?_
      refine r_getR g_279 rfl ?_
      refine r_iconst ?_
      refine r_ialdx g_284 rfl (by omega) (by omega) (by omega) (congrFun hf _) ?_
      refine r_iload_n rfl ?_
      refine r_ishr rfl ?_
      refine r_iconst ?_
      refine r_iand rfl ?_
      refine r_iconst ?_
      refine r_icmp_eq kX8_cloud_49 (fun c3 => absurd c3 (by omega)) (fun c3 => ?_)
      refine r_iload_n rfl ?_
      refine r_aload_n rfl ?_
      refine r_getR g_279 rfl ?_
      refine r_iconst ?_
      refine r_ialdx g_284 rfl (by omega) (by omega) (by omega) (congrFun hf _) ?_
      refine r_icmp_ge kX8_cloud_52 (fun c4 => ?_) (fun c4 => absurd c4 (by omega))
      exact H2
  · rw [if_neg hh]
    refine r_aload_n rfl ?_
    refine r_getZ g_279 ?_
    refine r_if_ne kX8_cloud_10 (fun c1 => ?_) (fun c1 => absurd c1 (by omega))
    refine r_iload_n rfl ?_
    refine r_i2l ?_
    refine r_lconst0 ?_
    refine r_ldc2 ?_
    refine r_cS3I (by decide) (Nat.le_of_ble_eq_true rfl) (Nat.le_of_ble_eq_true rfl) (c_X8_in _ _ _) ?_
    refine r_if_ne kX8_cloud_25 (fun c2 => absurd c2 (by omega)) (fun c2 => ?_)
    refine r_ldcI ?_
    refine r_iret rfl ?_
    exact qM_0
def pShade (f : Int → Int) (g is : Int) : Int × Option (Int → Int) := if (0 ≤ g ∧ g ≤ f 2 - 1) ∧ (0 ≤ is ∧ is ≤ 1) then (f (40 + g), some (up1 f (40 + g) is)) else (-1000001, none)
theorem c_X8_shade {g is : Int} (hN : nOK (m 284)) (ha : 0 ≤ m 279 9 ∧ m 279 9 ≤ 24) : az_C sc az_G 95 [.inr (.inr 280), .inl g, .inl is] m (qM m (pShade (m 284) g is)) := by
  have hn := nOK_2 hN
  have hf : m 284 = m 284 := rfl
  unfold pShade
  by_cases hg : (0 ≤ g ∧ g ≤ m 284 2 - 1) ∧ (0 ≤ is ∧ is ≤ 1)
  · rw [if_pos hg]
    refine r_aload_n rfl ?_
    refine r_iload_n rfl ?_
    refine r_cV2I g_279 rfl (Nat.le_of_ble_eq_true rfl) (Nat.le_of_ble_eq_true rfl) (c_X8_isGuest2 hf hn) ?_
    refine r_if_eq kX8_shade_18 (fun c1 => absurd c1 (by omega)) (fun c1 => ?_)
    refine r_iload_n rfl ?_
    refine r_i2l ?_
    refine r_lconst0 ?_
    refine r_lconst1 ?_
    refine r_cS3I (by decide) (Nat.le_of_ble_eq_true rfl) (Nat.le_of_ble_eq_true rfl) (c_X8_in _ _ _) ?_
    refine r_if_ne kX8_shade_21 (fun c2 => ?_) (fun c2 => absurd c2 (by omega))
    refine r_aload_n rfl ?_
    refine r_cV1 g_279 rfl (Nat.le_of_ble_eq_true rfl) (Nat.le_of_ble_eq_true rfl) (c_X8_remember ha) (fun v_ m_ hq_ => ?_)
    obtain ⟨rfl, hR⟩ := hq_; have hf := hR.1 284 (by decide) (by decide)
    refine r_aload_n rfl ?_
    refine r_getR g_279 rfl ?_
    refine r_bipush ?_
    refine r_iload_n rfl ?_
    first | refine r_iadd (az_wid (by omega) (by omega)) ?_ | refine r_iaddw ?_
    refine r_ialdx g_284 rfl (by omega) (by omega) (by omega) (congrFun hf _) ?_
    refine r_istore_n (Nat.le_of_ble_eq_true rfl) rfl ?_
    refine r_aload_n rfl ?_
    refine r_getR g_279 rfl ?_
    refine r_bipush ?_
    refine r_iload_n rfl ?_
    first | refine r_iadd (az_wid (by omega) (by omega)) ?_ | refine r_iaddw ?_
    refine r_iload_n rfl ?_
    refine r_iast g_284 (by decide) (by omega) (by omega) ?_
    refine r_iload_n rfl ?_
    refine r_iret rfl ?_
    exact qM_1 (rM_u hR _ _)
  · rw [if_neg hg]
    refine r_aload_n rfl ?_
    refine r_iload_n rfl ?_
    refine r_cV2I g_279 rfl (Nat.le_of_ble_eq_true rfl) (Nat.le_of_ble_eq_true rfl) (c_X8_isGuest2 hf hn) ?_
    refine r_if_eq kX8_shade_18 (fun c1 => ?_) (fun c1 => ?_)
    · refine r_ldcI ?_
      refine r_iret rfl ?_
      exact qM_0
    · refine r_iload_n rfl ?_
      refine r_i2l ?_
      refine r_lconst0 ?_
      refine r_lconst1 ?_
      refine r_cS3I (by decide) (Nat.le_of_ble_eq_true rfl) (Nat.le_of_ble_eq_true rfl) (c_X8_in _ _ _) ?_
      refine r_if_ne kX8_shade_21 (fun c2 => absurd c2 (by omega)) (fun c2 => ?_)
      refine r_ldcI ?_
      refine r_iret rfl ?_
      exact qM_0
def pOver (f : Int → Int) (g n : Int) : Int := if f (28 + g) < n then n - f (28 + g) else 0
def pLess (f : Int → Int) (g n : Int) : Int := if f (28 + g) < n then 0 else f (28 + g) - n
def pGift (f : Int → Int) (g n : Int) : Int × Option (Int → Int) := if (0 ≤ g ∧ g ≤ f 2 - 1) ∧ (1 ≤ n ∧ n ≤ 999) then (if 9999 < f (24 + g) + pOver f g n then (-1000003, none) else (pLess f g n, some (up1 (up1 f (28 + g) (pLess f g n)) (24 + g) (f (24 + g) + pOver f g n)))) else (-1000001, none)
theorem c_X8_gift {g n : Int} (hN : nOK (m 284)) (ha : 0 ≤ m 279 9 ∧ m 279 9 ≤ 24) : az_C sc az_G 97 [.inr (.inr 280), .inl g, .inl n] m (qM m (pGift (m 284) g n)) := by
  have hn := nOK_2 hN
  have hf : m 284 = m 284 := rfl
  unfold pGift
  by_cases hg : (0 ≤ g ∧ g ≤ m 284 2 - 1) ∧ (1 ≤ n ∧ n ≤ 999)
  · rw [if_pos hg]
    have hG := nOK_g hN g hg.1.1 (by omega)
    obtain ⟨ov, hov⟩ : ∃ x, x = pOver (m 284) g n := ⟨_, rfl⟩
    obtain ⟨le, hle⟩ : ∃ x, x = pLess (m 284) g n := ⟨_, rfl⟩
    have hob : 0 ≤ ov ∧ ov ≤ 999 := by
      rw [hov]
      unfold pOver
      split <;> omega
    rw [← hov, ← hle]
    have H2 : ∀ m1, remM m m1 → az_E sc az_G 97 zX8_gift_92 [some (.inr (.inr 280)), some (.inl (g)), some (.inl (n)), some (.inl (m 284 (28 + g))), some (.inl (ov))] [.inl le, .inl (28 + g), .inr (.inr 285)] m1 (qM m (le, some (up1 (up1 (m 284) (28 + g) le) (24 + g) (m 284 (24 + g) + ov)))) := by
      intro m1 hR
      have hf := hR.1 284 (by decide) (by decide)
      refine r_iast g_284 (by decide) (by omega) (by omega) ?_
      refine r_aload_n rfl ?_
      refine r_getR g_279 rfl ?_
      refine r_bipush ?_
      refine r_iload_n rfl ?_
      first | refine r_iadd (az_wid (by omega) (by omega)) ?_ | refine r_iaddw ?_
      refine r_dup2 ?_
      refine r_ialdx g_284 rfl (by omega) (by omega) (by omega) ((az_up_eq (fun e => absurd e (by omega)) (fun _ => congrFun hf _))) ?_
      refine r_iload rfl ?_
      first | refine r_iadd (az_wid (by omega) (by omega)) ?_ | refine r_iaddw ?_
      refine r_iast g_284 (by decide) (by omega) (by omega) ?_
      refine r_aload_n rfl ?_
      refine r_getR g_279 rfl ?_
      refine r_bipush ?_
      refine r_iload_n rfl ?_
      first | refine r_iadd (az_wid (by omega) (by omega)) ?_ | refine r_iaddw ?_
      refine r_ialdx g_284 rfl (by omega) (by omega) (by omega) ((az_up_eq (fun e => absurd e (by omega)) (fun _ => az_up_at _ _ _ _))) ?_
      refine r_iret rfl ?_
      skip
      refine qM_1 ?_
      rw [az_us0 m1, az_us, hf]
      exact rM_s hR _
    have H : ¬ 9999 < m 284 (24 + g) + ov → az_E sc az_G 97 zX8_gift_68 [some (.inr (.inr 280)), some (.inl (g)), some (.inl (n)), some (.inl (m 284 (28 + g))), some (.inl (ov))] [] m (qM m (le, some (up1 (up1 (m 284) (28 + g) le) (24 + g) (m 284 (24 + g) + ov)))) := by
      intro hl
      refine r_aload_n rfl ?_
      refine r_cV1 g_279 rfl (Nat.le_of_ble_eq_true rfl) (Nat.le_of_ble_eq_true rfl) (c_X8_remember ha) (fun v_ m_ hq_ => ?_)
      obtain ⟨rfl, hR⟩ := hq_; have H3 := H2 m_ hR; rw [hle] at H3 ⊢; unfold pLess at H3 ⊢
      refine r_aload_n rfl ?_
      refine r_getR g_279 rfl ?_
      refine r_bipush ?_
      refine r_iload_n rfl ?_
      first | refine r_iadd (az_wid (by omega) (by omega)) ?_ | refine r_iaddw ?_
      refine r_iload_n rfl ?_
      refine r_iload_n rfl ?_
      refine r_icmp_le kX8_gift_89 (fun c1 => ?_) (fun c1 => ?_)
      · refine r_iload_n rfl ?_
        refine r_iload_n rfl ?_
        first | refine r_isub (az_wid (by omega) (by omega)) ?_ | refine r_isubw ?_
        first | (rw [if_pos (by omega)] at H3 ⊢; exact H3) | (rw [if_neg (by omega)] at H3 ⊢; exact H3)
      · refine r_iconst ?_
        refine r_goto kX8_gift_92 ?_
        first | (rw [if_pos (by omega)] at H3 ⊢; exact H3) | (rw [if_neg (by omega)] at H3 ⊢; exact H3)
    have H1 : ∀ x, x = ov → az_E sc az_G 97 zX8_gift_45 [some (.inr (.inr 280)), some (.inl (g)), some (.inl (n)), some (.inl (m 284 (28 + g))), none] [.inl x] m (qM m (if 9999 < m 284 (24 + g) + ov then (-1000003, none) else (le, some (up1 (up1 (m 284) (28 + g) le) (24 + g) (m 284 (24 + g) + ov))))) := by
      intro x hx
      subst hx
      by_cases hl : 9999 < m 284 (24 + g) + x
      · rw [if_pos hl]
        refine r_istore (Nat.le_of_ble_eq_true rfl) rfl ?_
        refine r_aload_n rfl ?_
        refine r_getR g_279 rfl ?_
        refine r_bipush ?_
        refine r_iload_n rfl ?_
        first | refine r_iadd (az_wid (by omega) (by omega)) ?_ | refine r_iaddw ?_
        refine r_ialdx g_284 rfl (by omega) (by omega) (by omega) (congrFun hf _) ?_
        refine r_iload rfl ?_
        first | refine r_iadd (az_wid (by omega) (by omega)) ?_ | refine r_iaddw ?_
        refine r_sipush ?_
        refine r_icmp_le kX8_gift_68 (fun c1 => absurd c1 (by omega)) (fun c1 => ?_)
        refine r_ldcI ?_
        refine r_iret rfl ?_
        exact qM_0
      · rw [if_neg hl]
        refine r_istore (Nat.le_of_ble_eq_true rfl) rfl ?_
        refine r_aload_n rfl ?_
        refine r_getR g_279 rfl ?_
        refine r_bipush ?_
        refine r_iload_n rfl ?_
        first | refine r_iadd (az_wid (by omega) (by omega)) ?_ | refine r_iaddw ?_
        refine r_ialdx g_284 rfl (by omega) (by omega) (by omega) (congrFun hf _) ?_
        refine r_iload rfl ?_
        first | refine r_iadd (az_wid (by omega) (by omega)) ?_ | refine r_iaddw ?_
        refine r_sipush ?_
        refine r_icmp_le kX8_gift_68 (fun c1 => ?_) (fun c1 => absurd c1 (by omega))
        exact H hl
    refine r_aload_n rfl ?_
    refine r_iload_n rfl ?_
    refine r_cV2I g_279 rfl (Nat.le_of_ble_eq_true rfl) (Nat.le_of_ble_eq_true rfl) (c_X8_isGuest2 hf hn) ?_
    refine r_if_eq kX8_gift_20 (fun c1 => absurd c1 (by omega)) (fun c1 => ?_)
    refine r_iload_n rfl ?_
    refine r_i2l ?_
    refine r_lconst1 ?_
    refine r_ldc2 ?_
    refine r_cS3I (by decide) (Nat.le_of_ble_eq_true rfl) (Nat.le_of_ble_eq_true rfl) (c_X8_in _ _ _) ?_
    refine r_if_ne kX8_gift_23 (fun c2 => ?_) (fun c2 => absurd c2 (by omega))
    refine r_aload_n rfl ?_
    refine r_getR g_279 rfl ?_
    refine r_bipush ?_
    refine r_iload_n rfl ?_
    first | refine r_iadd (az_wid (by omega) (by omega)) ?_ | refine r_iaddw ?_
    refine r_ialdx g_284 rfl (by omega) (by omega) (by omega) (congrFun hf _) ?_
    refine r_istore_n (Nat.le_of_ble_eq_true rfl) rfl ?_
    refine r_iload_n rfl ?_
    refine r_iload_n rfl ?_
    refine r_icmp_le kX8_gift_44 (fun c3 => ?_) (fun c3 => ?_)
    · refine r_iconst ?_
      exact H1 _ (by rw [hov]; unfold pOver; first | rw [if_pos (by omega)] | rw [if_neg (by omega)])
    · refine r_iload_n rfl ?_
      refine r_iload_n rfl ?_
      first | refine r_isub (az_wid (by omega) (by omega)) ?_ | refine r_isubw ?_
      refine r_goto kX8_gift_45 ?_
      exact H1 _ (by rw [hov]; unfold pOver; first | rw [if_pos (by omega)] | rw [if_neg (by omega)])
  · rw [if_neg hg]
    refine r_aload_n rfl ?_
    refine r_iload_n rfl ?_
    refine r_cV2I g_279 rfl (Nat.le_of_ble_eq_true rfl) (Nat.le_of_ble_eq_true rfl) (c_X8_isGuest2 hf hn) ?_
    refine r_if_eq kX8_gift_20 (fun c1 => ?_) (fun c1 => ?_)
    · refine r_ldcI ?_
      refine r_iret rfl ?_
      exact qM_0
    · refine r_iload_n rfl ?_
      refine r_i2l ?_
      refine r_lconst1 ?_
      refine r_ldc2 ?_
      refine r_cS3I (by decide) (Nat.le_of_ble_eq_true rfl) (Nat.le_of_ble_eq_true rfl) (c_X8_in _ _ _) ?_
      refine r_if_ne kX8_gift_23 (fun c2 => absurd c2 (by omega)) (fun c2 => ?_)
      refine r_ldcI ?_
      refine r_iret rfl ?_
      exact qM_0
def pHrP (f : Int → Int) (k : Int) : Int := az_F (fun g a => if f (32 + g) = 0 then pPrice f (f 4) else a) 0 k
theorem pHrP_S (f : Int → Int) {k : Int} (h : 0 ≤ k) : pHrP f (k + 1) = if f (32 + k) = 0 then pPrice f (f 4) else pHrP f k := az_FS _ _ h
def pHrF (f : Int → Int) (k : Int) : Int → Int := fun j => if 36 ≤ j ∧ j < 36 + k ∧ f (j - 4) = 0 then f j + 1 else f j
theorem pHrF_S (f : Int → Int) {k : Int} (h : 0 ≤ k) : pHrF f (k + 1) = if f (32 + k) = 0 then up1 (pHrF f k) (36 + k) (f (36 + k) + 1) else pHrF f k := by
  funext j
  have e1 : pHrF f (k + 1) j = if 36 ≤ j ∧ j < 36 + (k + 1) ∧ f (j - 4) = 0 then f j + 1 else f j := rfl
  have e2 : pHrF f k j = if 36 ≤ j ∧ j < 36 + k ∧ f (j - 4) = 0 then f j + 1 else f j := rfl
  by_cases hj : j = 36 + k
  · subst hj
    rw [show (36 : Int) + k - 4 = 32 + k by omega] at e1 e2
    by_cases hf : f (32 + k) = 0
    · rw [if_pos hf, up1_at, e1, if_pos ⟨by omega, by omega, hf⟩]
    · rw [if_neg hf, e1, e2, if_neg (fun q => hf q.2.2), if_neg (fun q => hf q.2.2)]
  · have e3 : pHrF f (k + 1) j = pHrF f k j := by
      rw [e1, e2]
      by_cases h1 : 36 ≤ j ∧ j < 36 + k ∧ f (j - 4) = 0
      · rw [if_pos h1, if_pos ⟨h1.1, by omega, h1.2.2⟩]
      · rw [if_neg h1, if_neg (fun q => h1 ⟨q.1, by omega, q.2.2⟩)]
    rw [e3]
    split
    · rw [up1_ne _ _ hj]
    · rfl
theorem pHrF_o (f : Int → Int) (k : Int) {j : Int} (h : j < 36 ∨ 36 + k ≤ j) : pHrF f k j = f j := by
  unfold pHrF
  rw [if_neg (by omega)]
theorem pHrF_0 (f : Int → Int) : pHrF f 0 = f := by
  funext j
  exact pHrF_o f 0 (by omega)
def pHour (z : Int) (f : Int → Int) : Int × Option (Int → Int) := if z = 0 then (-1000002, none) else if f 4 = 6 then (-1000003, none) else (pHrP f (f 2), some (up1 (pHrF f (f 2)) 4 (f 4 + 1)))
theorem c_X8_hour (hN : nOK (m 284)) (ha : 0 ≤ m 279 9 ∧ m 279 9 ≤ 24) (hZ : m 279 7 = 0 ∨ m 279 7 = 1) : az_C sc az_G 86 [.inr (.inr 280)] m (qM m (pHour (m 279 7) (m 284))) := by
  have hn := nOK_2 hN
  have hf : m 284 = m 284 := rfl
  have h4 := nOK_4 hN
  unfold pHour
  by_cases hz : m 279 7 = 0
  · rw [if_pos hz]
    refine r_aload_n rfl ?_
    refine r_getZ g_279 ?_
    refine r_if_ne kX8_hour_10 (fun c1 => absurd c1 (by omega)) (fun c1 => ?_)
    refine r_ldcI ?_
    refine r_iret rfl ?_
    exact qM_0
  rw [if_neg hz]
  by_cases h6 : m 284 4 = 6
  · rw [if_pos h6]
    refine r_aload_n rfl ?_
    refine r_getZ g_279 ?_
    refine r_if_ne kX8_hour_10 (fun c1 => ?_) (fun c1 => absurd c1 (by omega))
    refine r_aload_n rfl ?_
    refine r_getR g_279 rfl ?_
    refine r_iconst ?_
    refine r_ialdx g_284 rfl (by omega) (by omega) (by omega) (congrFun hf _) ?_
    refine r_bipush ?_
    refine r_icmp_ne kX8_hour_24 (fun c2 => absurd c2 (by omega)) (fun c2 => ?_)
    refine r_ldcI ?_
    refine r_iret rfl ?_
    exact qM_0
  rw [if_neg h6]
  obtain ⟨f, hff⟩ : ∃ f, f = m 284 := ⟨_, rfl⟩
  rw [← hff] at hN hn h4 h6 hf ⊢
  have hp := nOK_p hN (f 4) h4.1 (by omega)
  refine r_aload_n rfl ?_
  refine r_getZ g_279 ?_
  refine r_if_ne kX8_hour_10 (fun c1 => ?_) (fun c1 => absurd c1 (by omega))
  refine r_aload_n rfl ?_
  refine r_getR g_279 rfl ?_
  refine r_iconst ?_
  refine r_ialdx g_284 rfl (by omega) (by omega) (by omega) (congrFun hff.symm _) ?_
  refine r_bipush ?_
  refine r_icmp_ne kX8_hour_24 (fun c2 => ?_) (fun c2 => absurd c2 (by omega))
  refine r_aload_n rfl ?_
  refine r_cV1 g_279 rfl (Nat.le_of_ble_eq_true rfl) (Nat.le_of_ble_eq_true rfl) (c_X8_remember ha) (fun v_ m_ hq_ => ?_)
  obtain ⟨rfl, hR⟩ := hq_; have hf2 : m_ 284 = f := by { rw [hff]; exact hR.1 284 (by decide) (by decide) }
  refine r_iconst ?_
  refine r_istore_n (Nat.le_of_ble_eq_true rfl) rfl ?_
  refine r_iconst ?_
  refine r_istore_n (Nat.le_of_ble_eq_true rfl) rfl ?_
  skip
  refine az_Em (az_s0 m_ 284).symm ?_
  rw [hf2]
  refine az_lop (α := (Int → Int) × Int) (fun g a => [some (.inr (.inr 280)), some (.inl (a.2)), some (.inl (g))]) (fun a => az_set m_ 284 a.1) (fun g a => a.1 = pHrF f g ∧ a.2 = pHrP f g) 0 (f 2) (f, 0) hn.1 ⟨(pHrF_0 f).symm, rfl⟩ (fun g a h0 h1 hp2 hK => ?_) (fun a hp2 => ?_)
  · obtain ⟨F, pr⟩ := a
    obtain ⟨hp3, hp4⟩ := hp2
    dsimp only at hp3 hp4 ⊢
    have e2 : F 2 = f 2 := by rw [hp3]; exact pHrF_o f g (by omega)
    have e4 : F 4 = f 4 := by rw [hp3]; exact pHrF_o f g (by omega)
    have e5 : F 5 = f 5 := by rw [hp3]; exact pHrF_o f g (by omega)
    have e6 : F (6 + f 4) = f (6 + f 4) := by rw [hp3]; exact pHrF_o f g (by omega)
    have e32 : F (32 + g) = f (32 + g) := by rw [hp3]; exact pHrF_o f g (by omega)
    have e36 : F (36 + g) = f (36 + g) := by rw [hp3]; exact pHrF_o f g (by omega)
    have hG := nOK_g hN g h0 h1
    have hS := pHrF_S f h0
    have hS2 := pHrP_S f h0
    rw [← hp3] at hS
    rw [← hp4] at hS2
    refine r_iload_n rfl ?_
    refine r_aload_n rfl ?_
    refine r_getR g_279 rfl ?_
    refine r_iconst ?_
    refine r_ialdx g_284 rfl (by omega) (by omega) (by omega) (congrFun (rfl : F = F) _) ?_
    refine r_icmp_ge kX8_hour_84 (fun c1 => absurd c1 (by omega)) (fun c1 => ?_)
    refine r_aload_n rfl ?_
    refine r_getR g_279 rfl ?_
    refine r_bipush ?_
    refine r_iload_n rfl ?_
    first | refine r_iadd (az_wid (by omega) (by omega)) ?_ | refine r_iaddw ?_
    refine r_ialdx g_284 rfl (by omega) (by omega) (by omega) (congrFun (rfl : F = F) _) ?_
    refine r_if_ne kX8_hour_78 (fun c2 => ?_) (fun c2 => ?_)
    · refine r_iinc rfl (az_wid (by omega) (by omega)) rfl ?_
      refine r_goto kX8_hour_32 ?_
      first | refine az_Em (az_us _ _ _ _ _) (hK (up1 F (36 + g) (f (36 + g) + 1), pPrice f (f 4)) ⟨by rw [hS, if_pos (by omega)], by rw [hS2, if_pos (by omega)]⟩) | refine hK (F, pr) ⟨by rw [hS, if_neg (by omega)], by rw [hS2, if_neg (by omega)]⟩
    · refine r_aload_n rfl ?_
      refine r_getR g_279 rfl ?_
      refine r_bipush ?_
      refine r_iload_n rfl ?_
      first | refine r_iadd (az_wid (by omega) (by omega)) ?_ | refine r_iaddw ?_
      refine r_dup2 ?_
      refine r_ialdx g_284 rfl (by omega) (by omega) (by omega) (e36) ?_
      refine r_iconst ?_
      first | refine r_iadd (az_wid (by omega) (by omega)) ?_ | refine r_iaddw ?_
      refine r_iast g_284 (by decide) (by omega) (by omega) ?_
      refine r_aload_n rfl ?_
      refine r_aload_n rfl ?_
      refine r_getR g_279 rfl ?_
      refine r_iconst ?_
      refine r_ialdx g_284 rfl (by omega) (by omega) (by omega) ((az_up_eq (fun e => absurd e (by omega)) (fun _ => e4))) ?_
      refine r_cV2I g_279 rfl (Nat.le_of_ble_eq_true rfl) (Nat.le_of_ble_eq_true rfl) (c_X8_priceOf3 (f := f) (az_up_eq (fun e => absurd e (by omega)) (fun _ => e5)) (az_up_eq (fun e => absurd e (by omega)) (fun _ => e6)) hp h4.1 (by omega)) ?_
      refine r_istore_n (Nat.le_of_ble_eq_true rfl) rfl ?_
      refine r_iinc rfl (az_wid (by omega) (by omega)) rfl ?_
      refine r_goto kX8_hour_32 ?_
      first | refine az_Em (az_us _ _ _ _ _) (hK (up1 F (36 + g) (f (36 + g) + 1), pPrice f (f 4)) ⟨by rw [hS, if_pos (by omega)], by rw [hS2, if_pos (by omega)]⟩) | refine hK (F, pr) ⟨by rw [hS, if_neg (by omega)], by rw [hS2, if_neg (by omega)]⟩
  · obtain ⟨F, pr⟩ := a
    obtain ⟨hp3, hp4⟩ := hp2
    dsimp only at hp3 hp4 ⊢
    have e2 : F 2 = f 2 := by rw [hp3]; exact pHrF_o f _ (by omega)
    have e4 : F 4 = f 4 := by rw [hp3]; exact pHrF_o f _ (by omega)
    subst hp4
    refine r_iload_n rfl ?_
    refine r_aload_n rfl ?_
    refine r_getR g_279 rfl ?_
    refine r_iconst ?_
    refine r_ialdx g_284 rfl (by omega) (by omega) (by omega) (congrFun (rfl : F = F) _) ?_
    refine r_icmp_ge kX8_hour_84 (fun c1 => ?_) (fun c1 => absurd c1 (by omega))
    refine r_aload_n rfl ?_
    refine r_getR g_279 rfl ?_
    refine r_iconst ?_
    refine r_dup2 ?_
    refine r_ialdx g_284 rfl (by omega) (by omega) (by omega) (e4) ?_
    refine r_iconst ?_
    first | refine r_iadd (az_wid (by omega) (by omega)) ?_ | refine r_iaddw ?_
    refine r_iast g_284 (by decide) (by omega) (by omega) ?_
    refine r_iload_n rfl ?_
    refine r_iret rfl ?_
    refine qM_1 ?_; rw [az_us, ← hp3]; exact rM_s hR _
end RJ
