/-! THE CLASS: ask -/
section CI
variable {sc : aX} {m : aM} {f t c : Int → Int} {sp : Int} {Q : Option aV → aM → Prop}
def cNt (m : aM) (L x : Int) : aM := az_up (az_up m 246 L x) 245 1 (L + 1)
def cNtl (m : aM) : Int → List Int → aM
  | _, [] => m
  | L, x :: xs => cNtl (cNt m L x) (L + 1) xs
theorem cNt_1 (m : aM) (L x : Int) : cNt m L x 245 1 = L + 1 := az_up_at _ _ _ _
theorem cNt_b (m : aM) (L x : Int) {b : Nat} (h1 : b ≠ 245) (h2 : b ≠ 246) : cNt m L x b = m b := by
  unfold cNt
  rw [az_up_b _ _ _ h1, az_up_b _ _ _ h2]
theorem cNtl_b (m : aM) {b : Nat} (h1 : b ≠ 245) (h2 : b ≠ 246) : ∀ (xs : List Int) (L : Int), cNtl m L xs b = m b := by
  intro xs
  induction xs generalizing m with
  | nil => intro L; rfl
  | cons x xs ih =>
    intro L
    show cNtl (cNt m L x) (L + 1) xs b = _
    rw [ih, cNt_b _ _ _ h1 h2]
theorem c_X0_note {L x : Int} (hL : m 245 1 = L) (hb : 0 ≤ L ∧ L < 16) : az_CV sc 188 [.inr (.inr 246), .inl x] m (cNt m L x) := by
  have h2 : ∀ v, az_up m 246 L v 245 1 = L := fun v => (congrFun (az_up_b _ _ _ (by decide)) _).trans hL
  refine r_aload_n rfl ?_
  refine r_getIx g_245 (hL) ?_
  refine r_bipush ?_
  refine r_icmp_ge kX0_note_29 (fun c1 => absurd c1 (by omega)) (fun c1 => ?_)
  refine r_aload_n rfl ?_
  refine r_getR g_245 rfl ?_
  refine r_aload_n rfl ?_
  refine r_getIx g_245 (hL) ?_
  refine r_iload_n rfl ?_
  refine r_iast g_246 (by decide) (by omega) (by omega) ?_
  refine r_aload_n rfl ?_
  refine r_dupR ?_
  refine r_getIx g_245 (h2 _) ?_
  refine r_iconst ?_
  first | refine r_iadd (az_wid (by omega) (by omega)) ?_ | refine r_iaddw ?_
  refine r_putI g_245 (by decide) ?_
  refine r_vret rfl ?_
  exact ⟨rfl, rfl⟩
def aB (m : aM) (f : Int → Int) (g : Int) : Prop := m 24 g = f (12 + g) ∧ m 27 g = f (24 + g) ∧ m 28 g = f (28 + g)
def aF (f : Int → Int) (g : Int) : Prop := (0 ≤ g ∧ g < 4) ∧ (0 ≤ f (24 + g) ∧ f (24 + g) ≤ 9999) ∧ (0 ≤ f (28 + g) ∧ f (28 + g) ≤ 9999)
theorem aB_1 {g : Int} (h : aB m f g) (L x : Int) : aB (cNt m L x) f g := by
  unfold aB at *
  rw [cNt_b _ _ _ (by decide) (by decide), cNt_b _ _ _ (by decide) (by decide), cNt_b _ _ _ (by decide) (by decide)]
  exact h
theorem aB_n {g : Int} (h : aB m f g) (L : Int) (xs : List Int) : aB (cNtl m L xs) f g := by
  unfold aB at *
  rw [cNtl_b _ (by decide) (by decide), cNtl_b _ (by decide) (by decide), cNtl_b _ (by decide) (by decide)]
  exact h
theorem a_sz0_0_5 {g L dp : Int} (hA : aB m f g) (hF : aF f g) (hL : m 245 1 = L) (hLb : 0 ≤ L ∧ L + 1 ≤ 16) (hd : 0 ≤ dp ∧ dp ≤ 15) : az_CI sc 200 [.inr (.inr 246), .inr (.inr 23), .inl g, .inl 0, .inl dp] m (f (24 + g)) (cNtl m L [10]) := by
  have hFF := hF
  unfold aF at hFF
  refine r_iload rfl ?_
  refine r_bipush ?_
  refine r_icmp_le kX0_sizeAs5_9 (fun c1 => ?_) (fun c1 => absurd c1 (by omega))
  refine r_iload_n rfl ?_
  refine r_tswO (by decide) kX0_sizeAs5_155 ?_
  refine r_aload_n rfl ?_
  refine r_bipush ?_
  refine r_cV2V g_245 rfl (Nat.le_of_ble_eq_true rfl) (Nat.le_of_ble_eq_true rfl) (c_X0_note hL (by omega)) ?_
  refine r_aload_n rfl ?_
  refine r_getR g_22 rfl ?_
  refine r_iload_n rfl ?_
  refine r_ialdx g_27 rfl (by omega) (by omega) (by omega) ((aB_1 hA _ _).2.1) ?_
  refine r_iret rfl ?_
  exact ⟨rfl, rfl⟩
theorem a_mk0_0_4 {g L dp : Int} (hA : aB m f g) (hF : aF f g) (hL : m 245 1 = L) (hLb : 0 ≤ L ∧ L + 1 ≤ 16) (hd : 0 ≤ dp ∧ dp ≤ 16) : az_CI sc 197 [.inr (.inr 246), .inr (.inr 23), .inl g, .inl 0, .inl dp] m (g) (cNtl m L [20]) := by
  have hFF := hF
  unfold aF at hFF
  refine r_iload rfl ?_
  refine r_bipush ?_
  refine r_icmp_le kX0_markAs4_9 (fun c1 => ?_) (fun c1 => absurd c1 (by omega))
  refine r_iload_n rfl ?_
  refine r_tswO (by decide) kX0_markAs4_162 ?_
  refine r_aload_n rfl ?_
  refine r_bipush ?_
  refine r_cV2V g_245 rfl (Nat.le_of_ble_eq_true rfl) (Nat.le_of_ble_eq_true rfl) (c_X0_note hL (by omega)) ?_
  refine r_iload_n rfl ?_
  refine r_iret rfl ?_
  exact ⟨rfl, rfl⟩
theorem a_mk1_0_5 {g L dp : Int} (hA : aB m f g) (hF : aF f g) (hL : m 245 1 = L) (hLb : 0 ≤ L ∧ L + 2 ≤ 16) (hd : 0 ≤ dp ∧ dp ≤ 15) : az_CI sc 199 [.inr (.inr 246), .inr (.inr 23), .inl g, .inl 1, .inl dp] m (g + f (28 + g)) (cNtl m L [21, 20]) := by
  have hFF := hF
  unfold aF at hFF
  refine r_iload rfl ?_
  refine r_bipush ?_
  refine r_icmp_le kX0_markAs5_9 (fun c1 => ?_) (fun c1 => absurd c1 (by omega))
  refine r_iload_n rfl ?_
  refine r_tswI (by decide) rfl kX0_markAs5_44 ?_
  refine r_aload_n rfl ?_
  refine r_bipush ?_
  refine r_cV2V g_245 rfl (Nat.le_of_ble_eq_true rfl) (Nat.le_of_ble_eq_true rfl) (c_X0_note hL (by omega)) ?_
  refine r_aload_n rfl ?_
  refine r_aload_n rfl ?_
  refine r_iload_n rfl ?_
  refine r_iconst ?_
  refine r_iload rfl ?_
  refine r_iconst ?_
  first | refine r_iadd (az_wid (by omega) (by omega)) ?_ | refine r_iaddw ?_
  refine r_cV5I g_245 rfl (Nat.le_of_ble_eq_true rfl) (Nat.le_of_ble_eq_true rfl) (a_mk0_0_4 (aB_1 hA _ _) hF (cNt_1 _ _ _) (by omega) (by omega)) ?_
  refine r_aload_n rfl ?_
  refine r_getR g_22 rfl ?_
  refine r_iload_n rfl ?_
  refine r_ialdx g_28 rfl (by omega) (by omega) (by omega) ((aB_n (aB_1 hA _ _) _ _).2.2) ?_
  first | refine r_iadd (az_wid (by omega) (by omega)) ?_ | refine r_iaddw ?_
  refine r_iret rfl ?_
  exact ⟨rfl, rfl⟩
theorem a_sz1_1_6 {g L dp : Int} (hA : aB m f g) (hF : aF f g) (hk : f (12 + g) = 1) (hL : m 245 1 = L) (hLb : 0 ≤ L ∧ L + 4 ≤ 16) (hd : 0 ≤ dp ∧ dp ≤ 14) : az_CI sc 202 [.inr (.inr 246), .inr (.inr 23), .inl g, .inl 1, .inl dp] m (f (24 + g) + (g + f (28 + g))) (cNtl m L [11, 10, 21, 20]) := by
  have hFF := hF
  unfold aF at hFF
  refine r_iload rfl ?_
  refine r_bipush ?_
  refine r_icmp_le kX0_sizeAs6_9 (fun c1 => ?_) (fun c1 => absurd c1 (by omega))
  refine r_iload_n rfl ?_
  refine r_tswI (by decide) rfl kX0_sizeAs6_44 ?_
  refine r_aload_n rfl ?_
  refine r_bipush ?_
  refine r_cV2V g_245 rfl (Nat.le_of_ble_eq_true rfl) (Nat.le_of_ble_eq_true rfl) (c_X0_note hL (by omega)) ?_
  refine r_aload_n rfl ?_
  refine r_aload_n rfl ?_
  refine r_iload_n rfl ?_
  refine r_iconst ?_
  refine r_iload rfl ?_
  refine r_iconst ?_
  first | refine r_iadd (az_wid (by omega) (by omega)) ?_ | refine r_iaddw ?_
  refine r_cV5I g_245 rfl (Nat.le_of_ble_eq_true rfl) (Nat.le_of_ble_eq_true rfl) (a_sz0_0_5 (aB_1 hA _ _) hF (cNt_1 _ _ _) (by omega) (by omega)) ?_
  refine r_istore (Nat.le_of_ble_eq_true rfl) rfl ?_
  refine r_iload rfl ?_
  refine r_aload_n rfl ?_
  refine r_aload_n rfl ?_
  refine r_iload_n rfl ?_
  refine r_aload_n rfl ?_
  refine r_getR g_22 rfl ?_
  refine r_iload_n rfl ?_
  refine r_ialdx g_24 rfl (by omega) (by omega) (by omega) ((aB_n (aB_1 hA _ _) _ _).1.trans hk) ?_
  refine r_iload rfl ?_
  refine r_iconst ?_
  first | refine r_iadd (az_wid (by omega) (by omega)) ?_ | refine r_iaddw ?_
  refine r_cV5I g_245 rfl (Nat.le_of_ble_eq_true rfl) (Nat.le_of_ble_eq_true rfl) (a_mk1_0_5 (aB_n (aB_1 hA _ _) _ _) hF (cNt_1 (cNt m L 11) (L + 1) 10) (by omega) (by omega)) ?_
  first | refine r_iadd (az_wid (by omega) (by omega)) ?_ | refine r_iaddw ?_
  refine r_iret rfl ?_
  exact ⟨rfl, rfl⟩
theorem a_mk0_0_5 {g L dp : Int} (hA : aB m f g) (hF : aF f g) (hL : m 245 1 = L) (hLb : 0 ≤ L ∧ L + 1 ≤ 16) (hd : 0 ≤ dp ∧ dp ≤ 15) : az_CI sc 199 [.inr (.inr 246), .inr (.inr 23), .inl g, .inl 0, .inl dp] m (g) (cNtl m L [20]) := by
  have hFF := hF
  unfold aF at hFF
  refine r_iload rfl ?_
  refine r_bipush ?_
  refine r_icmp_le kX0_markAs5_9 (fun c1 => ?_) (fun c1 => absurd c1 (by omega))
  refine r_iload_n rfl ?_
  refine r_tswO (by decide) kX0_markAs5_162 ?_
  refine r_aload_n rfl ?_
  refine r_bipush ?_
  refine r_cV2V g_245 rfl (Nat.le_of_ble_eq_true rfl) (Nat.le_of_ble_eq_true rfl) (c_X0_note hL (by omega)) ?_
  refine r_iload_n rfl ?_
  refine r_iret rfl ?_
  exact ⟨rfl, rfl⟩
theorem a_mk1_0_6 {g L dp : Int} (hA : aB m f g) (hF : aF f g) (hL : m 245 1 = L) (hLb : 0 ≤ L ∧ L + 2 ≤ 16) (hd : 0 ≤ dp ∧ dp ≤ 14) : az_CI sc 201 [.inr (.inr 246), .inr (.inr 23), .inl g, .inl 1, .inl dp] m (g + f (28 + g)) (cNtl m L [21, 20]) := by
  have hFF := hF
  unfold aF at hFF
  refine r_iload rfl ?_
  refine r_bipush ?_
  refine r_icmp_le kX0_markAs6_9 (fun c1 => ?_) (fun c1 => absurd c1 (by omega))
  refine r_iload_n rfl ?_
  refine r_tswI (by decide) rfl kX0_markAs6_44 ?_
  refine r_aload_n rfl ?_
  refine r_bipush ?_
  refine r_cV2V g_245 rfl (Nat.le_of_ble_eq_true rfl) (Nat.le_of_ble_eq_true rfl) (c_X0_note hL (by omega)) ?_
  refine r_aload_n rfl ?_
  refine r_aload_n rfl ?_
  refine r_iload_n rfl ?_
  refine r_iconst ?_
  refine r_iload rfl ?_
  refine r_iconst ?_
  first | refine r_iadd (az_wid (by omega) (by omega)) ?_ | refine r_iaddw ?_
  refine r_cV5I g_245 rfl (Nat.le_of_ble_eq_true rfl) (Nat.le_of_ble_eq_true rfl) (a_mk0_0_5 (aB_1 hA _ _) hF (cNt_1 _ _ _) (by omega) (by omega)) ?_
  refine r_aload_n rfl ?_
  refine r_getR g_22 rfl ?_
  refine r_iload_n rfl ?_
  refine r_ialdx g_28 rfl (by omega) (by omega) (by omega) ((aB_n (aB_1 hA _ _) _ _).2.2) ?_
  first | refine r_iadd (az_wid (by omega) (by omega)) ?_ | refine r_iaddw ?_
  refine r_iret rfl ?_
  exact ⟨rfl, rfl⟩
theorem a_sz0_0_4 {g L dp : Int} (hA : aB m f g) (hF : aF f g) (hL : m 245 1 = L) (hLb : 0 ≤ L ∧ L + 1 ≤ 16) (hd : 0 ≤ dp ∧ dp ≤ 16) : az_CI sc 198 [.inr (.inr 246), .inr (.inr 23), .inl g, .inl 0, .inl dp] m (f (24 + g)) (cNtl m L [10]) := by
  have hFF := hF
  unfold aF at hFF
  refine r_iload rfl ?_
  refine r_bipush ?_
  refine r_icmp_le kX0_sizeAs4_9 (fun c1 => ?_) (fun c1 => absurd c1 (by omega))
  refine r_iload_n rfl ?_
  refine r_tswO (by decide) kX0_sizeAs4_155 ?_
  refine r_aload_n rfl ?_
  refine r_bipush ?_
  refine r_cV2V g_245 rfl (Nat.le_of_ble_eq_true rfl) (Nat.le_of_ble_eq_true rfl) (c_X0_note hL (by omega)) ?_
  refine r_aload_n rfl ?_
  refine r_getR g_22 rfl ?_
  refine r_iload_n rfl ?_
  refine r_ialdx g_27 rfl (by omega) (by omega) (by omega) ((aB_1 hA _ _).2.1) ?_
  refine r_iret rfl ?_
  exact ⟨rfl, rfl⟩
theorem a_mk0_0_2 {g L dp : Int} (hA : aB m f g) (hF : aF f g) (hL : m 245 1 = L) (hLb : 0 ≤ L ∧ L + 1 ≤ 16) (hd : 0 ≤ dp ∧ dp ≤ 18) : az_CI sc 193 [.inr (.inr 246), .inr (.inr 23), .inl g, .inl 0, .inl dp] m (g) (cNtl m L [20]) := by
  have hFF := hF
  unfold aF at hFF
  refine r_iload rfl ?_
  refine r_bipush ?_
  refine r_icmp_le kX0_markAs2_9 (fun c1 => ?_) (fun c1 => absurd c1 (by omega))
  refine r_iload_n rfl ?_
  refine r_tswO (by decide) kX0_markAs2_162 ?_
  refine r_aload_n rfl ?_
  refine r_bipush ?_
  refine r_cV2V g_245 rfl (Nat.le_of_ble_eq_true rfl) (Nat.le_of_ble_eq_true rfl) (c_X0_note hL (by omega)) ?_
  refine r_iload_n rfl ?_
  refine r_iret rfl ?_
  exact ⟨rfl, rfl⟩
theorem a_mk1_0_3 {g L dp : Int} (hA : aB m f g) (hF : aF f g) (hL : m 245 1 = L) (hLb : 0 ≤ L ∧ L + 2 ≤ 16) (hd : 0 ≤ dp ∧ dp ≤ 17) : az_CI sc 195 [.inr (.inr 246), .inr (.inr 23), .inl g, .inl 1, .inl dp] m (g + f (28 + g)) (cNtl m L [21, 20]) := by
  have hFF := hF
  unfold aF at hFF
  refine r_iload rfl ?_
  refine r_bipush ?_
  refine r_icmp_le kX0_markAs3_9 (fun c1 => ?_) (fun c1 => absurd c1 (by omega))
  refine r_iload_n rfl ?_
  refine r_tswI (by decide) rfl kX0_markAs3_44 ?_
  refine r_aload_n rfl ?_
  refine r_bipush ?_
  refine r_cV2V g_245 rfl (Nat.le_of_ble_eq_true rfl) (Nat.le_of_ble_eq_true rfl) (c_X0_note hL (by omega)) ?_
  refine r_aload_n rfl ?_
  refine r_aload_n rfl ?_
  refine r_iload_n rfl ?_
  refine r_iconst ?_
  refine r_iload rfl ?_
  refine r_iconst ?_
  first | refine r_iadd (az_wid (by omega) (by omega)) ?_ | refine r_iaddw ?_
  refine r_cV5I g_245 rfl (Nat.le_of_ble_eq_true rfl) (Nat.le_of_ble_eq_true rfl) (a_mk0_0_2 (aB_1 hA _ _) hF (cNt_1 _ _ _) (by omega) (by omega)) ?_
  refine r_aload_n rfl ?_
  refine r_getR g_22 rfl ?_
  refine r_iload_n rfl ?_
  refine r_ialdx g_28 rfl (by omega) (by omega) (by omega) ((aB_n (aB_1 hA _ _) _ _).2.2) ?_
  first | refine r_iadd (az_wid (by omega) (by omega)) ?_ | refine r_iaddw ?_
  refine r_iret rfl ?_
  exact ⟨rfl, rfl⟩
theorem a_mk2_0_4 {g L dp : Int} (hA : aB m f g) (hF : aF f g) (hL : m 245 1 = L) (hLb : 0 ≤ L ∧ L + 3 ≤ 16) (hd : 0 ≤ dp ∧ dp ≤ 16) : az_CI sc 197 [.inr (.inr 246), .inr (.inr 23), .inl g, .inl 2, .inl dp] m (2 * (g + f (28 + g))) (cNtl m L [24, 21, 20]) := by
  have hFF := hF
  unfold aF at hFF
  refine r_iload rfl ?_
  refine r_bipush ?_
  refine r_icmp_le kX0_markAs4_9 (fun c1 => ?_) (fun c1 => absurd c1 (by omega))
  refine r_iload_n rfl ?_
  refine r_tswI (by decide) rfl kX0_markAs4_69 ?_
  refine r_aload_n rfl ?_
  refine r_bipush ?_
  refine r_cV2V g_245 rfl (Nat.le_of_ble_eq_true rfl) (Nat.le_of_ble_eq_true rfl) (c_X0_note hL (by omega)) ?_
  refine r_iconst ?_
  refine r_aload_n rfl ?_
  refine r_aload_n rfl ?_
  refine r_iload_n rfl ?_
  refine r_iconst ?_
  refine r_iload rfl ?_
  refine r_iconst ?_
  first | refine r_iadd (az_wid (by omega) (by omega)) ?_ | refine r_iaddw ?_
  refine r_cV5I g_245 rfl (Nat.le_of_ble_eq_true rfl) (Nat.le_of_ble_eq_true rfl) (a_mk1_0_3 (aB_1 hA _ _) hF (cNt_1 _ _ _) (by omega) (by omega)) ?_
  first | refine r_imul (az_wid (by omega) (by omega)) ?_ | refine r_imulw ?_
  refine r_iret rfl ?_
  exact ⟨rfl, rfl⟩
theorem a_sz1_2_5 {g L dp : Int} (hA : aB m f g) (hF : aF f g) (hk : f (12 + g) = 2) (hL : m 245 1 = L) (hLb : 0 ≤ L ∧ L + 5 ≤ 16) (hd : 0 ≤ dp ∧ dp ≤ 15) : az_CI sc 200 [.inr (.inr 246), .inr (.inr 23), .inl g, .inl 1, .inl dp] m (f (24 + g) + (2 * (g + f (28 + g)))) (cNtl m L [11, 10, 24, 21, 20]) := by
  have hFF := hF
  unfold aF at hFF
  refine r_iload rfl ?_
  refine r_bipush ?_
  refine r_icmp_le kX0_sizeAs5_9 (fun c1 => ?_) (fun c1 => absurd c1 (by omega))
  refine r_iload_n rfl ?_
  refine r_tswI (by decide) rfl kX0_sizeAs5_44 ?_
  refine r_aload_n rfl ?_
  refine r_bipush ?_
  refine r_cV2V g_245 rfl (Nat.le_of_ble_eq_true rfl) (Nat.le_of_ble_eq_true rfl) (c_X0_note hL (by omega)) ?_
  refine r_aload_n rfl ?_
  refine r_aload_n rfl ?_
  refine r_iload_n rfl ?_
  refine r_iconst ?_
  refine r_iload rfl ?_
  refine r_iconst ?_
  first | refine r_iadd (az_wid (by omega) (by omega)) ?_ | refine r_iaddw ?_
  refine r_cV5I g_245 rfl (Nat.le_of_ble_eq_true rfl) (Nat.le_of_ble_eq_true rfl) (a_sz0_0_4 (aB_1 hA _ _) hF (cNt_1 _ _ _) (by omega) (by omega)) ?_
  refine r_istore (Nat.le_of_ble_eq_true rfl) rfl ?_
  refine r_iload rfl ?_
  refine r_aload_n rfl ?_
  refine r_aload_n rfl ?_
  refine r_iload_n rfl ?_
  refine r_aload_n rfl ?_
  refine r_getR g_22 rfl ?_
  refine r_iload_n rfl ?_
  refine r_ialdx g_24 rfl (by omega) (by omega) (by omega) ((aB_n (aB_1 hA _ _) _ _).1.trans hk) ?_
  refine r_iload rfl ?_
  refine r_iconst ?_
  first | refine r_iadd (az_wid (by omega) (by omega)) ?_ | refine r_iaddw ?_
  refine r_cV5I g_245 rfl (Nat.le_of_ble_eq_true rfl) (Nat.le_of_ble_eq_true rfl) (a_mk2_0_4 (aB_n (aB_1 hA _ _) _ _) hF (cNt_1 (cNt m L 11) (L + 1) 10) (by omega) (by omega)) ?_
  first | refine r_iadd (az_wid (by omega) (by omega)) ?_ | refine r_iaddw ?_
  refine r_iret rfl ?_
  exact ⟨rfl, rfl⟩
theorem a_sz2_2_6 {g L dp : Int} (hA : aB m f g) (hF : aF f g) (hk : f (12 + g) = 2) (hL : m 245 1 = L) (hLb : 0 ≤ L ∧ L + 6 ≤ 16) (hd : 0 ≤ dp ∧ dp ≤ 14) : az_CI sc 202 [.inr (.inr 246), .inr (.inr 23), .inl g, .inl 2, .inl dp] m (-(f (24 + g) + (2 * (g + f (28 + g))))) (cNtl m L [12, 11, 10, 24, 21, 20]) := by
  have hFF := hF
  unfold aF at hFF
  refine r_iload rfl ?_
  refine r_bipush ?_
  refine r_icmp_le kX0_sizeAs6_9 (fun c1 => ?_) (fun c1 => absurd c1 (by omega))
  refine r_iload_n rfl ?_
  refine r_tswI (by decide) rfl kX0_sizeAs6_83 ?_
  refine r_aload_n rfl ?_
  refine r_bipush ?_
  refine r_cV2V g_245 rfl (Nat.le_of_ble_eq_true rfl) (Nat.le_of_ble_eq_true rfl) (c_X0_note hL (by omega)) ?_
  refine r_aload_n rfl ?_
  refine r_aload_n rfl ?_
  refine r_iload_n rfl ?_
  refine r_iconst ?_
  refine r_iload rfl ?_
  refine r_iconst ?_
  first | refine r_iadd (az_wid (by omega) (by omega)) ?_ | refine r_iaddw ?_
  refine r_cV5I g_245 rfl (Nat.le_of_ble_eq_true rfl) (Nat.le_of_ble_eq_true rfl) (a_sz1_2_5 (aB_1 hA _ _) hF hk (cNt_1 _ _ _) (by omega) (by omega)) ?_
  first | refine r_ineg (az_wid (by omega) (by omega)) ?_ | refine r_ineg rfl ?_
  refine r_iret rfl ?_
  exact ⟨rfl, rfl⟩
theorem a_mk2_0_6 {g L dp : Int} (hA : aB m f g) (hF : aF f g) (hL : m 245 1 = L) (hLb : 0 ≤ L ∧ L + 3 ≤ 16) (hd : 0 ≤ dp ∧ dp ≤ 14) : az_CI sc 201 [.inr (.inr 246), .inr (.inr 23), .inl g, .inl 2, .inl dp] m (2 * (g + f (28 + g))) (cNtl m L [24, 21, 20]) := by
  have hFF := hF
  unfold aF at hFF
  refine r_iload rfl ?_
  refine r_bipush ?_
  refine r_icmp_le kX0_markAs6_9 (fun c1 => ?_) (fun c1 => absurd c1 (by omega))
  refine r_iload_n rfl ?_
  refine r_tswI (by decide) rfl kX0_markAs6_69 ?_
  refine r_aload_n rfl ?_
  refine r_bipush ?_
  refine r_cV2V g_245 rfl (Nat.le_of_ble_eq_true rfl) (Nat.le_of_ble_eq_true rfl) (c_X0_note hL (by omega)) ?_
  refine r_iconst ?_
  refine r_aload_n rfl ?_
  refine r_aload_n rfl ?_
  refine r_iload_n rfl ?_
  refine r_iconst ?_
  refine r_iload rfl ?_
  refine r_iconst ?_
  first | refine r_iadd (az_wid (by omega) (by omega)) ?_ | refine r_iaddw ?_
  refine r_cV5I g_245 rfl (Nat.le_of_ble_eq_true rfl) (Nat.le_of_ble_eq_true rfl) (a_mk1_0_5 (aB_1 hA _ _) hF (cNt_1 _ _ _) (by omega) (by omega)) ?_
  first | refine r_imul (az_wid (by omega) (by omega)) ?_ | refine r_imulw ?_
  refine r_iret rfl ?_
  exact ⟨rfl, rfl⟩
theorem a_mk3_0_4 {g L dp : Int} (hA : aB m f g) (hF : aF f g) (hL : m 245 1 = L) (hLb : 0 ≤ L ∧ L + 3 ≤ 16) (hd : 0 ≤ dp ∧ dp ≤ 16) : az_CI sc 197 [.inr (.inr 246), .inr (.inr 23), .inl g, .inl 3, .inl dp] m (g + f (28 + g) - 1000) (cNtl m L [22, 21, 20]) := by
  have hFF := hF
  unfold aF at hFF
  refine r_iload rfl ?_
  refine r_bipush ?_
  refine r_icmp_le kX0_markAs4_9 (fun c1 => ?_) (fun c1 => absurd c1 (by omega))
  refine r_iload_n rfl ?_
  refine r_tswI (by decide) rfl kX0_markAs4_89 ?_
  refine r_aload_n rfl ?_
  refine r_bipush ?_
  refine r_cV2V g_245 rfl (Nat.le_of_ble_eq_true rfl) (Nat.le_of_ble_eq_true rfl) (c_X0_note hL (by omega)) ?_
  refine r_aload_n rfl ?_
  refine r_aload_n rfl ?_
  refine r_iload_n rfl ?_
  refine r_iconst ?_
  refine r_iload rfl ?_
  refine r_iconst ?_
  first | refine r_iadd (az_wid (by omega) (by omega)) ?_ | refine r_iaddw ?_
  refine r_cV5I g_245 rfl (Nat.le_of_ble_eq_true rfl) (Nat.le_of_ble_eq_true rfl) (a_mk1_0_3 (aB_1 hA _ _) hF (cNt_1 _ _ _) (by omega) (by omega)) ?_
  refine r_sipush ?_
  first | refine r_isub (az_wid (by omega) (by omega)) ?_ | refine r_isubw ?_
  refine r_iret rfl ?_
  exact ⟨rfl, rfl⟩
theorem a_sz1_3_5 {g L dp : Int} (hA : aB m f g) (hF : aF f g) (hk : f (12 + g) = 3) (hL : m 245 1 = L) (hLb : 0 ≤ L ∧ L + 5 ≤ 16) (hd : 0 ≤ dp ∧ dp ≤ 15) : az_CI sc 200 [.inr (.inr 246), .inr (.inr 23), .inl g, .inl 1, .inl dp] m (f (24 + g) + (g + f (28 + g) - 1000)) (cNtl m L [11, 10, 22, 21, 20]) := by
  have hFF := hF
  unfold aF at hFF
  refine r_iload rfl ?_
  refine r_bipush ?_
  refine r_icmp_le kX0_sizeAs5_9 (fun c1 => ?_) (fun c1 => absurd c1 (by omega))
  refine r_iload_n rfl ?_
  refine r_tswI (by decide) rfl kX0_sizeAs5_44 ?_
  refine r_aload_n rfl ?_
  refine r_bipush ?_
  refine r_cV2V g_245 rfl (Nat.le_of_ble_eq_true rfl) (Nat.le_of_ble_eq_true rfl) (c_X0_note hL (by omega)) ?_
  refine r_aload_n rfl ?_
  refine r_aload_n rfl ?_
  refine r_iload_n rfl ?_
  refine r_iconst ?_
  refine r_iload rfl ?_
  refine r_iconst ?_
  first | refine r_iadd (az_wid (by omega) (by omega)) ?_ | refine r_iaddw ?_
  refine r_cV5I g_245 rfl (Nat.le_of_ble_eq_true rfl) (Nat.le_of_ble_eq_true rfl) (a_sz0_0_4 (aB_1 hA _ _) hF (cNt_1 _ _ _) (by omega) (by omega)) ?_
  refine r_istore (Nat.le_of_ble_eq_true rfl) rfl ?_
  refine r_iload rfl ?_
  refine r_aload_n rfl ?_
  refine r_aload_n rfl ?_
  refine r_iload_n rfl ?_
  refine r_aload_n rfl ?_
  refine r_getR g_22 rfl ?_
  refine r_iload_n rfl ?_
  refine r_ialdx g_24 rfl (by omega) (by omega) (by omega) ((aB_n (aB_1 hA _ _) _ _).1.trans hk) ?_
  refine r_iload rfl ?_
  refine r_iconst ?_
  first | refine r_iadd (az_wid (by omega) (by omega)) ?_ | refine r_iaddw ?_
  refine r_cV5I g_245 rfl (Nat.le_of_ble_eq_true rfl) (Nat.le_of_ble_eq_true rfl) (a_mk3_0_4 (aB_n (aB_1 hA _ _) _ _) hF (cNt_1 (cNt m L 11) (L + 1) 10) (by omega) (by omega)) ?_
  first | refine r_iadd (az_wid (by omega) (by omega)) ?_ | refine r_iaddw ?_
  refine r_iret rfl ?_
  exact ⟨rfl, rfl⟩
theorem a_sz3_3_6 {g L dp : Int} (hA : aB m f g) (hF : aF f g) (hk : f (12 + g) = 3) (hL : m 245 1 = L) (hLb : 0 ≤ L ∧ L + 5 ≤ 16) (hd : 0 ≤ dp ∧ dp ≤ 14) : az_CI sc 202 [.inr (.inr 246), .inr (.inr 23), .inl g, .inl 3, .inl dp] m (f (24 + g) + (g + f (28 + g) - 1000)) (cNtl m L [11, 10, 22, 21, 20]) := by
  have hFF := hF
  unfold aF at hFF
  refine r_iload rfl ?_
  refine r_bipush ?_
  refine r_icmp_le kX0_sizeAs6_9 (fun c1 => ?_) (fun c1 => absurd c1 (by omega))
  refine r_iload_n rfl ?_
  refine r_tswI (by decide) rfl kX0_sizeAs6_143 ?_
  refine r_aload_n rfl ?_
  refine r_aload_n rfl ?_
  refine r_iload_n rfl ?_
  refine r_iconst ?_
  refine r_iload rfl ?_
  refine r_iconst ?_
  first | refine r_iadd (az_wid (by omega) (by omega)) ?_ | refine r_iaddw ?_
  refine r_cV5I g_245 rfl (Nat.le_of_ble_eq_true rfl) (Nat.le_of_ble_eq_true rfl) (a_sz1_3_5 hA hF hk hL (by omega) (by omega)) ?_
  refine r_iret rfl ?_
  exact ⟨rfl, rfl⟩
theorem a_mk3_0_6 {g L dp : Int} (hA : aB m f g) (hF : aF f g) (hL : m 245 1 = L) (hLb : 0 ≤ L ∧ L + 3 ≤ 16) (hd : 0 ≤ dp ∧ dp ≤ 14) : az_CI sc 201 [.inr (.inr 246), .inr (.inr 23), .inl g, .inl 3, .inl dp] m (g + f (28 + g) - 1000) (cNtl m L [22, 21, 20]) := by
  have hFF := hF
  unfold aF at hFF
  refine r_iload rfl ?_
  refine r_bipush ?_
  refine r_icmp_le kX0_markAs6_9 (fun c1 => ?_) (fun c1 => absurd c1 (by omega))
  refine r_iload_n rfl ?_
  refine r_tswI (by decide) rfl kX0_markAs6_89 ?_
  refine r_aload_n rfl ?_
  refine r_bipush ?_
  refine r_cV2V g_245 rfl (Nat.le_of_ble_eq_true rfl) (Nat.le_of_ble_eq_true rfl) (c_X0_note hL (by omega)) ?_
  refine r_aload_n rfl ?_
  refine r_aload_n rfl ?_
  refine r_iload_n rfl ?_
  refine r_iconst ?_
  refine r_iload rfl ?_
  refine r_iconst ?_
  first | refine r_iadd (az_wid (by omega) (by omega)) ?_ | refine r_iaddw ?_
  refine r_cV5I g_245 rfl (Nat.le_of_ble_eq_true rfl) (Nat.le_of_ble_eq_true rfl) (a_mk1_0_5 (aB_1 hA _ _) hF (cNt_1 _ _ _) (by omega) (by omega)) ?_
  refine r_sipush ?_
  first | refine r_isub (az_wid (by omega) (by omega)) ?_ | refine r_isubw ?_
  refine r_iret rfl ?_
  exact ⟨rfl, rfl⟩
theorem a_sz4_0_6 {g L dp : Int} (hA : aB m f g) (hF : aF f g) (hL : m 245 1 = L) (hLb : 0 ≤ L ∧ L + 2 ≤ 16) (hd : 0 ≤ dp ∧ dp ≤ 14) : az_CI sc 202 [.inr (.inr 246), .inr (.inr 23), .inl g, .inl 4, .inl dp] m (f (24 + g) - 100) (cNtl m L [13, 10]) := by
  have hFF := hF
  unfold aF at hFF
  refine r_iload rfl ?_
  refine r_bipush ?_
  refine r_icmp_le kX0_sizeAs6_9 (fun c1 => ?_) (fun c1 => absurd c1 (by omega))
  refine r_iload_n rfl ?_
  refine r_tswI (by decide) rfl kX0_sizeAs6_102 ?_
  refine r_aload_n rfl ?_
  refine r_bipush ?_
  refine r_cV2V g_245 rfl (Nat.le_of_ble_eq_true rfl) (Nat.le_of_ble_eq_true rfl) (c_X0_note hL (by omega)) ?_
  refine r_aload_n rfl ?_
  refine r_aload_n rfl ?_
  refine r_iload_n rfl ?_
  refine r_iconst ?_
  refine r_iload rfl ?_
  refine r_iconst ?_
  first | refine r_iadd (az_wid (by omega) (by omega)) ?_ | refine r_iaddw ?_
  refine r_cV5I g_245 rfl (Nat.le_of_ble_eq_true rfl) (Nat.le_of_ble_eq_true rfl) (a_sz0_0_5 (aB_1 hA _ _) hF (cNt_1 _ _ _) (by omega) (by omega)) ?_
  refine r_bipush ?_
  first | refine r_isub (az_wid (by omega) (by omega)) ?_ | refine r_isubw ?_
  refine r_iret rfl ?_
  exact ⟨rfl, rfl⟩
theorem a_sz4_0_5 {g L dp : Int} (hA : aB m f g) (hF : aF f g) (hL : m 245 1 = L) (hLb : 0 ≤ L ∧ L + 2 ≤ 16) (hd : 0 ≤ dp ∧ dp ≤ 15) : az_CI sc 200 [.inr (.inr 246), .inr (.inr 23), .inl g, .inl 4, .inl dp] m (f (24 + g) - 100) (cNtl m L [13, 10]) := by
  have hFF := hF
  unfold aF at hFF
  refine r_iload rfl ?_
  refine r_bipush ?_
  refine r_icmp_le kX0_sizeAs5_9 (fun c1 => ?_) (fun c1 => absurd c1 (by omega))
  refine r_iload_n rfl ?_
  refine r_tswI (by decide) rfl kX0_sizeAs5_102 ?_
  refine r_aload_n rfl ?_
  refine r_bipush ?_
  refine r_cV2V g_245 rfl (Nat.le_of_ble_eq_true rfl) (Nat.le_of_ble_eq_true rfl) (c_X0_note hL (by omega)) ?_
  refine r_aload_n rfl ?_
  refine r_aload_n rfl ?_
  refine r_iload_n rfl ?_
  refine r_iconst ?_
  refine r_iload rfl ?_
  refine r_iconst ?_
  first | refine r_iadd (az_wid (by omega) (by omega)) ?_ | refine r_iaddw ?_
  refine r_cV5I g_245 rfl (Nat.le_of_ble_eq_true rfl) (Nat.le_of_ble_eq_true rfl) (a_sz0_0_4 (aB_1 hA _ _) hF (cNt_1 _ _ _) (by omega) (by omega)) ?_
  refine r_bipush ?_
  first | refine r_isub (az_wid (by omega) (by omega)) ?_ | refine r_isubw ?_
  refine r_iret rfl ?_
  exact ⟨rfl, rfl⟩
theorem a_mk4_4_6 {g L dp : Int} (hA : aB m f g) (hF : aF f g) (hk : f (12 + g) = 4) (hL : m 245 1 = L) (hLb : 0 ≤ L ∧ L + 4 ≤ 16) (hd : 0 ≤ dp ∧ dp ≤ 14) : az_CI sc 201 [.inr (.inr 246), .inr (.inr 23), .inl g, .inl 4, .inl dp] m (g - (f (24 + g) - 100)) (cNtl m L [23, 20, 13, 10]) := by
  have hFF := hF
  unfold aF at hFF
  refine r_iload rfl ?_
  refine r_bipush ?_
  refine r_icmp_le kX0_markAs6_9 (fun c1 => ?_) (fun c1 => absurd c1 (by omega))
  refine r_iload_n rfl ?_
  refine r_tswI (by decide) rfl kX0_markAs6_111 ?_
  refine r_aload_n rfl ?_
  refine r_bipush ?_
  refine r_cV2V g_245 rfl (Nat.le_of_ble_eq_true rfl) (Nat.le_of_ble_eq_true rfl) (c_X0_note hL (by omega)) ?_
  refine r_aload_n rfl ?_
  refine r_aload_n rfl ?_
  refine r_iload_n rfl ?_
  refine r_iconst ?_
  refine r_iload rfl ?_
  refine r_iconst ?_
  first | refine r_iadd (az_wid (by omega) (by omega)) ?_ | refine r_iaddw ?_
  refine r_cV5I g_245 rfl (Nat.le_of_ble_eq_true rfl) (Nat.le_of_ble_eq_true rfl) (a_mk0_0_5 (aB_1 hA _ _) hF (cNt_1 _ _ _) (by omega) (by omega)) ?_
  refine r_istore (Nat.le_of_ble_eq_true rfl) rfl ?_
  refine r_iload rfl ?_
  refine r_aload_n rfl ?_
  refine r_aload_n rfl ?_
  refine r_iload_n rfl ?_
  refine r_aload_n rfl ?_
  refine r_getR g_22 rfl ?_
  refine r_iload_n rfl ?_
  refine r_ialdx g_24 rfl (by omega) (by omega) (by omega) ((aB_n (aB_1 hA _ _) _ _).1.trans hk) ?_
  refine r_iload rfl ?_
  refine r_iconst ?_
  first | refine r_iadd (az_wid (by omega) (by omega)) ?_ | refine r_iaddw ?_
  refine r_cV5I g_245 rfl (Nat.le_of_ble_eq_true rfl) (Nat.le_of_ble_eq_true rfl) (a_sz4_0_5 (aB_n (aB_1 hA _ _) _ _) hF (cNt_1 (cNt m L 23) (L + 1) 20) (by omega) (by omega)) ?_
  first | refine r_isub (az_wid (by omega) (by omega)) ?_ | refine r_isubw ?_
  refine r_iret rfl ?_
  exact ⟨rfl, rfl⟩
theorem a_sz5_0_6 {g L dp : Int} (hA : aB m f g) (hF : aF f g) (hL : m 245 1 = L) (hLb : 0 ≤ L ∧ L + 3 ≤ 16) (hd : 0 ≤ dp ∧ dp ≤ 14) : az_CI sc 202 [.inr (.inr 246), .inr (.inr 23), .inl g, .inl 5, .inl dp] m (2 * (f (24 + g) - 100)) (cNtl m L [14, 13, 10]) := by
  have hFF := hF
  unfold aF at hFF
  refine r_iload rfl ?_
  refine r_bipush ?_
  refine r_icmp_le kX0_sizeAs6_9 (fun c1 => ?_) (fun c1 => absurd c1 (by omega))
  refine r_iload_n rfl ?_
  refine r_tswI (by decide) rfl kX0_sizeAs6_123 ?_
  refine r_aload_n rfl ?_
  refine r_bipush ?_
  refine r_cV2V g_245 rfl (Nat.le_of_ble_eq_true rfl) (Nat.le_of_ble_eq_true rfl) (c_X0_note hL (by omega)) ?_
  refine r_iconst ?_
  refine r_aload_n rfl ?_
  refine r_aload_n rfl ?_
  refine r_iload_n rfl ?_
  refine r_iconst ?_
  refine r_iload rfl ?_
  refine r_iconst ?_
  first | refine r_iadd (az_wid (by omega) (by omega)) ?_ | refine r_iaddw ?_
  refine r_cV5I g_245 rfl (Nat.le_of_ble_eq_true rfl) (Nat.le_of_ble_eq_true rfl) (a_sz4_0_5 (aB_1 hA _ _) hF (cNt_1 _ _ _) (by omega) (by omega)) ?_
  first | refine r_imul (az_wid (by omega) (by omega)) ?_ | refine r_imulw ?_
  refine r_iret rfl ?_
  exact ⟨rfl, rfl⟩
theorem a_sz0_0_2 {g L dp : Int} (hA : aB m f g) (hF : aF f g) (hL : m 245 1 = L) (hLb : 0 ≤ L ∧ L + 1 ≤ 16) (hd : 0 ≤ dp ∧ dp ≤ 18) : az_CI sc 194 [.inr (.inr 246), .inr (.inr 23), .inl g, .inl 0, .inl dp] m (f (24 + g)) (cNtl m L [10]) := by
  have hFF := hF
  unfold aF at hFF
  refine r_iload rfl ?_
  refine r_bipush ?_
  refine r_icmp_le kX0_sizeAs2_9 (fun c1 => ?_) (fun c1 => absurd c1 (by omega))
  refine r_iload_n rfl ?_
  refine r_tswO (by decide) kX0_sizeAs2_155 ?_
  refine r_aload_n rfl ?_
  refine r_bipush ?_
  refine r_cV2V g_245 rfl (Nat.le_of_ble_eq_true rfl) (Nat.le_of_ble_eq_true rfl) (c_X0_note hL (by omega)) ?_
  refine r_aload_n rfl ?_
  refine r_getR g_22 rfl ?_
  refine r_iload_n rfl ?_
  refine r_ialdx g_27 rfl (by omega) (by omega) (by omega) ((aB_1 hA _ _).2.1) ?_
  refine r_iret rfl ?_
  exact ⟨rfl, rfl⟩
theorem a_sz4_0_3 {g L dp : Int} (hA : aB m f g) (hF : aF f g) (hL : m 245 1 = L) (hLb : 0 ≤ L ∧ L + 2 ≤ 16) (hd : 0 ≤ dp ∧ dp ≤ 17) : az_CI sc 196 [.inr (.inr 246), .inr (.inr 23), .inl g, .inl 4, .inl dp] m (f (24 + g) - 100) (cNtl m L [13, 10]) := by
  have hFF := hF
  unfold aF at hFF
  refine r_iload rfl ?_
  refine r_bipush ?_
  refine r_icmp_le kX0_sizeAs3_9 (fun c1 => ?_) (fun c1 => absurd c1 (by omega))
  refine r_iload_n rfl ?_
  refine r_tswI (by decide) rfl kX0_sizeAs3_102 ?_
  refine r_aload_n rfl ?_
  refine r_bipush ?_
  refine r_cV2V g_245 rfl (Nat.le_of_ble_eq_true rfl) (Nat.le_of_ble_eq_true rfl) (c_X0_note hL (by omega)) ?_
  refine r_aload_n rfl ?_
  refine r_aload_n rfl ?_
  refine r_iload_n rfl ?_
  refine r_iconst ?_
  refine r_iload rfl ?_
  refine r_iconst ?_
  first | refine r_iadd (az_wid (by omega) (by omega)) ?_ | refine r_iaddw ?_
  refine r_cV5I g_245 rfl (Nat.le_of_ble_eq_true rfl) (Nat.le_of_ble_eq_true rfl) (a_sz0_0_2 (aB_1 hA _ _) hF (cNt_1 _ _ _) (by omega) (by omega)) ?_
  refine r_bipush ?_
  first | refine r_isub (az_wid (by omega) (by omega)) ?_ | refine r_isubw ?_
  refine r_iret rfl ?_
  exact ⟨rfl, rfl⟩
theorem a_sz5_0_4 {g L dp : Int} (hA : aB m f g) (hF : aF f g) (hL : m 245 1 = L) (hLb : 0 ≤ L ∧ L + 3 ≤ 16) (hd : 0 ≤ dp ∧ dp ≤ 16) : az_CI sc 198 [.inr (.inr 246), .inr (.inr 23), .inl g, .inl 5, .inl dp] m (2 * (f (24 + g) - 100)) (cNtl m L [14, 13, 10]) := by
  have hFF := hF
  unfold aF at hFF
  refine r_iload rfl ?_
  refine r_bipush ?_
  refine r_icmp_le kX0_sizeAs4_9 (fun c1 => ?_) (fun c1 => absurd c1 (by omega))
  refine r_iload_n rfl ?_
  refine r_tswI (by decide) rfl kX0_sizeAs4_123 ?_
  refine r_aload_n rfl ?_
  refine r_bipush ?_
  refine r_cV2V g_245 rfl (Nat.le_of_ble_eq_true rfl) (Nat.le_of_ble_eq_true rfl) (c_X0_note hL (by omega)) ?_
  refine r_iconst ?_
  refine r_aload_n rfl ?_
  refine r_aload_n rfl ?_
  refine r_iload_n rfl ?_
  refine r_iconst ?_
  refine r_iload rfl ?_
  refine r_iconst ?_
  first | refine r_iadd (az_wid (by omega) (by omega)) ?_ | refine r_iaddw ?_
  refine r_cV5I g_245 rfl (Nat.le_of_ble_eq_true rfl) (Nat.le_of_ble_eq_true rfl) (a_sz4_0_3 (aB_1 hA _ _) hF (cNt_1 _ _ _) (by omega) (by omega)) ?_
  first | refine r_imul (az_wid (by omega) (by omega)) ?_ | refine r_imulw ?_
  refine r_iret rfl ?_
  exact ⟨rfl, rfl⟩
theorem a_mk4_5_5 {g L dp : Int} (hA : aB m f g) (hF : aF f g) (hk : f (12 + g) = 5) (hL : m 245 1 = L) (hLb : 0 ≤ L ∧ L + 5 ≤ 16) (hd : 0 ≤ dp ∧ dp ≤ 15) : az_CI sc 199 [.inr (.inr 246), .inr (.inr 23), .inl g, .inl 4, .inl dp] m (g - (2 * (f (24 + g) - 100))) (cNtl m L [23, 20, 14, 13, 10]) := by
  have hFF := hF
  unfold aF at hFF
  refine r_iload rfl ?_
  refine r_bipush ?_
  refine r_icmp_le kX0_markAs5_9 (fun c1 => ?_) (fun c1 => absurd c1 (by omega))
  refine r_iload_n rfl ?_
  refine r_tswI (by decide) rfl kX0_markAs5_111 ?_
  refine r_aload_n rfl ?_
  refine r_bipush ?_
  refine r_cV2V g_245 rfl (Nat.le_of_ble_eq_true rfl) (Nat.le_of_ble_eq_true rfl) (c_X0_note hL (by omega)) ?_
  refine r_aload_n rfl ?_
  refine r_aload_n rfl ?_
  refine r_iload_n rfl ?_
  refine r_iconst ?_
  refine r_iload rfl ?_
  refine r_iconst ?_
  first | refine r_iadd (az_wid (by omega) (by omega)) ?_ | refine r_iaddw ?_
  refine r_cV5I g_245 rfl (Nat.le_of_ble_eq_true rfl) (Nat.le_of_ble_eq_true rfl) (a_mk0_0_4 (aB_1 hA _ _) hF (cNt_1 _ _ _) (by omega) (by omega)) ?_
  refine r_istore (Nat.le_of_ble_eq_true rfl) rfl ?_
  refine r_iload rfl ?_
  refine r_aload_n rfl ?_
  refine r_aload_n rfl ?_
  refine r_iload_n rfl ?_
  refine r_aload_n rfl ?_
  refine r_getR g_22 rfl ?_
  refine r_iload_n rfl ?_
  refine r_ialdx g_24 rfl (by omega) (by omega) (by omega) ((aB_n (aB_1 hA _ _) _ _).1.trans hk) ?_
  refine r_iload rfl ?_
  refine r_iconst ?_
  first | refine r_iadd (az_wid (by omega) (by omega)) ?_ | refine r_iaddw ?_
  refine r_cV5I g_245 rfl (Nat.le_of_ble_eq_true rfl) (Nat.le_of_ble_eq_true rfl) (a_sz5_0_4 (aB_n (aB_1 hA _ _) _ _) hF (cNt_1 (cNt m L 23) (L + 1) 20) (by omega) (by omega)) ?_
  first | refine r_isub (az_wid (by omega) (by omega)) ?_ | refine r_isubw ?_
  refine r_iret rfl ?_
  exact ⟨rfl, rfl⟩
theorem a_mk5_5_6 {g L dp : Int} (hA : aB m f g) (hF : aF f g) (hk : f (12 + g) = 5) (hL : m 245 1 = L) (hLb : 0 ≤ L ∧ L + 5 ≤ 16) (hd : 0 ≤ dp ∧ dp ≤ 14) : az_CI sc 201 [.inr (.inr 246), .inr (.inr 23), .inl g, .inl 5, .inl dp] m (g - (2 * (f (24 + g) - 100))) (cNtl m L [23, 20, 14, 13, 10]) := by
  have hFF := hF
  unfold aF at hFF
  refine r_iload rfl ?_
  refine r_bipush ?_
  refine r_icmp_le kX0_markAs6_9 (fun c1 => ?_) (fun c1 => absurd c1 (by omega))
  refine r_iload_n rfl ?_
  refine r_tswI (by decide) rfl kX0_markAs6_150 ?_
  refine r_aload_n rfl ?_
  refine r_aload_n rfl ?_
  refine r_iload_n rfl ?_
  refine r_iconst ?_
  refine r_iload rfl ?_
  refine r_iconst ?_
  first | refine r_iadd (az_wid (by omega) (by omega)) ?_ | refine r_iaddw ?_
  refine r_cV5I g_245 rfl (Nat.le_of_ble_eq_true rfl) (Nat.le_of_ble_eq_true rfl) (a_mk4_5_5 hA hF hk hL (by omega) (by omega)) ?_
  refine r_iret rfl ?_
  exact ⟨rfl, rfl⟩
def cAsk (m : aM) (g w : Int) : aM := if (0 ≤ g ∧ g ≤ m 284 2 - 1) ∧ (0 ≤ w ∧ w ≤ 1) then cNtl (az_up m 245 1 0) 0 (pAskL (m 284 (12 + g)) w) else m
theorem c_X0_begin {g w : Int} (hA : aB m f g) (hF : aF f g) (hk : 1 ≤ f (12 + g) ∧ f (12 + g) ≤ 5) (hw : 0 ≤ w ∧ w ≤ 1) : az_CI sc 203 [.inr (.inr 246), .inr (.inr 23), .inl g, .inl w] m (pAskV f g w) (cNtl (az_up m 245 1 0) 0 (pAskL (f (12 + g)) w)) := by
  have hFF := hF
  unfold aF at hFF
  have hL : az_up m 245 1 0 245 1 = 0 := az_upx _ _ _ _
  have hA1 : aB (az_up m 245 1 0) f g := by
    unfold aB at *
    rw [az_up_b _ _ _ (by decide), az_up_b _ _ _ (by decide), az_up_b _ _ _ (by decide)]
    exact hA
  rcases (show w = 0 ∨ w = 1 by omega) with rfl | rfl
  · rcases (show f (12 + g) = 1 ∨ f (12 + g) = 2 ∨ f (12 + g) = 3 ∨ f (12 + g) = 4 ∨ f (12 + g) = 5 by omega) with hk | hk | hk | hk | hk
    · have e : pAskV f g 0 = f (24 + g) + (g + f (28 + g)) := by
        unfold pAskV pMkV pSzV
        rw [hk]
        simp
      rw [e, hk]
      refine r_aload_n rfl ?_
      refine r_iconst ?_
      refine r_putI g_245 (by decide) ?_
      refine r_aload_n rfl ?_
      refine r_getR g_22 rfl ?_
      refine r_iload_n rfl ?_
      refine r_ialdx g_24 rfl (by omega) (by omega) (by omega) (hA1.1.trans hk) ?_
      refine r_istore (Nat.le_of_ble_eq_true rfl) rfl ?_
      refine r_iload_n rfl ?_
      refine r_if_ne kX0_begin_29 (fun c1 => absurd c1 (by decide)) (fun c1 => ?_)
      refine r_aload_n rfl ?_
      refine r_aload_n rfl ?_
      refine r_iload_n rfl ?_
      refine r_iload rfl ?_
      refine r_iconst ?_
      refine r_cV5I g_245 rfl (Nat.le_of_ble_eq_true rfl) (Nat.le_of_ble_eq_true rfl) (a_sz1_1_6 hA1 hF hk hL (by decide) (by decide)) ?_
      refine r_goto kX0_begin_38 ?_
      refine r_iret rfl ?_
      exact ⟨rfl, rfl⟩
    · have e : pAskV f g 0 = -(f (24 + g) + (2 * (g + f (28 + g)))) := by
        unfold pAskV pMkV pSzV
        rw [hk]
        simp
      rw [e, hk]
      refine r_aload_n rfl ?_
      refine r_iconst ?_
      refine r_putI g_245 (by decide) ?_
      refine r_aload_n rfl ?_
      refine r_getR g_22 rfl ?_
      refine r_iload_n rfl ?_
      refine r_ialdx g_24 rfl (by omega) (by omega) (by omega) (hA1.1.trans hk) ?_
      refine r_istore (Nat.le_of_ble_eq_true rfl) rfl ?_
      refine r_iload_n rfl ?_
      refine r_if_ne kX0_begin_29 (fun c1 => absurd c1 (by decide)) (fun c1 => ?_)
      refine r_aload_n rfl ?_
      refine r_aload_n rfl ?_
      refine r_iload_n rfl ?_
      refine r_iload rfl ?_
      refine r_iconst ?_
      refine r_cV5I g_245 rfl (Nat.le_of_ble_eq_true rfl) (Nat.le_of_ble_eq_true rfl) (a_sz2_2_6 hA1 hF hk hL (by decide) (by decide)) ?_
      refine r_goto kX0_begin_38 ?_
      refine r_iret rfl ?_
      exact ⟨rfl, rfl⟩
    · have e : pAskV f g 0 = f (24 + g) + (g + f (28 + g) - 1000) := by
        unfold pAskV pMkV pSzV
        rw [hk]
        simp
      rw [e, hk]
      refine r_aload_n rfl ?_
      refine r_iconst ?_
      refine r_putI g_245 (by decide) ?_
      refine r_aload_n rfl ?_
      refine r_getR g_22 rfl ?_
      refine r_iload_n rfl ?_
      refine r_ialdx g_24 rfl (by omega) (by omega) (by omega) (hA1.1.trans hk) ?_
      refine r_istore (Nat.le_of_ble_eq_true rfl) rfl ?_
      refine r_iload_n rfl ?_
      refine r_if_ne kX0_begin_29 (fun c1 => absurd c1 (by decide)) (fun c1 => ?_)
      refine r_aload_n rfl ?_
      refine r_aload_n rfl ?_
      refine r_iload_n rfl ?_
      refine r_iload rfl ?_
      refine r_iconst ?_
      refine r_cV5I g_245 rfl (Nat.le_of_ble_eq_true rfl) (Nat.le_of_ble_eq_true rfl) (a_sz3_3_6 hA1 hF hk hL (by decide) (by decide)) ?_
      refine r_goto kX0_begin_38 ?_
      refine r_iret rfl ?_
      exact ⟨rfl, rfl⟩
    · have e : pAskV f g 0 = f (24 + g) - 100 := by
        unfold pAskV pMkV pSzV
        rw [hk]
        simp
      rw [e, hk]
      refine r_aload_n rfl ?_
      refine r_iconst ?_
      refine r_putI g_245 (by decide) ?_
      refine r_aload_n rfl ?_
      refine r_getR g_22 rfl ?_
      refine r_iload_n rfl ?_
      refine r_ialdx g_24 rfl (by omega) (by omega) (by omega) (hA1.1.trans hk) ?_
      refine r_istore (Nat.le_of_ble_eq_true rfl) rfl ?_
      refine r_iload_n rfl ?_
      refine r_if_ne kX0_begin_29 (fun c1 => absurd c1 (by decide)) (fun c1 => ?_)
      refine r_aload_n rfl ?_
      refine r_aload_n rfl ?_
      refine r_iload_n rfl ?_
      refine r_iload rfl ?_
      refine r_iconst ?_
      refine r_cV5I g_245 rfl (Nat.le_of_ble_eq_true rfl) (Nat.le_of_ble_eq_true rfl) (a_sz4_0_6 hA1 hF hL (by decide) (by decide)) ?_
      refine r_goto kX0_begin_38 ?_
      refine r_iret rfl ?_
      exact ⟨rfl, rfl⟩
    · have e : pAskV f g 0 = 2 * (f (24 + g) - 100) := by
        unfold pAskV pMkV pSzV
        rw [hk]
        simp
      rw [e, hk]
      refine r_aload_n rfl ?_
      refine r_iconst ?_
      refine r_putI g_245 (by decide) ?_
      refine r_aload_n rfl ?_
      refine r_getR g_22 rfl ?_
      refine r_iload_n rfl ?_
      refine r_ialdx g_24 rfl (by omega) (by omega) (by omega) (hA1.1.trans hk) ?_
      refine r_istore (Nat.le_of_ble_eq_true rfl) rfl ?_
      refine r_iload_n rfl ?_
      refine r_if_ne kX0_begin_29 (fun c1 => absurd c1 (by decide)) (fun c1 => ?_)
      refine r_aload_n rfl ?_
      refine r_aload_n rfl ?_
      refine r_iload_n rfl ?_
      refine r_iload rfl ?_
      refine r_iconst ?_
      refine r_cV5I g_245 rfl (Nat.le_of_ble_eq_true rfl) (Nat.le_of_ble_eq_true rfl) (a_sz5_0_6 hA1 hF hL (by decide) (by decide)) ?_
      refine r_goto kX0_begin_38 ?_
      refine r_iret rfl ?_
      exact ⟨rfl, rfl⟩
  · rcases (show f (12 + g) = 1 ∨ f (12 + g) = 2 ∨ f (12 + g) = 3 ∨ f (12 + g) = 4 ∨ f (12 + g) = 5 by omega) with hk | hk | hk | hk | hk
    · have e : pAskV f g 1 = g + f (28 + g) := by
        unfold pAskV pMkV pSzV
        rw [hk]
        simp
      rw [e, hk]
      refine r_aload_n rfl ?_
      refine r_iconst ?_
      refine r_putI g_245 (by decide) ?_
      refine r_aload_n rfl ?_
      refine r_getR g_22 rfl ?_
      refine r_iload_n rfl ?_
      refine r_ialdx g_24 rfl (by omega) (by omega) (by omega) (hA1.1.trans hk) ?_
      refine r_istore (Nat.le_of_ble_eq_true rfl) rfl ?_
      refine r_iload_n rfl ?_
      refine r_if_ne kX0_begin_29 (fun c1 => ?_) (fun c1 => absurd c1 (by decide))
      refine r_aload_n rfl ?_
      refine r_aload_n rfl ?_
      refine r_iload_n rfl ?_
      refine r_iload rfl ?_
      refine r_iconst ?_
      refine r_cV5I g_245 rfl (Nat.le_of_ble_eq_true rfl) (Nat.le_of_ble_eq_true rfl) (a_mk1_0_6 hA1 hF hL (by decide) (by decide)) ?_
      refine r_iret rfl ?_
      exact ⟨rfl, rfl⟩
    · have e : pAskV f g 1 = 2 * (g + f (28 + g)) := by
        unfold pAskV pMkV pSzV
        rw [hk]
        simp
      rw [e, hk]
      refine r_aload_n rfl ?_
      refine r_iconst ?_
      refine r_putI g_245 (by decide) ?_
      refine r_aload_n rfl ?_
      refine r_getR g_22 rfl ?_
      refine r_iload_n rfl ?_
      refine r_ialdx g_24 rfl (by omega) (by omega) (by omega) (hA1.1.trans hk) ?_
      refine r_istore (Nat.le_of_ble_eq_true rfl) rfl ?_
      refine r_iload_n rfl ?_
      refine r_if_ne kX0_begin_29 (fun c1 => ?_) (fun c1 => absurd c1 (by decide))
      refine r_aload_n rfl ?_
      refine r_aload_n rfl ?_
      refine r_iload_n rfl ?_
      refine r_iload rfl ?_
      refine r_iconst ?_
      refine r_cV5I g_245 rfl (Nat.le_of_ble_eq_true rfl) (Nat.le_of_ble_eq_true rfl) (a_mk2_0_6 hA1 hF hL (by decide) (by decide)) ?_
      refine r_iret rfl ?_
      exact ⟨rfl, rfl⟩
    · have e : pAskV f g 1 = g + f (28 + g) - 1000 := by
        unfold pAskV pMkV pSzV
        rw [hk]
        simp
      rw [e, hk]
      refine r_aload_n rfl ?_
      refine r_iconst ?_
      refine r_putI g_245 (by decide) ?_
      refine r_aload_n rfl ?_
      refine r_getR g_22 rfl ?_
      refine r_iload_n rfl ?_
      refine r_ialdx g_24 rfl (by omega) (by omega) (by omega) (hA1.1.trans hk) ?_
      refine r_istore (Nat.le_of_ble_eq_true rfl) rfl ?_
      refine r_iload_n rfl ?_
      refine r_if_ne kX0_begin_29 (fun c1 => ?_) (fun c1 => absurd c1 (by decide))
      refine r_aload_n rfl ?_
      refine r_aload_n rfl ?_
      refine r_iload_n rfl ?_
      refine r_iload rfl ?_
      refine r_iconst ?_
      refine r_cV5I g_245 rfl (Nat.le_of_ble_eq_true rfl) (Nat.le_of_ble_eq_true rfl) (a_mk3_0_6 hA1 hF hL (by decide) (by decide)) ?_
      refine r_iret rfl ?_
      exact ⟨rfl, rfl⟩
    · have e : pAskV f g 1 = g - (f (24 + g) - 100) := by
        unfold pAskV pMkV pSzV
        rw [hk]
        simp
      rw [e, hk]
      refine r_aload_n rfl ?_
      refine r_iconst ?_
      refine r_putI g_245 (by decide) ?_
      refine r_aload_n rfl ?_
      refine r_getR g_22 rfl ?_
      refine r_iload_n rfl ?_
      refine r_ialdx g_24 rfl (by omega) (by omega) (by omega) (hA1.1.trans hk) ?_
      refine r_istore (Nat.le_of_ble_eq_true rfl) rfl ?_
      refine r_iload_n rfl ?_
      refine r_if_ne kX0_begin_29 (fun c1 => ?_) (fun c1 => absurd c1 (by decide))
      refine r_aload_n rfl ?_
      refine r_aload_n rfl ?_
      refine r_iload_n rfl ?_
      refine r_iload rfl ?_
      refine r_iconst ?_
      refine r_cV5I g_245 rfl (Nat.le_of_ble_eq_true rfl) (Nat.le_of_ble_eq_true rfl) (a_mk4_4_6 hA1 hF hk hL (by decide) (by decide)) ?_
      refine r_iret rfl ?_
      exact ⟨rfl, rfl⟩
    · have e : pAskV f g 1 = g - (2 * (f (24 + g) - 100)) := by
        unfold pAskV pMkV pSzV
        rw [hk]
        simp
      rw [e, hk]
      refine r_aload_n rfl ?_
      refine r_iconst ?_
      refine r_putI g_245 (by decide) ?_
      refine r_aload_n rfl ?_
      refine r_getR g_22 rfl ?_
      refine r_iload_n rfl ?_
      refine r_ialdx g_24 rfl (by omega) (by omega) (by omega) (hA1.1.trans hk) ?_
      refine r_istore (Nat.le_of_ble_eq_true rfl) rfl ?_
      refine r_iload_n rfl ?_
      refine r_if_ne kX0_begin_29 (fun c1 => ?_) (fun c1 => absurd c1 (by decide))
      refine r_aload_n rfl ?_
      refine r_aload_n rfl ?_
      refine r_iload_n rfl ?_
      refine r_iload rfl ?_
      refine r_iconst ?_
      refine r_cV5I g_245 rfl (Nat.le_of_ble_eq_true rfl) (Nat.le_of_ble_eq_true rfl) (a_mk5_5_6 hA1 hF hk hL (by decide) (by decide)) ?_
      refine r_iret rfl ?_
      exact ⟨rfl, rfl⟩
theorem c_X7_ask {g w : Int} (hI : iB m) : az_CI sc 204 [.inr (.inr 20), .inl g, .inl w] m (pAsk m g w).1 (cAsk m g w) := by
  obtain ⟨hB, hN, hz, hz1, hz2⟩ := hI
  have hn := nOK_2 hN
  have h10 : m 22 10 = m 284 2 := hB.1.2.2.1
  unfold pAsk cAsk
  by_cases hg : (0 ≤ g ∧ g ≤ m 284 2 - 1) ∧ (0 ≤ w ∧ w ≤ 1)
  · rw [if_pos hg, if_pos hg]
    have hG := nOK_g hN g hg.1.1 (by omega)
    obtain ⟨e1, e2, e3, e4, e5, e6⟩ := hB.2.2 g hg.1.1 (by omega)
    refine r_aload_n rfl ?_
    refine r_getR g_19 rfl ?_
    refine r_iload_n rfl ?_
    refine r_cV2I g_22 rfl (Nat.le_of_ble_eq_true rfl) (Nat.le_of_ble_eq_true rfl) (c_X1_has h10) ?_
    refine r_if_eq kX7_ask_19 (fun c1 => absurd c1 (by omega)) (fun c1 => ?_)
    refine r_iload_n rfl ?_
    refine r_iconst ?_
    refine r_cS2I (by decide) (Nat.le_of_ble_eq_true rfl) (Nat.le_of_ble_eq_true rfl) (c_X7_isOneOf _ _) ?_
    refine r_if_ne kX7_ask_22 (fun c2 => ?_) (fun c2 => absurd c2 (by omega))
    refine r_aload_n rfl ?_
    refine r_getR g_19 rfl ?_
    refine r_aload_n rfl ?_
    refine r_getR g_19 rfl ?_
    refine r_iload_n rfl ?_
    refine r_iload_n rfl ?_
    refine r_cV4I g_245 rfl (Nat.le_of_ble_eq_true rfl) (Nat.le_of_ble_eq_true rfl) (c_X0_begin ⟨e1, e4, e5⟩ ⟨by omega, hG.2.2.2.1, hG.2.2.2.2.1⟩ hG.1 hg.2) ?_
    refine r_iret rfl ?_
    exact ⟨rfl, rfl⟩
  · rw [if_neg hg, if_neg hg]
    refine r_aload_n rfl ?_
    refine r_getR g_19 rfl ?_
    refine r_iload_n rfl ?_
    refine r_cV2I g_22 rfl (Nat.le_of_ble_eq_true rfl) (Nat.le_of_ble_eq_true rfl) (c_X1_has h10) ?_
    refine r_if_eq kX7_ask_19 (fun c1 => ?_) (fun c1 => ?_)
    · refine r_ldcI ?_
      refine r_iret rfl ?_
      exact ⟨rfl, rfl⟩
    · refine r_iload_n rfl ?_
      refine r_iconst ?_
      refine r_cS2I (by decide) (Nat.le_of_ble_eq_true rfl) (Nat.le_of_ble_eq_true rfl) (c_X7_isOneOf _ _) ?_
      refine r_if_ne kX7_ask_22 (fun c2 => absurd c2 (by omega)) (fun c2 => ?_)
      refine r_ldcI ?_
      refine r_iret rfl ?_
      exact ⟨rfl, rfl⟩
end CI
