/-! THE REFERENCE: set, copy, drop, feed; what is asked -/
section R2
variable {sc : aX} {m : aM} {Q : Option aV → aM → Prop}
def pNar (lane v : Int) : Int := if lane = 0 then az_i2b v else if lane = 1 then az_i2s v else v
def pSet (m : aM) (row i v : Int) : Int × aM := if 0 ≤ row ∧ row ≤ 7 then (if m 281 row < 0 then (-1000011, az_up m 279 3 1) else if 0 ≤ i ∧ i ≤ m 281 row - 1 then (pNar (m 280 row) v, az_up (az_up m 282 (40 * row + i) (pNar (m 280 row) v)) 279 3 0) else (-1000012, az_up m 279 3 2)) else (-1000001, m)
def pRowsOK (m : aM) : Prop := ∀ r, 0 ≤ r → r ≤ 7 → (-1 ≤ m 281 r ∧ m 281 r ≤ 40) ∧ (0 ≤ m 280 r ∧ m 280 r ≤ 2)
theorem c_X8_set (row i v : Int) (hR : pRowsOK m) : az_CI sc 24 [.inr (.inr 280), .inl row, .inl i, .inl v] m (pSet m row i v).1 (pSet m row i v).2 := by
  have hR2 : (0 ≤ row ∧ row ≤ 7) → (-1 ≤ m 281 row ∧ m 281 row ≤ 40) := fun h => (hR row h.1 h.2).1
  refine r_iload_n rfl ?_
  refine r_cS1I (by decide) (Nat.le_of_ble_eq_true rfl) (Nat.le_of_ble_eq_true rfl) (c_X8_isRow _) ?_
  refine r_if_ne kX8_set_10 (fun c1 => ?_) (fun c1 => ?_)
  · refine r_aload_n rfl ?_
    refine r_getR g_279 rfl ?_
    refine r_iload_n rfl ?_
    refine r_iald g_281 rfl (by omega) (by omega) (by omega) ?_
    refine r_if_ge kX8_set_25 (fun c2 => ?_) (fun c2 => ?_)
    · refine r_iload_n rfl ?_
      refine r_i2l ?_
      refine r_lconst0 ?_
      refine r_aload_n rfl ?_
      refine r_getR g_279 rfl ?_
      refine r_iload_n rfl ?_
      refine r_iald g_281 rfl (by omega) (by omega) (by omega) ?_
      refine r_iconst ?_
      first | refine r_isub (az_wid (by omega) (by omega)) ?_ | refine r_isubw ?_
      refine r_i2l ?_
      refine r_cS3I (by decide) (Nat.le_of_ble_eq_true rfl) (Nat.le_of_ble_eq_true rfl) (c_X8_in _ _ _) ?_
      refine r_if_ne kX8_set_49 (fun c3 => ?_) (fun c3 => ?_)
      · refine r_aload_n rfl ?_
        refine r_getR g_279 rfl ?_
        refine r_bipush ?_
        refine r_iload_n rfl ?_
        first | refine r_imul (az_wid (by omega) (by omega)) ?_ | refine r_imulw ?_
        refine r_iload_n rfl ?_
        first | refine r_iadd (az_wid (by omega) (by omega)) ?_ | refine r_iaddw ?_
        refine r_aload_n rfl ?_
        refine r_getR g_279 rfl ?_
        refine r_iload_n rfl ?_
        refine r_iald g_280 rfl (by omega) (by omega) (by omega) ?_
        refine r_if_ne kX8_set_73 (fun c4 => ?_) (fun c4 => ?_)
        · refine r_aload_n rfl ?_
          refine r_getR g_279 rfl ?_
          refine r_iload_n rfl ?_
          refine r_iald g_280 rfl (by omega) (by omega) (by omega) ?_
          refine r_iconst ?_
          refine r_icmp_ne kX8_set_88 (fun c5 => ?_) (fun c5 => ?_)
          · refine r_iload_n rfl ?_
            refine r_iast g_282 (by decide) (by omega) (by omega) ?_
            refine r_aload_n rfl ?_
            refine r_aload_n rfl ?_
            refine r_getR g_279 rfl ?_
            refine r_bipush ?_
            refine r_iload_n rfl ?_
            first | refine r_imul (az_wid (by omega) (by omega)) ?_ | refine r_imulw ?_
            refine r_iload_n rfl ?_
            first | refine r_iadd (az_wid (by omega) (by omega)) ?_ | refine r_iaddw ?_
            refine r_iald g_282 rfl (by omega) (by omega) (by omega) ?_
            refine r_cV2I g_279 rfl (Nat.le_of_ble_eq_true rfl) (Nat.le_of_ble_eq_true rfl) (c_X8_well _) ?_
            refine r_iret rfl ?_
            unfold pSet pNar; (repeat' split) <;> first | exact ⟨rfl, rfl⟩ | (exfalso; omega) | exact ⟨by rw [az_up_at], rfl⟩ | skip
          · refine r_iload_n rfl ?_
            refine r_i2s rfl ?_
            refine r_goto kX8_set_89 ?_
            refine r_iast g_282 (by decide) (by omega) (by omega) ?_
            refine r_aload_n rfl ?_
            refine r_aload_n rfl ?_
            refine r_getR g_279 rfl ?_
            refine r_bipush ?_
            refine r_iload_n rfl ?_
            first | refine r_imul (az_wid (by omega) (by omega)) ?_ | refine r_imulw ?_
            refine r_iload_n rfl ?_
            first | refine r_iadd (az_wid (by omega) (by omega)) ?_ | refine r_iaddw ?_
            refine r_iald g_282 rfl (by omega) (by omega) (by omega) ?_
            refine r_cV2I g_279 rfl (Nat.le_of_ble_eq_true rfl) (Nat.le_of_ble_eq_true rfl) (c_X8_well _) ?_
            refine r_iret rfl ?_
            unfold pSet pNar; (repeat' split) <;> first | exact ⟨rfl, rfl⟩ | (exfalso; omega) | exact ⟨by rw [az_up_at], rfl⟩ | skip
        · refine r_iload_n rfl ?_
          refine r_i2b rfl ?_
          refine r_goto kX8_set_89 ?_
          refine r_iast g_282 (by decide) (by omega) (by omega) ?_
          refine r_aload_n rfl ?_
          refine r_aload_n rfl ?_
          refine r_getR g_279 rfl ?_
          refine r_bipush ?_
          refine r_iload_n rfl ?_
          first | refine r_imul (az_wid (by omega) (by omega)) ?_ | refine r_imulw ?_
          refine r_iload_n rfl ?_
          first | refine r_iadd (az_wid (by omega) (by omega)) ?_ | refine r_iaddw ?_
          refine r_iald g_282 rfl (by omega) (by omega) (by omega) ?_
          refine r_cV2I g_279 rfl (Nat.le_of_ble_eq_true rfl) (Nat.le_of_ble_eq_true rfl) (c_X8_well _) ?_
          refine r_iret rfl ?_
          unfold pSet pNar; (repeat' split) <;> first | exact ⟨rfl, rfl⟩ | (exfalso; omega) | exact ⟨by rw [az_up_at], rfl⟩ | skip
      · refine r_aload_n rfl ?_
        refine r_iconst ?_
        refine r_cV2I g_279 rfl (Nat.le_of_ble_eq_true rfl) (Nat.le_of_ble_eq_true rfl) (c_X8_found _) ?_
        refine r_iret rfl ?_
        unfold pSet pNar; (repeat' split) <;> first | exact ⟨rfl, rfl⟩ | (exfalso; omega) | exact ⟨by rw [az_up_at], rfl⟩ | skip
    · refine r_aload_n rfl ?_
      refine r_iconst ?_
      refine r_cV2I g_279 rfl (Nat.le_of_ble_eq_true rfl) (Nat.le_of_ble_eq_true rfl) (c_X8_found _) ?_
      refine r_iret rfl ?_
      unfold pSet pNar; (repeat' split) <;> first | exact ⟨rfl, rfl⟩ | (exfalso; omega) | exact ⟨by rw [az_up_at], rfl⟩ | skip
  · refine r_ldcI ?_
    refine r_iret rfl ?_
    unfold pSet pNar; (repeat' split) <;> first | exact ⟨rfl, rfl⟩ | (exfalso; omega) | exact ⟨by rw [az_up_at], rfl⟩ | skip
def pDrop (m : aM) (row : Int) : Int × aM := if 0 ≤ row ∧ row ≤ 7 then (if m 281 row < 0 then (-1000011, az_up m 279 3 1) else (m 281 row, az_up (az_up m 281 row (-1)) 279 3 0)) else (-1000001, m)
theorem c_X8_drop (row : Int) : az_CI sc 29 [.inr (.inr 280), .inl row] m (pDrop m row).1 (pDrop m row).2 := by
  refine r_iload_n rfl ?_
  refine r_cS1I (by decide) (Nat.le_of_ble_eq_true rfl) (Nat.le_of_ble_eq_true rfl) (c_X8_isRow _) ?_
  refine r_if_ne kX8_drop_10 (fun c1 => ?_) (fun c1 => ?_)
  · refine r_aload_n rfl ?_
    refine r_getR g_279 rfl ?_
    refine r_iload_n rfl ?_
    refine r_iald g_281 rfl (by omega) (by omega) (by omega) ?_
    refine r_if_ge kX8_drop_25 (fun c2 => ?_) (fun c2 => ?_)
    · refine r_aload_n rfl ?_
      refine r_getR g_279 rfl ?_
      refine r_iload_n rfl ?_
      refine r_iald g_281 rfl (by omega) (by omega) (by omega) ?_
      refine r_istore_n (Nat.le_of_ble_eq_true rfl) rfl ?_
      refine r_aload_n rfl ?_
      refine r_getR g_279 rfl ?_
      refine r_iload_n rfl ?_
      refine r_iconst ?_
      refine r_iast g_281 (by decide) (by omega) (by omega) ?_
      refine r_aload_n rfl ?_
      refine r_iload_n rfl ?_
      refine r_cV2I g_279 rfl (Nat.le_of_ble_eq_true rfl) (Nat.le_of_ble_eq_true rfl) (c_X8_well _) ?_
      refine r_iret rfl ?_
      unfold pDrop; (repeat' split) <;> first | exact ⟨rfl, rfl⟩ | (exfalso; omega)
    · refine r_aload_n rfl ?_
      refine r_iconst ?_
      refine r_cV2I g_279 rfl (Nat.le_of_ble_eq_true rfl) (Nat.le_of_ble_eq_true rfl) (c_X8_found _) ?_
      refine r_iret rfl ?_
      unfold pDrop; (repeat' split) <;> first | exact ⟨rfl, rfl⟩ | (exfalso; omega)
  · refine r_ldcI ?_
    refine r_iret rfl ?_
    unfold pDrop; (repeat' split) <;> first | exact ⟨rfl, rfl⟩ | (exfalso; omega)
theorem c_X8_kind (g : Int) (hN : 0 ≤ m 284 2 ∧ m 284 2 ≤ 4) : az_CI sc 183 [.inr (.inr 280), .inl g] m (if 0 ≤ g ∧ g ≤ m 284 2 - 1 then m 284 (12 + g) else -1000001) m := by
  refine r_aload_n rfl ?_
  refine r_iload_n rfl ?_
  refine r_cV2I g_279 rfl (Nat.le_of_ble_eq_true rfl) (Nat.le_of_ble_eq_true rfl) (c_X8_isGuest _ hN) ?_
  refine r_if_eq kX8_kind_20 (fun c1 => ?_) (fun c1 => ?_)
  · refine r_ldcI ?_
    refine r_iret rfl ?_
    (repeat' split) <;> first | exact ⟨rfl, rfl⟩ | (exfalso; omega)
  · refine r_aload_n rfl ?_
    refine r_getR g_279 rfl ?_
    refine r_bipush ?_
    refine r_iload_n rfl ?_
    first | refine r_iadd (az_wid (by omega) (by omega)) ?_ | refine r_iaddw ?_
    refine r_iald g_284 rfl (by omega) (by omega) (by omega) ?_
    refine r_goto kX8_kind_22 ?_
    refine r_iret rfl ?_
    (repeat' split) <;> first | exact ⟨rfl, rfl⟩ | (exfalso; omega)
theorem c_X8_price (h : Int) (hZ : 0 ≤ m 279 7 ∧ m 279 7 ≤ 1) (hp : ∀ h, 0 ≤ h → h < 6 → 0 ≤ m 284 (6 + h) ∧ m 284 (6 + h) ≤ 30) : az_CI sc 127 [.inr (.inr 280), .inl h] m (if m 279 7 = 0 then -1000002 else if 0 ≤ h ∧ h ≤ 5 then pPrice (m 284) h else -1000001) m := by
  refine r_aload_n rfl ?_
  refine r_getZ g_279 ?_
  refine r_if_ne kX8_price_12 (fun c1 => ?_) (fun c1 => ?_)
  · refine r_iload_n rfl ?_
    refine r_i2l ?_
    refine r_lconst0 ?_
    refine r_ldc2 ?_
    refine r_cS3I (by decide) (Nat.le_of_ble_eq_true rfl) (Nat.le_of_ble_eq_true rfl) (c_X8_in _ _ _) ?_
    refine r_if_eq kX8_price_32 (fun c2 => ?_) (fun c2 => ?_)
    · refine r_ldcI ?_
      refine r_iret rfl ?_
      (repeat' split) <;> first | exact ⟨rfl, rfl⟩ | (exfalso; omega)
    · refine r_aload_n rfl ?_
      refine r_iload_n rfl ?_
      refine r_cV2I g_279 rfl (Nat.le_of_ble_eq_true rfl) (Nat.le_of_ble_eq_true rfl) (c_X8_priceOf _ (by omega) (by omega) (hp _ (by omega) (by omega))) ?_
      refine r_goto kX8_price_34 ?_
      refine r_iret rfl ?_
      (repeat' split) <;> first | exact ⟨rfl, rfl⟩ | (exfalso; omega)
  · refine r_ldcI ?_
    refine r_goto kX8_price_34 ?_
    refine r_iret rfl ?_
    (repeat' split) <;> first | exact ⟨rfl, rfl⟩ | (exfalso; omega)
theorem c_X8_trace (i : Int) (hT : 0 ≤ m 279 13 ∧ m 279 13 ≤ 16) : az_CI sc 210 [.inr (.inr 280), .inl i] m (if 0 ≤ i ∧ i ≤ m 279 13 - 1 then m 288 i else -1000000) m := by
  refine r_iload_n rfl ?_
  refine r_i2l ?_
  refine r_lconst0 ?_
  refine r_aload_n rfl ?_
  refine r_getI g_279 ?_
  refine r_iconst ?_
  first | refine r_isub (az_wid (by omega) (by omega)) ?_ | refine r_isubw ?_
  refine r_i2l ?_
  refine r_cS3I (by decide) (Nat.le_of_ble_eq_true rfl) (Nat.le_of_ble_eq_true rfl) (c_X8_in _ _ _) ?_
  refine r_if_eq kX8_trace_25 (fun c1 => ?_) (fun c1 => ?_)
  · refine r_ldcI ?_
    refine r_iret rfl ?_
    (repeat' split) <;> first | exact ⟨rfl, rfl⟩ | (exfalso; omega)
  · refine r_aload_n rfl ?_
    refine r_getR g_279 rfl ?_
    refine r_iload_n rfl ?_
    refine r_iald g_288 rfl (by omega) (by omega) (by omega) ?_
    refine r_goto kX8_trace_27 ?_
    refine r_iret rfl ?_
    (repeat' split) <;> first | exact ⟨rfl, rfl⟩ | (exfalso; omega)
def pGuest (f : Int → Int) (g w : Int) : Int := if (0 ≤ g ∧ g ≤ f 2 - 1) ∧ (0 ≤ w ∧ w ≤ 6) then (if w = 0 then f (16 + g) else if w = 1 then f (24 + g) else if w = 2 then f (20 + g) else if w = 3 then 1 - f (32 + g) else if w = 4 then f (36 + g) else if w = 5 then f (40 + g) else f (28 + g)) else -1000001
theorem c_X8_guest (g w : Int) (hN : nOK (m 284)) : az_CI sc 125 [.inr (.inr 280), .inl g, .inl w] m (pGuest (m 284) g w) m := by
  have hN2 : 0 ≤ m 284 2 ∧ m 284 2 ≤ 4 := hN.2.2.1
  have hN3 : (0 ≤ g ∧ g ≤ m 284 2 - 1) → 0 ≤ m 284 (32 + g) ∧ m 284 (32 + g) ≤ 1 := fun h => (hN.2.2.2.2.2.2.2 g h.1 (by omega)).2.2.2.2.2.1
  clear hN
  refine r_aload_n rfl ?_
  refine r_iload_n rfl ?_
  refine r_cV2I g_279 rfl (Nat.le_of_ble_eq_true rfl) (Nat.le_of_ble_eq_true rfl) (c_X8_isGuest _ hN2) ?_
  refine r_if_eq kX8_guest_20 (fun c1 => ?_) (fun c1 => ?_)
  · refine r_ldcI ?_
    refine r_iret rfl ?_
    unfold pGuest; (repeat' split) <;> first | exact ⟨rfl, rfl⟩ | (exfalso; omega)
  · refine r_iload_n rfl ?_
    refine r_i2l ?_
    refine r_lconst0 ?_
    refine r_ldc2 ?_
    refine r_cS3I (by decide) (Nat.le_of_ble_eq_true rfl) (Nat.le_of_ble_eq_true rfl) (c_X8_in _ _ _) ?_
    refine r_if_ne kX8_guest_23 (fun c2 => ?_) (fun c2 => ?_)
    · refine r_iload_n rfl ?_
      rcases (show w = 0 ∨ w = 1 ∨ w = 2 ∨ w = 3 ∨ w = 4 ∨ w = 5 ∨ (w < 0 ∨ 5 < w) by omega) with hs_ | hs_ | hs_ | hs_ | hs_ | hs_ | hs_
      · subst hs_
        refine r_tswI (by decide) rfl kX8_guest_64 ?_
        refine r_aload_n rfl ?_
        refine r_getR g_279 rfl ?_
        refine r_bipush ?_
        refine r_iload_n rfl ?_
        first | refine r_iadd (az_wid (by omega) (by omega)) ?_ | refine r_iaddw ?_
        refine r_iald g_284 rfl (by omega) (by omega) (by omega) ?_
        refine r_iret rfl ?_
        unfold pGuest; (repeat' split) <;> first | exact ⟨rfl, rfl⟩ | (exfalso; omega)
      · subst hs_
        refine r_tswI (by decide) rfl kX8_guest_74 ?_
        refine r_aload_n rfl ?_
        refine r_getR g_279 rfl ?_
        refine r_bipush ?_
        refine r_iload_n rfl ?_
        first | refine r_iadd (az_wid (by omega) (by omega)) ?_ | refine r_iaddw ?_
        refine r_iald g_284 rfl (by omega) (by omega) (by omega) ?_
        refine r_iret rfl ?_
        unfold pGuest; (repeat' split) <;> first | exact ⟨rfl, rfl⟩ | (exfalso; omega)
      · subst hs_
        refine r_tswI (by decide) rfl kX8_guest_84 ?_
        refine r_aload_n rfl ?_
        refine r_getR g_279 rfl ?_
        refine r_bipush ?_
        refine r_iload_n rfl ?_
        first | refine r_iadd (az_wid (by omega) (by omega)) ?_ | refine r_iaddw ?_
        refine r_iald g_284 rfl (by omega) (by omega) (by omega) ?_
        refine r_iret rfl ?_
        unfold pGuest; (repeat' split) <;> first | exact ⟨rfl, rfl⟩ | (exfalso; omega)
      · subst hs_
        refine r_tswI (by decide) rfl kX8_guest_94 ?_
        refine r_iconst ?_
        refine r_aload_n rfl ?_
        refine r_getR g_279 rfl ?_
        refine r_bipush ?_
        refine r_iload_n rfl ?_
        first | refine r_iadd (az_wid (by omega) (by omega)) ?_ | refine r_iaddw ?_
        refine r_iald g_284 rfl (by omega) (by omega) (by omega) ?_
        first | refine r_isub (az_wid (by omega) (by omega)) ?_ | refine r_isubw ?_
        refine r_iret rfl ?_
        unfold pGuest; (repeat' split) <;> first | exact ⟨rfl, rfl⟩ | (exfalso; omega)
      · subst hs_
        refine r_tswI (by decide) rfl kX8_guest_106 ?_
        refine r_aload_n rfl ?_
        refine r_getR g_279 rfl ?_
        refine r_bipush ?_
        refine r_iload_n rfl ?_
        first | refine r_iadd (az_wid (by omega) (by omega)) ?_ | refine r_iaddw ?_
        refine r_iald g_284 rfl (by omega) (by omega) (by omega) ?_
        refine r_iret rfl ?_
        unfold pGuest; (repeat' split) <;> first | exact ⟨rfl, rfl⟩ | (exfalso; omega)
      · subst hs_
        refine r_tswI (by decide) rfl kX8_guest_116 ?_
        refine r_aload_n rfl ?_
        refine r_getR g_279 rfl ?_
        refine r_bipush ?_
        refine r_iload_n rfl ?_
        first | refine r_iadd (az_wid (by omega) (by omega)) ?_ | refine r_iaddw ?_
        refine r_iald g_284 rfl (by omega) (by omega) (by omega) ?_
        refine r_iret rfl ?_
        unfold pGuest; (repeat' split) <;> first | exact ⟨rfl, rfl⟩ | (exfalso; omega)
      · refine r_tswO hs_ kX8_guest_126 ?_
        refine r_aload_n rfl ?_
        refine r_getR g_279 rfl ?_
        refine r_bipush ?_
        refine r_iload_n rfl ?_
        first | refine r_iadd (az_wid (by omega) (by omega)) ?_ | refine r_iaddw ?_
        refine r_iald g_284 rfl (by omega) (by omega) (by omega) ?_
        refine r_iret rfl ?_
        unfold pGuest; (repeat' split) <;> first | exact ⟨rfl, rfl⟩ | (exfalso; omega)
    · refine r_ldcI ?_
      refine r_iret rfl ?_
      unfold pGuest; (repeat' split) <;> first | exact ⟨rfl, rfl⟩ | (exfalso; omega)
end R2
