/-! THE REFERENCE: rows, tape, what is asked -/
section R1
variable {sc : aX} {m : aM} {Q : Option aV → aM → Prop}
def pZero (m : aM) (row : Int) : aM := az_fold (fun k mm => az_up mm 282 (40 * row + k) 0) 40 0 m
def pRow (m : aM) (row lane n : Int) : Int × aM := if (0 ≤ row ∧ row ≤ 7) ∧ (0 ≤ lane ∧ lane ≤ 2) ∧ n ≤ 40 then (if n < 0 then (-1000014, az_up m 279 3 4) else (n, az_up (pZero (az_up (az_up m 280 row lane) 281 row n) row) 279 3 0)) else (-1000001, m)
theorem l_X8_row (row lane n : Int) (h : 0 ≤ row ∧ row ≤ 7) (K : az_E sc az_G 19 zX8_row_81 [some (.inr (.inr 280)), some (.inl row), some (.inl lane), some (.inl n), some (.inl 40)] [] (pZero m row) Q) : az_E sc az_G 19 zX8_row_55 [some (.inr (.inr 280)), some (.inl row), some (.inl lane), some (.inl n), some (.inl 0)] [] m Q := by
  refine az_for0 (α := aM) (fun k _ => [some (.inr (.inr 280)), some (.inl row), some (.inl lane), some (.inl n), some (.inl k)]) (fun a => a) (fun k mm => az_up mm 282 (40 * row + k) 0) (fun k _ => 0 ≤ k) 40 _ (by decide) (by decide) (fun k mm hk hp => ⟨by omega, fun hK => ?_⟩) (fun hp => ?_)
  · refine r_iload rfl ?_
    refine r_bipush ?_
    refine r_icmp_ge kX8_row_81 (fun c1 => absurd c1 (by omega)) (fun c1 => ?_)
    refine r_aload_n rfl ?_
    refine r_getR g_279 rfl ?_
    refine r_bipush ?_
    refine r_iload_n rfl ?_
    first | refine r_imul (az_wid (by omega) (by omega)) ?_ | refine r_imulw ?_
    refine r_iload rfl ?_
    first | refine r_iadd (az_wid (by omega) (by omega)) ?_ | refine r_iaddw ?_
    refine r_iconst ?_
    refine r_iast g_282 (by decide) (by omega) (by omega) ?_
    refine r_iinc rfl (az_wid (by omega) (by omega)) rfl ?_
    refine r_goto kX8_row_55 ?_
    exact hK
  · refine r_iload rfl ?_
    refine r_bipush ?_
    refine r_icmp_ge kX8_row_81 (fun c1 => ?_) (fun c1 => absurd c1 (by omega))
    exact K
theorem c_X8_row (row lane n : Int) : az_CI sc 19 [.inr (.inr 280), .inl row, .inl lane, .inl n] m (pRow m row lane n).1 (pRow m row lane n).2 := by
  refine r_iload_n rfl ?_
  refine r_cS1I (by decide) (Nat.le_of_ble_eq_true rfl) (Nat.le_of_ble_eq_true rfl) (c_X8_isRow _) ?_
  refine r_if_eq kX8_row_25 (fun c1 => ?_) (fun c1 => ?_)
  · refine r_ldcI ?_
    refine r_iret rfl ?_
    unfold pRow; (repeat' split) <;> first | exact ⟨rfl, rfl⟩ | (exfalso; omega)
  · refine r_iload_n rfl ?_
    refine r_i2l ?_
    refine r_lconst0 ?_
    refine r_ldc2 ?_
    refine r_cS3I (by decide) (Nat.le_of_ble_eq_true rfl) (Nat.le_of_ble_eq_true rfl) (c_X8_in _ _ _) ?_
    refine r_if_eq kX8_row_25 (fun c2 => ?_) (fun c2 => ?_)
    · refine r_ldcI ?_
      refine r_iret rfl ?_
      unfold pRow; (repeat' split) <;> first | exact ⟨rfl, rfl⟩ | (exfalso; omega)
    · refine r_iload_n rfl ?_
      refine r_bipush ?_
      refine r_icmp_le kX8_row_28 (fun c3 => ?_) (fun c3 => ?_)
      · refine r_iload_n rfl ?_
        refine r_if_ge kX8_row_38 (fun c4 => ?_) (fun c4 => ?_)
        · refine r_aload_n rfl ?_
          refine r_getR g_279 rfl ?_
          refine r_iload_n rfl ?_
          refine r_iload_n rfl ?_
          refine r_iast g_280 (by decide) (by omega) (by omega) ?_
          refine r_aload_n rfl ?_
          refine r_getR g_279 rfl ?_
          refine r_iload_n rfl ?_
          refine r_iload_n rfl ?_
          refine r_iast g_281 (by decide) (by omega) (by omega) ?_
          refine r_iconst ?_
          refine r_istore (Nat.le_of_ble_eq_true rfl) rfl ?_
          refine l_X8_row row lane n (by omega) ?_
          refine r_aload_n rfl ?_
          refine r_iload_n rfl ?_
          refine r_cV2I g_279 rfl (Nat.le_of_ble_eq_true rfl) (Nat.le_of_ble_eq_true rfl) (c_X8_well _) ?_
          refine r_iret rfl ?_
          unfold pRow; (repeat' split) <;> first | exact ⟨rfl, rfl⟩ | (exfalso; omega)
        · refine r_aload_n rfl ?_
          refine r_iconst ?_
          refine r_cV2I g_279 rfl (Nat.le_of_ble_eq_true rfl) (Nat.le_of_ble_eq_true rfl) (c_X8_found _) ?_
          refine r_iret rfl ?_
          unfold pRow; (repeat' split) <;> first | exact ⟨rfl, rfl⟩ | (exfalso; omega)
      · refine r_ldcI ?_
        refine r_iret rfl ?_
        unfold pRow; (repeat' split) <;> first | exact ⟨rfl, rfl⟩ | (exfalso; omega)
theorem c_X8_fault : az_CI sc 78 [.inr (.inr 280)] m (m 279 6) m := by
  refine r_aload_n rfl ?_
  refine r_getI g_279 ?_
  refine r_iret rfl ?_
  exact ⟨rfl, rfl⟩
theorem c_X8_status : az_CI sc 217 [.inr (.inr 280)] m (m 279 3) m := by
  refine r_aload_n rfl ?_
  refine r_getI g_279 ?_
  refine r_iret rfl ?_
  exact ⟨rfl, rfl⟩
end R1
