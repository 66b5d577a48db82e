/-! SMALL METHODS of the reference -/
section SM
variable {sc : aX} {m : aM}
theorem az_cmp_lt (x y : Int) : az_cmp x y < 0 ↔ x < y := by unfold az_cmp; repeat' split <;> omega
theorem az_cmp_gt (x y : Int) : 0 < az_cmp x y ↔ y < x := by unfold az_cmp; repeat' split <;> omega
theorem az_cmp_eq (x y : Int) : az_cmp x y = 0 ↔ x = y := by unfold az_cmp; repeat' split <;> omega
theorem az_cmp_le (x y : Int) : az_cmp x y ≤ 0 ↔ x ≤ y := by unfold az_cmp; repeat' split <;> omega
theorem az_cmp_ge (x y : Int) : 0 ≤ az_cmp x y ↔ y ≤ x := by unfold az_cmp; repeat' split <;> omega
theorem c_X8_in (a b c : Int) : az_CI sc 15 [.inr (.inl a), .inr (.inl b), .inr (.inl c)] m ((if b ≤ a ∧ a ≤ c then 1 else 0)) (m) := by
  refine r_lload_n rfl ?_
  refine r_lload_n rfl ?_
  refine r_lcmp ?_
  refine r_if_lt kX8_in_17 (fun c1 => ?_) (fun c1 => ?_)
  · refine r_iconst ?_
    refine r_zret rfl (by omega) ?_
    refine ⟨?_, rfl⟩; simp only [az_cmp_lt, az_cmp_gt, az_cmp_le, az_cmp_ge] at *; first | rw [if_pos (by omega)] | rw [if_neg (by omega)]
  · refine r_lload_n rfl ?_
    refine r_lload rfl ?_
    refine r_lcmp ?_
    refine r_if_gt kX8_in_17 (fun c2 => ?_) (fun c2 => ?_)
    · refine r_iconst ?_
      refine r_zret rfl (by omega) ?_
      refine ⟨?_, rfl⟩; simp only [az_cmp_lt, az_cmp_gt, az_cmp_le, az_cmp_ge] at *; first | rw [if_pos (by omega)] | rw [if_neg (by omega)]
    · refine r_iconst ?_
      refine r_goto kX8_in_18 ?_
      refine r_zret rfl (by omega) ?_
      refine ⟨?_, rfl⟩; simp only [az_cmp_lt, az_cmp_gt, az_cmp_le, az_cmp_ge] at *; first | rw [if_pos (by omega)] | rw [if_neg (by omega)]
theorem c_X8_found (w : Int) : az_CI sc 17 [.inr (.inr 280), .inl w] m ((az_w (-1000010 - w))) (az_up m 279 3 w) := by
  refine r_aload_n rfl ?_
  refine r_iload_n rfl ?_
  refine r_putI g_279 (by decide) ?_
  refine r_ldcI ?_
  refine r_iload_n rfl ?_
  first | refine r_isub (az_wid (by omega) (by omega)) ?_ | refine r_isubw ?_
  refine r_iret rfl ?_
  exact ⟨rfl, rfl⟩
theorem c_X8_well (w : Int) : az_CI sc 18 [.inr (.inr 280), .inl w] m (w) (az_up m 279 3 0) := by
  refine r_aload_n rfl ?_
  refine r_iconst ?_
  refine r_putI g_279 (by decide) ?_
  refine r_iload_n rfl ?_
  refine r_iret rfl ?_
  exact ⟨rfl, rfl⟩
theorem c_X8_isRow (r : Int) : az_CI sc 16 [.inl r] m ((if 0 ≤ r ∧ r ≤ 7 then 1 else 0)) (m) := by
  refine r_iload_n rfl ?_
  refine r_i2l ?_
  refine r_lconst0 ?_
  refine r_ldc2 ?_
  refine r_cS3I (by decide) (Nat.le_of_ble_eq_true rfl) (Nat.le_of_ble_eq_true rfl) (c_X8_in _ _ _) ?_
  refine r_zret rfl (by omega) ?_
  exact ⟨rfl, rfl⟩
end SM
