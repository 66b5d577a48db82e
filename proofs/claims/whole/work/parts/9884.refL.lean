/-! THE REFERENCE: copy, feed, ask -/
section RL
variable {sc : aX} {m : aM} {f t c : Int → Int} {sp : Int} {Q : Option aV → aM → Prop}
def pCpOK (m : aM) (a i b j n : Int) : Prop := 0 ≤ i ∧ 0 ≤ j ∧ 0 ≤ n ∧ i + n ≤ m 281 a ∧ j + n ≤ m 281 b
noncomputable def pCopy (m : aM) (a i b j n : Int) : Int × aM := if (0 ≤ a ∧ a ≤ 7) ∧ (0 ≤ b ∧ b ≤ 7) then (if m 281 a < 0 ∨ m 281 b < 0 then (-1000011, az_up m 279 3 1) else if m 280 a ≠ m 280 b then (-1000015, az_up m 279 3 5) else @ite _ (pCpOK m a i b j n) (Classical.propDecidable _) (n, az_up (az_cp m 282 (40 * a + i) 282 (40 * b + j) n) 279 3 0) (-1000012, az_up m 279 3 2)) else (-1000001, m)
/-- what lies between x and y is as it shall be -/
def pMv (F : Int → Int) (s d x y : Int) : Int → Int := fun j => if x ≤ j ∧ j < y then F (s + (j - d)) else F j
theorem pMv_i {F : Int → Int} {s d x y j : Int} (h : x ≤ j ∧ j < y) : pMv F s d x y j = F (s + (j - d)) := if_pos h
theorem pMv_o {F : Int → Int} {s d x y j : Int} (h : ¬ (x ≤ j ∧ j < y)) : pMv F s d x y j = F j := if_neg h
theorem pMv_0 (F : Int → Int) (s d x : Int) : pMv F s d x x = F := by
  funext j
  exact pMv_o (by omega)
theorem pMv_up (F : Int → Int) (s d x : Int) {y : Int} (h : x ≤ y) : up1 (pMv F s d x y) y (F (s + (y - d))) = pMv F s d x (y + 1) := by
  funext j
  by_cases e : j = y
  · subst e
    rw [up1_at, pMv_i (by omega)]
  · rw [up1_ne _ _ e]
    by_cases h1 : x ≤ j ∧ j < y
    · rw [pMv_i h1, pMv_i (by omega)]
    · rw [pMv_o h1, pMv_o (by omega)]
theorem pMv_dn (F : Int → Int) (s d : Int) {x y : Int} (h : x ≤ y) : up1 (pMv F s d x y) (x - 1) (F (s + (x - 1 - d))) = pMv F s d (x - 1) y := by
  funext j
  by_cases e : j = x - 1
  · subst e
    rw [up1_at, pMv_i (by omega)]
  · rw [up1_ne _ _ e]
    by_cases h1 : x ≤ j ∧ j < y
    · rw [pMv_i h1, pMv_i (by omega)]
    · rw [pMv_o h1, pMv_o (by omega)]
theorem az_cp_set (m : aM) (s d n : Int) : az_cp m 282 s 282 d n = az_set m 282 (pMv (m 282) s d d (d + n)) := by
  funext b j
  simp only [az_cp, az_set]
  by_cases h : b = 282
  · subst h
    rw [if_pos rfl]
    by_cases h1 : d ≤ j ∧ j < d + n
    · rw [if_pos ⟨rfl, h1⟩, pMv_i h1]
    · rw [if_neg (fun q => h1 q.2), pMv_o h1]
  · rw [if_neg (fun q => h q.1), if_neg h]
theorem l_X8_copy {a i b j n : Int} (ha : 0 ≤ a ∧ a ≤ 7) (hb : 0 ≤ b ∧ b ≤ 7) (hi : 0 ≤ i) (hj : 0 ≤ j) (hn : 0 ≤ n) (hin : i + n ≤ 40) (hjn : j + n ≤ 40) (K : ∀ o7, az_E sc az_G 26 zX8_copy_182 [some (.inr (.inr 280)), some (.inl (a)), some (.inl (i)), some (.inl (b)), some (.inl (j)), some (.inl (n)), some (.inl (n)), o7] [] (az_cp m 282 (40 * a + i) 282 (40 * b + j) n) Q) : az_E sc az_G 26 zX8_copy_120 [some (.inr (.inr 280)), some (.inl (a)), some (.inl (i)), some (.inl (b)), some (.inl (j)), some (.inl (n)), some (.inl (0)), none] [] m Q := by
  have hab : a = b ∨ a < b ∨ b < a := by omega
  by_cases h : i < j
  · refine az_Em (az_s0 m 282).symm ?_
    refine az_lop (α := (Int → Int) × Option aV) (fun k x => [some (.inr (.inr 280)), some (.inl (a)), some (.inl (i)), some (.inl (b)), some (.inl (j)), some (.inl (n)), some (.inl (k)), x.2]) (fun x => az_set m 282 x.1) (fun k x => x.1 = pMv (m 282) (40 * a + i) (40 * b + j) (40 * b + j + n - k) (40 * b + j + n)) 0 n (m 282, none) hn (by dsimp only; rw [show 40 * b + j + n - 0 = 40 * b + j + n by omega, pMv_0]) (fun k x h0 h1 hp hK => ?_) (fun x hp => ?_)
    · obtain ⟨F, o⟩ := x
      dsimp only at hp ⊢
      have hr : F (40 * a + i + (n - 1 - k)) = m 282 (40 * a + i + (n - 1 - k)) := by
        rw [hp, pMv_o (by omega)]
      refine r_iload rfl ?_
      refine r_iload rfl ?_
      refine r_icmp_ge kX8_copy_182 (fun c1 => absurd c1 (by omega)) (fun c1 => ?_)
      refine r_iload rfl ?_
      refine r_iload_n rfl ?_
      refine r_icmp_le kX8_copy_143 (fun c2 => absurd c2 (by omega)) (fun c2 => ?_)
      refine r_iload rfl ?_
      refine r_iconst ?_
      first | refine r_isub (az_wid (by omega) (by omega)) ?_ | refine r_isubw ?_
      refine r_iload rfl ?_
      first | refine r_isub (az_wid (by omega) (by omega)) ?_ | refine r_isubw ?_
      refine r_goto kX8_copy_145 ?_
      refine r_istore (Nat.le_of_ble_eq_true rfl) rfl ?_
      refine r_aload_n rfl ?_
      refine r_getR g_279 rfl ?_
      refine r_bipush ?_
      refine r_iload_n rfl ?_
      first | refine r_imul (az_wid (by omega) (by omega)) ?_ | refine r_imulw ?_
      refine r_iload rfl ?_
      first | refine r_iadd (az_wid (by omega) (by omega)) ?_ | refine r_iaddw ?_
      refine r_iload rfl ?_
      first | refine r_iadd (az_wid (by omega) (by omega)) ?_ | refine r_iaddw ?_
      refine r_aload_n rfl ?_
      refine r_getR g_279 rfl ?_
      refine r_bipush ?_
      refine r_iload_n rfl ?_
      first | refine r_imul (az_wid (by omega) (by omega)) ?_ | refine r_imulw ?_
      refine r_iload_n rfl ?_
      first | refine r_iadd (az_wid (by omega) (by omega)) ?_ | refine r_iaddw ?_
      refine r_iload rfl ?_
      first | refine r_iadd (az_wid (by omega) (by omega)) ?_ | refine r_iaddw ?_
      refine r_ialdx g_282 rfl (by omega) (by omega) (by omega) (hr) ?_
      refine r_iast g_282 (by decide) (by omega) (by omega) ?_
      refine r_iinc rfl (az_wid (by omega) (by omega)) rfl ?_
      refine r_goto kX8_copy_120 ?_
      refine az_Em (az_us _ _ _ _ _) (hK (up1 F (40 * b + j + (n - 1 - k)) (m 282 (40 * a + i + (n - 1 - k))), _) ?_); dsimp only; have hd := pMv_dn (m 282) (40 * a + i) (40 * b + j) (x := 40 * b + j + n - k) (y := 40 * b + j + n) (by omega); rw [show 40 * a + i + (40 * b + j + n - k - 1 - (40 * b + j)) = 40 * a + i + (n - 1 - k) by omega, show 40 * b + j + n - k - 1 = 40 * b + j + (n - 1 - k) by omega, ← hp] at hd; rw [hd, show 40 * b + j + n - (k + 1) = 40 * b + j + (n - 1 - k) by omega]
    · obtain ⟨F, o⟩ := x
      dsimp only at hp ⊢
      have K2 := K o
      rw [az_cp_set] at K2
      rw [show 40 * b + j + n - n = 40 * b + j by omega] at hp
      subst hp
      refine r_iload rfl ?_
      refine r_iload rfl ?_
      refine r_icmp_ge kX8_copy_182 (fun c1 => ?_) (fun c1 => absurd c1 (by omega))
      exact K2
  · refine az_Em (az_s0 m 282).symm ?_
    refine az_lop (α := (Int → Int) × Option aV) (fun k x => [some (.inr (.inr 280)), some (.inl (a)), some (.inl (i)), some (.inl (b)), some (.inl (j)), some (.inl (n)), some (.inl (k)), x.2]) (fun x => az_set m 282 x.1) (fun k x => x.1 = pMv (m 282) (40 * a + i) (40 * b + j) (40 * b + j) (40 * b + j + k)) 0 n (m 282, none) hn (by dsimp only; rw [show 40 * b + j + 0 = 40 * b + j by omega, pMv_0]) (fun k x h0 h1 hp hK => ?_) (fun x hp => ?_)
    · obtain ⟨F, o⟩ := x
      dsimp only at hp ⊢
      have hr : F (40 * a + i + k) = m 282 (40 * a + i + k) := by
        rw [hp, pMv_o (by omega)]
      refine r_iload rfl ?_
      refine r_iload rfl ?_
      refine r_icmp_ge kX8_copy_182 (fun c1 => absurd c1 (by omega)) (fun c1 => ?_)
      refine r_iload rfl ?_
      refine r_iload_n rfl ?_
      refine r_icmp_le kX8_copy_143 (fun c2 => ?_) (fun c2 => absurd c2 (by omega))
      refine r_iload rfl ?_
      refine r_istore (Nat.le_of_ble_eq_true rfl) rfl ?_
      refine r_aload_n rfl ?_
      refine r_getR g_279 rfl ?_
      refine r_bipush ?_
      refine r_iload_n rfl ?_
      first | refine r_imul (az_wid (by omega) (by omega)) ?_ | refine r_imulw ?_
      refine r_iload rfl ?_
      first | refine r_iadd (az_wid (by omega) (by omega)) ?_ | refine r_iaddw ?_
      refine r_iload rfl ?_
      first | refine r_iadd (az_wid (by omega) (by omega)) ?_ | refine r_iaddw ?_
      refine r_aload_n rfl ?_
      refine r_getR g_279 rfl ?_
      refine r_bipush ?_
      refine r_iload_n rfl ?_
      first | refine r_imul (az_wid (by omega) (by omega)) ?_ | refine r_imulw ?_
      refine r_iload_n rfl ?_
      first | refine r_iadd (az_wid (by omega) (by omega)) ?_ | refine r_iaddw ?_
      refine r_iload rfl ?_
      first | refine r_iadd (az_wid (by omega) (by omega)) ?_ | refine r_iaddw ?_
      refine r_ialdx g_282 rfl (by omega) (by omega) (by omega) (hr) ?_
      refine r_iast g_282 (by decide) (by omega) (by omega) ?_
      refine r_iinc rfl (az_wid (by omega) (by omega)) rfl ?_
      refine r_goto kX8_copy_120 ?_
      refine az_Em (az_us _ _ _ _ _) (hK (up1 F (40 * b + j + k) (m 282 (40 * a + i + k)), _) ?_); dsimp only; have hd := pMv_up (m 282) (40 * a + i) (40 * b + j) (40 * b + j) (y := 40 * b + j + k) (by omega); rw [show 40 * a + i + (40 * b + j + k - (40 * b + j)) = 40 * a + i + k by omega, ← hp] at hd; rw [hd, show 40 * b + j + (k + 1) = 40 * b + j + k + 1 by omega]
    · obtain ⟨F, o⟩ := x
      dsimp only at hp ⊢
      have K2 := K o
      rw [az_cp_set] at K2
      subst hp
      refine r_iload rfl ?_
      refine r_iload rfl ?_
      refine r_icmp_ge kX8_copy_182 (fun c1 => ?_) (fun c1 => absurd c1 (by omega))
      exact K2
theorem c_X8_copy {a i b j n : Int} (hR : pRowsOK m) (hi : -2147483648 ≤ i ∧ i < 2147483648) (hj : -2147483648 ≤ j ∧ j < 2147483648) (hn : -2147483648 ≤ n ∧ n < 2147483648) : az_CI sc 26 [.inr (.inr 280), .inl a, .inl i, .inl b, .inl j, .inl n] m (pCopy m a i b j n).1 (pCopy m a i b j n).2 := by
  unfold pCopy
  by_cases hab : (0 ≤ a ∧ a ≤ 7) ∧ (0 ≤ b ∧ b ≤ 7)
  · rw [if_pos hab]
    have hRa := hR a hab.1.1 hab.1.2
    have hRb := hR b hab.2.1 hab.2.2
    by_cases hs : m 281 a < 0 ∨ m 281 b < 0
    · rw [if_pos hs]
      refine r_iload_n rfl ?_
      refine r_cS1I (by decide) (Nat.le_of_ble_eq_true rfl) (Nat.le_of_ble_eq_true rfl) (c_X8_isRow _) ?_
      refine r_if_eq kX8_copy_14 (fun c1 => absurd c1 (by omega)) (fun c1 => ?_)
      refine r_iload_n rfl ?_
      refine r_cS1I (by decide) (Nat.le_of_ble_eq_true rfl) (Nat.le_of_ble_eq_true rfl) (c_X8_isRow _) ?_
      refine r_if_ne kX8_copy_17 (fun c2 => ?_) (fun c2 => absurd c2 (by omega))
      refine r_aload_n rfl ?_
      refine r_getR g_279 rfl ?_
      refine r_iload_n rfl ?_
      refine r_iald g_281 rfl (by omega) (by omega) (by omega) ?_
      refine r_if_lt kX8_copy_35 (fun c3 => ?_) (fun c3 => ?_)
      · refine r_aload_n rfl ?_
        refine r_iconst ?_
        refine r_cV2I g_279 rfl (Nat.le_of_ble_eq_true rfl) (Nat.le_of_ble_eq_true rfl) (c_X8_found _) ?_
        refine r_iret rfl ?_
        exact ⟨rfl, rfl⟩
      · refine r_aload_n rfl ?_
        refine r_getR g_279 rfl ?_
        refine r_iload_n rfl ?_
        refine r_iald g_281 rfl (by omega) (by omega) (by omega) ?_
        refine r_if_ge kX8_copy_41 (fun c4 => absurd c4 (by omega)) (fun c4 => ?_)
        refine r_aload_n rfl ?_
        refine r_iconst ?_
        refine r_cV2I g_279 rfl (Nat.le_of_ble_eq_true rfl) (Nat.le_of_ble_eq_true rfl) (c_X8_found _) ?_
        refine r_iret rfl ?_
        exact ⟨rfl, rfl⟩
    · rw [if_neg hs]
      by_cases hl : m 280 a ≠ m 280 b
      · rw [if_pos hl]
        refine r_iload_n rfl ?_
        refine r_cS1I (by decide) (Nat.le_of_ble_eq_true rfl) (Nat.le_of_ble_eq_true rfl) (c_X8_isRow _) ?_
        refine r_if_eq kX8_copy_14 (fun c1 => absurd c1 (by omega)) (fun c1 => ?_)
        refine r_iload_n rfl ?_
        refine r_cS1I (by decide) (Nat.le_of_ble_eq_true rfl) (Nat.le_of_ble_eq_true rfl) (c_X8_isRow _) ?_
        refine r_if_ne kX8_copy_17 (fun c2 => ?_) (fun c2 => absurd c2 (by omega))
        refine r_aload_n rfl ?_
        refine r_getR g_279 rfl ?_
        refine r_iload_n rfl ?_
        refine r_iald g_281 rfl (by omega) (by omega) (by omega) ?_
        refine r_if_lt kX8_copy_35 (fun c3 => absurd c3 (by omega)) (fun c3 => ?_)
        refine r_aload_n rfl ?_
        refine r_getR g_279 rfl ?_
        refine r_iload_n rfl ?_
        refine r_iald g_281 rfl (by omega) (by omega) (by omega) ?_
        refine r_if_ge kX8_copy_41 (fun c4 => ?_) (fun c4 => absurd c4 (by omega))
        refine r_aload_n rfl ?_
        refine r_getR g_279 rfl ?_
        refine r_iload_n rfl ?_
        refine r_iald g_280 rfl (by omega) (by omega) (by omega) ?_
        refine r_aload_n rfl ?_
        refine r_getR g_279 rfl ?_
        refine r_iload_n rfl ?_
        refine r_iald g_280 rfl (by omega) (by omega) (by omega) ?_
        refine r_icmp_eq kX8_copy_62 (fun c5 => absurd c5 (by omega)) (fun c5 => ?_)
        refine r_aload_n rfl ?_
        refine r_iconst ?_
        refine r_cV2I g_279 rfl (Nat.le_of_ble_eq_true rfl) (Nat.le_of_ble_eq_true rfl) (c_X8_found _) ?_
        refine r_iret rfl ?_
        exact ⟨rfl, rfl⟩
      · rw [if_neg hl]
        have hc1 := az_cmp_b (i + n) (m 281 a)
        have hc2 := az_cmp_b (j + n) (m 281 b)
        by_cases hp : pCpOK m a i b j n
        · rw [if_pos hp]
          obtain ⟨p1, p2, p3, p4, p5⟩ := hp
          refine r_iload_n rfl ?_
          refine r_cS1I (by decide) (Nat.le_of_ble_eq_true rfl) (Nat.le_of_ble_eq_true rfl) (c_X8_isRow _) ?_
          refine r_if_eq kX8_copy_14 (fun c1 => absurd c1 (by omega)) (fun c1 => ?_)
          refine r_iload_n rfl ?_
          refine r_cS1I (by decide) (Nat.le_of_ble_eq_true rfl) (Nat.le_of_ble_eq_true rfl) (c_X8_isRow _) ?_
          refine r_if_ne kX8_copy_17 (fun c2 => ?_) (fun c2 => absurd c2 (by omega))
          refine r_aload_n rfl ?_
          refine r_getR g_279 rfl ?_
          refine r_iload_n rfl ?_
          refine r_iald g_281 rfl (by omega) (by omega) (by omega) ?_
          refine r_if_lt kX8_copy_35 (fun c3 => absurd c3 (by omega)) (fun c3 => ?_)
          refine r_aload_n rfl ?_
          refine r_getR g_279 rfl ?_
          refine r_iload_n rfl ?_
          refine r_iald g_281 rfl (by omega) (by omega) (by omega) ?_
          refine r_if_ge kX8_copy_41 (fun c4 => ?_) (fun c4 => absurd c4 (by omega))
          refine r_aload_n rfl ?_
          refine r_getR g_279 rfl ?_
          refine r_iload_n rfl ?_
          refine r_iald g_280 rfl (by omega) (by omega) (by omega) ?_
          refine r_aload_n rfl ?_
          refine r_getR g_279 rfl ?_
          refine r_iload_n rfl ?_
          refine r_iald g_280 rfl (by omega) (by omega) (by omega) ?_
          refine r_icmp_eq kX8_copy_62 (fun c5 => ?_) (fun c5 => absurd c5 (by omega))
          refine r_iload_n rfl ?_
          refine r_if_lt kX8_copy_111 (fun c6 => absurd c6 (by omega)) (fun c6 => ?_)
          refine r_iload rfl ?_
          refine r_if_lt kX8_copy_111 (fun c7 => absurd c7 (by omega)) (fun c7 => ?_)
          refine r_iload rfl ?_
          refine r_if_lt kX8_copy_111 (fun c8 => absurd c8 (by omega)) (fun c8 => ?_)
          refine r_iload_n rfl ?_
          refine r_i2l ?_
          refine r_iload rfl ?_
          refine r_i2l ?_
          first | refine r_ladd (az_wlid (by omega) (by omega)) ?_ | refine r_ladd rfl ?_
          refine r_aload_n rfl ?_
          refine r_getR g_279 rfl ?_
          refine r_iload_n rfl ?_
          refine r_iald g_281 rfl (by omega) (by omega) (by omega) ?_
          refine r_i2l ?_
          refine r_lcmp ?_
          refine r_if_gt kX8_copy_111 (fun c9 => absurd c9 (by omega)) (fun c9 => ?_)
          refine r_iload rfl ?_
          refine r_i2l ?_
          refine r_iload rfl ?_
          refine r_i2l ?_
          first | refine r_ladd (az_wlid (by omega) (by omega)) ?_ | refine r_ladd rfl ?_
          refine r_aload_n rfl ?_
          refine r_getR g_279 rfl ?_
          refine r_iload_n rfl ?_
          refine r_iald g_281 rfl (by omega) (by omega) (by omega) ?_
          refine r_i2l ?_
          refine r_lcmp ?_
          refine r_if_le kX8_copy_117 (fun c10 => ?_) (fun c10 => absurd c10 (by omega))
          refine r_iconst ?_
          refine r_istore (Nat.le_of_ble_eq_true rfl) rfl ?_
          refine l_X8_copy hab.1 hab.2 p1 p2 p3 (by omega) (by omega) (fun o7 => ?_)
          refine r_aload_n rfl ?_
          refine r_iload rfl ?_
          refine r_cV2I g_279 rfl (Nat.le_of_ble_eq_true rfl) (Nat.le_of_ble_eq_true rfl) (c_X8_well _) ?_
          refine r_iret rfl ?_
          exact ⟨rfl, rfl⟩
        · rw [if_neg hp]
          unfold pCpOK at hp
          refine r_iload_n rfl ?_
          refine r_cS1I (by decide) (Nat.le_of_ble_eq_true rfl) (Nat.le_of_ble_eq_true rfl) (c_X8_isRow _) ?_
          refine r_if_eq kX8_copy_14 (fun c1 => absurd c1 (by omega)) (fun c1 => ?_)
          refine r_iload_n rfl ?_
          refine r_cS1I (by decide) (Nat.le_of_ble_eq_true rfl) (Nat.le_of_ble_eq_true rfl) (c_X8_isRow _) ?_
          refine r_if_ne kX8_copy_17 (fun c2 => ?_) (fun c2 => absurd c2 (by omega))
          refine r_aload_n rfl ?_
          refine r_getR g_279 rfl ?_
          refine r_iload_n rfl ?_
          refine r_iald g_281 rfl (by omega) (by omega) (by omega) ?_
          refine r_if_lt kX8_copy_35 (fun c3 => absurd c3 (by omega)) (fun c3 => ?_)
          refine r_aload_n rfl ?_
          refine r_getR g_279 rfl ?_
          refine r_iload_n rfl ?_
          refine r_iald g_281 rfl (by omega) (by omega) (by omega) ?_
          refine r_if_ge kX8_copy_41 (fun c4 => ?_) (fun c4 => absurd c4 (by omega))
          refine r_aload_n rfl ?_
          refine r_getR g_279 rfl ?_
          refine r_iload_n rfl ?_
          refine r_iald g_280 rfl (by omega) (by omega) (by omega) ?_
          refine r_aload_n rfl ?_
          refine r_getR g_279 rfl ?_
          refine r_iload_n rfl ?_
          refine r_iald g_280 rfl (by omega) (by omega) (by omega) ?_
          refine r_icmp_eq kX8_copy_62 (fun c5 => ?_) (fun c5 => absurd c5 (by omega))
          refine r_iload_n rfl ?_
          refine r_if_lt kX8_copy_111 (fun c6 => ?_) (fun c6 => ?_)
          · refine r_aload_n rfl ?_
            refine r_iconst ?_
            refine r_cV2I g_279 rfl (Nat.le_of_ble_eq_true rfl) (Nat.le_of_ble_eq_true rfl) (c_X8_found _) ?_
            refine r_iret rfl ?_
            exact ⟨rfl, rfl⟩
          · refine r_iload rfl ?_
            refine r_if_lt kX8_copy_111 (fun c7 => ?_) (fun c7 => ?_)
            · refine r_aload_n rfl ?_
              refine r_iconst ?_
              refine r_cV2I g_279 rfl (Nat.le_of_ble_eq_true rfl) (Nat.le_of_ble_eq_true rfl) (c_X8_found _) ?_
              refine r_iret rfl ?_
              exact ⟨rfl, rfl⟩
            · refine r_iload rfl ?_
              refine r_if_lt kX8_copy_111 (fun c8 => ?_) (fun c8 => ?_)
              · refine r_aload_n rfl ?_
                refine r_iconst ?_
                refine r_cV2I g_279 rfl (Nat.le_of_ble_eq_true rfl) (Nat.le_of_ble_eq_true rfl) (c_X8_found _) ?_
                refine r_iret rfl ?_
                exact ⟨rfl, rfl⟩
              · refine r_iload_n rfl ?_
                refine r_i2l ?_
                refine r_iload rfl ?_
                refine r_i2l ?_
                first | refine r_ladd (az_wlid (by omega) (by omega)) ?_ | refine r_ladd rfl ?_
                refine r_aload_n rfl ?_
                refine r_getR g_279 rfl ?_
                refine r_iload_n rfl ?_
                refine r_iald g_281 rfl (by omega) (by omega) (by omega) ?_
                refine r_i2l ?_
                refine r_lcmp ?_
                refine r_if_gt kX8_copy_111 (fun c9 => ?_) (fun c9 => ?_)
                · refine r_aload_n rfl ?_
                  refine r_iconst ?_
                  refine r_cV2I g_279 rfl (Nat.le_of_ble_eq_true rfl) (Nat.le_of_ble_eq_true rfl) (c_X8_found _) ?_
                  refine r_iret rfl ?_
                  exact ⟨rfl, rfl⟩
                · refine r_iload rfl ?_
                  refine r_i2l ?_
                  refine r_iload rfl ?_
                  refine r_i2l ?_
                  first | refine r_ladd (az_wlid (by omega) (by omega)) ?_ | refine r_ladd rfl ?_
                  refine r_aload_n rfl ?_
                  refine r_getR g_279 rfl ?_
                  refine r_iload_n rfl ?_
                  refine r_iald g_281 rfl (by omega) (by omega) (by omega) ?_
                  refine r_i2l ?_
                  refine r_lcmp ?_
                  refine r_if_le kX8_copy_117 (fun c10 => absurd c10 (by omega)) (fun c10 => ?_)
                  refine r_aload_n rfl ?_
                  refine r_iconst ?_
                  refine r_cV2I g_279 rfl (Nat.le_of_ble_eq_true rfl) (Nat.le_of_ble_eq_true rfl) (c_X8_found _) ?_
                  refine r_iret rfl ?_
                  exact ⟨rfl, rfl⟩
  · rw [if_neg hab]
    refine r_iload_n rfl ?_
    refine r_cS1I (by decide) (Nat.le_of_ble_eq_true rfl) (Nat.le_of_ble_eq_true rfl) (c_X8_isRow _) ?_
    refine r_if_eq kX8_copy_14 (fun c1 => ?_) (fun c1 => ?_)
    · refine r_ldcI ?_
      refine r_iret rfl ?_
      exact ⟨rfl, rfl⟩
    · refine r_iload_n rfl ?_
      refine r_cS1I (by decide) (Nat.le_of_ble_eq_true rfl) (Nat.le_of_ble_eq_true rfl) (c_X8_isRow _) ?_
      refine r_if_ne kX8_copy_17 (fun c2 => absurd c2 (by omega)) (fun c2 => ?_)
      refine r_ldcI ?_
      refine r_iret rfl ?_
      exact ⟨rfl, rfl⟩
/-- a byte of a word -/
def pByt (w k : Int) : Int := az_w (az_land (az_lshr w (8 * k)) 255)
def pFdT (T : Int → Int) (w t n k : Int) : Int → Int := fun x => if t ≤ x ∧ x < t + k then pByt w (n - 1 - (x - t)) else T x
theorem pFdT_S (T : Int → Int) (w t n : Int) {k : Int} (h : 0 ≤ k) : up1 (pFdT T w t n k) (t + k) (pByt w (n - 1 - k)) = pFdT T w t n (k + 1) := by
  funext x
  unfold up1 pFdT
  by_cases e : x = t + k
  · subst e
    rw [if_pos rfl, if_pos (by omega), show t + k - t = k by omega]
  · rw [if_neg e]
    by_cases h1 : t ≤ x ∧ x < t + k
    · rw [if_pos h1, if_pos (by omega)]
    · rw [if_neg h1, if_neg (by omega)]
theorem pFdT_0 (T : Int → Int) (w t n : Int) : pFdT T w t n 0 = T := by
  funext x
  unfold pFdT
  rw [if_neg (by omega)]
theorem az_upc (m : aM) {a b : Nat} (h : a ≠ b) (i v j w : Int) : az_up (az_up m a i v) b j w = az_up (az_up m b j w) a i v := by
  funext x y
  simp only [az_up]
  by_cases h1 : x = b
  · subst h1
    have h2 : ¬ x = a := fun e => h e.symm
    simp [h2]
  · simp [h1]
def pFeed (m : aM) (w n : Int) : Int × aM := if 1 ≤ n ∧ n ≤ 8 then (if 400 < m 279 5 + n then (-1000003, m) else (m 279 5 + n, az_up (az_set m 283 (pFdT (m 283) w (m 279 5) n n)) 279 5 (m 279 5 + n))) else (-1000001, m)
theorem c_X8_feed {w n : Int} (ht : 0 ≤ m 279 5 ∧ m 279 5 ≤ 400) : az_CI sc 33 [.inr (.inr 280), .inr (.inl w), .inl n] m (pFeed m w n).1 (pFeed m w n).2 := by
  unfold pFeed
  by_cases hn : 1 ≤ n ∧ n ≤ 8
  · rw [if_pos hn]
    by_cases hl : 400 < m 279 5 + n
    · rw [if_pos hl]
      refine r_iload_n rfl ?_
      refine r_i2l ?_
      refine r_lconst1 ?_
      refine r_ldc2 ?_
      refine r_cS3I (by decide) (Nat.le_of_ble_eq_true rfl) (Nat.le_of_ble_eq_true rfl) (c_X8_in _ _ _) ?_
      refine r_if_ne kX8_feed_15 (fun c1 => ?_) (fun c1 => absurd c1 (by omega))
      refine r_aload_n rfl ?_
      refine r_getI g_279 ?_
      refine r_iload_n rfl ?_
      first | refine r_iadd (az_wid (by omega) (by omega)) ?_ | refine r_iaddw ?_
      refine r_sipush ?_
      refine r_icmp_le kX8_feed_30 (fun c2 => absurd c2 (by omega)) (fun c2 => ?_)
      refine r_ldcI ?_
      refine r_iret rfl ?_
      exact ⟨rfl, rfl⟩
    · rw [if_neg hl]
      refine r_iload_n rfl ?_
      refine r_i2l ?_
      refine r_lconst1 ?_
      refine r_ldc2 ?_
      refine r_cS3I (by decide) (Nat.le_of_ble_eq_true rfl) (Nat.le_of_ble_eq_true rfl) (c_X8_in _ _ _) ?_
      refine r_if_ne kX8_feed_15 (fun c1 => ?_) (fun c1 => absurd c1 (by omega))
      refine r_aload_n rfl ?_
      refine r_getI g_279 ?_
      refine r_iload_n rfl ?_
      first | refine r_iadd (az_wid (by omega) (by omega)) ?_ | refine r_iaddw ?_
      refine r_sipush ?_
      refine r_icmp_le kX8_feed_30 (fun c2 => ?_) (fun c2 => absurd c2 (by omega))
      refine r_iload_n rfl ?_
      refine r_iconst ?_
      first | refine r_isub (az_wid (by omega) (by omega)) ?_ | refine r_isubw ?_
      refine r_istore (Nat.le_of_ble_eq_true rfl) rfl ?_
      skip
      have e0 : m = az_up (az_set m 283 (m 283)) 279 5 (m 279 5) := by
        rw [az_s0]
        funext b j
        simp only [az_up]
        split
        · next h => rw [h.1, h.2]
        · rfl
      refine az_Em e0 ?_
      refine az_dwn (α := (Int → Int) × Int) (fun k _ => [some (.inr (.inr 280)), some (.inr (.inl (w))), none, some (.inl (n)), some (.inl (k))]) (fun x => az_up (az_set m 283 x.1) 279 5 x.2) (fun k x => x.1 = pFdT (m 283) w (m 279 5) n (n - 1 - k) ∧ x.2 = m 279 5 + (n - 1 - k)) (n - 1) (m 283, m 279 5) (by omega) ⟨by rw [Int.sub_self, pFdT_0], by dsimp only; omega⟩ (fun k x h0 h1 hp hK => ?_) (fun x hp => ?_)
      · obtain ⟨F, x⟩ := x
        obtain ⟨hp1, hp2⟩ := hp
        dsimp only at hp1 hp2 ⊢
        have hS := pFdT_S (m 283) w (m 279 5) n (k := n - 1 - k) (by omega)
        rw [← hp1, ← hp2, show n - 1 - (n - 1 - k) = k by omega] at hS
        have h5 : az_up (az_set m 283 F) 279 5 x 279 5 = x := az_up_at _ _ _ _
        have h6 : ∀ v, az_up (az_up (az_set m 283 F) 279 5 x) 283 x v 279 5 = x := fun v => (congrFun (az_up_b _ _ _ (by decide)) _).trans h5
        refine r_iload rfl ?_
        refine r_if_lt kX8_feed_77 (fun c1 => absurd c1 (by omega)) (fun c1 => ?_)
        refine r_aload_n rfl ?_
        refine r_getR g_279 rfl ?_
        refine r_aload_n rfl ?_
        refine r_getIx g_279 (h5) ?_
        refine r_lload_n rfl ?_
        refine r_bipush ?_
        refine r_iload rfl ?_
        first | refine r_imul (az_wid (by omega) (by omega)) ?_ | refine r_imulw ?_
        refine r_lshr rfl ?_
        refine r_ldc2 ?_
        refine r_land rfl ?_
        refine r_l2i ((rfl : _ = pByt w k)) ?_
        refine r_iast g_283 (by decide) (by omega) (by omega) ?_
        refine r_aload_n rfl ?_
        refine r_dupR ?_
        refine r_getIx g_279 (h6 _) ?_
        refine r_iconst ?_
        first | refine r_iadd (az_wid (by omega) (by omega)) ?_ | refine r_iaddw ?_
        refine r_putI g_279 (by decide) ?_
        refine r_iinc rfl (az_wid (by omega) (by omega)) rfl ?_
        refine r_goto kX8_feed_35 ?_
        refine az_Em ?_ (hK (up1 F x (pByt w k), x + 1) ⟨by dsimp only; rw [hS]; congr 1; omega, by dsimp only; omega⟩); dsimp only; rw [az_upc _ (by decide : (279 : Nat) ≠ 283), az_us, az_upup]
      · obtain ⟨F, x⟩ := x
        obtain ⟨hp1, hp2⟩ := hp
        dsimp only at hp1 hp2 ⊢
        rw [show n - 1 - -1 = n by omega] at hp1 hp2
        subst hp1 hp2
        refine r_iload rfl ?_
        refine r_if_lt kX8_feed_77 (fun c1 => ?_) (fun c1 => absurd c1 (by decide))
        refine r_aload_n rfl ?_
        refine r_getIx g_279 (az_up_at _ _ _ _) ?_
        refine r_iret rfl ?_
        exact ⟨rfl, rfl⟩
  · rw [if_neg hn]
    refine r_iload_n rfl ?_
    refine r_i2l ?_
    refine r_lconst1 ?_
    refine r_ldc2 ?_
    refine r_cS3I (by decide) (Nat.le_of_ble_eq_true rfl) (Nat.le_of_ble_eq_true rfl) (c_X8_in _ _ _) ?_
    refine r_if_ne kX8_feed_15 (fun c1 => absurd c1 (by omega)) (fun c1 => ?_)
    refine r_ldcI ?_
    refine r_iret rfl ?_
    exact ⟨rfl, rfl⟩
/-! the trace -/
def rNt (m : aM) (L x : Int) : aM := az_up (az_up m 288 L x) 279 13 (L + 1)
def rNtl (m : aM) : Int → List Int → aM
  | _, [] => m
  | L, x :: xs => rNtl (rNt m L x) (L + 1) xs
theorem rNt_13 (m : aM) (L x : Int) : rNt m L x 279 13 = L + 1 := az_up_at _ _ _ _
theorem rNt_284 (m : aM) (L x : Int) : rNt m L x 284 = m 284 := by
  unfold rNt
  rw [az_up_b _ _ _ (by decide), az_up_b _ _ _ (by decide)]
theorem l_X8_lv1 {B u : Int} (h0 : 0 ≤ u ∧ u ≤ 1000000) (h : u * 100 ≤ B) (K : az_E sc az_G 205 zX8_leave__2 [some (.inr (.inr 280)), some (.inr (.inl (B))), none, some (.inr (.inl (u * 100))), none, none, none] [] m Q) : az_E sc az_G 205 zX8_leave__2 [some (.inr (.inr 280)), some (.inr (.inl (B))), none, some (.inr (.inl (u))), none, none, none] [] m Q := by
  have hc := az_cmp_b (u * 100) B
  refine r_lload_n rfl ?_
  refine r_ldc2 ?_
  first | refine r_lmul (az_wlid (by omega) (by omega)) ?_ | refine r_lmul rfl ?_
  refine r_lload_n rfl ?_
  refine r_lcmp ?_
  refine r_if_gt kX8_leave__21 (fun c1 => absurd c1 (by omega)) (fun c1 => ?_)
  refine r_lload_n rfl ?_
  refine r_ldc2 ?_
  first | refine r_lmul (az_wlid (by omega) (by omega)) ?_ | refine r_lmul rfl ?_
  refine r_lstore_n (Nat.le_of_ble_eq_true rfl) rfl ?_
  refine r_goto kX8_leave__2 ?_
  exact K
theorem l_X8_lv2 {B u : Int} (h0 : 0 ≤ u ∧ u ≤ 1000000) (h : B < u * 100) (K : az_E sc az_G 205 zX8_leave__24 [some (.inr (.inr 280)), some (.inr (.inl (B))), none, some (.inr (.inl (u))), none, some (.inr (.inl (B))), none] [] m Q) : az_E sc az_G 205 zX8_leave__2 [some (.inr (.inr 280)), some (.inr (.inl (B))), none, some (.inr (.inl (u))), none, none, none] [] m Q := by
  have hc := az_cmp_b (u * 100) B
  refine r_lload_n rfl ?_
  refine r_ldc2 ?_
  first | refine r_lmul (az_wlid (by omega) (by omega)) ?_ | refine r_lmul rfl ?_
  refine r_lload_n rfl ?_
  refine r_lcmp ?_
  refine r_if_gt kX8_leave__21 (fun c1 => ?_) (fun c1 => absurd c1 (by omega))
  refine r_lload_n rfl ?_
  refine r_lstore (Nat.le_of_ble_eq_true rfl) rfl ?_
  exact K
theorem l_X8_lv3 {B u l L q r v : Int} (hL : m 279 13 = L) (hLb : 0 ≤ L ∧ L < 16) (h0 : 0 < u) (hq : az_w (az_wl (l.tdiv u)) = q) (hr : l.tmod u = r) (hv : az_wl (u.tdiv 100) = v) (K : az_E sc az_G 205 zX8_leave__24 [some (.inr (.inr 280)), some (.inr (.inl (B))), none, some (.inr (.inl (v))), none, some (.inr (.inl (r))), none] [] (rNt m L q) Q) : az_E sc az_G 205 zX8_leave__24 [some (.inr (.inr 280)), some (.inr (.inl (B))), none, some (.inr (.inl (u))), none, some (.inr (.inl (l))), none] [] m Q := by
  have hc := az_cmp_b u 0
  have hL2 : az_up m 288 L q 279 13 = L := (congrFun (az_up_b _ _ _ (by decide)) _).trans hL
  refine r_lload_n rfl ?_
  refine r_lconst0 ?_
  refine r_lcmp ?_
  refine r_if_le kX8_leave__69 (fun c1 => absurd c1 (by omega)) (fun c1 => ?_)
  refine r_aload_n rfl ?_
  refine r_getR g_279 rfl ?_
  refine r_aload_n rfl ?_
  refine r_getIx g_279 (hL) ?_
  refine r_lload rfl ?_
  refine r_lload_n rfl ?_
  refine r_ldiv (by omega) ((rfl : _ = az_wl (l.tdiv u))) ?_
  refine r_l2i (hq) ?_
  refine r_iast g_288 (by decide) (by omega) (by omega) ?_
  refine r_lload rfl ?_
  refine r_lload_n rfl ?_
  refine r_lrem (by omega) (hr) ?_
  refine r_lstore (Nat.le_of_ble_eq_true rfl) rfl ?_
  refine r_aload_n rfl ?_
  refine r_dupR ?_
  refine r_getIx g_279 (hL2) ?_
  refine r_iconst ?_
  first | refine r_iadd (az_wid (by omega) (by omega)) ?_ | refine r_iaddw ?_
  refine r_putI g_279 (by decide) ?_
  refine r_lload_n rfl ?_
  refine r_ldc2 ?_
  refine r_ldiv (by omega) (hv) ?_
  refine r_lstore_n (Nat.le_of_ble_eq_true rfl) rfl ?_
  refine r_goto kX8_leave__24 ?_
  exact K
theorem l_X8_lv4 {B l : Int} (K : Q none m) : az_E sc az_G 205 zX8_leave__24 [some (.inr (.inr 280)), some (.inr (.inl (B))), none, some (.inr (.inl (0))), none, some (.inr (.inl (l))), none] [] m Q := by
  have hc := az_cmp_b 0 0
  refine r_lload_n rfl ?_
  refine r_lconst0 ?_
  refine r_lcmp ?_
  refine r_if_le kX8_leave__69 (fun c1 => ?_) (fun c1 => absurd c1 (by omega))
  refine r_vret rfl ?_
  exact K
theorem c_X8_lv2 (B L x y : Int) (hL : m 279 13 = L) (hLb : 0 ≤ L ∧ L < 10) (hx : az_w (az_wl (B.tdiv 100)) = x) (hy : az_w (az_wl ((B.tmod 100).tdiv 1)) = y) (h1 : 100 ≤ B) (h2 : B < 10000) : az_CV sc 205 [.inr (.inr 280), .inr (.inl B)] m (rNtl m L [x, y]) := by
  refine r_lconst1 ?_
  refine r_lstore_n (Nat.le_of_ble_eq_true rfl) rfl ?_
  skip
  refine l_X8_lv1 (by decide) (by omega) ?_
  refine l_X8_lv2 (by decide) (by omega) ?_
  refine l_X8_lv3 hL (by omega) (by decide) hx rfl rfl ?_
  refine l_X8_lv3 (rNt_13 _ _ _) (by omega) (by decide) hy rfl rfl ?_
  refine l_X8_lv4 ⟨rfl, rfl⟩
theorem c_X8_lv3 (B L x y z : Int) (hL : m 279 13 = L) (hLb : 0 ≤ L ∧ L < 10) (hx : az_w (az_wl (B.tdiv 10000)) = x) (hy : az_w (az_wl ((B.tmod 10000).tdiv 100)) = y) (hz : az_w (az_wl (((B.tmod 10000).tmod 100).tdiv 1)) = z) (h1 : 10000 ≤ B) (h2 : B < 1000000) : az_CV sc 205 [.inr (.inr 280), .inr (.inl B)] m (rNtl m L [x, y, z]) := by
  refine r_lconst1 ?_
  refine r_lstore_n (Nat.le_of_ble_eq_true rfl) rfl ?_
  skip
  refine l_X8_lv1 (by decide) (by omega) ?_
  refine l_X8_lv1 (by decide) (by omega) ?_
  refine l_X8_lv2 (by decide) (by omega) ?_
  refine l_X8_lv3 hL (by omega) (by decide) hx rfl rfl ?_
  refine l_X8_lv3 (rNt_13 _ _ _) (by omega) (by decide) hy rfl rfl ?_
  refine l_X8_lv3 (rNt_13 _ _ _) (by omega) (by decide) hz rfl rfl ?_
  refine l_X8_lv4 ⟨rfl, rfl⟩
def pMkV (f : Int → Int) (g : Int) : Int := if f (12 + g) = 2 then 2 * (g + f (28 + g)) else if f (12 + g) = 3 then g + f (28 + g) - 1000 else g + f (28 + g)
def pMkL (k : Int) : List Int := if k = 2 then [24, 21, 20] else if k = 3 then [22, 21, 20] else [21, 20]
theorem c_X8_mark {g L : Int} (hf : m 284 = f) (hN : nOK f) (h0 : 0 ≤ g) (h1 : g < f 2) (hL : m 279 13 = L) (hLb : 0 ≤ L ∧ L < 10) : az_CI sc 206 [.inr (.inr 280), .inl g] m (pMkV f g) (rNtl m L (pMkL (f (12 + g)))) := by
  have hn := nOK_2 hN
  have hG := nOK_g hN g h0 h1
  unfold pMkL pMkV
  by_cases h2 : f (12 + g) = 2
  · rw [if_pos h2, if_pos h2]
    refine r_aload_n rfl ?_
    refine r_getR g_279 rfl ?_
    refine r_bipush ?_
    refine r_iload_n rfl ?_
    first | refine r_iadd (az_wid (by omega) (by omega)) ?_ | refine r_iaddw ?_
    refine r_ialdx g_284 rfl (by omega) (by omega) (by omega) (congrFun hf _) ?_
    refine r_istore_n (Nat.le_of_ble_eq_true rfl) rfl ?_
    refine r_iload_n rfl ?_
    refine r_aload_n rfl ?_
    refine r_getR g_279 rfl ?_
    refine r_bipush ?_
    refine r_iload_n rfl ?_
    first | refine r_iadd (az_wid (by omega) (by omega)) ?_ | refine r_iaddw ?_
    refine r_ialdx g_284 rfl (by omega) (by omega) (by omega) (congrFun hf _) ?_
    first | refine r_iadd (az_wid (by omega) (by omega)) ?_ | refine r_iaddw ?_
    refine r_istore_n (Nat.le_of_ble_eq_true rfl) rfl ?_
    refine r_aload_n rfl ?_
    refine r_iload_n rfl ?_
    refine r_iconst ?_
    refine r_icmp_ne kX8_mark_34 (fun c1 => absurd c1 (by omega)) (fun c1 => ?_)
    refine r_ldc2 ?_
    refine r_goto kX8_mark_48 ?_
    refine r_cV2V g_279 rfl (Nat.le_of_ble_eq_true rfl) (Nat.le_of_ble_eq_true rfl) (c_X8_lv3 _ _ _ _ _ hL hLb rfl rfl rfl (by decide) (by decide)) ?_
    refine r_iload_n rfl ?_
    refine r_iconst ?_
    refine r_icmp_ne kX8_mark_62 (fun c2 => absurd c2 (by omega)) (fun c2 => ?_)
    refine r_iconst ?_
    refine r_iload_n rfl ?_
    first | refine r_imul (az_wid (by omega) (by omega)) ?_ | refine r_imulw ?_
    refine r_goto kX8_mark_76 ?_
    refine r_iret rfl ?_
    exact ⟨rfl, rfl⟩
  · rw [if_neg h2, if_neg h2]
    by_cases h3 : f (12 + g) = 3
    · rw [if_pos h3, if_pos h3]
      refine r_aload_n rfl ?_
      refine r_getR g_279 rfl ?_
      refine r_bipush ?_
      refine r_iload_n rfl ?_
      first | refine r_iadd (az_wid (by omega) (by omega)) ?_ | refine r_iaddw ?_
      refine r_ialdx g_284 rfl (by omega) (by omega) (by omega) (congrFun hf _) ?_
      refine r_istore_n (Nat.le_of_ble_eq_true rfl) rfl ?_
      refine r_iload_n rfl ?_
      refine r_aload_n rfl ?_
      refine r_getR g_279 rfl ?_
      refine r_bipush ?_
      refine r_iload_n rfl ?_
      first | refine r_iadd (az_wid (by omega) (by omega)) ?_ | refine r_iaddw ?_
      refine r_ialdx g_284 rfl (by omega) (by omega) (by omega) (congrFun hf _) ?_
      first | refine r_iadd (az_wid (by omega) (by omega)) ?_ | refine r_iaddw ?_
      refine r_istore_n (Nat.le_of_ble_eq_true rfl) rfl ?_
      refine r_aload_n rfl ?_
      refine r_iload_n rfl ?_
      refine r_iconst ?_
      refine r_icmp_ne kX8_mark_34 (fun c1 => ?_) (fun c1 => absurd c1 (by omega))
      refine r_iload_n rfl ?_
      refine r_iconst ?_
      refine r_icmp_ne kX8_mark_45 (fun c2 => absurd c2 (by omega)) (fun c2 => ?_)
      refine r_ldc2 ?_
      refine r_goto kX8_mark_48 ?_
      refine r_cV2V g_279 rfl (Nat.le_of_ble_eq_true rfl) (Nat.le_of_ble_eq_true rfl) (c_X8_lv3 _ _ _ _ _ hL hLb rfl rfl rfl (by decide) (by decide)) ?_
      refine r_iload_n rfl ?_
      refine r_iconst ?_
      refine r_icmp_ne kX8_mark_62 (fun c3 => ?_) (fun c3 => absurd c3 (by omega))
      refine r_iload_n rfl ?_
      refine r_iconst ?_
      refine r_icmp_ne kX8_mark_75 (fun c4 => absurd c4 (by omega)) (fun c4 => ?_)
      refine r_iload_n rfl ?_
      refine r_sipush ?_
      first | refine r_isub (az_wid (by omega) (by omega)) ?_ | refine r_isubw ?_
      refine r_goto kX8_mark_76 ?_
      refine r_iret rfl ?_
      exact ⟨rfl, rfl⟩
    · rw [if_neg h3, if_neg h3]
      refine r_aload_n rfl ?_
      refine r_getR g_279 rfl ?_
      refine r_bipush ?_
      refine r_iload_n rfl ?_
      first | refine r_iadd (az_wid (by omega) (by omega)) ?_ | refine r_iaddw ?_
      refine r_ialdx g_284 rfl (by omega) (by omega) (by omega) (congrFun hf _) ?_
      refine r_istore_n (Nat.le_of_ble_eq_true rfl) rfl ?_
      refine r_iload_n rfl ?_
      refine r_aload_n rfl ?_
      refine r_getR g_279 rfl ?_
      refine r_bipush ?_
      refine r_iload_n rfl ?_
      first | refine r_iadd (az_wid (by omega) (by omega)) ?_ | refine r_iaddw ?_
      refine r_ialdx g_284 rfl (by omega) (by omega) (by omega) (congrFun hf _) ?_
      first | refine r_iadd (az_wid (by omega) (by omega)) ?_ | refine r_iaddw ?_
      refine r_istore_n (Nat.le_of_ble_eq_true rfl) rfl ?_
      refine r_aload_n rfl ?_
      refine r_iload_n rfl ?_
      refine r_iconst ?_
      refine r_icmp_ne kX8_mark_34 (fun c1 => ?_) (fun c1 => absurd c1 (by omega))
      refine r_iload_n rfl ?_
      refine r_iconst ?_
      refine r_icmp_ne kX8_mark_45 (fun c2 => ?_) (fun c2 => absurd c2 (by omega))
      refine r_ldc2 ?_
      refine r_cV2V g_279 rfl (Nat.le_of_ble_eq_true rfl) (Nat.le_of_ble_eq_true rfl) (c_X8_lv2 _ _ _ _ hL hLb rfl rfl (by decide) (by decide)) ?_
      refine r_iload_n rfl ?_
      refine r_iconst ?_
      refine r_icmp_ne kX8_mark_62 (fun c3 => ?_) (fun c3 => absurd c3 (by omega))
      refine r_iload_n rfl ?_
      refine r_iconst ?_
      refine r_icmp_ne kX8_mark_75 (fun c4 => ?_) (fun c4 => absurd c4 (by omega))
      refine r_iload_n rfl ?_
      refine r_iret rfl ?_
      exact ⟨rfl, rfl⟩
def pSzV (f : Int → Int) (g : Int) : Int := if f (12 + g) = 5 then 2 * (f (24 + g) - 100) else f (24 + g) - 100
def pSzL (k : Int) : List Int := if k = 5 then [14, 13, 10] else [13, 10]
theorem c_X8_sizeOf {g L : Int} (hf : m 284 = f) (hN : nOK f) (h0 : 0 ≤ g) (h1 : g < f 2) (hL : m 279 13 = L) (hLb : 0 ≤ L ∧ L < 10) : az_CI sc 207 [.inr (.inr 280), .inl g] m (pSzV f g) (rNtl m L (pSzL (f (12 + g)))) := by
  have hn := nOK_2 hN
  have hG := nOK_g hN g h0 h1
  unfold pSzL pSzV
  by_cases h2 : f (12 + g) = 5
  · rw [if_pos h2, if_pos h2]
    refine r_aload_n rfl ?_
    refine r_getR g_279 rfl ?_
    refine r_bipush ?_
    refine r_iload_n rfl ?_
    first | refine r_iadd (az_wid (by omega) (by omega)) ?_ | refine r_iaddw ?_
    refine r_ialdx g_284 rfl (by omega) (by omega) (by omega) (congrFun hf _) ?_
    refine r_bipush ?_
    first | refine r_isub (az_wid (by omega) (by omega)) ?_ | refine r_isubw ?_
    refine r_istore_n (Nat.le_of_ble_eq_true rfl) rfl ?_
    refine r_aload_n rfl ?_
    refine r_getR g_279 rfl ?_
    refine r_bipush ?_
    refine r_iload_n rfl ?_
    first | refine r_iadd (az_wid (by omega) (by omega)) ?_ | refine r_iaddw ?_
    refine r_ialdx g_284 rfl (by omega) (by omega) (by omega) (congrFun hf _) ?_
    refine r_iconst ?_
    refine r_icmp_ne kX8_sizeOf_30 (fun c1 => absurd c1 (by omega)) (fun c1 => ?_)
    refine r_iconst ?_
    refine r_goto kX8_sizeOf_31 ?_
    refine r_istore_n (Nat.le_of_ble_eq_true rfl) rfl ?_
    refine r_aload_n rfl ?_
    refine r_iload_n rfl ?_
    refine r_if_eq kX8_sizeOf_43 (fun c2 => absurd c2 (by decide)) (fun c2 => ?_)
    refine r_ldc2 ?_
    refine r_goto kX8_sizeOf_46 ?_
    refine r_cV2V g_279 rfl (Nat.le_of_ble_eq_true rfl) (Nat.le_of_ble_eq_true rfl) (c_X8_lv3 _ _ _ _ _ hL hLb rfl rfl rfl (by decide) (by decide)) ?_
    refine r_iload_n rfl ?_
    refine r_if_eq kX8_sizeOf_59 (fun c3 => absurd c3 (by decide)) (fun c3 => ?_)
    refine r_iconst ?_
    refine r_iload_n rfl ?_
    first | refine r_imul (az_wid (by omega) (by omega)) ?_ | refine r_imulw ?_
    refine r_goto kX8_sizeOf_60 ?_
    refine r_iret rfl ?_
    exact ⟨rfl, rfl⟩
  · rw [if_neg h2, if_neg h2]
    refine r_aload_n rfl ?_
    refine r_getR g_279 rfl ?_
    refine r_bipush ?_
    refine r_iload_n rfl ?_
    first | refine r_iadd (az_wid (by omega) (by omega)) ?_ | refine r_iaddw ?_
    refine r_ialdx g_284 rfl (by omega) (by omega) (by omega) (congrFun hf _) ?_
    refine r_bipush ?_
    first | refine r_isub (az_wid (by omega) (by omega)) ?_ | refine r_isubw ?_
    refine r_istore_n (Nat.le_of_ble_eq_true rfl) rfl ?_
    refine r_aload_n rfl ?_
    refine r_getR g_279 rfl ?_
    refine r_bipush ?_
    refine r_iload_n rfl ?_
    first | refine r_iadd (az_wid (by omega) (by omega)) ?_ | refine r_iaddw ?_
    refine r_ialdx g_284 rfl (by omega) (by omega) (by omega) (congrFun hf _) ?_
    refine r_iconst ?_
    refine r_icmp_ne kX8_sizeOf_30 (fun c1 => ?_) (fun c1 => absurd c1 (by omega))
    refine r_iconst ?_
    refine r_istore_n (Nat.le_of_ble_eq_true rfl) rfl ?_
    refine r_aload_n rfl ?_
    refine r_iload_n rfl ?_
    refine r_if_eq kX8_sizeOf_43 (fun c2 => ?_) (fun c2 => absurd c2 (by decide))
    refine r_ldc2 ?_
    refine r_cV2V g_279 rfl (Nat.le_of_ble_eq_true rfl) (Nat.le_of_ble_eq_true rfl) (c_X8_lv2 _ _ _ _ hL hLb rfl rfl (by decide) (by decide)) ?_
    refine r_iload_n rfl ?_
    refine r_if_eq kX8_sizeOf_59 (fun c3 => ?_) (fun c3 => absurd c3 (by decide))
    refine r_iload_n rfl ?_
    refine r_iret rfl ?_
    exact ⟨rfl, rfl⟩
theorem rNtl_app (m : aM) : ∀ (xs ys : List Int) (L : Int), rNtl m L (xs ++ ys) = rNtl (rNtl m L xs) (L + xs.length) ys := by
  intro xs
  induction xs generalizing m with
  | nil => intro ys L; simp [rNtl]
  | cons x xs ih =>
    intro ys L
    show rNtl (rNt m L x) (L + 1) (xs ++ ys) = rNtl (rNtl (rNt m L x) (L + 1) xs) (L + ((x :: xs).length : Nat)) ys
    rw [ih]
    congr 1
    simp
    omega
theorem rNtl_284 (m : aM) : ∀ (xs : List Int) (L : Int), rNtl m L xs 284 = m 284 := by
  intro xs
  induction xs generalizing m with
  | nil => intro L; rfl
  | cons x xs ih =>
    intro L
    show rNtl (rNt m L x) (L + 1) xs 284 = _
    rw [ih, rNt_284]
theorem rNtl_13 (m : aM) : ∀ (xs : List Int) (L : Int), m 279 13 = L → rNtl m L xs 279 13 = L + xs.length := by
  intro xs
  induction xs generalizing m with
  | nil => intro L h; simp [rNtl, h]
  | cons x xs ih =>
    intro L h
    show rNtl (rNt m L x) (L + 1) xs 279 13 = _
    rw [ih _ (L + 1) (rNt_13 m L x)]
    simp
    omega
def pAskV (f : Int → Int) (g w : Int) : Int := if f (12 + g) < 4 then (if w = 1 then pMkV f g else if f (12 + g) = 2 then -(f (24 + g) + pMkV f g) else f (24 + g) + pMkV f g) else if w = 0 then pSzV f g else g - pSzV f g
def pAskL (k w : Int) : List Int := if k < 4 then (if w = 1 then pMkL k else (if k = 2 then [12, 11, 10] else [11, 10]) ++ pMkL k) else if w = 0 then pSzL k else [23, 20] ++ pSzL k
def pAsk (m : aM) (g w : Int) : Int × aM := if (0 ≤ g ∧ g ≤ m 284 2 - 1) ∧ (0 ≤ w ∧ w ≤ 1) then (pAskV (m 284) g w, rNtl (az_up m 279 13 0) 0 (pAskL (m 284 (12 + g)) w)) else (-1000001, m)
theorem c_X8_ask {g w : Int} (hN : nOK (m 284)) : az_CI sc 208 [.inr (.inr 280), .inl g, .inl w] m (pAsk m g w).1 (pAsk m g w).2 := by
  have hn := nOK_2 hN
  have hf : m 284 = m 284 := rfl
  unfold pAsk
  by_cases hg : (0 ≤ g ∧ g ≤ m 284 2 - 1) ∧ (0 ≤ w ∧ w ≤ 1)
  · rw [if_pos hg]
    have hG := nOK_g hN g hg.1.1 (by omega)
    have hf0 : az_up m 279 13 0 284 = m 284 := az_up_b _ _ _ (by decide)
    have hL0 : az_up m 279 13 0 279 13 = 0 := az_up_at _ _ _ _
    have hmk : -2000 ≤ pMkV (m 284) g ∧ pMkV (m 284) g ≤ 30000 := by
      unfold pMkV
      (repeat' split) <;> omega
    have hsz : -2000 ≤ pSzV (m 284) g ∧ pSzV (m 284) g ≤ 30000 := by
      unfold pSzV
      (repeat' split) <;> omega
    unfold pAskV pAskL
    by_cases h4 : m 284 (12 + g) < 4
    · rw [if_pos h4, if_pos h4]
      by_cases hw : w = 1
      · rw [if_pos hw, if_pos hw]
        refine r_aload_n rfl ?_
        refine r_iload_n rfl ?_
        refine r_cV2I g_279 rfl (Nat.le_of_ble_eq_true rfl) (Nat.le_of_ble_eq_true rfl) (c_X8_isGuest2 rfl hn) ?_
        refine r_if_eq kX8_ask_18 (fun c1 => absurd c1 (by omega)) (fun c1 => ?_)
        refine r_iload_n rfl ?_
        refine r_i2l ?_
        refine r_lconst0 ?_
        refine r_lconst1 ?_
        refine r_cS3I (by decide) (Nat.le_of_ble_eq_true rfl) (Nat.le_of_ble_eq_true rfl) (c_X8_in _ _ _) ?_
        refine r_if_ne kX8_ask_21 (fun c2 => ?_) (fun c2 => absurd c2 (by omega))
        refine r_aload_n rfl ?_
        refine r_iconst ?_
        refine r_putI g_279 (by decide) ?_
        refine r_aload_n rfl ?_
        refine r_getR g_279 rfl ?_
        refine r_bipush ?_
        refine r_iload_n rfl ?_
        first | refine r_iadd (az_wid (by omega) (by omega)) ?_ | refine r_iaddw ?_
        refine r_ialdx g_284 rfl (by omega) (by omega) (by omega) (congrFun hf0 _) ?_
        refine r_istore_n (Nat.le_of_ble_eq_true rfl) rfl ?_
        refine r_iload_n rfl ?_
        refine r_iconst ?_
        refine r_icmp_ge kX8_ask_101 (fun c3 => absurd c3 (by omega)) (fun c3 => ?_)
        refine r_iload_n rfl ?_
        refine r_iconst ?_
        refine r_icmp_ne kX8_ask_52 (fun c4 => absurd c4 (by omega)) (fun c4 => ?_)
        refine r_aload_n rfl ?_
        refine r_iload_n rfl ?_
        refine r_cV2I g_279 rfl (Nat.le_of_ble_eq_true rfl) (Nat.le_of_ble_eq_true rfl) (c_X8_mark hf0 hN hg.1.1 (by omega) hL0 (by decide)) ?_
        refine r_iret rfl ?_
        exact ⟨rfl, rfl⟩
      · rw [if_neg hw, if_neg hw]
        have H : ∀ (u : List Int) (B : Int), az_CV sc 205 [.inr (.inr 280), .inr (.inl B)] (az_up m 279 13 0) (rNtl (az_up m 279 13 0) 0 u) → u = (if m 284 (12 + g) = 2 then [12, 11, 10] else [11, 10]) → az_E sc az_G 208 zX8_ask_67 [some (.inr (.inr 280)), some (.inl (g)), some (.inl (w)), some (.inl (m 284 (12 + g))), none] [.inr (.inl B), .inr (.inr 280)] (az_up m 279 13 0) (fun v m' => v = some (.inl (if m 284 (12 + g) = 2 then -(m 284 (24 + g) + pMkV (m 284) g) else m 284 (24 + g) + pMkV (m 284) g)) ∧ m' = rNtl (az_up m 279 13 0) 0 (u ++ pMkL (m 284 (12 + g)))) := by
          intro u B hB hu
          have hf2 : rNtl (az_up m 279 13 0) 0 u 284 = m 284 := (rNtl_284 _ _ _).trans hf0
          have hul : (u.length : Int) ≤ 3 := by
            rw [hu]
            split <;> decide
          have hL2 : rNtl (az_up m 279 13 0) 0 u 279 13 = 0 + u.length := rNtl_13 _ _ _ hL0
          rw [rNtl_app]
          refine r_cV2V g_279 rfl (Nat.le_of_ble_eq_true rfl) (Nat.le_of_ble_eq_true rfl) (hB) ?_
          refine r_aload_n rfl ?_
          refine r_getR g_279 rfl ?_
          refine r_bipush ?_
          refine r_iload_n rfl ?_
          first | refine r_iadd (az_wid (by omega) (by omega)) ?_ | refine r_iaddw ?_
          refine r_ialdx g_284 rfl (by omega) (by omega) (by omega) (congrFun hf2 _) ?_
          refine r_aload_n rfl ?_
          refine r_iload_n rfl ?_
          refine r_cV2I g_279 rfl (Nat.le_of_ble_eq_true rfl) (Nat.le_of_ble_eq_true rfl) (c_X8_mark hf2 hN hg.1.1 (by omega) hL2 (by omega)) ?_
          first | refine r_iadd (az_wid (by omega) (by omega)) ?_ | refine r_iaddw ?_
          refine r_istore (Nat.le_of_ble_eq_true rfl) rfl ?_
          refine r_iload_n rfl ?_
          refine r_iconst ?_
          refine r_icmp_ne kX8_ask_98 (fun c1 => ?_) (fun c1 => ?_)
          · refine r_iload rfl ?_
            refine r_iret rfl ?_
            refine ⟨az_oI ?_, rfl⟩; first | rw [if_neg (by omega)] | rw [if_pos (by omega)]
          · refine r_iload rfl ?_
            first | refine r_ineg (az_wid (by omega) (by omega)) ?_ | refine r_ineg rfl ?_
            refine r_goto kX8_ask_100 ?_
            refine r_iret rfl ?_
            refine ⟨az_oI ?_, rfl⟩; first | rw [if_neg (by omega)] | rw [if_pos (by omega)]
        have H2 : m 284 (12 + g) = 2 → az_CV sc 205 [.inr (.inr 280), .inr (.inl 121110)] (az_up m 279 13 0) (rNtl (az_up m 279 13 0) 0 [12, 11, 10]) := fun _ => c_X8_lv3 _ _ _ _ _ hL0 (by decide) rfl rfl rfl (by decide) (by decide)
        have H3 : m 284 (12 + g) ≠ 2 → az_CV sc 205 [.inr (.inr 280), .inr (.inl 1110)] (az_up m 279 13 0) (rNtl (az_up m 279 13 0) 0 [11, 10]) := fun _ => c_X8_lv2 _ _ _ _ hL0 (by decide) rfl rfl (by decide) (by decide)
        by_cases h2 : m 284 (12 + g) = 2
        · have H4 := H _ _ (H2 h2) (by rw [if_pos h2])
          rw [if_pos h2] at H4
          rw [if_pos h2, if_pos h2]
          refine r_aload_n rfl ?_
          refine r_iload_n rfl ?_
          refine r_cV2I g_279 rfl (Nat.le_of_ble_eq_true rfl) (Nat.le_of_ble_eq_true rfl) (c_X8_isGuest2 rfl hn) ?_
          refine r_if_eq kX8_ask_18 (fun c1 => absurd c1 (by omega)) (fun c1 => ?_)
          refine r_iload_n rfl ?_
          refine r_i2l ?_
          refine r_lconst0 ?_
          refine r_lconst1 ?_
          refine r_cS3I (by decide) (Nat.le_of_ble_eq_true rfl) (Nat.le_of_ble_eq_true rfl) (c_X8_in _ _ _) ?_
          refine r_if_ne kX8_ask_21 (fun c2 => ?_) (fun c2 => absurd c2 (by omega))
          refine r_aload_n rfl ?_
          refine r_iconst ?_
          refine r_putI g_279 (by decide) ?_
          refine r_aload_n rfl ?_
          refine r_getR g_279 rfl ?_
          refine r_bipush ?_
          refine r_iload_n rfl ?_
          first | refine r_iadd (az_wid (by omega) (by omega)) ?_ | refine r_iaddw ?_
          refine r_ialdx g_284 rfl (by omega) (by omega) (by omega) (congrFun hf0 _) ?_
          refine r_istore_n (Nat.le_of_ble_eq_true rfl) rfl ?_
          refine r_iload_n rfl ?_
          refine r_iconst ?_
          refine r_icmp_ge kX8_ask_101 (fun c3 => absurd c3 (by omega)) (fun c3 => ?_)
          refine r_iload_n rfl ?_
          refine r_iconst ?_
          refine r_icmp_ne kX8_ask_52 (fun c4 => ?_) (fun c4 => absurd c4 (by omega))
          refine r_aload_n rfl ?_
          refine r_iload_n rfl ?_
          refine r_iconst ?_
          refine r_icmp_ne kX8_ask_64 (fun c5 => absurd c5 (by omega)) (fun c5 => ?_)
          refine r_ldc2 ?_
          refine r_goto kX8_ask_67 ?_
          exact H4
        · have H4 := H _ _ (H3 h2) (by rw [if_neg h2])
          rw [if_neg h2] at H4
          rw [if_neg h2, if_neg h2]
          refine r_aload_n rfl ?_
          refine r_iload_n rfl ?_
          refine r_cV2I g_279 rfl (Nat.le_of_ble_eq_true rfl) (Nat.le_of_ble_eq_true rfl) (c_X8_isGuest2 rfl hn) ?_
          refine r_if_eq kX8_ask_18 (fun c1 => absurd c1 (by omega)) (fun c1 => ?_)
          refine r_iload_n rfl ?_
          refine r_i2l ?_
          refine r_lconst0 ?_
          refine r_lconst1 ?_
          refine r_cS3I (by decide) (Nat.le_of_ble_eq_true rfl) (Nat.le_of_ble_eq_true rfl) (c_X8_in _ _ _) ?_
          refine r_if_ne kX8_ask_21 (fun c2 => ?_) (fun c2 => absurd c2 (by omega))
          refine r_aload_n rfl ?_
          refine r_iconst ?_
          refine r_putI g_279 (by decide) ?_
          refine r_aload_n rfl ?_
          refine r_getR g_279 rfl ?_
          refine r_bipush ?_
          refine r_iload_n rfl ?_
          first | refine r_iadd (az_wid (by omega) (by omega)) ?_ | refine r_iaddw ?_
          refine r_ialdx g_284 rfl (by omega) (by omega) (by omega) (congrFun hf0 _) ?_
          refine r_istore_n (Nat.le_of_ble_eq_true rfl) rfl ?_
          refine r_iload_n rfl ?_
          refine r_iconst ?_
          refine r_icmp_ge kX8_ask_101 (fun c3 => absurd c3 (by omega)) (fun c3 => ?_)
          refine r_iload_n rfl ?_
          refine r_iconst ?_
          refine r_icmp_ne kX8_ask_52 (fun c4 => ?_) (fun c4 => absurd c4 (by omega))
          refine r_aload_n rfl ?_
          refine r_iload_n rfl ?_
          refine r_iconst ?_
          refine r_icmp_ne kX8_ask_64 (fun c5 => ?_) (fun c5 => absurd c5 (by omega))
          refine r_ldc2 ?_
          exact H4
    · rw [if_neg h4, if_neg h4]
      by_cases hw : w = 0
      · rw [if_pos hw, if_pos hw]
        refine r_aload_n rfl ?_
        refine r_iload_n rfl ?_
        refine r_cV2I g_279 rfl (Nat.le_of_ble_eq_true rfl) (Nat.le_of_ble_eq_true rfl) (c_X8_isGuest2 rfl hn) ?_
        refine r_if_eq kX8_ask_18 (fun c1 => absurd c1 (by omega)) (fun c1 => ?_)
        refine r_iload_n rfl ?_
        refine r_i2l ?_
        refine r_lconst0 ?_
        refine r_lconst1 ?_
        refine r_cS3I (by decide) (Nat.le_of_ble_eq_true rfl) (Nat.le_of_ble_eq_true rfl) (c_X8_in _ _ _) ?_
        refine r_if_ne kX8_ask_21 (fun c2 => ?_) (fun c2 => absurd c2 (by omega))
        refine r_aload_n rfl ?_
        refine r_iconst ?_
        refine r_putI g_279 (by decide) ?_
        refine r_aload_n rfl ?_
        refine r_getR g_279 rfl ?_
        refine r_bipush ?_
        refine r_iload_n rfl ?_
        first | refine r_iadd (az_wid (by omega) (by omega)) ?_ | refine r_iaddw ?_
        refine r_ialdx g_284 rfl (by omega) (by omega) (by omega) (congrFun hf0 _) ?_
        refine r_istore_n (Nat.le_of_ble_eq_true rfl) rfl ?_
        refine r_iload_n rfl ?_
        refine r_iconst ?_
        refine r_icmp_ge kX8_ask_101 (fun c3 => ?_) (fun c3 => absurd c3 (by omega))
        refine r_iload_n rfl ?_
        refine r_if_ne kX8_ask_111 (fun c4 => absurd c4 (by omega)) (fun c4 => ?_)
        refine r_aload_n rfl ?_
        refine r_iload_n rfl ?_
        refine r_cV2I g_279 rfl (Nat.le_of_ble_eq_true rfl) (Nat.le_of_ble_eq_true rfl) (c_X8_sizeOf hf0 hN hg.1.1 (by omega) hL0 (by decide)) ?_
        refine r_iret rfl ?_
        exact ⟨rfl, rfl⟩
      · rw [if_neg hw, if_neg hw]
        have hf2 : rNtl (az_up m 279 13 0) 0 [23, 20] 284 = m 284 := (rNtl_284 _ _ _).trans hf0
        have hL2 : rNtl (az_up m 279 13 0) 0 [23, 20] 279 13 = 2 := rNtl_13 _ [23, 20] _ hL0
        rw [rNtl_app]
        refine r_aload_n rfl ?_
        refine r_iload_n rfl ?_
        refine r_cV2I g_279 rfl (Nat.le_of_ble_eq_true rfl) (Nat.le_of_ble_eq_true rfl) (c_X8_isGuest2 rfl hn) ?_
        refine r_if_eq kX8_ask_18 (fun c1 => absurd c1 (by omega)) (fun c1 => ?_)
        refine r_iload_n rfl ?_
        refine r_i2l ?_
        refine r_lconst0 ?_
        refine r_lconst1 ?_
        refine r_cS3I (by decide) (Nat.le_of_ble_eq_true rfl) (Nat.le_of_ble_eq_true rfl) (c_X8_in _ _ _) ?_
        refine r_if_ne kX8_ask_21 (fun c2 => ?_) (fun c2 => absurd c2 (by omega))
        refine r_aload_n rfl ?_
        refine r_iconst ?_
        refine r_putI g_279 (by decide) ?_
        refine r_aload_n rfl ?_
        refine r_getR g_279 rfl ?_
        refine r_bipush ?_
        refine r_iload_n rfl ?_
        first | refine r_iadd (az_wid (by omega) (by omega)) ?_ | refine r_iaddw ?_
        refine r_ialdx g_284 rfl (by omega) (by omega) (by omega) (congrFun hf0 _) ?_
        refine r_istore_n (Nat.le_of_ble_eq_true rfl) rfl ?_
        refine r_iload_n rfl ?_
        refine r_iconst ?_
        refine r_icmp_ge kX8_ask_101 (fun c3 => ?_) (fun c3 => absurd c3 (by omega))
        refine r_iload_n rfl ?_
        refine r_if_ne kX8_ask_111 (fun c4 => ?_) (fun c4 => absurd c4 (by omega))
        refine r_aload_n rfl ?_
        refine r_ldc2 ?_
        refine r_cV2V g_279 rfl (Nat.le_of_ble_eq_true rfl) (Nat.le_of_ble_eq_true rfl) (c_X8_lv2 _ _ _ _ hL0 (by decide) rfl rfl (by decide) (by decide)) ?_
        refine r_iload_n rfl ?_
        refine r_aload_n rfl ?_
        refine r_iload_n rfl ?_
        refine r_cV2I g_279 rfl (Nat.le_of_ble_eq_true rfl) (Nat.le_of_ble_eq_true rfl) (c_X8_sizeOf hf2 hN hg.1.1 (by omega) hL2 (by decide)) ?_
        first | refine r_isub (az_wid (by omega) (by omega)) ?_ | refine r_isubw ?_
        refine r_iret rfl ?_
        exact ⟨rfl, rfl⟩
  · rw [if_neg hg]
    refine r_aload_n rfl ?_
    refine r_iload_n rfl ?_
    refine r_cV2I g_279 rfl (Nat.le_of_ble_eq_true rfl) (Nat.le_of_ble_eq_true rfl) (c_X8_isGuest2 rfl hn) ?_
    refine r_if_eq kX8_ask_18 (fun c1 => ?_) (fun c1 => ?_)
    · refine r_ldcI ?_
      refine r_iret rfl ?_
      exact ⟨rfl, rfl⟩
    · refine r_iload_n rfl ?_
      refine r_i2l ?_
      refine r_lconst0 ?_
      refine r_lconst1 ?_
      refine r_cS3I (by decide) (Nat.le_of_ble_eq_true rfl) (Nat.le_of_ble_eq_true rfl) (c_X8_in _ _ _) ?_
      refine r_if_ne kX8_ask_21 (fun c2 => absurd c2 (by omega)) (fun c2 => ?_)
      refine r_ldcI ?_
      refine r_iret rfl ?_
      exact ⟨rfl, rfl⟩
end RL
