/-! THE REFERENCE: kinds, debts, images, acts -/
section R3
variable {sc : aX} {m : aM} {Q : Option aV → aM → Prop}
def pIsOf (own kind : Int) : Int := if kind = 0 ∨ own = kind ∨ (kind = 1 ∧ (own = 2 ∨ own = 3)) ∨ (kind = 4 ∧ own = 5) then 1 else 0
theorem c_X8_isOf (own kind : Int) : az_CI sc 186 [.inl own, .inl kind] m (pIsOf own kind) m := by
  refine r_iload_n rfl ?_
  refine r_if_eq kX8_isOf_34 (fun c1 => ?_) (fun c1 => ?_)
  · refine r_iconst ?_
    refine r_goto kX8_isOf_39 ?_
    refine r_zret rfl (by omega) ?_
    unfold pIsOf; (repeat' split) <;> first | exact ⟨rfl, rfl⟩ | (exfalso; omega)
  · refine r_iload_n rfl ?_
    refine r_iload_n rfl ?_
    refine r_icmp_eq kX8_isOf_34 (fun c2 => ?_) (fun c2 => ?_)
    · refine r_iconst ?_
      refine r_goto kX8_isOf_39 ?_
      refine r_zret rfl (by omega) ?_
      unfold pIsOf; (repeat' split) <;> first | exact ⟨rfl, rfl⟩ | (exfalso; omega)
    · refine r_iload_n rfl ?_
      refine r_iconst ?_
      refine r_icmp_ne kX8_isOf_24 (fun c3 => ?_) (fun c3 => ?_)
      · refine r_iload_n rfl ?_
        refine r_iconst ?_
        refine r_icmp_ne kX8_isOf_38 (fun c4 => ?_) (fun c4 => ?_)
        · refine r_iconst ?_
          refine r_zret rfl (by omega) ?_
          unfold pIsOf; (repeat' split) <;> first | exact ⟨rfl, rfl⟩ | (exfalso; omega)
        · refine r_iload_n rfl ?_
          refine r_iconst ?_
          refine r_icmp_ne kX8_isOf_38 (fun c5 => ?_) (fun c5 => ?_)
          · refine r_iconst ?_
            refine r_zret rfl (by omega) ?_
            unfold pIsOf; (repeat' split) <;> first | exact ⟨rfl, rfl⟩ | (exfalso; omega)
          · refine r_iconst ?_
            refine r_goto kX8_isOf_39 ?_
            refine r_zret rfl (by omega) ?_
            unfold pIsOf; (repeat' split) <;> first | exact ⟨rfl, rfl⟩ | (exfalso; omega)
      · refine r_iload_n rfl ?_
        refine r_iconst ?_
        refine r_icmp_eq kX8_isOf_34 (fun c6 => ?_) (fun c6 => ?_)
        · refine r_iconst ?_
          refine r_goto kX8_isOf_39 ?_
          refine r_zret rfl (by omega) ?_
          unfold pIsOf; (repeat' split) <;> first | exact ⟨rfl, rfl⟩ | (exfalso; omega)
        · refine r_iload_n rfl ?_
          refine r_iconst ?_
          refine r_icmp_eq kX8_isOf_34 (fun c7 => ?_) (fun c7 => ?_)
          · refine r_iconst ?_
            refine r_goto kX8_isOf_39 ?_
            refine r_zret rfl (by omega) ?_
            unfold pIsOf; (repeat' split) <;> first | exact ⟨rfl, rfl⟩ | (exfalso; omega)
          · refine r_iload_n rfl ?_
            refine r_iconst ?_
            refine r_icmp_ne kX8_isOf_38 (fun c8 => ?_) (fun c8 => ?_)
            · refine r_iconst ?_
              refine r_zret rfl (by omega) ?_
              unfold pIsOf; (repeat' split) <;> first | exact ⟨rfl, rfl⟩ | (exfalso; omega)
            · refine r_iload_n rfl ?_
              refine r_iconst ?_
              refine r_icmp_ne kX8_isOf_38 (fun c9 => ?_) (fun c9 => ?_)
              · refine r_iconst ?_
                refine r_zret rfl (by omega) ?_
                unfold pIsOf; (repeat' split) <;> first | exact ⟨rfl, rfl⟩ | (exfalso; omega)
              · refine r_iconst ?_
                refine r_goto kX8_isOf_39 ?_
                refine r_zret rfl (by omega) ?_
                unfold pIsOf; (repeat' split) <;> first | exact ⟨rfl, rfl⟩ | (exfalso; omega)
def pAs (m : aM) (g kind : Int) : Int × aM := if (0 ≤ g ∧ g ≤ m 284 2 - 1) ∧ (0 ≤ kind ∧ kind ≤ 5) then (if pIsOf (m 284 (12 + g)) kind = 0 then (-1000013, az_up m 279 3 3) else (g, az_up m 279 3 0)) else (-1000001, m)
theorem c_X8_as (g kind : Int) (hN : 0 ≤ m 284 2 ∧ m 284 2 ≤ 4) : az_CI sc 187 [.inr (.inr 280), .inl g, .inl kind] m (pAs m g kind).1 (pAs m g kind).2 := by
  refine r_aload_n rfl ?_
  refine r_iload_n rfl ?_
  refine r_cV2I g_279 rfl (Nat.le_of_ble_eq_true rfl) (Nat.le_of_ble_eq_true rfl) (c_X8_isGuest _ hN) ?_
  refine r_if_eq kX8_as_20 (fun c1 => ?_) (fun c1 => ?_)
  · refine r_ldcI ?_
    refine r_iret rfl ?_
    unfold pAs; (repeat' split) <;> first | exact ⟨rfl, rfl⟩ | (exfalso; omega)
  · refine r_iload_n rfl ?_
    refine r_i2l ?_
    refine r_lconst0 ?_
    refine r_ldc2 ?_
    refine r_cS3I (by decide) (Nat.le_of_ble_eq_true rfl) (Nat.le_of_ble_eq_true rfl) (c_X8_in _ _ _) ?_
    refine r_if_ne kX8_as_23 (fun c2 => ?_) (fun c2 => ?_)
    · refine r_aload_n rfl ?_
      refine r_getR g_279 rfl ?_
      refine r_bipush ?_
      refine r_iload_n rfl ?_
      first | refine r_iadd (az_wid (by omega) (by omega)) ?_ | refine r_iaddw ?_
      refine r_iald g_284 rfl (by omega) (by omega) (by omega) ?_
      refine r_iload_n rfl ?_
      refine r_cS2I (by decide) (Nat.le_of_ble_eq_true rfl) (Nat.le_of_ble_eq_true rfl) (c_X8_isOf _ _) ?_
      refine r_if_eq kX8_as_47 (fun c3 => ?_) (fun c3 => ?_)
      · refine r_aload_n rfl ?_
        refine r_iconst ?_
        refine r_cV2I g_279 rfl (Nat.le_of_ble_eq_true rfl) (Nat.le_of_ble_eq_true rfl) (c_X8_found _) ?_
        refine r_iret rfl ?_
        unfold pAs; (repeat' split) <;> first | exact ⟨rfl, rfl⟩ | (exfalso; omega)
      · refine r_aload_n rfl ?_
        refine r_iload_n rfl ?_
        refine r_cV2I g_279 rfl (Nat.le_of_ble_eq_true rfl) (Nat.le_of_ble_eq_true rfl) (c_X8_well _) ?_
        refine r_goto kX8_as_52 ?_
        refine r_iret rfl ?_
        unfold pAs; (repeat' split) <;> first | exact ⟨rfl, rfl⟩ | (exfalso; omega)
    · refine r_ldcI ?_
      refine r_iret rfl ?_
      unfold pAs; (repeat' split) <;> first | exact ⟨rfl, rfl⟩ | (exfalso; omega)
def pLeast (v : Int) : Int := if v < 9999 then v else 9999
theorem c_X8_least (v : Int) : az_CI sc 119 [.inl v] m (pLeast v) m := by
  refine r_iload_n rfl ?_
  refine r_sipush ?_
  refine r_icmp_ge kX8_least_11 (fun c1 => ?_) (fun c1 => ?_)
  · refine r_sipush ?_
    refine r_iret rfl ?_
    unfold pLeast; (repeat' split) <;> first | exact ⟨rfl, rfl⟩ | (exfalso; omega)
  · refine r_iload_n rfl ?_
    refine r_goto kX8_least_14 ?_
    refine r_iret rfl ?_
    unfold pLeast; (repeat' split) <;> first | exact ⟨rfl, rfl⟩ | (exfalso; omega)
theorem az_fold_cp (m : aM) {a d : Nat} (had : a ≠ d) (i j : Int) : ∀ (k : Nat) (g : Int), 0 ≤ g → az_fold (fun k mm => az_up mm d (j + k) (mm a (i + k))) k g (az_cp m a i d j g) = az_cp m a i d j (g + k)
  | 0, g, _ => by simp [az_fold]
  | k + 1, g, hg => by
    show az_fold _ k (g + 1) (az_up (az_cp m a i d j g) d (j + g) (az_cp m a i d j g a (i + g))) = _
    have e : az_up (az_cp m a i d j g) d (j + g) (az_cp m a i d j g a (i + g)) = az_cp m a i d j (g + 1) := by
      funext b x
      simp only [az_up, az_cp, had, false_and, if_false]
      by_cases hb : b = d
      · subst hb
        by_cases hx : x = j + g
        · subst hx
          rw [if_pos ⟨rfl, rfl⟩, if_pos ⟨rfl, by omega, by omega⟩]
          congr 1
          omega
        · rw [if_neg (fun q => hx q.2)]
          by_cases h2 : j ≤ x ∧ x < j + g
          · rw [if_pos ⟨rfl, h2.1, h2.2⟩, if_pos ⟨rfl, by omega, by omega⟩]
          · rw [if_neg (fun q => h2 q.2), if_neg (by omega)]
      · rw [if_neg (fun q => hb q.1), if_neg (fun q => hb q.1), if_neg (fun q => hb q.1)]
    rw [e, az_fold_cp m had i j k (g + 1) (by omega)]
    congr 1
    omega
theorem az_cp_0 (m : aM) (a d : Nat) (i j : Int) : az_cp m a i d j 0 = m := by
  funext b x
  simp only [az_cp]
  rw [if_neg (by omega)]
theorem l_X8_copies {a d na nd : Nat} {ra rd : List Nat} (hA_0 : az_G[a]? = some (20, na, ra)) (hD_0 : az_G[d]? = some (20, nd, rd)) (ha : 19 ≤ a) (hd : 19 ≤ d) (had : a ≠ d) (i j : Int) (hi : 0 ≤ i ∧ i + 44 ≤ na ∧ i ≤ 10000) (hj : 0 ≤ j ∧ j + 44 ≤ nd ∧ j ≤ 10000) : az_CV sc 75 [.inr (.inr (a + 1)), .inl i, .inr (.inr (d + 1)), .inl j] m (az_cp m a i d j 44) := by
  refine r_iconst ?_
  refine r_istore (Nat.le_of_ble_eq_true rfl) rfl ?_
  refine az_for0 (α := aM) (fun k _ => [some (.inr (.inr (a + 1))), some (.inl i), some (.inr (.inr (d + 1))), some (.inl j), some (.inl k)]) (fun a => a) (fun k mm => az_up mm d (j + k) (mm a (i + k))) (fun k _ => 0 ≤ k) 44 _ (by decide) (by decide) (fun k mm hk hp => ⟨by omega, fun hK => ?_⟩) (fun hp => ?_)
  · refine r_iload rfl ?_
    refine r_bipush ?_
    refine r_icmp_ge kX8_copies_28 (fun c1 => absurd c1 (by omega)) (fun c1 => ?_)
    refine r_aload_n rfl ?_
    refine r_iload_n rfl ?_
    refine r_iload rfl ?_
    first | refine r_iadd (az_wid (by omega) (by omega)) ?_ | refine r_iaddw ?_
    refine r_aload_n rfl ?_
    refine r_iload_n rfl ?_
    refine r_iload rfl ?_
    first | refine r_iadd (az_wid (by omega) (by omega)) ?_ | refine r_iaddw ?_
    refine r_iald hA_0 rfl (by omega) (by omega) (by omega) ?_
    refine r_iast hD_0 (by omega) (by omega) (by omega) ?_
    refine r_iinc rfl (az_wid (by omega) (by omega)) rfl ?_
    refine r_goto kX8_copies_3 ?_
    exact hK
  · refine r_iload rfl ?_
    refine r_bipush ?_
    refine r_icmp_ge kX8_copies_28 (fun c1 => ?_) (fun c1 => absurd c1 (by omega))
    refine r_vret rfl ?_
    refine ⟨rfl, ?_⟩; have := az_fold_cp m had i j 44 0 (by decide); rw [az_cp_0] at this; exact this
theorem l_X8_owes (g n d0 : Int) (hn : 0 ≤ n ∧ n ≤ 60) (hd0 : 0 ≤ d0 ∧ d0 ≤ 9999) (K : az_E sc az_G 177 zX8_owes_58 [some (.inr (.inr 280)), some (.inl g), some (.inl n), some (.inl (az_fold (fun _ d => pLeast (d + d / 10)) n.toNat 0 d0)), some (.inl n)] [] m Q) : az_E sc az_G 177 zX8_owes_36 [some (.inr (.inr 280)), some (.inl g), some (.inl n), some (.inl d0), some (.inl 0)] [] m Q := by
  have h10 : ∀ d : Int, 0 ≤ d → d.tdiv 10 = d / 10 := fun d hd => Int.tdiv_eq_ediv_of_nonneg hd
  refine az_for0 (α := Int) (fun k d => [some (.inr (.inr 280)), some (.inl g), some (.inl n), some (.inl d), some (.inl k)]) (fun _ => m) (fun _ d => pLeast (d + d / 10)) (fun k d => 0 ≤ k ∧ 0 ≤ d ∧ d ≤ 9999) n _ (by omega) ⟨by decide, hd0⟩ (fun k d hk hp => ⟨⟨by omega, by unfold pLeast; split <;> omega⟩, fun hK => ?_⟩) (fun hp => ?_)
  · refine r_iload rfl ?_
    refine r_iload_n rfl ?_
    refine r_icmp_ge kX8_owes_58 (fun c1 => absurd c1 (by omega)) (fun c1 => ?_)
    refine r_iload_n rfl ?_
    refine r_iload_n rfl ?_
    refine r_bipush ?_
    first | refine r_idiv (by omega) (az_divn (by omega) (by omega) (by omega)) ?_ | refine r_idiv (by omega) rfl ?_
    first | refine r_iadd (az_wid (by omega) (by omega)) ?_ | refine r_iaddw ?_
    refine r_cS1I (by decide) (Nat.le_of_ble_eq_true rfl) (Nat.le_of_ble_eq_true rfl) (c_X8_least _) ?_
    refine r_istore_n (Nat.le_of_ble_eq_true rfl) rfl ?_
    refine r_iinc rfl (az_wid (by omega) (by omega)) rfl ?_
    refine r_goto kX8_owes_36 ?_
    exact hK
  · refine r_iload rfl ?_
    refine r_iload_n rfl ?_
    refine r_icmp_ge kX8_owes_58 (fun c1 => ?_) (fun c1 => absurd c1 (by omega))
    exact K
theorem c_X8_owes (g n : Int) (hN : 0 ≤ m 284 2 ∧ m 284 2 ≤ 4) (hD : ∀ g, 0 ≤ g → g < m 284 2 → 0 ≤ m 284 (28 + g) ∧ m 284 (28 + g) ≤ 9999) : az_CI sc 177 [.inr (.inr 280), .inl g, .inl n] m (if (0 ≤ g ∧ g ≤ m 284 2 - 1) ∧ (0 ≤ n ∧ n ≤ 60) then az_fold (fun _ d => pLeast (d + d / 10)) n.toNat 0 (m 284 (28 + g)) else -1000001) m := by
  have hD2 : (0 ≤ g ∧ g ≤ m 284 2 - 1) → 0 ≤ m 284 (28 + g) ∧ m 284 (28 + g) ≤ 9999 := fun h => hD g h.1 (by omega)
  refine r_aload_n rfl ?_
  refine r_iload_n rfl ?_
  refine r_cV2I g_279 rfl (Nat.le_of_ble_eq_true rfl) (Nat.le_of_ble_eq_true rfl) (c_X8_isGuest _ hN) ?_
  refine r_if_eq kX8_owes_20 (fun c1 => ?_) (fun c1 => ?_)
  · refine r_ldcI ?_
    refine r_iret rfl ?_
    (repeat' split) <;> first | exact ⟨rfl, rfl⟩ | (exfalso; omega)
  · refine r_iload_n rfl ?_
    refine r_i2l ?_
    refine r_lconst0 ?_
    refine r_ldc2 ?_
    refine r_cS3I (by decide) (Nat.le_of_ble_eq_true rfl) (Nat.le_of_ble_eq_true rfl) (c_X8_in _ _ _) ?_
    refine r_if_ne kX8_owes_23 (fun c2 => ?_) (fun c2 => ?_)
    · refine r_aload_n rfl ?_
      refine r_getR g_279 rfl ?_
      refine r_bipush ?_
      refine r_iload_n rfl ?_
      first | refine r_iadd (az_wid (by omega) (by omega)) ?_ | refine r_iaddw ?_
      refine r_iald g_284 rfl (by omega) (by omega) (by omega) ?_
      refine r_istore_n (Nat.le_of_ble_eq_true rfl) rfl ?_
      refine r_iconst ?_
      refine r_istore (Nat.le_of_ble_eq_true rfl) rfl ?_
      refine l_X8_owes g n _ (by omega) (hD2 (by omega)) ?_
      refine r_iload_n rfl ?_
      refine r_iret rfl ?_
      (repeat' split) <;> first | exact ⟨rfl, rfl⟩ | (exfalso; omega)
    · refine r_ldcI ?_
      refine r_iret rfl ?_
      (repeat' split) <;> first | exact ⟨rfl, rfl⟩ | (exfalso; omega)
end R3
