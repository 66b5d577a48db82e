/-! THE CLASS: rows -/
section CA
variable {sc : aX} {m : aM} {f t c : Int → Int} {sp : Int} {Q : Option aV → aM → Prop}
theorem c_X7_isOneOf (i n : Int) : az_CI sc 9 [.inl i, .inl n] m (if 0 ≤ i ∧ i < n then 1 else 0) m := by
  refine r_iload_n rfl ?_
  refine r_if_lt kX7_isOneOf_13 (fun c1 => ?_) (fun c1 => ?_)
  · refine r_iconst ?_
    refine r_zret rfl (by omega) ?_
    refine ⟨?_, rfl⟩; first | rw [if_pos (by omega)] | rw [if_neg (by omega)]
  · refine r_iload_n rfl ?_
    refine r_iload_n rfl ?_
    refine r_icmp_ge kX7_isOneOf_13 (fun c2 => ?_) (fun c2 => ?_)
    · refine r_iconst ?_
      refine r_zret rfl (by omega) ?_
      refine ⟨?_, rfl⟩; first | rw [if_pos (by omega)] | rw [if_neg (by omega)]
    · refine r_iconst ?_
      refine r_goto kX7_isOneOf_14 ?_
      refine r_zret rfl (by omega) ?_
      refine ⟨?_, rfl⟩; first | rw [if_pos (by omega)] | rw [if_neg (by omega)]
theorem c_X7_isRow (i : Int) : az_CI sc 10 [.inl i] m (if 0 ≤ i ∧ i < 8 then 1 else 0) m := by
  refine r_iload_n rfl ?_
  refine r_bipush ?_
  refine r_cS2I (by decide) (Nat.le_of_ble_eq_true rfl) (Nat.le_of_ble_eq_true rfl) (c_X7_isOneOf _ _) ?_
  refine r_zret rfl (by omega) ?_
  exact ⟨rfl, rfl⟩
theorem c_X7_isHour (i : Int) : az_CI sc 91 [.inl i] m (if 0 ≤ i ∧ i < 6 then 1 else 0) m := by
  refine r_iload_n rfl ?_
  refine r_bipush ?_
  refine r_cS2I (by decide) (Nat.le_of_ble_eq_true rfl) (Nat.le_of_ble_eq_true rfl) (c_X7_isOneOf _ _) ?_
  refine r_zret rfl (by omega) ?_
  exact ⟨rfl, rfl⟩
theorem c_X7_find (w : Int) : az_CI sc 11 [.inr (.inr 20), .inl w] m (az_w (-1000010 - w)) (az_up m 19 9 w) := by
  refine r_aload_n rfl ?_
  refine r_iload_n rfl ?_
  refine r_putI g_19 (by decide) ?_
  refine r_ldcw ?_
  refine r_iload_n rfl ?_
  first | refine r_isub (az_wid (by omega) (by omega)) ?_ | refine r_isubw ?_
  refine r_iret rfl ?_
  exact ⟨rfl, rfl⟩
theorem c_X7_answer (w : Int) : az_CI sc 13 [.inr (.inr 20), .inl w] m w (az_up m 19 9 0) := by
  refine r_aload_n rfl ?_
  refine r_iconst ?_
  refine r_putI g_19 (by decide) ?_
  refine r_iload_n rfl ?_
  refine r_iret rfl ?_
  exact ⟨rfl, rfl⟩
theorem c_X7_bit (i b : Int) : az_CI sc 80 [.inl i, .inl b] m (pBit b i) m := by
  refine r_iload_n rfl ?_
  refine r_iload_n rfl ?_
  refine r_ishr rfl ?_
  refine r_iconst ?_
  refine r_iand rfl ?_
  refine r_iret rfl ?_
  exact ⟨rfl, rfl⟩
theorem c_X7_isIn (i b : Int) : az_CI sc 81 [.inl i, .inl b] m (pBit b i) m := by
  have h := pBit_01 b i
  refine r_iload_n rfl ?_
  refine r_iload_n rfl ?_
  refine r_cS2I (by decide) (Nat.le_of_ble_eq_true rfl) (Nat.le_of_ble_eq_true rfl) (c_X7_bit _ _) ?_
  refine r_iconst ?_
  refine r_icmp_ne kX7_isIn_13 (fun c1 => ?_) (fun c1 => ?_)
  · refine r_iconst ?_
    refine r_zret rfl (by omega) ?_
    exact ⟨az_oI (by omega), rfl⟩
  · refine r_iconst ?_
    refine r_goto kX7_isIn_14 ?_
    refine r_zret rfl (by omega) ?_
    exact ⟨az_oI (by omega), rfl⟩
/-- a row's cell -/
def rb (r : Int) : Nat := 247 + 2 * r.toNat
theorem rb_ref {r : Int} (h0 : 0 ≤ r) (h1 : r < 8) : ([248, 250, 252, 254, 256, 258, 260, 262] : List Nat).getD r.toNat 0 = rb r + 1 := by
  rcases (show r = 0 ∨ r = 1 ∨ r = 2 ∨ r = 3 ∨ r = 4 ∨ r = 5 ∨ r = 6 ∨ r = 7 by omega) with rfl | rfl | rfl | rfl | rfl | rfl | rfl | rfl <;> rfl
theorem rb_b {r : Int} (h0 : 0 ≤ r) (h1 : r < 8) : 247 ≤ rb r ∧ rb r ≤ 261 := by
  unfold rb
  omega
theorem rb_i {r q : Int} (h0 : 0 ≤ r) (h1 : 0 ≤ q) (h : r ≠ q) : rb r ≠ rb q ∧ rb r ≠ rb q + 1 ∧ rb r + 1 ≠ rb q := by
  unfold rb
  omega
theorem rb_0 {r : Int} (h0 : 0 ≤ r) (h1 : r < 8) : az_G[rb r]? = some (5, 3, [rb r + 2, 0, 0]) ∧ az_G[rb r + 1]? = some (20, 40, []) := by
  rcases (show r = 0 ∨ r = 1 ∨ r = 2 ∨ r = 3 ∨ r = 4 ∨ r = 5 ∨ r = 6 ∨ r = 7 by omega) with rfl | rfl | rfl | rfl | rfl | rfl | rfl | rfl
  · exact ⟨g_247, g_248⟩
  · exact ⟨g_249, g_250⟩
  · exact ⟨g_251, g_252⟩
  · exact ⟨g_253, g_254⟩
  · exact ⟨g_255, g_256⟩
  · exact ⟨g_257, g_258⟩
  · exact ⟨g_259, g_260⟩
  · exact ⟨g_261, g_262⟩
theorem c_X5_isMissing {b : Nat} (hb_0 : az_G[b]? = some (5, 3, [b + 2, 0, 0])) : az_CI sc 20 [.inr (.inr (b + 1))] m (if m b 1 = -1 then 1 else 0) m := by
  refine r_aload_n rfl ?_
  refine r_getI hb_0 ?_
  refine r_iconst ?_
  refine r_icmp_ne kX5_isMissing_12 (fun c1 => ?_) (fun c1 => ?_)
  · refine r_iconst ?_
    refine r_zret rfl (by omega) ?_
    refine ⟨?_, rfl⟩; first | rw [if_pos (by omega)] | rw [if_neg (by omega)]
  · refine r_iconst ?_
    refine r_goto kX5_isMissing_13 ?_
    refine r_zret rfl (by omega) ?_
    refine ⟨?_, rfl⟩; first | rw [if_pos (by omega)] | rw [if_neg (by omega)]
theorem c_X5_hasPlaces {b : Nat} (hb_0 : az_G[b]? = some (5, 3, [b + 2, 0, 0])) (i n : Int) (hs : 0 ≤ m b 2 ∧ m b 2 ≤ 40) : az_CI sc 21 [.inr (.inr (b + 1)), .inl i, .inl n] m (if 0 ≤ i ∧ 0 ≤ n ∧ i + n ≤ m b 2 then 1 else 0) m := by
  refine r_iload_n rfl ?_
  refine r_if_lt kX5_hasPlaces_30 (fun c1 => ?_) (fun c1 => ?_)
  · refine r_iconst ?_
    refine r_zret rfl (by omega) ?_
    refine ⟨?_, rfl⟩; first | rw [if_pos (by omega)] | rw [if_neg (by omega)]
  · refine r_iload_n rfl ?_
    refine r_if_lt kX5_hasPlaces_30 (fun c2 => ?_) (fun c2 => ?_)
    · refine r_iconst ?_
      refine r_zret rfl (by omega) ?_
      refine ⟨?_, rfl⟩; first | rw [if_pos (by omega)] | rw [if_neg (by omega)]
    · refine r_iload_n rfl ?_
      refine r_aload_n rfl ?_
      refine r_getI hb_0 ?_
      refine r_icmp_gt kX5_hasPlaces_30 (fun c3 => ?_) (fun c3 => ?_)
      · refine r_iconst ?_
        refine r_zret rfl (by omega) ?_
        refine ⟨?_, rfl⟩; first | rw [if_pos (by omega)] | rw [if_neg (by omega)]
      · refine r_iload_n rfl ?_
        refine r_aload_n rfl ?_
        refine r_getI hb_0 ?_
        refine r_iload_n rfl ?_
        first | refine r_isub (az_wid (by omega) (by omega)) ?_ | refine r_isubw ?_
        refine r_icmp_gt kX5_hasPlaces_30 (fun c4 => ?_) (fun c4 => ?_)
        · refine r_iconst ?_
          refine r_zret rfl (by omega) ?_
          refine ⟨?_, rfl⟩; first | rw [if_pos (by omega)] | rw [if_neg (by omega)]
        · refine r_iconst ?_
          refine r_goto kX5_hasPlaces_31 ?_
          refine r_zret rfl (by omega) ?_
          refine ⟨?_, rfl⟩; first | rw [if_pos (by omega)] | rw [if_neg (by omega)]
theorem c_X5_put {b : Nat} (hb_0 : az_G[b]? = some (5, 3, [b + 2, 0, 0])) (hb_1 : az_G[b + 1]? = some (20, 40, [])) (hb : 247 ≤ b) (i v : Int) (hi : 0 ≤ i ∧ i < 40) : az_CI sc 22 [.inr (.inr (b + 1)), .inl i, .inl v] m (pNar (m b 1) v) (az_up m (b + 1) i (pNar (m b 1) v)) := by
  unfold pNar
  refine r_aload_n rfl ?_
  refine r_getI hb_0 ?_
  refine r_if_ne kX5_put_18 (fun c1 => ?_) (fun c1 => ?_)
  · refine r_aload_n rfl ?_
    refine r_getI hb_0 ?_
    refine r_iconst ?_
    refine r_icmp_ne kX5_put_37 (fun c2 => ?_) (fun c2 => ?_)
    · refine r_aload_n rfl ?_
      refine r_getR hb_0 rfl ?_
      refine r_iload_n rfl ?_
      refine r_iload_n rfl ?_
      refine r_iast hb_1 (by omega) (by omega) (by omega) ?_
      refine r_aload_n rfl ?_
      refine r_getR hb_0 rfl ?_
      refine r_iload_n rfl ?_
      refine r_ialdx hb_1 rfl (by omega) (by omega) (by omega) (az_up_at _ _ _ _) ?_
      refine r_iret rfl ?_
      (repeat' split) <;> first | exact ⟨rfl, rfl⟩ | (exfalso; omega)
    · refine r_aload_n rfl ?_
      refine r_getR hb_0 rfl ?_
      refine r_iload_n rfl ?_
      refine r_iload_n rfl ?_
      refine r_i2s rfl ?_
      refine r_iast hb_1 (by omega) (by omega) (by omega) ?_
      refine r_goto kX5_put_44 ?_
      refine r_aload_n rfl ?_
      refine r_getR hb_0 rfl ?_
      refine r_iload_n rfl ?_
      refine r_ialdx hb_1 rfl (by omega) (by omega) (by omega) (az_up_at _ _ _ _) ?_
      refine r_iret rfl ?_
      (repeat' split) <;> first | exact ⟨rfl, rfl⟩ | (exfalso; omega)
  · refine r_aload_n rfl ?_
    refine r_getR hb_0 rfl ?_
    refine r_iload_n rfl ?_
    refine r_iload_n rfl ?_
    refine r_i2b rfl ?_
    refine r_iast hb_1 (by omega) (by omega) (by omega) ?_
    refine r_goto kX5_put_44 ?_
    refine r_aload_n rfl ?_
    refine r_getR hb_0 rfl ?_
    refine r_iload_n rfl ?_
    refine r_ialdx hb_1 rfl (by omega) (by omega) (by omega) (az_up_at _ _ _ _) ?_
    refine r_iret rfl ?_
    (repeat' split) <;> first | exact ⟨rfl, rfl⟩ | (exfalso; omega)
theorem c_X5_lose {b : Nat} (hb_0 : az_G[b]? = some (5, 3, [b + 2, 0, 0])) (hb : 247 ≤ b) : az_CV sc 27 [.inr (.inr (b + 1))] m (az_up (az_up m b 1 (-1)) b 2 0) := by
  refine r_aload_n rfl ?_
  refine r_iconst ?_
  refine r_putI hb_0 (by omega) ?_
  refine r_aload_n rfl ?_
  refine r_iconst ?_
  refine r_putI hb_0 (by omega) ?_
  refine r_vret rfl ?_
  exact ⟨rfl, rfl⟩
theorem c_X5_make {b : Nat} (hb_0 : az_G[b]? = some (5, 3, [b + 2, 0, 0])) (hb_1 : az_G[b + 1]? = some (20, 40, [])) (hb : 247 ≤ b) (l n : Int) (hn : 0 ≤ n ∧ n ≤ 40) : az_C sc az_G 12 [.inr (.inr (b + 1)), .inl l, .inl n] m (fun v m' => v = none ∧ ∃ F : Int → Int, m' = az_set (az_up (az_up m b 1 l) b 2 n) (b + 1) F ∧ ∀ i, 0 ≤ i → i < n → F i = 0) := by
  refine r_aload_n rfl ?_
  refine r_iload_n rfl ?_
  refine r_putI hb_0 (by omega) ?_
  refine r_aload_n rfl ?_
  refine r_iload_n rfl ?_
  refine r_putI hb_0 (by omega) ?_
  refine r_iconst ?_
  refine r_istore_n (Nat.le_of_ble_eq_true rfl) rfl ?_
  skip
  obtain ⟨m1, hm1⟩ : ∃ x, x = az_up (az_up m b 1 l) b 2 n := ⟨_, rfl⟩
  rw [← hm1]
  refine az_Em (az_s0 m1 (b + 1)).symm ?_
  refine az_lop (α := Int → Int) (fun i _ => [some (.inr (.inr (b + 1))), some (.inl (l)), some (.inl (n)), some (.inl (i))]) (fun a => az_set m1 (b + 1) a) (fun i a => ∀ j, 0 ≤ j → j < i → a j = 0) 0 n (m1 (b + 1)) hn.1 (fun j j0 j1 => by omega) (fun i a h0 h1 hp hK => ?_) (fun a hp => ?_)
  · refine r_iload_n rfl ?_
    refine r_iload_n rfl ?_
    refine r_icmp_ge kX5_make_30 (fun c1 => absurd c1 (by omega)) (fun c1 => ?_)
    refine r_aload_n rfl ?_
    refine r_getR hb_0 rfl ?_
    refine r_iload_n rfl ?_
    refine r_iconst ?_
    refine r_iast hb_1 (by omega) (by omega) (by omega) ?_
    refine r_iinc rfl (az_wid (by omega) (by omega)) rfl ?_
    refine r_goto kX5_make_12 ?_
    refine az_Em (az_us _ _ _ _ _) (hK (up1 a i 0) (fun j j0 j1 => up1_eq (fun _ => rfl) (fun e => hp j j0 (by omega))))
  · refine r_iload_n rfl ?_
    refine r_iload_n rfl ?_
    refine r_icmp_ge kX5_make_30 (fun c1 => ?_) (fun c1 => absurd c1 (by omega))
    refine r_vret rfl ?_
    exact ⟨rfl, a, rfl, hp⟩
/-- a row of the class, and of the reference -/
def rowP (m : aM) (r : Int) : Prop := (m 281 r < 0 ↔ m (rb r) 1 = -1) ∧ (0 ≤ m 281 r → m (rb r) 1 = m 280 r ∧ m (rb r) 2 = m 281 r ∧ ∀ i, 0 ≤ i → i < m 281 r → m (rb r + 1) i = m 282 (40 * r + i))
def iRow (m : aM) : Prop := pRowsOK m ∧ ∀ r, 0 ≤ r → r < 8 → rowP m r
theorem iRow_s {r : Int} (hI : iRow m) (h0 : 0 ≤ r) (h1 : r < 8) : (m 281 r < 0 ∧ m (rb r) 1 = -1) ∨ (0 ≤ m 281 r ∧ m (rb r) 1 ≠ -1 ∧ m (rb r) 1 = m 280 r ∧ m (rb r) 2 = m 281 r ∧ m 281 r ≤ 40 ∧ (0 ≤ m 280 r ∧ m 280 r ≤ 2)) := by
  have h := hI.2 r h0 h1
  have h2 := hI.1 r h0 (by omega)
  by_cases e : m 281 r < 0
  · exact Or.inl ⟨e, h.1.mp e⟩
  · have h3 := h.2 (by omega)
    exact Or.inr ⟨by omega, fun q => e (h.1.mpr q), h3.1, h3.2.1, h2.1.2, h2.2⟩
theorem c_X7_row (row lane n : Int) : az_C sc az_G 14 [.inr (.inr 20), .inl row, .inl lane, .inl n] m (fun v m' => (((0 ≤ row ∧ row ≤ 7) ∧ (0 ≤ lane ∧ lane ≤ 2) ∧ n ≤ 40) ∧ n < 0 ∧ v = some (.inl (-1000014)) ∧ m' = az_up m 19 9 4) ∨ (((0 ≤ row ∧ row ≤ 7) ∧ (0 ≤ lane ∧ lane ≤ 2) ∧ n ≤ 40) ∧ 0 ≤ n ∧ v = some (.inl n) ∧ ∃ F : Int → Int, m' = az_up (az_set (az_up (az_up m (rb row) 1 lane) (rb row) 2 n) (rb row + 1) F) 19 9 0 ∧ ∀ i, 0 ≤ i → i < n → F i = 0) ∨ (¬ ((0 ≤ row ∧ row ≤ 7) ∧ (0 ≤ lane ∧ lane ≤ 2) ∧ n ≤ 40) ∧ v = some (.inl (-1000001)) ∧ m' = m)) := by
  by_cases hc : (0 ≤ row ∧ row ≤ 7) ∧ (0 ≤ lane ∧ lane ≤ 2) ∧ n ≤ 40
  · by_cases hn : n < 0
    · refine r_iload_n rfl ?_
      refine r_cS1I (by decide) (Nat.le_of_ble_eq_true rfl) (Nat.le_of_ble_eq_true rfl) (c_X7_isRow _) ?_
      refine r_if_eq kX7_row_22 (fun c1 => absurd c1 (by omega)) (fun c1 => ?_)
      refine r_iload_n rfl ?_
      refine r_if_lt kX7_row_22 (fun c2 => absurd c2 (by omega)) (fun c2 => ?_)
      refine r_iload_n rfl ?_
      refine r_iconst ?_
      refine r_icmp_ge kX7_row_22 (fun c3 => absurd c3 (by omega)) (fun c3 => ?_)
      refine r_iload_n rfl ?_
      refine r_bipush ?_
      refine r_icmp_le kX7_row_25 (fun c4 => ?_) (fun c4 => absurd c4 (by omega))
      refine r_iload_n rfl ?_
      refine r_if_ge kX7_row_35 (fun c5 => absurd c5 (by omega)) (fun c5 => ?_)
      refine r_aload_n rfl ?_
      refine r_iconst ?_
      refine r_cV2I g_19 rfl (Nat.le_of_ble_eq_true rfl) (Nat.le_of_ble_eq_true rfl) (c_X7_find _) ?_
      refine r_iret rfl ?_
      exact Or.inl ⟨hc, hn, rfl, rfl⟩
    · have hrr := rb_ref hc.1.1 (show row < 8 by omega)
      obtain ⟨hR_0, hR_1⟩ := rb_0 hc.1.1 (show row < 8 by omega)
      have hrb := rb_b hc.1.1 (show row < 8 by omega)
      refine r_iload_n rfl ?_
      refine r_cS1I (by decide) (Nat.le_of_ble_eq_true rfl) (Nat.le_of_ble_eq_true rfl) (c_X7_isRow _) ?_
      refine r_if_eq kX7_row_22 (fun c1 => absurd c1 (by omega)) (fun c1 => ?_)
      refine r_iload_n rfl ?_
      refine r_if_lt kX7_row_22 (fun c2 => absurd c2 (by omega)) (fun c2 => ?_)
      refine r_iload_n rfl ?_
      refine r_iconst ?_
      refine r_icmp_ge kX7_row_22 (fun c3 => absurd c3 (by omega)) (fun c3 => ?_)
      refine r_iload_n rfl ?_
      refine r_bipush ?_
      refine r_icmp_le kX7_row_25 (fun c4 => ?_) (fun c4 => absurd c4 (by omega))
      refine r_iload_n rfl ?_
      refine r_if_ge kX7_row_35 (fun c5 => ?_) (fun c5 => absurd c5 (by omega))
      refine r_aload_n rfl ?_
      refine r_getR g_19 rfl ?_
      refine r_iload_n rfl ?_
      refine r_aald g_20 (by decide) (by omega) (by omega) (by assumption) ?_
      refine r_iload_n rfl ?_
      refine r_iload_n rfl ?_
      refine r_cV3 hR_0 rfl (Nat.le_of_ble_eq_true rfl) (Nat.le_of_ble_eq_true rfl) (c_X5_make hR_0 hR_1 hrb.1 lane n (by omega)) (fun v_ m_ hq_ => ?_)
      obtain ⟨rfl, F, rfl, hF⟩ := hq_
      refine r_aload_n rfl ?_
      refine r_iload_n rfl ?_
      refine r_cV2I g_19 rfl (Nat.le_of_ble_eq_true rfl) (Nat.le_of_ble_eq_true rfl) (c_X7_answer _) ?_
      refine r_iret rfl ?_
      exact Or.inr (Or.inl ⟨hc, by omega, rfl, F, rfl, hF⟩)
  · refine r_iload_n rfl ?_
    refine r_cS1I (by decide) (Nat.le_of_ble_eq_true rfl) (Nat.le_of_ble_eq_true rfl) (c_X7_isRow _) ?_
    refine r_if_eq kX7_row_22 (fun c1 => ?_) (fun c1 => ?_)
    · refine r_ldcI ?_
      refine r_iret rfl ?_
      exact Or.inr (Or.inr ⟨hc, rfl, rfl⟩)
    · refine r_iload_n rfl ?_
      refine r_if_lt kX7_row_22 (fun c2 => ?_) (fun c2 => ?_)
      · refine r_ldcI ?_
        refine r_iret rfl ?_
        exact Or.inr (Or.inr ⟨hc, rfl, rfl⟩)
      · refine r_iload_n rfl ?_
        refine r_iconst ?_
        refine r_icmp_ge kX7_row_22 (fun c3 => ?_) (fun c3 => ?_)
        · refine r_ldcI ?_
          refine r_iret rfl ?_
          exact Or.inr (Or.inr ⟨hc, rfl, rfl⟩)
        · refine r_iload_n rfl ?_
          refine r_bipush ?_
          refine r_icmp_le kX7_row_25 (fun c4 => absurd c4 (by omega)) (fun c4 => ?_)
          refine r_ldcI ?_
          refine r_iret rfl ?_
          exact Or.inr (Or.inr ⟨hc, rfl, rfl⟩)
theorem c_X7_set (row i v : Int) (hI : iRow m) (hi : -2147483648 ≤ i ∧ i < 2147483648) : az_CI sc 23 [.inr (.inr 20), .inl row, .inl i, .inl v] m (pSet m row i v).1 (if (0 ≤ row ∧ row ≤ 7) then (if m 281 row < 0 then az_up m 19 9 1 else if 0 ≤ i ∧ i ≤ m 281 row - 1 then az_up (az_up m (rb row + 1) i (pNar (m 280 row) v)) 19 9 0 else az_up m 19 9 2) else m) := by
  unfold pSet
  by_cases hr : 0 ≤ row ∧ row ≤ 7
  · rw [if_pos hr, if_pos hr]
    have hrr := rb_ref hr.1 (show row < 8 by omega)
    obtain ⟨hR_0, hR_1⟩ := rb_0 hr.1 (show row < 8 by omega)
    have hrb := rb_b hr.1 (show row < 8 by omega)
    rcases iRow_s hI hr.1 (show row < 8 by omega) with ⟨h1, h2⟩ | ⟨h1, h2, h3, h4, h5, h6⟩
    · rw [if_pos h1, if_pos h1]
      refine r_iload_n rfl ?_
      refine r_cS1I (by decide) (Nat.le_of_ble_eq_true rfl) (Nat.le_of_ble_eq_true rfl) (c_X7_isRow _) ?_
      refine r_if_ne kX7_set_10 (fun c1 => ?_) (fun c1 => absurd c1 (by omega))
      refine r_aload_n rfl ?_
      refine r_getR g_19 rfl ?_
      refine r_iload_n rfl ?_
      refine r_aald g_20 (by decide) (by omega) (by omega) (by assumption) ?_
      refine r_astore (Nat.le_of_ble_eq_true rfl) rfl ?_
      refine r_aload rfl ?_
      refine r_cV1I hR_0 rfl (Nat.le_of_ble_eq_true rfl) (Nat.le_of_ble_eq_true rfl) (c_X5_isMissing hR_0) ?_
      refine r_if_eq kX7_set_32 (fun c2 => absurd c2 (by omega)) (fun c2 => ?_)
      refine r_aload_n rfl ?_
      refine r_iconst ?_
      refine r_cV2I g_19 rfl (Nat.le_of_ble_eq_true rfl) (Nat.le_of_ble_eq_true rfl) (c_X7_find _) ?_
      refine r_iret rfl ?_
      exact ⟨rfl, rfl⟩
    · have hnn : ¬ m 281 row < 0 := by omega
      rw [if_neg hnn, if_neg hnn]
      by_cases hp : 0 ≤ i ∧ i ≤ m 281 row - 1
      · rw [if_pos hp, if_pos hp, ← h3]
        refine r_iload_n rfl ?_
        refine r_cS1I (by decide) (Nat.le_of_ble_eq_true rfl) (Nat.le_of_ble_eq_true rfl) (c_X7_isRow _) ?_
        refine r_if_ne kX7_set_10 (fun c1 => ?_) (fun c1 => absurd c1 (by omega))
        refine r_aload_n rfl ?_
        refine r_getR g_19 rfl ?_
        refine r_iload_n rfl ?_
        refine r_aald g_20 (by decide) (by omega) (by omega) (by assumption) ?_
        refine r_astore (Nat.le_of_ble_eq_true rfl) rfl ?_
        refine r_aload rfl ?_
        refine r_cV1I hR_0 rfl (Nat.le_of_ble_eq_true rfl) (Nat.le_of_ble_eq_true rfl) (c_X5_isMissing hR_0) ?_
        refine r_if_eq kX7_set_32 (fun c2 => ?_) (fun c2 => absurd c2 (by omega))
        refine r_aload rfl ?_
        refine r_iload_n rfl ?_
        refine r_iconst ?_
        refine r_cV3I hR_0 rfl (Nat.le_of_ble_eq_true rfl) (Nat.le_of_ble_eq_true rfl) (c_X5_hasPlaces hR_0 _ _ (by omega)) ?_
        refine r_if_ne kX7_set_48 (fun c3 => ?_) (fun c3 => absurd c3 (by omega))
        refine r_aload_n rfl ?_
        refine r_aload rfl ?_
        refine r_iload_n rfl ?_
        refine r_iload_n rfl ?_
        refine r_cV3I hR_0 rfl (Nat.le_of_ble_eq_true rfl) (Nat.le_of_ble_eq_true rfl) (c_X5_put hR_0 hR_1 hrb.1 _ _ (by omega)) ?_
        refine r_cV2I g_19 rfl (Nat.le_of_ble_eq_true rfl) (Nat.le_of_ble_eq_true rfl) (c_X7_answer _) ?_
        refine r_iret rfl ?_
        exact ⟨rfl, rfl⟩
      · rw [if_neg hp, if_neg hp]
        refine r_iload_n rfl ?_
        refine r_cS1I (by decide) (Nat.le_of_ble_eq_true rfl) (Nat.le_of_ble_eq_true rfl) (c_X7_isRow _) ?_
        refine r_if_ne kX7_set_10 (fun c1 => ?_) (fun c1 => absurd c1 (by omega))
        refine r_aload_n rfl ?_
        refine r_getR g_19 rfl ?_
        refine r_iload_n rfl ?_
        refine r_aald g_20 (by decide) (by omega) (by omega) (by assumption) ?_
        refine r_astore (Nat.le_of_ble_eq_true rfl) rfl ?_
        refine r_aload rfl ?_
        refine r_cV1I hR_0 rfl (Nat.le_of_ble_eq_true rfl) (Nat.le_of_ble_eq_true rfl) (c_X5_isMissing hR_0) ?_
        refine r_if_eq kX7_set_32 (fun c2 => ?_) (fun c2 => absurd c2 (by omega))
        refine r_aload rfl ?_
        refine r_iload_n rfl ?_
        refine r_iconst ?_
        refine r_cV3I hR_0 rfl (Nat.le_of_ble_eq_true rfl) (Nat.le_of_ble_eq_true rfl) (c_X5_hasPlaces hR_0 _ _ (by omega)) ?_
        refine r_if_ne kX7_set_48 (fun c3 => absurd c3 (by omega)) (fun c3 => ?_)
        refine r_aload_n rfl ?_
        refine r_iconst ?_
        refine r_cV2I g_19 rfl (Nat.le_of_ble_eq_true rfl) (Nat.le_of_ble_eq_true rfl) (c_X7_find _) ?_
        refine r_iret rfl ?_
        exact ⟨rfl, rfl⟩
  · rw [if_neg hr, if_neg hr]
    refine r_iload_n rfl ?_
    refine r_cS1I (by decide) (Nat.le_of_ble_eq_true rfl) (Nat.le_of_ble_eq_true rfl) (c_X7_isRow _) ?_
    refine r_if_ne kX7_set_10 (fun c1 => absurd c1 (by omega)) (fun c1 => ?_)
    refine r_ldcI ?_
    refine r_iret rfl ?_
    exact ⟨rfl, rfl⟩
theorem c_X7_drop (row : Int) (hI : iRow m) : az_CI sc 28 [.inr (.inr 20), .inl row] m (pDrop m row).1 (if (0 ≤ row ∧ row ≤ 7) then (if m 281 row < 0 then az_up m 19 9 1 else az_up (az_up (az_up m (rb row) 1 (-1)) (rb row) 2 0) 19 9 0) else m) := by
  unfold pDrop
  by_cases hr : 0 ≤ row ∧ row ≤ 7
  · rw [if_pos hr, if_pos hr]
    have hrr := rb_ref hr.1 (show row < 8 by omega)
    obtain ⟨hR_0, hR_1⟩ := rb_0 hr.1 (show row < 8 by omega)
    have hrb := rb_b hr.1 (show row < 8 by omega)
    rcases iRow_s hI hr.1 (show row < 8 by omega) with ⟨h1, h2⟩ | ⟨h1, h2, h3, h4, h5, h6⟩
    · rw [if_pos h1, if_pos h1]
      refine r_iload_n rfl ?_
      refine r_cS1I (by decide) (Nat.le_of_ble_eq_true rfl) (Nat.le_of_ble_eq_true rfl) (c_X7_isRow _) ?_
      refine r_if_ne kX7_drop_10 (fun c1 => ?_) (fun c1 => absurd c1 (by omega))
      refine r_aload_n rfl ?_
      refine r_getR g_19 rfl ?_
      refine r_iload_n rfl ?_
      refine r_aald g_20 (by decide) (by omega) (by omega) (by assumption) ?_
      refine r_cV1I hR_0 rfl (Nat.le_of_ble_eq_true rfl) (Nat.le_of_ble_eq_true rfl) (c_X5_isMissing hR_0) ?_
      refine r_if_eq kX7_drop_28 (fun c2 => absurd c2 (by omega)) (fun c2 => ?_)
      refine r_aload_n rfl ?_
      refine r_iconst ?_
      refine r_cV2I g_19 rfl (Nat.le_of_ble_eq_true rfl) (Nat.le_of_ble_eq_true rfl) (c_X7_find _) ?_
      refine r_iret rfl ?_
      exact ⟨rfl, rfl⟩
    · have hnn : ¬ m 281 row < 0 := by omega
      rw [if_neg hnn, if_neg hnn]
      refine r_iload_n rfl ?_
      refine r_cS1I (by decide) (Nat.le_of_ble_eq_true rfl) (Nat.le_of_ble_eq_true rfl) (c_X7_isRow _) ?_
      refine r_if_ne kX7_drop_10 (fun c1 => ?_) (fun c1 => absurd c1 (by omega))
      refine r_aload_n rfl ?_
      refine r_getR g_19 rfl ?_
      refine r_iload_n rfl ?_
      refine r_aald g_20 (by decide) (by omega) (by omega) (by assumption) ?_
      refine r_cV1I hR_0 rfl (Nat.le_of_ble_eq_true rfl) (Nat.le_of_ble_eq_true rfl) (c_X5_isMissing hR_0) ?_
      refine r_if_eq kX7_drop_28 (fun c2 => ?_) (fun c2 => absurd c2 (by omega))
      refine r_aload_n rfl ?_
      refine r_getR g_19 rfl ?_
      refine r_iload_n rfl ?_
      refine r_aald g_20 (by decide) (by omega) (by omega) (by assumption) ?_
      refine r_getIx hR_0 (h4) ?_
      refine r_istore_n (Nat.le_of_ble_eq_true rfl) rfl ?_
      refine r_aload_n rfl ?_
      refine r_getR g_19 rfl ?_
      refine r_iload_n rfl ?_
      refine r_aald g_20 (by decide) (by omega) (by omega) (by assumption) ?_
      refine r_cV1V hR_0 rfl (Nat.le_of_ble_eq_true rfl) (Nat.le_of_ble_eq_true rfl) (c_X5_lose hR_0 hrb.1) ?_
      refine r_aload_n rfl ?_
      refine r_iload_n rfl ?_
      refine r_cV2I g_19 rfl (Nat.le_of_ble_eq_true rfl) (Nat.le_of_ble_eq_true rfl) (c_X7_answer _) ?_
      refine r_iret rfl ?_
      exact ⟨rfl, rfl⟩
  · rw [if_neg hr, if_neg hr]
    refine r_iload_n rfl ?_
    refine r_cS1I (by decide) (Nat.le_of_ble_eq_true rfl) (Nat.le_of_ble_eq_true rfl) (c_X7_isRow _) ?_
    refine r_if_ne kX7_drop_10 (fun c1 => absurd c1 (by omega)) (fun c1 => ?_)
    refine r_ldcI ?_
    refine r_iret rfl ?_
    exact ⟨rfl, rfl⟩
noncomputable def cCpM (m : aM) (a i b j n : Int) : aM := if (0 ≤ a ∧ a ≤ 7) ∧ (0 ≤ b ∧ b ≤ 7) then (if m 281 a < 0 ∨ m 281 b < 0 then az_up m 19 9 1 else if m 280 a ≠ m 280 b then az_up m 19 9 5 else @ite _ (pCpOK m a i b j n) (Classical.propDecidable _) (az_up (az_cp m (rb a + 1) i (rb b + 1) j n) 19 9 0) (az_up m 19 9 2)) else m
theorem c_X7_copy {a i b j n : Int} (hI : iRow m) (hi : -2147483648 ≤ i ∧ i < 2147483648) (hj : -2147483648 ≤ j ∧ j < 2147483648) (hn : -2147483648 ≤ n ∧ n < 2147483648) : az_CI sc 25 [.inr (.inr 20), .inl a, .inl i, .inl b, .inl j, .inl n] m (pCopy m a i b j n).1 (cCpM m a i b j n) := by
  unfold pCopy cCpM
  by_cases hab : (0 ≤ a ∧ a ≤ 7) ∧ (0 ≤ b ∧ b ≤ 7)
  · rw [if_pos hab, if_pos hab]
    have hra := rb_ref hab.1.1 (show a < 8 by omega)
    obtain ⟨hA_0, hA_1⟩ := rb_0 hab.1.1 (show a < 8 by omega)
    have hba := rb_b hab.1.1 (show a < 8 by omega)
    have hrb := rb_ref hab.2.1 (show b < 8 by omega)
    obtain ⟨hB_0, hB_1⟩ := rb_0 hab.2.1 (show b < 8 by omega)
    have hbb := rb_b hab.2.1 (show b < 8 by omega)
    have hsa := iRow_s hI hab.1.1 (show a < 8 by omega)
    have hsb := iRow_s hI hab.2.1 (show b < 8 by omega)
    by_cases hs : m 281 a < 0 ∨ m 281 b < 0
    · rw [if_pos hs, if_pos hs]
      refine r_iload_n rfl ?_
      refine r_cS1I (by decide) (Nat.le_of_ble_eq_true rfl) (Nat.le_of_ble_eq_true rfl) (c_X7_isRow _) ?_
      refine r_if_eq kX7_copy_14 (fun c1 => absurd c1 (by omega)) (fun c1 => ?_)
      refine r_iload_n rfl ?_
      refine r_cS1I (by decide) (Nat.le_of_ble_eq_true rfl) (Nat.le_of_ble_eq_true rfl) (c_X7_isRow _) ?_
      refine r_if_ne kX7_copy_17 (fun c2 => ?_) (fun c2 => absurd c2 (by omega))
      refine r_aload_n rfl ?_
      refine r_getR g_19 rfl ?_
      refine r_iload_n rfl ?_
      refine r_aald g_20 (by decide) (by omega) (by omega) (hra) ?_
      refine r_astore (Nat.le_of_ble_eq_true rfl) rfl ?_
      refine r_aload_n rfl ?_
      refine r_getR g_19 rfl ?_
      refine r_iload_n rfl ?_
      refine r_aald g_20 (by decide) (by omega) (by omega) (hrb) ?_
      refine r_astore (Nat.le_of_ble_eq_true rfl) rfl ?_
      refine r_aload rfl ?_
      refine r_cV1I hA_0 rfl (Nat.le_of_ble_eq_true rfl) (Nat.le_of_ble_eq_true rfl) (c_X5_isMissing hA_0) ?_
      refine r_if_ne kX7_copy_49 (fun c3 => ?_) (fun c3 => ?_)
      · refine r_aload_n rfl ?_
        refine r_iconst ?_
        refine r_cV2I g_19 rfl (Nat.le_of_ble_eq_true rfl) (Nat.le_of_ble_eq_true rfl) (c_X7_find _) ?_
        refine r_iret rfl ?_
        exact ⟨rfl, rfl⟩
      · refine r_aload rfl ?_
        refine r_cV1I hB_0 rfl (Nat.le_of_ble_eq_true rfl) (Nat.le_of_ble_eq_true rfl) (c_X5_isMissing hB_0) ?_
        refine r_if_eq kX7_copy_55 (fun c4 => absurd c4 (by omega)) (fun c4 => ?_)
        refine r_aload_n rfl ?_
        refine r_iconst ?_
        refine r_cV2I g_19 rfl (Nat.le_of_ble_eq_true rfl) (Nat.le_of_ble_eq_true rfl) (c_X7_find _) ?_
        refine r_iret rfl ?_
        exact ⟨rfl, rfl⟩
    · rw [if_neg hs, if_neg hs]
      have hA : 0 ≤ m 281 a ∧ m (rb a) 1 ≠ -1 ∧ m (rb a) 1 = m 280 a ∧ m (rb a) 2 = m 281 a ∧ m 281 a ≤ 40 := by omega
      have hB : 0 ≤ m 281 b ∧ m (rb b) 1 ≠ -1 ∧ m (rb b) 1 = m 280 b ∧ m (rb b) 2 = m 281 b ∧ m 281 b ≤ 40 := by omega
      clear hsa hsb
      by_cases hl : m 280 a ≠ m 280 b
      · rw [if_pos hl, if_pos hl]
        refine r_iload_n rfl ?_
        refine r_cS1I (by decide) (Nat.le_of_ble_eq_true rfl) (Nat.le_of_ble_eq_true rfl) (c_X7_isRow _) ?_
        refine r_if_eq kX7_copy_14 (fun c1 => absurd c1 (by omega)) (fun c1 => ?_)
        refine r_iload_n rfl ?_
        refine r_cS1I (by decide) (Nat.le_of_ble_eq_true rfl) (Nat.le_of_ble_eq_true rfl) (c_X7_isRow _) ?_
        refine r_if_ne kX7_copy_17 (fun c2 => ?_) (fun c2 => absurd c2 (by omega))
        refine r_aload_n rfl ?_
        refine r_getR g_19 rfl ?_
        refine r_iload_n rfl ?_
        refine r_aald g_20 (by decide) (by omega) (by omega) (hra) ?_
        refine r_astore (Nat.le_of_ble_eq_true rfl) rfl ?_
        refine r_aload_n rfl ?_
        refine r_getR g_19 rfl ?_
        refine r_iload_n rfl ?_
        refine r_aald g_20 (by decide) (by omega) (by omega) (hrb) ?_
        refine r_astore (Nat.le_of_ble_eq_true rfl) rfl ?_
        refine r_aload rfl ?_
        refine r_cV1I hA_0 rfl (Nat.le_of_ble_eq_true rfl) (Nat.le_of_ble_eq_true rfl) (c_X5_isMissing hA_0) ?_
        refine r_if_ne kX7_copy_49 (fun c3 => absurd c3 (by omega)) (fun c3 => ?_)
        refine r_aload rfl ?_
        refine r_cV1I hB_0 rfl (Nat.le_of_ble_eq_true rfl) (Nat.le_of_ble_eq_true rfl) (c_X5_isMissing hB_0) ?_
        refine r_if_eq kX7_copy_55 (fun c4 => ?_) (fun c4 => absurd c4 (by omega))
        refine r_aload rfl ?_
        refine r_getI hA_0 ?_
        refine r_aload rfl ?_
        refine r_getI hB_0 ?_
        refine r_icmp_eq kX7_copy_74 (fun c5 => absurd c5 (by omega)) (fun c5 => ?_)
        refine r_aload_n rfl ?_
        refine r_iconst ?_
        refine r_cV2I g_19 rfl (Nat.le_of_ble_eq_true rfl) (Nat.le_of_ble_eq_true rfl) (c_X7_find _) ?_
        refine r_iret rfl ?_
        exact ⟨rfl, rfl⟩
      · rw [if_neg hl, if_neg hl]
        by_cases hp : pCpOK m a i b j n
        · rw [if_pos hp, if_pos hp]
          obtain ⟨p1, p2, p3, p4, p5⟩ := hp
          refine r_iload_n rfl ?_
          refine r_cS1I (by decide) (Nat.le_of_ble_eq_true rfl) (Nat.le_of_ble_eq_true rfl) (c_X7_isRow _) ?_
          refine r_if_eq kX7_copy_14 (fun c1 => absurd c1 (by omega)) (fun c1 => ?_)
          refine r_iload_n rfl ?_
          refine r_cS1I (by decide) (Nat.le_of_ble_eq_true rfl) (Nat.le_of_ble_eq_true rfl) (c_X7_isRow _) ?_
          refine r_if_ne kX7_copy_17 (fun c2 => ?_) (fun c2 => absurd c2 (by omega))
          refine r_aload_n rfl ?_
          refine r_getR g_19 rfl ?_
          refine r_iload_n rfl ?_
          refine r_aald g_20 (by decide) (by omega) (by omega) (hra) ?_
          refine r_astore (Nat.le_of_ble_eq_true rfl) rfl ?_
          refine r_aload_n rfl ?_
          refine r_getR g_19 rfl ?_
          refine r_iload_n rfl ?_
          refine r_aald g_20 (by decide) (by omega) (by omega) (hrb) ?_
          refine r_astore (Nat.le_of_ble_eq_true rfl) rfl ?_
          refine r_aload rfl ?_
          refine r_cV1I hA_0 rfl (Nat.le_of_ble_eq_true rfl) (Nat.le_of_ble_eq_true rfl) (c_X5_isMissing hA_0) ?_
          refine r_if_ne kX7_copy_49 (fun c3 => absurd c3 (by omega)) (fun c3 => ?_)
          refine r_aload rfl ?_
          refine r_cV1I hB_0 rfl (Nat.le_of_ble_eq_true rfl) (Nat.le_of_ble_eq_true rfl) (c_X5_isMissing hB_0) ?_
          refine r_if_eq kX7_copy_55 (fun c4 => ?_) (fun c4 => absurd c4 (by omega))
          refine r_aload rfl ?_
          refine r_getI hA_0 ?_
          refine r_aload rfl ?_
          refine r_getI hB_0 ?_
          refine r_icmp_eq kX7_copy_74 (fun c5 => ?_) (fun c5 => absurd c5 (by omega))
          refine r_aload rfl ?_
          refine r_iload_n rfl ?_
          refine r_iload rfl ?_
          refine r_cV3I hA_0 rfl (Nat.le_of_ble_eq_true rfl) (Nat.le_of_ble_eq_true rfl) (c_X5_hasPlaces hA_0 _ _ (by omega)) ?_
          refine r_if_eq kX7_copy_97 (fun c6 => absurd c6 (by omega)) (fun c6 => ?_)
          refine r_aload rfl ?_
          refine r_iload rfl ?_
          refine r_iload rfl ?_
          refine r_cV3I hB_0 rfl (Nat.le_of_ble_eq_true rfl) (Nat.le_of_ble_eq_true rfl) (c_X5_hasPlaces hB_0 _ _ (by omega)) ?_
          refine r_if_ne kX7_copy_103 (fun c7 => ?_) (fun c7 => absurd c7 (by omega))
          refine r_aload rfl ?_
          refine r_getR hA_0 rfl ?_
          refine r_iload_n rfl ?_
          refine r_aload rfl ?_
          refine r_getR hB_0 rfl ?_
          refine r_iload rfl ?_
          refine r_iload rfl ?_
          refine r_cpy hA_1 hB_1 (by omega) (by omega) (by omega) (by omega) (by omega) (by show _ ≤ (40 : Int); omega) (by show _ ≤ (40 : Int); omega) (Nat.le_of_ble_eq_true rfl) ?_
          refine r_aload_n rfl ?_
          refine r_iload rfl ?_
          refine r_cV2I g_19 rfl (Nat.le_of_ble_eq_true rfl) (Nat.le_of_ble_eq_true rfl) (c_X7_answer _) ?_
          refine r_iret rfl ?_
          exact ⟨rfl, rfl⟩
        · rw [if_neg hp, if_neg hp]
          unfold pCpOK at hp
          refine r_iload_n rfl ?_
          refine r_cS1I (by decide) (Nat.le_of_ble_eq_true rfl) (Nat.le_of_ble_eq_true rfl) (c_X7_isRow _) ?_
          refine r_if_eq kX7_copy_14 (fun c1 => absurd c1 (by omega)) (fun c1 => ?_)
          refine r_iload_n rfl ?_
          refine r_cS1I (by decide) (Nat.le_of_ble_eq_true rfl) (Nat.le_of_ble_eq_true rfl) (c_X7_isRow _) ?_
          refine r_if_ne kX7_copy_17 (fun c2 => ?_) (fun c2 => absurd c2 (by omega))
          refine r_aload_n rfl ?_
          refine r_getR g_19 rfl ?_
          refine r_iload_n rfl ?_
          refine r_aald g_20 (by decide) (by omega) (by omega) (hra) ?_
          refine r_astore (Nat.le_of_ble_eq_true rfl) rfl ?_
          refine r_aload_n rfl ?_
          refine r_getR g_19 rfl ?_
          refine r_iload_n rfl ?_
          refine r_aald g_20 (by decide) (by omega) (by omega) (hrb) ?_
          refine r_astore (Nat.le_of_ble_eq_true rfl) rfl ?_
          refine r_aload rfl ?_
          refine r_cV1I hA_0 rfl (Nat.le_of_ble_eq_true rfl) (Nat.le_of_ble_eq_true rfl) (c_X5_isMissing hA_0) ?_
          refine r_if_ne kX7_copy_49 (fun c3 => absurd c3 (by omega)) (fun c3 => ?_)
          refine r_aload rfl ?_
          refine r_cV1I hB_0 rfl (Nat.le_of_ble_eq_true rfl) (Nat.le_of_ble_eq_true rfl) (c_X5_isMissing hB_0) ?_
          refine r_if_eq kX7_copy_55 (fun c4 => ?_) (fun c4 => absurd c4 (by omega))
          refine r_aload rfl ?_
          refine r_getI hA_0 ?_
          refine r_aload rfl ?_
          refine r_getI hB_0 ?_
          refine r_icmp_eq kX7_copy_74 (fun c5 => ?_) (fun c5 => absurd c5 (by omega))
          refine r_aload rfl ?_
          refine r_iload_n rfl ?_
          refine r_iload rfl ?_
          refine r_cV3I hA_0 rfl (Nat.le_of_ble_eq_true rfl) (Nat.le_of_ble_eq_true rfl) (c_X5_hasPlaces hA_0 _ _ (by omega)) ?_
          refine r_if_eq kX7_copy_97 (fun c6 => ?_) (fun c6 => ?_)
          · refine r_aload_n rfl ?_
            refine r_iconst ?_
            refine r_cV2I g_19 rfl (Nat.le_of_ble_eq_true rfl) (Nat.le_of_ble_eq_true rfl) (c_X7_find _) ?_
            refine r_iret rfl ?_
            exact ⟨rfl, rfl⟩
          · refine r_aload rfl ?_
            refine r_iload rfl ?_
            refine r_iload rfl ?_
            refine r_cV3I hB_0 rfl (Nat.le_of_ble_eq_true rfl) (Nat.le_of_ble_eq_true rfl) (c_X5_hasPlaces hB_0 _ _ (by omega)) ?_
            refine r_if_ne kX7_copy_103 (fun c7 => absurd c7 (by omega)) (fun c7 => ?_)
            refine r_aload_n rfl ?_
            refine r_iconst ?_
            refine r_cV2I g_19 rfl (Nat.le_of_ble_eq_true rfl) (Nat.le_of_ble_eq_true rfl) (c_X7_find _) ?_
            refine r_iret rfl ?_
            exact ⟨rfl, rfl⟩
  · rw [if_neg hab, if_neg hab]
    refine r_iload_n rfl ?_
    refine r_cS1I (by decide) (Nat.le_of_ble_eq_true rfl) (Nat.le_of_ble_eq_true rfl) (c_X7_isRow _) ?_
    refine r_if_eq kX7_copy_14 (fun c1 => ?_) (fun c1 => ?_)
    · refine r_ldcI ?_
      refine r_iret rfl ?_
      exact ⟨rfl, rfl⟩
    · refine r_iload_n rfl ?_
      refine r_cS1I (by decide) (Nat.le_of_ble_eq_true rfl) (Nat.le_of_ble_eq_true rfl) (c_X7_isRow _) ?_
      refine r_if_ne kX7_copy_17 (fun c2 => absurd c2 (by omega)) (fun c2 => ?_)
      refine r_ldcI ?_
      refine r_iret rfl ?_
      exact ⟨rfl, rfl⟩
theorem c_X7_countRows (hI : iRow m) : az_CI sc 211 [.inr (.inr 20)] m (pRws (m 281) 8) m := by
  refine r_iconst ?_
  refine r_istore_n (Nat.le_of_ble_eq_true rfl) rfl ?_
  refine r_iconst ?_
  refine r_istore_n (Nat.le_of_ble_eq_true rfl) rfl ?_
  skip
  refine az_lop (α := Int) (fun r a => [some (.inr (.inr 20)), some (.inl (a)), some (.inl (r))]) (fun _ => m) (fun r a => a = pRws (m 281) r) 0 8 0 (by decide) rfl (fun r a h0 h1 hp hK => ?_) (fun a hp => ?_)
  · have hS := pRws_S (m 281) h0
    have hb := pRws_b (m 281) h0
    rw [← hp] at hS hb
    have hrr := rb_ref h0 h1
    obtain ⟨hR_0, hR_1⟩ := rb_0 h0 h1
    have hs := iRow_s hI h0 h1
    refine r_iload_n rfl ?_
    refine r_bipush ?_
    refine r_icmp_ge kX7_countRows_31 (fun c1 => absurd c1 (by omega)) (fun c1 => ?_)
    refine r_aload_n rfl ?_
    refine r_getR g_19 rfl ?_
    refine r_iload_n rfl ?_
    refine r_aald g_20 (by decide) (by omega) (by omega) (by assumption) ?_
    refine r_cV1I hR_0 rfl (Nat.le_of_ble_eq_true rfl) (Nat.le_of_ble_eq_true rfl) (c_X5_isMissing hR_0) ?_
    refine r_if_ne kX7_countRows_25 (fun c2 => ?_) (fun c2 => ?_)
    · refine r_iinc rfl (az_wid (by omega) (by omega)) rfl ?_
      refine r_goto kX7_countRows_4 ?_
      exact hK _ (by rw [hS]; first | rw [if_pos (by omega)] | rw [if_neg (by omega)])
    · refine r_iinc rfl (az_wid (by omega) (by omega)) rfl ?_
      refine r_iinc rfl (az_wid (by omega) (by omega)) rfl ?_
      refine r_goto kX7_countRows_4 ?_
      exact hK _ (by rw [hS]; first | rw [if_pos (by omega)] | rw [if_neg (by omega)])
  · refine r_iload_n rfl ?_
    refine r_bipush ?_
    refine r_icmp_ge kX7_countRows_31 (fun c1 => ?_) (fun c1 => absurd c1 (by decide))
    refine r_iload_n rfl ?_
    refine r_iret rfl ?_
    exact ⟨az_oI hp, rfl⟩
end CA
