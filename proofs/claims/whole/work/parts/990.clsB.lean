/-! THE CLASS: a beach -/
section CB
variable {sc : aX} {m : aM} {f t c : Int → Int} {sp : Int} {Q : Option aV → aM → Prop}
/-! bits of four -/
def mk4 (a b c d : Int) : Int := a + 2 * b + 4 * c + 8 * d
def qn (q : Int → Int) (n g : Int) : Int := if g < n then q g else 0
def pMask (q : Int → Int) (n : Int) : Int := mk4 (qn q n 0) (qn q n 1) (qn q n 2) (qn q n 3)
def q01 (q : Int → Int) (n : Int) : Prop := ∀ g, 0 ≤ g → g < n → q g = 0 ∨ q g = 1
theorem qn_01 {q : Int → Int} {n : Int} (h : q01 q n) {g : Int} (h0 : 0 ≤ g) : qn q n g = 0 ∨ qn q n g = 1 := by
  unfold qn
  split
  · next h1 => exact h g h0 h1
  · exact Or.inl rfl
theorem qn_at (q : Int → Int) {n g : Int} (h : g < n) : qn q n g = q g := if_pos h
theorem mk4_c {P : Int → Int → Int → Int → Prop} (h : ∀ a b c d : Fin 2, P (a.val : Int) (b.val : Int) (c.val : Int) (d.val : Int)) {a b c d : Int} (ha : a = 0 ∨ a = 1) (hb : b = 0 ∨ b = 1) (hc : c = 0 ∨ c = 1) (hd : d = 0 ∨ d = 1) : P a b c d := by
  rcases ha with rfl | rfl <;> rcases hb with rfl | rfl <;> rcases hc with rfl | rfl <;> rcases hd with rfl | rfl
  · exact h 0 0 0 0
  · exact h 0 0 0 1
  · exact h 0 0 1 0
  · exact h 0 0 1 1
  · exact h 0 1 0 0
  · exact h 0 1 0 1
  · exact h 0 1 1 0
  · exact h 0 1 1 1
  · exact h 1 0 0 0
  · exact h 1 0 0 1
  · exact h 1 0 1 0
  · exact h 1 0 1 1
  · exact h 1 1 0 0
  · exact h 1 1 0 1
  · exact h 1 1 1 0
  · exact h 1 1 1 1
theorem mask_c {P : Int → Int → Int → Int → Prop} (h : ∀ a b c d : Fin 2, P (a.val : Int) (b.val : Int) (c.val : Int) (d.val : Int)) {q : Int → Int} {n : Int} (hq : q01 q n) : P (qn q n 0) (qn q n 1) (qn q n 2) (qn q n 3) := mk4_c h (qn_01 hq (by decide)) (qn_01 hq (by decide)) (qn_01 hq (by decide)) (qn_01 hq (by decide))
theorem mask_b {q : Int → Int} {n : Int} (hq : q01 q n) : 0 ≤ pMask q n ∧ pMask q n ≤ 15 := mask_c (P := fun a b c d => 0 ≤ mk4 a b c d ∧ mk4 a b c d ≤ 15) (by decide +kernel) hq
theorem mask_bit {q : Int → Int} {n g : Int} (hq : q01 q n) (hn : n ≤ 4) (h0 : 0 ≤ g) (h1 : g < n) : pBit (pMask q n) g = q g := by
  rcases (show g = 0 ∨ g = 1 ∨ g = 2 ∨ g = 3 by omega) with rfl | rfl | rfl | rfl
  · rw [← qn_at q h1]
    exact mask_c (P := fun a b c d => pBit (mk4 a b c d) 0 = a) (by decide +kernel) hq
  · rw [← qn_at q h1]
    exact mask_c (P := fun a b c d => pBit (mk4 a b c d) 1 = b) (by decide +kernel) hq
  · rw [← qn_at q h1]
    exact mask_c (P := fun a b c d => pBit (mk4 a b c d) 2 = c) (by decide +kernel) hq
  · rw [← qn_at q h1]
    exact mask_c (P := fun a b c d => pBit (mk4 a b c d) 3 = d) (by decide +kernel) hq
theorem mask_0 {q : Int → Int} {n : Int} (hq : q01 q n) (hn : n ≤ 4) : pMask q n = 0 ↔ ∀ g, 0 ≤ g → g < n → q g = 0 := by
  have a0 := qn_01 hq (g := 0) (by decide)
  have a1 := qn_01 hq (g := 1) (by decide)
  have a2 := qn_01 hq (g := 2) (by decide)
  have a3 := qn_01 hq (g := 3) (by decide)
  unfold pMask mk4
  constructor
  · intro h g h0 h1
    rcases (show g = 0 ∨ g = 1 ∨ g = 2 ∨ g = 3 by omega) with rfl | rfl | rfl | rfl
    · rw [qn_at q h1] at a0 h
      omega
    · rw [qn_at q h1] at a1 h
      omega
    · rw [qn_at q h1] at a2 h
      omega
    · rw [qn_at q h1] at a3 h
      omega
  · intro h
    have hz : ∀ g, 0 ≤ g → qn q n g = 0 := fun g h0 => by
      unfold qn
      split
      · next h1 => exact h g h0 h1
      · rfl
    rw [hz 0 (by decide), hz 1 (by decide), hz 2 (by decide), hz 3 (by decide)]
    rfl
theorem qn_up (q : Int → Int) {n g v : Int} (h : g < n) (j : Int) : qn (up1 q g v) n j = if j = g then v else qn q n j := by
  unfold qn up1
  by_cases e : j = g
  · subst e
    rw [if_pos h, if_pos rfl, if_pos rfl]
  · rw [if_neg e, if_neg e]
theorem mask_off {q : Int → Int} {n g : Int} (hq : q01 q n) (hn : n ≤ 4) (h0 : 0 ≤ g) (h1 : g < n) : az_and (pMask q n) (az_xor (az_shl 1 g) (-1)) = pMask (up1 q g 0) n := by
  unfold pMask
  rw [qn_up q h1, qn_up q h1, qn_up q h1, qn_up q h1]
  rcases (show g = 0 ∨ g = 1 ∨ g = 2 ∨ g = 3 by omega) with rfl | rfl | rfl | rfl
  · exact mask_c (P := fun a b c d => az_and (mk4 a b c d) (az_xor (az_shl 1 0) (-1)) = mk4 0 b c d) (by decide +kernel) hq
  · exact mask_c (P := fun a b c d => az_and (mk4 a b c d) (az_xor (az_shl 1 1) (-1)) = mk4 a 0 c d) (by decide +kernel) hq
  · exact mask_c (P := fun a b c d => az_and (mk4 a b c d) (az_xor (az_shl 1 2) (-1)) = mk4 a b 0 d) (by decide +kernel) hq
  · exact mask_c (P := fun a b c d => az_and (mk4 a b c d) (az_xor (az_shl 1 3) (-1)) = mk4 a b c 0) (by decide +kernel) hq
theorem mask_set {q : Int → Int} {n g v : Int} (hq : q01 q n) (hn : n ≤ 4) (h0 : 0 ≤ g) (h1 : g < n) (hv : v = 0 ∨ v = 1) : az_or (az_and (pMask q n) (az_xor (az_shl 1 g) (-1))) (az_shl v g) = pMask (up1 q g v) n := by
  unfold pMask
  rw [qn_up q h1, qn_up q h1, qn_up q h1, qn_up q h1]
  rcases hv with rfl | rfl
  · rcases (show g = 0 ∨ g = 1 ∨ g = 2 ∨ g = 3 by omega) with rfl | rfl | rfl | rfl
    · exact mask_c (P := fun a b c d => az_or (az_and (mk4 a b c d) (az_xor (az_shl 1 0) (-1))) (az_shl 0 0) = mk4 0 b c d) (by decide +kernel) hq
    · exact mask_c (P := fun a b c d => az_or (az_and (mk4 a b c d) (az_xor (az_shl 1 1) (-1))) (az_shl 0 1) = mk4 a 0 c d) (by decide +kernel) hq
    · exact mask_c (P := fun a b c d => az_or (az_and (mk4 a b c d) (az_xor (az_shl 1 2) (-1))) (az_shl 0 2) = mk4 a b 0 d) (by decide +kernel) hq
    · exact mask_c (P := fun a b c d => az_or (az_and (mk4 a b c d) (az_xor (az_shl 1 3) (-1))) (az_shl 0 3) = mk4 a b c 0) (by decide +kernel) hq
  · rcases (show g = 0 ∨ g = 1 ∨ g = 2 ∨ g = 3 by omega) with rfl | rfl | rfl | rfl
    · exact mask_c (P := fun a b c d => az_or (az_and (mk4 a b c d) (az_xor (az_shl 1 0) (-1))) (az_shl 1 0) = mk4 1 b c d) (by decide +kernel) hq
    · exact mask_c (P := fun a b c d => az_or (az_and (mk4 a b c d) (az_xor (az_shl 1 1) (-1))) (az_shl 1 1) = mk4 a 1 c d) (by decide +kernel) hq
    · exact mask_c (P := fun a b c d => az_or (az_and (mk4 a b c d) (az_xor (az_shl 1 2) (-1))) (az_shl 1 2) = mk4 a b 1 d) (by decide +kernel) hq
    · exact mask_c (P := fun a b c d => az_or (az_and (mk4 a b c d) (az_xor (az_shl 1 3) (-1))) (az_shl 1 3) = mk4 a b c 1) (by decide +kernel) hq
theorem mask_cong {q r : Int → Int} {n : Int} (h : ∀ g, 0 ≤ g → g < n → q g = r g) : pMask q n = pMask r n := by
  have hz : ∀ g, 0 ≤ g → qn q n g = qn r n g := fun g h0 => by
    unfold qn
    split
    · next h1 => exact h g h0 h1
    · rfl
  unfold pMask
  rw [hz 0 (by decide), hz 1 (by decide), hz 2 (by decide), hz 3 (by decide)]
theorem mask_all {n : Int} (h0 : 0 ≤ n) (h1 : n ≤ 4) : az_w (az_shl 1 n - 1) = pMask (fun _ => 1) n := by
  rcases (show n = 0 ∨ n = 1 ∨ n = 2 ∨ n = 3 ∨ n = 4 by omega) with rfl | rfl | rfl | rfl | rfl <;> decide +kernel
theorem az_F_4 (s : Int → Int → Int) (a n : Int) (h0 : 0 ≤ n) (h1 : n ≤ 4) : az_F s a n = (if n = 0 then a else if n = 1 then s 0 a else if n = 2 then s 1 (s 0 a) else if n = 3 then s 2 (s 1 (s 0 a)) else s 3 (s 2 (s 1 (s 0 a)))) := by
  rcases (show n = 0 ∨ n = 1 ∨ n = 2 ∨ n = 3 ∨ n = 4 by omega) with rfl | rfl | rfl | rfl | rfl <;> rfl
def bc1 (x : Int) : Int := az_w (x - az_and (az_ush x 1) 1431655765)
def bc2 (x : Int) : Int := az_w (az_and x 858993459 + az_and (az_ush x 2) 858993459)
def bc3 (x : Int) : Int := az_and (az_w (x + az_ush x 4)) 252645135
def bc4 (x : Int) : Int := az_w (x + az_ush x 8)
def bc5 (x : Int) : Int := az_w (x + az_ush x 16)
theorem c_bitCount {q : Int → Int} {n : Int} (hq : q01 q n) (hn0 : 0 ≤ n) (hn : n ≤ 4) : az_CI sc 212 [.inl (pMask q n)] m (az_F (fun g a => a + q g) 0 n) m := by
  have e : az_F (fun g a => a + q g) 0 n = qn q n 0 + qn q n 1 + qn q n 2 + qn q n 3 := by
    rw [az_F_4 _ _ n hn0 hn]
    unfold qn
    rcases (show n = 0 ∨ n = 1 ∨ n = 2 ∨ n = 3 ∨ n = 4 by omega) with rfl | rfl | rfl | rfl | rfl <;> simp
  rw [e]
  refine az_CI_to (x := az_and (bc5 (bc4 (bc3 (bc2 (bc1 (pMask q n)))))) 63) ?_ ?_ rfl
  · generalize pMask q n = x
    refine r_iload_n rfl ?_
    refine r_iload_n rfl ?_
    refine r_iconst ?_
    refine r_iushr rfl ?_
    refine r_ldcw ?_
    refine r_iand rfl ?_
    refine r_isub ((rfl : _ = bc1 x)) ?_
    refine r_istore_n (Nat.le_of_ble_eq_true rfl) rfl ?_
    refine r_iload_n rfl ?_
    refine r_ldcw ?_
    refine r_iand rfl ?_
    refine r_iload_n rfl ?_
    refine r_iconst ?_
    refine r_iushr rfl ?_
    refine r_ldcw ?_
    refine r_iand rfl ?_
    refine r_iadd ((rfl : _ = bc2 (bc1 x))) ?_
    refine r_istore_n (Nat.le_of_ble_eq_true rfl) rfl ?_
    refine r_iload_n rfl ?_
    refine r_iload_n rfl ?_
    refine r_iconst ?_
    refine r_iushr rfl ?_
    refine r_iadd (rfl) ?_
    refine r_ldcw ?_
    refine r_iand ((rfl : _ = bc3 (bc2 (bc1 x)))) ?_
    refine r_istore_n (Nat.le_of_ble_eq_true rfl) rfl ?_
    refine r_iload_n rfl ?_
    refine r_iload_n rfl ?_
    refine r_bipush ?_
    refine r_iushr rfl ?_
    refine r_iadd ((rfl : _ = bc4 (bc3 (bc2 (bc1 x))))) ?_
    refine r_istore_n (Nat.le_of_ble_eq_true rfl) rfl ?_
    refine r_iload_n rfl ?_
    refine r_iload_n rfl ?_
    refine r_bipush ?_
    refine r_iushr rfl ?_
    refine r_iadd ((rfl : _ = bc5 (bc4 (bc3 (bc2 (bc1 x)))))) ?_
    refine r_istore_n (Nat.le_of_ble_eq_true rfl) rfl ?_
    refine r_iload_n rfl ?_
    refine r_bipush ?_
    refine r_iand rfl ?_
    refine r_iret rfl ?_
    exact ⟨rfl, rfl⟩
  · exact mask_c (P := fun a b c d => az_and (bc5 (bc4 (bc3 (bc2 (bc1 (mk4 a b c d)))))) 63 = a + b + c + d) (by decide +kernel) hq
/-! a beach of the class, and of the reference -/
def pThB (f : Int → Int) : Int := pMask (fun g => 1 - f (32 + g)) (f 2)
def pShB (f : Int → Int) : Int := pMask (fun g => f (40 + g)) (f 2)
theorem q01_th {f : Int → Int} (hN : nOK f) : q01 (fun g => 1 - f (32 + g)) (f 2) := fun g h0 h1 => by
  have := (nOK_g hN g h0 h1).2.2.2.2.2.1
  try dsimp only
  omega
theorem q01_sh {f : Int → Int} (hN : nOK f) : q01 (fun g => f (40 + g)) (f 2) := fun g h0 h1 => by
  have := (nOK_g hN g h0 h1).2.2.2.2.2.2.2.1
  try dsimp only
  omega
def bRi (m : aM) (b : Nat) (f : Int → Int) : Prop := m b 8 = f 0 ∧ m b 9 = f 1 ∧ m b 10 = f 2 ∧ m b 11 = f 4 ∧ m b 12 = f 3 ∧ m b 15 = f 5 ∧ m b 13 = pThB f ∧ m b 14 = pShB f
def bRh (m : aM) (b : Nat) (f : Int → Int) : Prop := ∀ h, 0 ≤ h → h < 6 → m (b + 1) h = f (6 + h)
def bRg (m : aM) (b : Nat) (f : Int → Int) : Prop := ∀ g, 0 ≤ g → g < f 2 → m (b + 2) g = f (12 + g) ∧ m (b + 3) g = f (16 + g) ∧ m (b + 4) g = f (20 + g) ∧ m (b + 5) g = f (24 + g) ∧ m (b + 6) g = f (28 + g) ∧ (f (32 + g) = 1 → m (b + 7) g = f (36 + g))
def bR (m : aM) (b : Nat) (f : Int → Int) : Prop := bRi m b f ∧ bRh m b f ∧ bRg m b f
theorem bR_fr {m m' : aM} {b : Nat} (h : bR m b f) (hf : ∀ x, b ≤ x → x < b + 8 → m' x = m x) : bR m' b f := by
  obtain ⟨h1, h2, h3⟩ := h
  refine ⟨?_, fun h h0 h1 => ?_, fun g h0 h1 => ?_⟩
  · unfold bRi at *
    rw [hf b (by omega) (by omega)]
    exact h1
  · rw [hf (b + 1) (by omega) (by omega)]
    exact h2 h h0 h1
  · rw [hf (b + 2) (by omega) (by omega), hf (b + 3) (by omega) (by omega), hf (b + 4) (by omega) (by omega), hf (b + 5) (by omega) (by omega), hf (b + 6) (by omega) (by omega), hf (b + 7) (by omega) (by omega)]
    exact h3 g h0 h1
theorem nOK_cong {f f' : Int → Int} (h : ∀ j, 0 ≤ j → j < 44 → f' j = f j) (hN : nOK f) : nOK f' := by
  have hn := nOK_2 hN
  unfold nOK at hN ⊢
  rw [h 0 (by decide) (by decide), h 1 (by decide) (by decide), h 2 (by decide) (by decide), h 3 (by decide) (by decide), h 4 (by decide) (by decide), h 5 (by decide) (by decide)]
  obtain ⟨a0, a1, a2, a3, a4, a5, a6, a7⟩ := hN
  refine ⟨a0, a1, a2, a3, a4, a5, fun k k0 k1 => ?_, fun g g0 g1 => ?_⟩
  · rw [h (6 + k) (by omega) (by omega)]
    exact a6 k k0 k1
  · rw [h (12 + g) (by omega) (by omega), h (16 + g) (by omega) (by omega), h (20 + g) (by omega) (by omega), h (24 + g) (by omega) (by omega), h (28 + g) (by omega) (by omega), h (32 + g) (by omega) (by omega), h (36 + g) (by omega) (by omega), h (40 + g) (by omega) (by omega)]
    exact a7 g g0 g1
theorem bR_cong {m : aM} {b : Nat} {f f' : Int → Int} (h : ∀ j, 0 ≤ j → j < 44 → f' j = f j) (hn : 0 ≤ f 2 ∧ f 2 ≤ 4) (hB : bR m b f) : bR m b f' := by
  obtain ⟨h1, h2, h3⟩ := hB
  have e2 := h 2 (by decide) (by decide)
  have eT : pThB f' = pThB f := by
    unfold pThB
    rw [e2]
    exact mask_cong (fun g g0 g1 => by (try dsimp only); rw [h (32 + g) (by omega) (by omega)])
  have eS : pShB f' = pShB f := by
    unfold pShB
    rw [e2]
    exact mask_cong (fun g g0 g1 => by (try dsimp only); rw [h (40 + g) (by omega) (by omega)])
  refine ⟨?_, fun k k0 k1 => ?_, fun g g0 g1 => ?_⟩
  · unfold bRi at *
    rw [h 0 (by decide) (by decide), h 1 (by decide) (by decide), e2, h 3 (by decide) (by decide), h 4 (by decide) (by decide), h 5 (by decide) (by decide), eT, eS]
    exact h1
  · rw [h (6 + k) (by omega) (by omega)]
    exact h2 k k0 k1
  · rw [e2] at g1
    rw [h (12 + g) (by omega) (by omega), h (16 + g) (by omega) (by omega), h (20 + g) (by omega) (by omega), h (24 + g) (by omega) (by omega), h (28 + g) (by omega) (by omega), h (32 + g) (by omega) (by omega), h (36 + g) (by omega) (by omega)]
    exact h3 g g0 g1
/-! methods of a beach -/
theorem c_X1_has {g n : Int} (hn : m 22 10 = n) : az_CI sc 87 [.inr (.inr 23), .inl g] m (if 0 ≤ g ∧ g < n then 1 else 0) m := by
  refine r_iload_n rfl ?_
  refine r_aload_n rfl ?_
  refine r_getIx g_22 (hn) ?_
  refine r_cS2I (by decide) (Nat.le_of_ble_eq_true rfl) (Nat.le_of_ble_eq_true rfl) (c_X7_isOneOf _ _) ?_
  refine r_zret rfl (by omega) ?_
  exact ⟨rfl, rfl⟩
theorem c_X1_priceOf {h : Int} (h5 : m 22 15 = f 5) (h6 : m 23 h = f (6 + h)) (hb : 0 ≤ f (6 + h) ∧ f (6 + h) ≤ 30) (h0 : 0 ≤ h) (h1 : h < 6) : az_CI sc 82 [.inr (.inr 23), .inl h] m (pPrice f h) m := by
  have hb01 := pBit_01 (f 5) h
  have ht := td2 hb.1
  refine r_iload_n rfl ?_
  refine r_aload_n rfl ?_
  refine r_getIx g_22 (h5) ?_
  refine r_cS2I (by decide) (Nat.le_of_ble_eq_true rfl) (Nat.le_of_ble_eq_true rfl) (c_X7_isIn _ _) ?_
  refine r_if_eq kX1_priceOf_22 (fun c1 => ?_) (fun c1 => ?_)
  · refine r_aload_n rfl ?_
    refine r_getR g_22 rfl ?_
    refine r_iload_n rfl ?_
    refine r_ialdx g_23 rfl (by omega) (by omega) (by omega) (h6) ?_
    refine r_iret rfl ?_
    exact ⟨az_oI (by unfold pPrice; first | (rw [if_pos (by omega), ht]) | rw [if_neg (by omega)]), rfl⟩
  · refine r_aload_n rfl ?_
    refine r_getR g_22 rfl ?_
    refine r_iload_n rfl ?_
    refine r_ialdx g_23 rfl (by omega) (by omega) (by omega) (h6) ?_
    refine r_iconst ?_
    first | refine r_idiv (by omega) (az_divn (by omega) (by omega) (by omega)) ?_ | refine r_idiv (by omega) rfl ?_
    refine r_goto kX1_priceOf_28 ?_
    refine r_iret rfl ?_
    exact ⟨az_oI (by unfold pPrice; first | (rw [if_pos (by omega), ht]) | rw [if_neg (by omega)]), rfl⟩
theorem c_X1_priceOf2 {h : Int} (hB : bR m 22 f) (hN : nOK f) (h0 : 0 ≤ h) (h1 : h < 6) : az_CI sc 82 [.inr (.inr 23), .inl h] m (pPrice f h) m := c_X1_priceOf hB.1.2.2.2.2.2.1 (hB.2.1 h h0 h1) (nOK_p hN h h0 h1) h0 h1
theorem c_X1_hoursOf {g : Int} (hB : bR m 22 f) (hN : nOK f) (h0 : 0 ≤ g) (h1 : g < f 2) : az_CI sc 98 [.inr (.inr 23), .inl g] m (f (36 + g)) m := by
  have hn := nOK_2 hN
  have hG := nOK_g hN g h0 h1
  have hb := mask_bit (q01_th hN) hn.2 h0 h1
  have hs := (hB.2.2 g h0 h1).2.2.2.2.2
  have e13 : m 22 13 = pMask (fun g => 1 - f (32 + g)) (f 2) := hB.1.2.2.2.2.2.2.1
  try dsimp only at hb
  by_cases hl : f (32 + g) = 0
  · have h4 := hG.2.2.2.2.2.2.2.2 hl
    refine r_iload_n rfl ?_
    refine r_aload_n rfl ?_
    refine r_getIx g_22 (e13) ?_
    refine r_cS2I (by decide) (Nat.le_of_ble_eq_true rfl) (Nat.le_of_ble_eq_true rfl) (c_X7_isIn _ _) ?_
    refine r_if_eq kX1_hoursOf_18 (fun c1 => absurd c1 (by omega)) (fun c1 => ?_)
    refine r_aload_n rfl ?_
    refine r_getIx g_22 (hB.1.2.2.2.1) ?_
    refine r_goto kX1_hoursOf_24 ?_
    refine r_iret rfl ?_
    exact ⟨az_oI h4.symm, rfl⟩
  · have h4 : m 29 g = f (36 + g) := hs (by omega)
    refine r_iload_n rfl ?_
    refine r_aload_n rfl ?_
    refine r_getIx g_22 (e13) ?_
    refine r_cS2I (by decide) (Nat.le_of_ble_eq_true rfl) (Nat.le_of_ble_eq_true rfl) (c_X7_isIn _ _) ?_
    refine r_if_eq kX1_hoursOf_18 (fun c1 => ?_) (fun c1 => absurd c1 (by omega))
    refine r_aload_n rfl ?_
    refine r_getR g_22 rfl ?_
    refine r_iload_n rfl ?_
    refine r_ialdx g_29 rfl (by omega) (by omega) (by omega) (h4) ?_
    refine r_iret rfl ?_
    exact ⟨rfl, rfl⟩
theorem c_X1_joyAlone {g h : Int} (hB : bR m 22 f) (hN : nOK f) (h0 : 0 ≤ g) (h1 : g < f 2) : az_CI sc 99 [.inr (.inr 23), .inl g, .inl h] m (pJoyA f g h) m := by
  have hn := nOK_2 hN
  have hG := nOK_g hN g h0 h1
  have hb := mask_bit (q01_sh hN) hn.2 h0 h1
  have e14 : m 22 14 = pMask (fun g => f (40 + g)) (f 2) := hB.1.2.2.2.2.2.2.2
  obtain ⟨k1, k2, k3, -, -, -⟩ := hB.2.2 g h0 h1
  try dsimp only at hb
  have hJ := pJ0_b (h := h) hG.2.1
  have H : ∀ j, j = pJ0 f g h → az_E sc az_G 99 zX1_joyAlone_38 [some (.inr (.inr (23))), some (.inl (g)), some (.inl (h)), some (.inl (j))] [] m (fun v m' => v = some (.inl (pJoyA f g h)) ∧ m' = m) := by
    intro j hj
    rw [← hj] at hJ
    refine r_aload_n rfl ?_
    refine r_getR g_22 rfl ?_
    refine r_iload_n rfl ?_
    refine r_ialdx g_24 rfl (by omega) (by omega) (by omega) (k1) ?_
    refine r_iconst ?_
    refine r_icmp_ne kX1_joyAlone_59 (fun c1 => ?_) (fun c1 => ?_)
    · refine r_iload_n rfl ?_
      refine r_iret rfl ?_
      exact ⟨az_oI (by unfold pJoyA; rw [← hj]; first | rw [if_pos (by omega)] | rw [if_neg (by omega)]), rfl⟩
    · refine r_iload_n rfl ?_
      refine r_iconst ?_
      refine r_icmp_gt kX1_joyAlone_59 (fun c2 => ?_) (fun c2 => ?_)
      · refine r_iload_n rfl ?_
        refine r_iret rfl ?_
        exact ⟨az_oI (by unfold pJoyA; rw [← hj]; first | rw [if_pos (by omega)] | rw [if_neg (by omega)]), rfl⟩
      · refine r_iconst ?_
        refine r_iload_n rfl ?_
        first | refine r_imul (az_wid (by omega) (by omega)) ?_ | refine r_imulw ?_
        refine r_goto kX1_joyAlone_60 ?_
        refine r_iret rfl ?_
        exact ⟨az_oI (by unfold pJoyA; rw [← hj]; first | rw [if_pos (by omega)] | rw [if_neg (by omega)]), rfl⟩
  refine r_aload_n rfl ?_
  refine r_getR g_22 rfl ?_
  refine r_iload_n rfl ?_
  refine r_ialdx g_25 rfl (by omega) (by omega) (by omega) (k2) ?_
  refine r_istore_n (Nat.le_of_ble_eq_true rfl) rfl ?_
  refine r_iload_n rfl ?_
  refine r_aload_n rfl ?_
  refine r_getIx g_22 (e14) ?_
  refine r_cS2I (by decide) (Nat.le_of_ble_eq_true rfl) (Nat.le_of_ble_eq_true rfl) (c_X7_isIn _ _) ?_
  refine r_if_eq kX1_joyAlone_25 (fun c1 => ?_) (fun c1 => ?_)
  · refine r_iload_n rfl ?_
    refine r_aload_n rfl ?_
    refine r_getR g_22 rfl ?_
    refine r_iload_n rfl ?_
    refine r_ialdx g_26 rfl (by omega) (by omega) (by omega) (k3) ?_
    refine r_icmp_lt kX1_joyAlone_38 (fun c2 => ?_) (fun c2 => ?_)
    · exact H _ (by unfold pJ0; first | rw [if_pos (by omega)] | rw [if_neg (by omega), if_pos (by omega)] | rw [if_neg (by omega), if_neg (by omega)])
    · refine r_iload_n rfl ?_
      first | refine r_ineg (az_wid (by omega) (by omega)) ?_ | refine r_ineg rfl ?_
      refine r_istore_n (Nat.le_of_ble_eq_true rfl) rfl ?_
      exact H _ (by unfold pJ0; first | rw [if_pos (by omega)] | rw [if_neg (by omega), if_pos (by omega)] | rw [if_neg (by omega), if_neg (by omega)])
  · refine r_iload_n rfl ?_
    refine r_iconst ?_
    first | refine r_idiv (by omega) (az_divn (by omega) (by omega) (by omega)) ?_ | refine r_idiv (by omega) rfl ?_
    refine r_istore_n (Nat.le_of_ble_eq_true rfl) rfl ?_
    refine r_goto kX1_joyAlone_38 ?_
    exact H _ (by unfold pJ0; first | rw [if_pos (by omega)] | rw [if_neg (by omega), if_pos (by omega)] | rw [if_neg (by omega), if_neg (by omega)])
theorem c_X1_grown {d : Int} (h0 : 0 ≤ d) (h1 : d ≤ 9999) : az_CI sc 108 [.inl d] m (pLeast (d + d / 10)) m := by
  refine r_sipush ?_
  refine r_iload_n rfl ?_
  refine r_iload_n rfl ?_
  refine r_bipush ?_
  first | refine r_idiv (by omega) (az_divn (by omega) (by omega) (by omega)) ?_ | refine r_idiv (by omega) rfl ?_
  first | refine r_iadd (az_wid (by omega) (by omega)) ?_ | refine r_iaddw ?_
  refine r_min (Nat.le_of_ble_eq_true rfl) rfl ?_
  refine r_iret rfl ?_
  exact ⟨rfl, rfl⟩
theorem c_X1_charge {g p d pay : Int} (h0 : 0 ≤ g) (h1 : g < 4) (hp : m 27 g = p) (hd : m 28 g = d) (hpb : 0 ≤ p ∧ p ≤ 9999) (hdb : 0 ≤ d ∧ d ≤ 9999) (hpay : 0 ≤ pay ∧ pay ≤ 5000) : az_CV sc 109 [.inr (.inr 23), .inl g, .inl pay] m (az_up (az_up m 27 g (p - (if p < pay then p else pay))) 28 g (pLeast (pLeast (d + d / 10) + pay - (if p < pay then p else pay)))) := by
  obtain ⟨x, hx⟩ : ∃ x, x = (if p < pay then p else pay) := ⟨_, rfl⟩
  have hxb : 0 ≤ x ∧ x ≤ p ∧ x ≤ pay := by
    rw [hx]
    split <;> omega
  have hl := pLeast_b (v := d + d / 10) (by omega)
  rw [← hx]
  have hd2 : ∀ v, az_up m 27 g v 28 g = d := fun v => (congrFun (az_up_b _ _ _ (by decide)) _).trans hd
  refine r_iload_n rfl ?_
  refine r_aload_n rfl ?_
  refine r_getR g_22 rfl ?_
  refine r_iload_n rfl ?_
  refine r_ialdx g_27 rfl (by omega) (by omega) (by omega) (hp) ?_
  refine r_min (Nat.le_of_ble_eq_true rfl) hx.symm ?_
  refine r_istore_n (Nat.le_of_ble_eq_true rfl) rfl ?_
  refine r_aload_n rfl ?_
  refine r_getR g_22 rfl ?_
  refine r_iload_n rfl ?_
  refine r_dup2 ?_
  refine r_ialdx g_27 rfl (by omega) (by omega) (by omega) (hp) ?_
  refine r_iload_n rfl ?_
  first | refine r_isub (az_wid (by omega) (by omega)) ?_ | refine r_isubw ?_
  refine r_iast g_27 (by decide) (by omega) (by omega) ?_
  refine r_aload_n rfl ?_
  refine r_getR g_22 rfl ?_
  refine r_iload_n rfl ?_
  refine r_sipush ?_
  refine r_aload_n rfl ?_
  refine r_getR g_22 rfl ?_
  refine r_iload_n rfl ?_
  refine r_ialdx g_28 rfl (by omega) (by omega) (by omega) (hd2 _) ?_
  refine r_cS1I (by decide) (Nat.le_of_ble_eq_true rfl) (Nat.le_of_ble_eq_true rfl) (c_X1_grown (by omega) (by omega)) ?_
  refine r_iload_n rfl ?_
  first | refine r_iadd (az_wid (by omega) (by omega)) ?_ | refine r_iaddw ?_
  refine r_iload_n rfl ?_
  first | refine r_isub (az_wid (by omega) (by omega)) ?_ | refine r_isubw ?_
  refine r_min (Nat.le_of_ble_eq_true rfl) rfl ?_
  refine r_iast g_28 (by decide) (by omega) (by omega) ?_
  refine r_vret rfl ?_
  exact ⟨rfl, rfl⟩
theorem c_X1_dawn {b : Nat} {n : Int} (hb_0 : az_G[b]? = some (1, 16, [b + 2, b + 3, b + 4, b + 5, b + 6, b + 7, b + 8, 0, 0, 0, 0, 0, 0, 0, 0, 0])) (hb : 19 ≤ b) (hn : m b 10 = n) (hn0 : 0 ≤ n) (hn4 : n ≤ 4) : az_CV sc 61 [.inr (.inr (b + 1))] m (az_up (az_up (az_up m b 11 0) b 15 0) b 13 (pMask (fun _ => 1) n)) := by
  have h10 : az_up (az_up m b 11 0) b 15 0 b 10 = n := by rw [az_up_k _ _ (by decide), az_up_k _ _ (by decide)]; exact hn
  refine r_aload_n rfl ?_
  refine r_iconst ?_
  refine r_putI hb_0 (by omega) ?_
  refine r_aload_n rfl ?_
  refine r_iconst ?_
  refine r_putI hb_0 (by omega) ?_
  refine r_aload_n rfl ?_
  refine r_iconst ?_
  refine r_aload_n rfl ?_
  refine r_getIx hb_0 (h10) ?_
  refine r_ishl rfl ?_
  refine r_iconst ?_
  refine r_isub (mask_all hn0 hn4) ?_
  refine r_putI hb_0 (by omega) ?_
  refine r_vret rfl ?_
  exact ⟨rfl, rfl⟩
theorem c_X1_clear {b : Nat} (hb_0 : az_G[b]? = some (1, 16, [b + 2, b + 3, b + 4, b + 5, b + 6, b + 7, b + 8, 0, 0, 0, 0, 0, 0, 0, 0, 0])) (hb : 19 ≤ b) : az_CV sc 37 [.inr (.inr (b + 1))] m (az_up (az_up (az_up (az_up m b 7 0) b 10 0) b 12 0) b 14 0) := by
  refine r_aload_n rfl ?_
  refine r_iconst ?_
  refine r_putZ hb_0 (by omega) (by omega) ?_
  refine r_aload_n rfl ?_
  refine r_iconst ?_
  refine r_putI hb_0 (by omega) ?_
  refine r_aload_n rfl ?_
  refine r_iconst ?_
  refine r_putI hb_0 (by omega) ?_
  refine r_aload_n rfl ?_
  refine r_iconst ?_
  refine r_putI hb_0 (by omega) ?_
  refine r_vret rfl ?_
  exact ⟨rfl, rfl⟩
theorem c_X1_debtOfAll (hB : bR m 22 f) (hN : nOK f) : az_CI sc 213 [.inr (.inr 23)] m (pDbt f (f 2)) m := by
  have hn := nOK_2 hN
  refine r_iconst ?_
  refine r_istore_n (Nat.le_of_ble_eq_true rfl) rfl ?_
  refine r_iconst ?_
  refine r_istore_n (Nat.le_of_ble_eq_true rfl) rfl ?_
  skip
  refine az_lop (α := Int) (fun g a => [some (.inr (.inr (23))), some (.inl (a)), some (.inl (g))]) (fun _ => m) (fun g a => a = pDbt f g) 0 (f 2) 0 hn.1 rfl (fun g a h0 h1 hp hK => ?_) (fun a hp => ?_)
  · have hS := pDbt_S f h0
    have hb := pDbt_b hN h0 (by omega)
    have hG := nOK_g hN g h0 h1
    rw [← hp] at hS hb
    refine r_iload_n rfl ?_
    refine r_aload_n rfl ?_
    refine r_getIx g_22 (hB.1.2.2.1) ?_
    refine r_icmp_ge kX1_debtOfAll_27 (fun c1 => absurd c1 (by omega)) (fun c1 => ?_)
    refine r_iload_n rfl ?_
    refine r_aload_n rfl ?_
    refine r_getR g_22 rfl ?_
    refine r_iload_n rfl ?_
    refine r_ialdx g_28 rfl (by omega) (by omega) (by omega) ((hB.2.2 g h0 h1).2.2.2.2.1) ?_
    first | refine r_iadd (az_wid (by omega) (by omega)) ?_ | refine r_iaddw ?_
    refine r_istore_n (Nat.le_of_ble_eq_true rfl) rfl ?_
    refine r_iinc rfl (az_wid (by omega) (by omega)) rfl ?_
    refine r_goto kX1_debtOfAll_4 ?_
    exact hK _ (by omega)
  · refine r_iload_n rfl ?_
    refine r_aload_n rfl ?_
    refine r_getIx g_22 (hB.1.2.2.1) ?_
    refine r_icmp_ge kX1_debtOfAll_27 (fun c1 => ?_) (fun c1 => absurd c1 (by omega))
    refine r_iload_n rfl ?_
    refine r_iret rfl ?_
    exact ⟨az_oI hp, rfl⟩
/-- one beach has become as another -/
def bCp (m m' : aM) (a b : Nat) : Prop := (∀ x, (x < b ∨ b + 8 ≤ x) → m' x = m x) ∧ (∀ k, 7 ≤ k → k ≤ 15 → m' b k = m a k) ∧ (∀ h, 0 ≤ h → h < 6 → m' (b + 1) h = m (a + 1) h) ∧ (∀ g, 0 ≤ g → g < 4 → m' (b + 2) g = m (a + 2) g ∧ m' (b + 3) g = m (a + 3) g ∧ m' (b + 4) g = m (a + 4) g ∧ m' (b + 5) g = m (a + 5) g ∧ m' (b + 6) g = m (a + 6) g ∧ m' (b + 7) g = m (a + 7) g)
theorem bCp_R {m m' : aM} {a b : Nat} (h : bCp m m' a b) (hn : 0 ≤ f 2 ∧ f 2 ≤ 4) (hB : bR m a f) : bR m' b f := by
  obtain ⟨-, h1, h2, h3⟩ := h
  obtain ⟨b1, b2, b3⟩ := hB
  refine ⟨?_, fun k k0 k1 => (h2 k k0 k1).trans (b2 k k0 k1), fun g g0 g1 => ?_⟩
  · unfold bRi at *
    rw [h1 8 (by decide) (by decide), h1 9 (by decide) (by decide), h1 10 (by decide) (by decide), h1 11 (by decide) (by decide), h1 12 (by decide) (by decide), h1 13 (by decide) (by decide), h1 14 (by decide) (by decide), h1 15 (by decide) (by decide)]
    exact b1
  · obtain ⟨e1, e2, e3, e4, e5, e6⟩ := h3 g g0 (by omega)
    rw [e1, e2, e3, e4, e5, e6]
    exact b3 g g0 g1
def bSh (b : Nat) : Prop := az_G[b]? = some (1, 16, [b + 2, b + 3, b + 4, b + 5, b + 6, b + 7, b + 8, 0, 0, 0, 0, 0, 0, 0, 0, 0]) ∧ az_G[b + 1]? = some (20, 6, []) ∧ az_G[b + 2]? = some (20, 4, []) ∧ az_G[b + 3]? = some (20, 4, []) ∧ az_G[b + 4]? = some (20, 4, []) ∧ az_G[b + 5]? = some (20, 4, []) ∧ az_G[b + 6]? = some (20, 4, []) ∧ az_G[b + 7]? = some (20, 4, [])
theorem c_X1_become {a b : Nat} (hA : bSh a) (hB : bSh b) (ha : 19 ≤ a) (hb : 19 ≤ b) (hab : a + 8 ≤ b ∨ b + 8 ≤ a) (hz : m a 7 = 0 ∨ m a 7 = 1) : az_C sc az_G 63 [.inr (.inr (b + 1)), .inr (.inr (a + 1))] m (fun v m' => v = none ∧ bCp m m' a b) := by
  obtain ⟨hA_0, hA_1, hA_2, hA_3, hA_4, hA_5, hA_6, hA_7⟩ := hA
  obtain ⟨hB_0, hB_1, hB_2, hB_3, hB_4, hB_5, hB_6, hB_7⟩ := hB
  refine r_aload_n rfl ?_
  refine r_getR hA_0 rfl ?_
  refine r_iconst ?_
  refine r_aload_n rfl ?_
  refine r_getR hB_0 rfl ?_
  refine r_iconst ?_
  refine r_bipush ?_
  refine r_cpy hA_1 hB_1 (by omega) (by omega) (by omega) (by omega) (by omega) (by omega) (by omega) (Nat.le_of_ble_eq_true rfl) ?_
  refine r_aload_n rfl ?_
  refine r_getR hA_0 rfl ?_
  refine r_iconst ?_
  refine r_aload_n rfl ?_
  refine r_getR hB_0 rfl ?_
  refine r_iconst ?_
  refine r_iconst ?_
  refine r_cpy hA_2 hB_2 (by omega) (by omega) (by omega) (by omega) (by omega) (by omega) (by omega) (Nat.le_of_ble_eq_true rfl) ?_
  refine r_aload_n rfl ?_
  refine r_getR hA_0 rfl ?_
  refine r_iconst ?_
  refine r_aload_n rfl ?_
  refine r_getR hB_0 rfl ?_
  refine r_iconst ?_
  refine r_iconst ?_
  refine r_cpy hA_3 hB_3 (by omega) (by omega) (by omega) (by omega) (by omega) (by omega) (by omega) (Nat.le_of_ble_eq_true rfl) ?_
  refine r_aload_n rfl ?_
  refine r_getR hA_0 rfl ?_
  refine r_iconst ?_
  refine r_aload_n rfl ?_
  refine r_getR hB_0 rfl ?_
  refine r_iconst ?_
  refine r_iconst ?_
  refine r_cpy hA_4 hB_4 (by omega) (by omega) (by omega) (by omega) (by omega) (by omega) (by omega) (Nat.le_of_ble_eq_true rfl) ?_
  refine r_aload_n rfl ?_
  refine r_getR hA_0 rfl ?_
  refine r_iconst ?_
  refine r_aload_n rfl ?_
  refine r_getR hB_0 rfl ?_
  refine r_iconst ?_
  refine r_iconst ?_
  refine r_cpy hA_5 hB_5 (by omega) (by omega) (by omega) (by omega) (by omega) (by omega) (by omega) (Nat.le_of_ble_eq_true rfl) ?_
  refine r_aload_n rfl ?_
  refine r_getR hA_0 rfl ?_
  refine r_iconst ?_
  refine r_aload_n rfl ?_
  refine r_getR hB_0 rfl ?_
  refine r_iconst ?_
  refine r_iconst ?_
  refine r_cpy hA_6 hB_6 (by omega) (by omega) (by omega) (by omega) (by omega) (by omega) (by omega) (Nat.le_of_ble_eq_true rfl) ?_
  refine r_aload_n rfl ?_
  refine r_getR hA_0 rfl ?_
  refine r_iconst ?_
  refine r_aload_n rfl ?_
  refine r_getR hB_0 rfl ?_
  refine r_iconst ?_
  refine r_iconst ?_
  refine r_cpy hA_7 hB_7 (by omega) (by omega) (by omega) (by omega) (by omega) (by omega) (by omega) (Nat.le_of_ble_eq_true rfl) ?_
  skip
  obtain ⟨m1, hm1⟩ : ∃ x, x = az_cp (az_cp (az_cp (az_cp (az_cp (az_cp (az_cp m (a + 1) 0 (b + 1) 0 6) (a + 2) 0 (b + 2) 0 4) (a + 3) 0 (b + 3) 0 4) (a + 4) 0 (b + 4) 0 4) (a + 5) 0 (b + 5) 0 4) (a + 6) 0 (b + 6) 0 4) (a + 7) 0 (b + 7) 0 4 := ⟨_, rfl⟩
  have e0 : ∀ x, (x < b + 1 ∨ b + 8 ≤ x) → m1 x = m x := fun x hx => by
    rw [hm1, az_cp_b _ _ _ _ (by omega), az_cp_b _ _ _ _ (by omega), az_cp_b _ _ _ _ (by omega), az_cp_b _ _ _ _ (by omega), az_cp_b _ _ _ _ (by omega), az_cp_b _ _ _ _ (by omega), az_cp_b _ _ _ _ (by omega)]
  have ea := e0 a (by omega)
  have e1 : ∀ h, 0 ≤ h → h < 6 → m1 (b + 1) h = m (a + 1) h := fun h h0 h1 => by
    rw [hm1, az_cp_b _ _ _ _ (by omega), az_cp_b _ _ _ _ (by omega), az_cp_b _ _ _ _ (by omega), az_cp_b _ _ _ _ (by omega), az_cp_b _ _ _ _ (by omega), az_cp_b _ _ _ _ (by omega), az_cp_in _ (by omega) (by omega), show (0 : Int) + (h - 0) = h by omega]
  have e2 : ∀ g, 0 ≤ g → g < 4 → m1 (b + 2) g = m (a + 2) g := fun g h0 h1 => by
    rw [hm1, az_cp_b _ _ _ _ (by omega), az_cp_b _ _ _ _ (by omega), az_cp_b _ _ _ _ (by omega), az_cp_b _ _ _ _ (by omega), az_cp_b _ _ _ _ (by omega), az_cp_in _ (by omega) (by omega), show (0 : Int) + (g - 0) = g by omega, az_cp_b _ _ _ _ (by omega)]
  have e3 : ∀ g, 0 ≤ g → g < 4 → m1 (b + 3) g = m (a + 3) g := fun g h0 h1 => by
    rw [hm1, az_cp_b _ _ _ _ (by omega), az_cp_b _ _ _ _ (by omega), az_cp_b _ _ _ _ (by omega), az_cp_b _ _ _ _ (by omega), az_cp_in _ (by omega) (by omega), show (0 : Int) + (g - 0) = g by omega, az_cp_b _ _ _ _ (by omega), az_cp_b _ _ _ _ (by omega)]
  have e4 : ∀ g, 0 ≤ g → g < 4 → m1 (b + 4) g = m (a + 4) g := fun g h0 h1 => by
    rw [hm1, az_cp_b _ _ _ _ (by omega), az_cp_b _ _ _ _ (by omega), az_cp_b _ _ _ _ (by omega), az_cp_in _ (by omega) (by omega), show (0 : Int) + (g - 0) = g by omega, az_cp_b _ _ _ _ (by omega), az_cp_b _ _ _ _ (by omega), az_cp_b _ _ _ _ (by omega)]
  have e5 : ∀ g, 0 ≤ g → g < 4 → m1 (b + 5) g = m (a + 5) g := fun g h0 h1 => by
    rw [hm1, az_cp_b _ _ _ _ (by omega), az_cp_b _ _ _ _ (by omega), az_cp_in _ (by omega) (by omega), show (0 : Int) + (g - 0) = g by omega, az_cp_b _ _ _ _ (by omega), az_cp_b _ _ _ _ (by omega), az_cp_b _ _ _ _ (by omega), az_cp_b _ _ _ _ (by omega)]
  have e6 : ∀ g, 0 ≤ g → g < 4 → m1 (b + 6) g = m (a + 6) g := fun g h0 h1 => by
    rw [hm1, az_cp_b _ _ _ _ (by omega), az_cp_in _ (by omega) (by omega), show (0 : Int) + (g - 0) = g by omega, az_cp_b _ _ _ _ (by omega), az_cp_b _ _ _ _ (by omega), az_cp_b _ _ _ _ (by omega), az_cp_b _ _ _ _ (by omega), az_cp_b _ _ _ _ (by omega)]
  have e7 : ∀ g, 0 ≤ g → g < 4 → m1 (b + 7) g = m (a + 7) g := fun g h0 h1 => by
    rw [hm1, az_cp_in _ (by omega) (by omega), show (0 : Int) + (g - 0) = g by omega, az_cp_b _ _ _ _ (by omega), az_cp_b _ _ _ _ (by omega), az_cp_b _ _ _ _ (by omega), az_cp_b _ _ _ _ (by omega), az_cp_b _ _ _ _ (by omega), az_cp_b _ _ _ _ (by omega)]
  rw [← hm1]
  clear hm1
  have hne : a ≠ b := by omega
  have q : ∀ (mm : aM) (k i v : Int), mm a k = m a k → az_up mm b i v a k = m a k := fun mm k i v h => (congrFun (az_up_b _ _ _ hne) _).trans h
  have q0 : ∀ k, m1 a k = m a k := fun k => congrFun ea k
  refine r_aload_n rfl ?_
  refine r_aload_n rfl ?_
  refine r_getZx hA_0 (q0 7) ?_
  refine r_putZ hB_0 (by omega) (by omega) ?_
  refine r_aload_n rfl ?_
  refine r_aload_n rfl ?_
  refine r_getIx hA_0 (q _ _ _ _ (q0 8)) ?_
  refine r_putI hB_0 (by omega) ?_
  refine r_aload_n rfl ?_
  refine r_aload_n rfl ?_
  refine r_getIx hA_0 (q _ _ _ _ (q _ _ _ _ (q0 9))) ?_
  refine r_putI hB_0 (by omega) ?_
  refine r_aload_n rfl ?_
  refine r_aload_n rfl ?_
  refine r_getIx hA_0 (q _ _ _ _ (q _ _ _ _ (q _ _ _ _ (q0 10)))) ?_
  refine r_putI hB_0 (by omega) ?_
  refine r_aload_n rfl ?_
  refine r_aload_n rfl ?_
  refine r_getIx hA_0 (q _ _ _ _ (q _ _ _ _ (q _ _ _ _ (q _ _ _ _ (q0 11))))) ?_
  refine r_putI hB_0 (by omega) ?_
  refine r_aload_n rfl ?_
  refine r_aload_n rfl ?_
  refine r_getIx hA_0 (q _ _ _ _ (q _ _ _ _ (q _ _ _ _ (q _ _ _ _ (q _ _ _ _ (q0 12)))))) ?_
  refine r_putI hB_0 (by omega) ?_
  refine r_aload_n rfl ?_
  refine r_aload_n rfl ?_
  refine r_getIx hA_0 (q _ _ _ _ (q _ _ _ _ (q _ _ _ _ (q _ _ _ _ (q _ _ _ _ (q _ _ _ _ (q0 13))))))) ?_
  refine r_putI hB_0 (by omega) ?_
  refine r_aload_n rfl ?_
  refine r_aload_n rfl ?_
  refine r_getIx hA_0 (q _ _ _ _ (q _ _ _ _ (q _ _ _ _ (q _ _ _ _ (q _ _ _ _ (q _ _ _ _ (q _ _ _ _ (q0 14)))))))) ?_
  refine r_putI hB_0 (by omega) ?_
  refine r_aload_n rfl ?_
  refine r_aload_n rfl ?_
  refine r_getIx hA_0 (q _ _ _ _ (q _ _ _ _ (q _ _ _ _ (q _ _ _ _ (q _ _ _ _ (q _ _ _ _ (q _ _ _ _ (q _ _ _ _ (q0 15))))))))) ?_
  refine r_putI hB_0 (by omega) ?_
  refine r_vret rfl ?_
  skip
  have u : ∀ x, x ≠ b → az_up (az_up (az_up (az_up (az_up (az_up (az_up (az_up (az_up m1 b 7 (m a 7)) b 8 (m a 8)) b 9 (m a 9)) b 10 (m a 10)) b 11 (m a 11)) b 12 (m a 12)) b 13 (m a 13)) b 14 (m a 14)) b 15 (m a 15) x = m1 x := fun x hx => by
    rw [az_up_b _ _ _ hx, az_up_b _ _ _ hx, az_up_b _ _ _ hx, az_up_b _ _ _ hx, az_up_b _ _ _ hx, az_up_b _ _ _ hx, az_up_b _ _ _ hx, az_up_b _ _ _ hx, az_up_b _ _ _ hx]
  refine ⟨rfl, fun x hx => (u x (by omega)).trans (e0 x (by omega)), fun k k0 k1 => ?_, fun h h0 h1 => ?_, fun g h0 h1 => ?_⟩
  · simp only [az_up]
    rcases (show k = 7 ∨ k = 8 ∨ k = 9 ∨ k = 10 ∨ k = 11 ∨ k = 12 ∨ k = 13 ∨ k = 14 ∨ k = 15 by omega) with rfl | rfl | rfl | rfl | rfl | rfl | rfl | rfl | rfl <;> simp
  · rw [u _ (by omega)]
    exact e1 h h0 h1
  · rw [u _ (by omega), u _ (by omega), u _ (by omega), u _ (by omega), u _ (by omega), u _ (by omega)]
    exact ⟨e2 g h0 h1, e3 g h0 h1, e4 g h0 h1, e5 g h0 h1, e6 g h0 h1, e7 g h0 h1⟩
/-! what is kept -/
def kb (i : Int) : Nat := 42 + 8 * i.toNat
def ib (k : Int) : Nat := 263 + 8 * k.toNat
theorem bSh_22 : bSh 22 := ⟨g_22, g_23, g_24, g_25, g_26, g_27, g_28, g_29⟩
theorem bSh_30 : bSh 30 := ⟨g_30, g_31, g_32, g_33, g_34, g_35, g_36, g_37⟩
theorem bSh_all : (List.range 24).all (fun i => decide (az_G[42 + 8 * i]? = some (1, 16, [42 + 8 * i + 2, 42 + 8 * i + 3, 42 + 8 * i + 4, 42 + 8 * i + 5, 42 + 8 * i + 6, 42 + 8 * i + 7, 42 + 8 * i + 8, 0, 0, 0, 0, 0, 0, 0, 0, 0])) && decide (az_G[42 + 8 * i + 1]? = some (20, 6, [])) && decide (az_G[42 + 8 * i + 2]? = some (20, 4, [])) && decide (az_G[42 + 8 * i + 3]? = some (20, 4, [])) && decide (az_G[42 + 8 * i + 4]? = some (20, 4, [])) && decide (az_G[42 + 8 * i + 5]? = some (20, 4, [])) && decide (az_G[42 + 8 * i + 6]? = some (20, 4, [])) && decide (az_G[42 + 8 * i + 7]? = some (20, 4, [])) && decide (([43, 51, 59, 67, 75, 83, 91, 99, 107, 115, 123, 131, 139, 147, 155, 163, 171, 179, 187, 195, 203, 211, 219, 227] : List Nat).getD i 0 = 42 + 8 * i + 1)) = true := by decide +kernel
theorem kb_ok {i : Int} (h0 : 0 ≤ i) (h1 : i < 24) : bSh (kb i) ∧ ([43, 51, 59, 67, 75, 83, 91, 99, 107, 115, 123, 131, 139, 147, 155, 163, 171, 179, 187, 195, 203, 211, 219, 227] : List Nat).getD i.toNat 0 = kb i + 1 := by
  have h := List.all_eq_true.mp bSh_all i.toNat (List.mem_range.mpr (by omega))
  simp only [Bool.and_eq_true, decide_eq_true_eq] at h
  exact ⟨⟨h.1.1.1.1.1.1.1.1, h.1.1.1.1.1.1.1.2, h.1.1.1.1.1.1.2, h.1.1.1.1.1.2, h.1.1.1.1.2, h.1.1.1.2, h.1.1.2, h.1.2⟩, h.2⟩
theorem kb_b {i : Int} (h0 : 0 ≤ i) (h1 : i < 24) : 42 ≤ kb i ∧ kb i + 8 ≤ 234 := by
  unfold kb
  omega
theorem ib_ok {k : Int} (h0 : 0 ≤ k) (h1 : k < 2) : bSh (ib k) ∧ ([264, 272] : List Nat).getD k.toNat 0 = ib k + 1 := by
  rcases (show k = 0 ∨ k = 1 by omega) with rfl | rfl
  · exact ⟨⟨g_263, g_264, g_265, g_266, g_267, g_268, g_269, g_270⟩, rfl⟩
  · exact ⟨⟨g_271, g_272, g_273, g_274, g_275, g_276, g_277, g_278⟩, rfl⟩
theorem ib_b {k : Int} (h0 : 0 ≤ k) (h1 : k < 2) : 263 ≤ ib k ∧ ib k + 8 ≤ 279 := by
  unfold ib
  omega
theorem c_X4_forget : az_CV sc 64 [.inr (.inr 41)] m (az_up m 40 2 0) := by
  refine r_aload_n rfl ?_
  refine r_iconst ?_
  refine r_putI g_40 (by decide) ?_
  refine r_vret rfl ?_
  exact ⟨rfl, rfl⟩
/-- the beach is kept -/
def cK (m m' : aM) : Prop := (∀ x, x ≠ 40 → (x < kb (m 40 1) ∨ kb (m 40 1) + 8 ≤ x) → m' x = m x) ∧ m' 40 1 = (m 40 1 + 1) % 24 ∧ m' 40 2 = pMn (m 40 2) ∧ ∃ m1, bCp m m1 22 (kb (m 40 1)) ∧ ∀ x, x ≠ 40 → m' x = m1 x
theorem c_X4_keep (hn : 0 ≤ m 40 1 ∧ m 40 1 < 24) (ha : 0 ≤ m 40 2 ∧ m 40 2 ≤ 24) (hz : m 22 7 = 0 ∨ m 22 7 = 1) : az_C sc az_G 79 [.inr (.inr 41), .inr (.inr 23)] m (fun v m' => v = none ∧ cK m m') := by
  obtain ⟨hS, hr⟩ := kb_ok hn.1 hn.2
  have hb := kb_b hn.1 hn.2
  have hK_0 := hS.1
  refine r_aload_n rfl ?_
  refine r_getR g_40 rfl ?_
  refine r_aload_n rfl ?_
  refine r_getI g_40 ?_
  refine r_aald g_41 (by decide) (by omega) (by omega) (hr) ?_
  refine r_aload_n rfl ?_
  refine r_cV2 hK_0 rfl (Nat.le_of_ble_eq_true rfl) (Nat.le_of_ble_eq_true rfl) (c_X1_become bSh_22 hS (by decide) (by omega) (by omega) hz) (fun v_ m_ hq_ => ?_)
  obtain ⟨rfl, hc⟩ := hq_; have e40 : m_ 40 = m 40 := hc.1 40 (by omega)
  refine r_aload_n rfl ?_
  refine r_aload_n rfl ?_
  refine r_getIx g_40 (congrFun e40 1) ?_
  refine r_iconst ?_
  first | refine r_iadd (az_wid (by omega) (by omega)) ?_ | refine r_iaddw ?_
  refine r_bipush ?_
  first | refine r_irem (by omega) (az_modn (by omega)) ?_ | refine r_irem (by omega) rfl ?_
  refine r_putI g_40 (by decide) ?_
  refine r_aload_n rfl ?_
  refine r_bipush ?_
  refine r_aload_n rfl ?_
  refine r_getIx g_40 ((az_up_eq (fun e => absurd e (by decide)) (fun _ => congrFun e40 2))) ?_
  refine r_iconst ?_
  first | refine r_iadd (az_wid (by omega) (by omega)) ?_ | refine r_iaddw ?_
  refine r_min (z := pMn (m 40 2)) (Nat.le_of_ble_eq_true rfl) (by unfold pMn; split <;> split <;> omega) ?_
  refine r_putI g_40 (by decide) ?_
  refine r_vret rfl ?_
  skip
  have e41 : ∀ x, x ≠ 40 → az_up (az_up m_ 40 1 ((m 40 1 + 1) % 24)) 40 2 (pMn (m 40 2)) x = m_ x := fun x hx => by rw [az_up_b _ _ _ hx, az_up_b _ _ _ hx]
  refine ⟨rfl, fun x h1 h2 => (e41 x h1).trans (hc.1 x h2), ?_, az_upx _ _ _ _, m_, hc, e41⟩
  rw [az_up_k _ _ (by decide), az_upx]
/-- the latest act is undone -/
def cU (m m' : aM) : Prop := (∀ x, x ≠ 40 → (x < 22 ∨ 30 ≤ x) → m' x = m x) ∧ m' 40 1 = (m 40 1 + 23) % 24 ∧ m' 40 2 = m 40 2 - 1 ∧ ∃ m1, (∀ x, x ≠ 40 → m1 x = m x) ∧ bCp m1 m' (kb ((m 40 1 + 23) % 24)) 22
theorem c_X4_undoInto (hn : 0 ≤ m 40 1 ∧ m 40 1 < 24) (ha : 1 ≤ m 40 2 ∧ m 40 2 ≤ 24) (hz : m (kb ((m 40 1 + 23) % 24)) 7 = 0 ∨ m (kb ((m 40 1 + 23) % 24)) 7 = 1) : az_C sc az_G 121 [.inr (.inr 41), .inr (.inr 23)] m (fun v m' => v = none ∧ cU m m') := by
  obtain ⟨hS, hr⟩ := kb_ok (i := (m 40 1 + 23) % 24) (by omega) (by omega)
  have hb := kb_b (i := (m 40 1 + 23) % 24) (by omega) (by omega)
  have e1 : (m 40 1 + 24 - 1) % 24 = (m 40 1 + 23) % 24 := by omega
  obtain ⟨m1, hm1⟩ : ∃ x, x = az_up (az_up m 40 1 ((m 40 1 + 23) % 24)) 40 2 (m 40 2 - 1) := ⟨_, rfl⟩
  have e41 : ∀ x, x ≠ 40 → m1 x = m x := fun x hx => by rw [hm1, az_up_b _ _ _ hx, az_up_b _ _ _ hx]
  have h1 : m1 40 1 = (m 40 1 + 23) % 24 := by rw [hm1, az_up_k _ _ (by decide), az_upx]
  have h2 : m1 40 2 = m 40 2 - 1 := by rw [hm1, az_upx]
  have hz1 : m1 (kb ((m 40 1 + 23) % 24)) 7 = 0 ∨ m1 (kb ((m 40 1 + 23) % 24)) 7 = 1 := by
    rw [e41 _ (by omega)]
    exact hz
  refine r_aload_n rfl ?_
  refine r_aload_n rfl ?_
  refine r_getI g_40 ?_
  refine r_bipush ?_
  first | refine r_iadd (az_wid (by omega) (by omega)) ?_ | refine r_iaddw ?_
  refine r_iconst ?_
  first | refine r_isub (az_wid (by omega) (by omega)) ?_ | refine r_isubw ?_
  refine r_bipush ?_
  refine r_irem (by omega) ((az_modn (by omega)).trans e1) ?_
  refine r_putI g_40 (by decide) ?_
  refine r_aload_n rfl ?_
  refine r_dupR ?_
  refine r_getIx g_40 (az_up_eq (fun e => absurd e (by decide)) (fun _ => rfl)) ?_
  refine r_iconst ?_
  first | refine r_isub (az_wid (by omega) (by omega)) ?_ | refine r_isubw ?_
  refine r_putI g_40 (by decide) ?_
  rw [← hm1]
  have hK_0 := hS.1
  refine r_aload_n rfl ?_
  refine r_aload_n rfl ?_
  refine r_getR g_40 rfl ?_
  refine r_aload_n rfl ?_
  refine r_getIx g_40 (h1) ?_
  refine r_aald g_41 (by decide) (by omega) (by omega) (hr) ?_
  refine r_cV2 g_22 rfl (Nat.le_of_ble_eq_true rfl) (Nat.le_of_ble_eq_true rfl) (c_X1_become hS bSh_22 (by omega) (by decide) (by omega) hz1) (fun v_ m_ hq_ => ?_)
  obtain ⟨rfl, hc⟩ := hq_
  refine r_vret rfl ?_
  skip
  have e40 : m_ 40 = m1 40 := hc.1 40 (by omega)
  exact ⟨rfl, fun x h1 h2 => (hc.1 x (by omega)).trans (e41 x h1), (congrFun e40 1).trans h1, (congrFun e40 2).trans h2, m1, e41, hc⟩
end CB
