/-! machine numbers as ints; what each step says of its start -/
theorem az_bm32 {z : Int} (h1 : -2147483648 ≤ z) (h2 : z < 2147483648) : z.bmod (2 ^ 32) = z := by
  rw [Int.bmod_eq_of_le (by omega) (by omega)]
theorem az_bm64 {z : Int} (h1 : -9223372036854775808 ≤ z) (h2 : z < 9223372036854775808) : z.bmod (2 ^ 64) = z := by
  rw [Int.bmod_eq_of_le (by omega) (by omega)]
theorem az_rg32 (x : Int32) : -2147483648 ≤ x.toInt ∧ x.toInt < 2147483648 := by
  have h1 := Int32.le_toInt x
  have h2 := Int32.toInt_lt x
  constructor <;> omega
theorem az_rg64 (x : Int64) : -9223372036854775808 ≤ x.toInt ∧ x.toInt < 9223372036854775808 := by
  have h1 := Int64.le_toInt x
  have h2 := Int64.toInt_lt x
  constructor <;> omega
theorem az_n_add (x y : Int32) : (x + y).toInt = az_w (x.toInt + y.toInt) := Int32.toInt_add x y
theorem az_n_sub (x y : Int32) : (x - y).toInt = az_w (x.toInt - y.toInt) := Int32.toInt_sub x y
theorem az_n_mul (x y : Int32) : (x * y).toInt = az_w (x.toInt * y.toInt) := Int32.toInt_mul x y
theorem az_n_neg (x : Int32) : (-x).toInt = az_w (-x.toInt) := Int32.toInt_neg x
theorem az_n_div (x y : Int32) : (x / y).toInt = az_w (x.toInt.tdiv y.toInt) := Int32.toInt_div x y
theorem az_tmod_rg {x y : Int} {M : Int} (hx : -M ≤ x) (hx2 : x < M) : -M ≤ x.tmod y ∧ x.tmod y < M := by
  have h := Int.natAbs_tmod x y
  have h2 : x.natAbs % y.natAbs ≤ x.natAbs := Nat.mod_le _ _
  have h3 : 0 ≤ x → 0 ≤ x.tmod y := fun h => Int.tmod_nonneg y h
  have h4 : x ≤ 0 → x.tmod y ≤ 0 := fun h => by
    have := Int.tmod_nonneg y (show 0 ≤ -x by omega)
    rw [Int.neg_tmod] at this
    omega
  omega
theorem az_n_rem (x y : Int32) : (x - x / y * y).toInt = x.toInt.tmod y.toInt := by
  have hr := az_rg32 x
  have h := az_tmod_rg (y := y.toInt) hr.1 hr.2
  rw [Int32.toInt_sub, Int32.toInt_mul, Int32.toInt_div, Int.bmod_mul_bmod, Int.sub_bmod_bmod]
  rw [Int.tmod_def] at h ⊢
  rw [Int.mul_comm (x.toInt.tdiv y.toInt)]
  exact az_bm32 h.1 h.2
theorem az_n_ladd (x y : Int64) : (x + y).toInt = az_wl (x.toInt + y.toInt) := Int64.toInt_add x y
theorem az_n_lsub (x y : Int64) : (x - y).toInt = az_wl (x.toInt - y.toInt) := Int64.toInt_sub x y
theorem az_n_lmul (x y : Int64) : (x * y).toInt = az_wl (x.toInt * y.toInt) := Int64.toInt_mul x y
theorem az_n_ldiv (x y : Int64) : (x / y).toInt = az_wl (x.toInt.tdiv y.toInt) := Int64.toInt_div x y
theorem az_n_lrem (x y : Int64) : (x - x / y * y).toInt = x.toInt.tmod y.toInt := by
  have hr := az_rg64 x
  have h := az_tmod_rg (y := y.toInt) hr.1 hr.2
  rw [Int64.toInt_sub, Int64.toInt_mul, Int64.toInt_div, Int.bmod_mul_bmod, Int.sub_bmod_bmod]
  rw [Int.tmod_def] at h ⊢
  rw [Int.mul_comm (x.toInt.tdiv y.toInt)]
  exact az_bm64 h.1 h.2
theorem az_n_and (x y : Int32) : (x &&& y).toInt = az_and x.toInt y.toInt := by simp [az_and]
theorem az_n_or (x y : Int32) : (x ||| y).toInt = az_or x.toInt y.toInt := by simp [az_or]
theorem az_n_xor (x y : Int32) : (x ^^^ y).toInt = az_xor x.toInt y.toInt := by simp [az_xor]
theorem az_n_shl (x y : Int32) : (x <<< (y &&& 31)).toInt = az_shl x.toInt y.toInt := by simp [az_shl]
theorem az_n_shr (x y : Int32) : (x >>> (y &&& 31)).toInt = az_shr x.toInt y.toInt := by simp [az_shr]
theorem az_n_ush (x y : Int32) : ((x.toUInt32 >>> (y.toUInt32 &&& Int32.toUInt32 31)).toInt32).toInt = az_ush x.toInt y.toInt := by
  unfold az_ush
  rw [Int32.ofInt_toInt, Int32.ofInt_toInt]
theorem az_n_land (x y : Int64) : (x &&& y).toInt = az_land x.toInt y.toInt := by simp [az_land]
theorem az_n_lor (x y : Int64) : (x ||| y).toInt = az_lor x.toInt y.toInt := by simp [az_lor]
theorem az_n_lshl (x : Int64) (y : Int32) : (x <<< (y.toInt64 &&& 63)).toInt = az_lshl x.toInt y.toInt := by
  unfold az_lshl
  rw [Int32.ofInt_toInt, Int64.ofInt_toInt]
theorem az_n_lshr (x : Int64) (y : Int32) : (x >>> (y.toInt64 &&& 63)).toInt = az_lshr x.toInt y.toInt := by
  unfold az_lshr
  rw [Int32.ofInt_toInt, Int64.ofInt_toInt]
theorem az_n_i2b (x : Int32) : x.toInt8.toInt32.toInt = az_i2b x.toInt := by
  unfold az_i2b
  rw [Int32.ofInt_toInt]
theorem az_n_i2s (x : Int32) : x.toInt16.toInt32.toInt = az_i2s x.toInt := by
  unfold az_i2s
  rw [Int32.ofInt_toInt]
theorem az_n_i2c (x : Int32) : (x.toUInt32 % 65536).toInt32.toInt = az_i2c x.toInt := by
  unfold az_i2c
  rw [Int32.ofInt_toInt]
theorem az_n_i2l (x : Int32) : x.toInt64.toInt = x.toInt := Int32.toInt_toInt64 x
theorem az_n_l2i (x : Int64) : x.toInt32.toInt = az_w x.toInt := Int64.toInt_toInt32 x
theorem az_n_cmp (x y : Int64) : (lg_cmp x y).toInt = az_cmp x.toInt y.toInt := by
  unfold lg_cmp az_cmp
  simp only [gt_iff_lt, Int64.lt_iff_toInt_lt, ← Int64.toInt_inj]
  repeat' split
  all_goals first | rfl | omega
theorem az_n_lit {n : Int} (h1 : -2147483648 ≤ n) (h2 : n < 2147483648) : (Int32.ofInt n).toInt = n := by
  rw [Int32.toInt_ofInt, az_bm32 h1 h2]
theorem az_n_litL {n : Int} (h1 : -9223372036854775808 ≤ n) (h2 : n < 9223372036854775808) : (Int64.ofInt n).toInt = n := by
  rw [Int64.toInt_ofInt, az_bm64 h1 h2]
theorem az_n_lit8 {n : Int} (h1 : -128 ≤ n) (h2 : n < 128) : (Int8.ofInt n).toInt32.toInt = n := by
  rw [Int8.toInt_toInt32, Int8.toInt_ofInt, show Int8.size = 256 from rfl, Int.bmod_eq_of_le (by omega) (by omega)]
theorem az_n_lit16 {n : Int} (h1 : -32768 ≤ n) (h2 : n < 32768) : (Int16.ofInt n).toInt32.toInt = n := by
  rw [Int16.toInt_toInt32, Int16.toInt_ofInt, show Int16.size = 65536 from rfl, Int.bmod_eq_of_le (by omega) (by omega)]
theorem az_n_0 {y : Int32} (h : ¬ y.toInt = 0) : ¬ y = 0 := fun e => h (by rw [e]; rfl)
theorem az_n_0L {y : Int64} (h : ¬ y.toInt = 0) : ¬ y = 0 := fun e => h (by rw [e]; rfl)
theorem az_n_in {j : Int32} {n : Nat} (h0 : 0 ≤ j.toInt) (h1 : j.toInt < (n : Int)) : ¬ (j < 0 ∨ n ≤ j.toNatClampNeg) := by
  have e : j.toNatClampNeg = j.toInt.toNat := rfl
  rintro (h | h)
  · have := Int32.lt_iff_toInt_lt.mp h
    have z : (0 : Int32).toInt = 0 := rfl
    omega
  · omega
theorem az_n_cl {j : Int32} : j.toNatClampNeg = j.toInt.toNat := rfl
theorem az_n_pos {j : Int32} (h0 : 0 ≤ j.toInt) : ¬ j < 0 := fun h => by
  have := Int32.lt_iff_toInt_lt.mp h
  have z : (0 : Int32).toInt = 0 := rfl
  omega
theorem az_n_max (x y : Int32) : (if x < y then y else x).toInt = (if x.toInt < y.toInt then y.toInt else x.toInt) := by
  simp only [Int32.lt_iff_toInt_lt]
  split <;> rfl
theorem az_n_min (x y : Int32) : (if y < x then y else x).toInt = (if y.toInt < x.toInt then y.toInt else x.toInt) := by
  simp only [Int32.lt_iff_toInt_lt]
  split <;> rfl
theorem az_n_maxL (x y : Int64) : (if y < x then x else y).toInt = (if x.toInt < y.toInt then y.toInt else x.toInt) := by
  simp only [Int64.lt_iff_toInt_lt]
  repeat' split
  all_goals omega
theorem az_dec_ok {b : ByteArray} {pc : Nat} {i : Instr} (h : az_dec b pc i = true) (hl : az_len i ≠ 0) : decode b pc = .ok (i, az_len i) := by
  unfold az_dec at h
  split at h
  · next q hq =>
    simp only [Bool.and_eq_true, Bool.or_eq_true, decide_eq_true_eq] at h
    rcases h with ⟨h1, h2 | h2⟩
    · exact absurd h2 hl
    · subst h1
      rw [hq, ← h2]
  · cases h
theorem az_dec_ok0 {b : ByteArray} {pc : Nat} {i : Instr} (h : az_dec b pc i = true) : ∃ n, decode b pc = .ok (i, n) := by
  unfold az_dec at h
  split at h
  · next q hq =>
    simp only [Bool.and_eq_true, decide_eq_true_eq] at h
    exact ⟨q.2, by rw [hq, ← h.1]⟩
  · cases h
