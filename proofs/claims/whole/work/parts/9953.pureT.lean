/-! bytes; the class's feed; tokens -/
section PT
variable {sc : aX} {m : aM} {Q : Option aV → aM → Prop}
theorem by_and (y : Int64) : (y &&& 255).toInt = y.toInt % 256 := by
  have h1 : (y &&& 255).toBitVec.toNat = y.toBitVec.toNat % 256 := by
    rw [Int64.toBitVec_and, BitVec.toNat_and]
    exact Nat.and_two_pow_sub_one_eq_mod _ 8
  have e2 : (y &&& 255).toInt = (y &&& 255).toBitVec.toInt := rfl
  have e3 : y.toInt = y.toBitVec.toInt := rfl
  rw [e2, e3, BitVec.toInt_eq_toNat_cond, BitVec.toInt_eq_toNat_cond, h1]
  have h4 := y.toBitVec.isLt
  split <;> split <;> omega
def cByt (w k : Int) : Int := az_i2b (az_w (az_lshr w (8 * k)))
theorem az_i2b_b (y : Int) : -128 ≤ az_i2b y ∧ az_i2b y < 128 := by
  unfold az_i2b
  rw [Int8.toInt_toInt32]
  exact ⟨Int8.le_toInt _, Int8.toInt_lt _⟩
theorem az_i2b_m (y : Int) : az_i2b y % 256 = y % 256 := by
  unfold az_i2b
  rw [Int8.toInt_toInt32, Int32.toInt_toInt8, Int32.toInt_ofInt]
  rw [show ((2 : Nat) ^ 8) = 256 from rfl, show Int32.size = 4294967296 from rfl]
  have a := Int.bmod_emod (x := y.bmod 4294967296) (m := 256)
  have b := Int.bmod_emod (x := y) (m := 4294967296)
  omega
theorem byt_rel (w k : Int) : pByt w k = cByt w k % 256 := by
  unfold pByt cByt
  rw [az_i2b_m]
  unfold az_land az_lshr
  rw [Int64.ofInt_toInt, show Int64.ofInt 255 = 255 from rfl, by_and]
  unfold az_w
  generalize (Int64.ofInt w >>> ((Int32.ofInt (8 * k)).toInt64 &&& 63)).toInt = y
  have a := Int.bmod_emod (x := y) (m := 4294967296)
  have b : (y % 256).bmod 4294967296 = y % 256 := az_bm32 (by omega) (by omega)
  rw [b]
  omega
theorem c_X6_hasRoomFor {n L : Int} (hL : m 38 1 = L) (hb : 0 ≤ L ∧ L ≤ 400) : az_CI sc 30 [.inr (.inr 39), .inl n] m (if n ≤ 400 - L then 1 else 0) m := by
  refine r_iload_n rfl ?_
  refine r_sipush ?_
  refine r_aload_n rfl ?_
  refine r_getIx g_38 (hL) ?_
  first | refine r_isub (az_wid (by omega) (by omega)) ?_ | refine r_isubw ?_
  refine r_icmp_gt kX6_hasRoomFor_16 (fun c1 => ?_) (fun c1 => ?_)
  · refine r_iconst ?_
    refine r_zret rfl (by omega) ?_
    exact ⟨az_oI (by first | rw [if_pos (by omega)] | rw [if_neg (by omega)]), rfl⟩
  · refine r_iconst ?_
    refine r_goto kX6_hasRoomFor_17 ?_
    refine r_zret rfl (by omega) ?_
    exact ⟨az_oI (by first | rw [if_pos (by omega)] | rw [if_neg (by omega)]), rfl⟩
def pFdC (T : Int → Int) (w t n k : Int) : Int → Int := fun x => if t ≤ x ∧ x < t + k then cByt w (n - 1 - (x - t)) else T x
theorem pFdC_S (T : Int → Int) (w t n : Int) {k : Int} (h : 0 ≤ k) : up1 (pFdC T w t n k) (t + k) (cByt w (n - 1 - k)) = pFdC T w t n (k + 1) := by
  funext x
  unfold up1 pFdC
  by_cases e : x = t + k
  · subst e
    rw [if_pos rfl, if_pos (by omega), show t + k - t = k by omega]
  · rw [if_neg e]
    by_cases h1 : t ≤ x ∧ x < t + k
    · rw [if_pos h1, if_pos (by omega)]
    · rw [if_neg h1, if_neg (by omega)]
theorem pFdC_0 (T : Int → Int) (w t n : Int) : pFdC T w t n 0 = T := by
  funext x
  unfold pFdC
  rw [if_neg (by omega)]
theorem c_X6_append {w n : Int} (hn : 1 ≤ n ∧ n ≤ 8) (ht : 0 ≤ m 38 1 ∧ m 38 1 + n ≤ 400) : az_CV sc 31 [.inr (.inr 39), .inr (.inl w), .inl n] m (az_up (az_set m 39 (pFdC (m 39) w (m 38 1) n n)) 38 1 (m 38 1 + n)) := by
  have e0 : m = az_up (az_set m 39 (m 39)) 38 1 (m 38 1) := by
    rw [az_s0]
    exact (az_up_same rfl).symm
  refine r_iload_n rfl ?_
  refine r_iconst ?_
  first | refine r_isub (az_wid (by omega) (by omega)) ?_ | refine r_isubw ?_
  refine r_istore (Nat.le_of_ble_eq_true rfl) rfl ?_
  skip
  refine az_Em e0 ?_
  refine az_dwn (α := (Int → Int) × Int) (fun k _ => [some (.inr (.inr (39))), some (.inr (.inl (w))), none, some (.inl (n)), some (.inl (k))]) (fun x => az_up (az_set m 39 x.1) 38 1 x.2) (fun k x => x.1 = pFdC (m 39) w (m 38 1) n (n - 1 - k) ∧ x.2 = m 38 1 + (n - 1 - k)) (n - 1) (m 39, m 38 1) (by omega) ⟨by rw [Int.sub_self, pFdC_0], by dsimp only; omega⟩ (fun k x h0 h1 hp hK => ?_) (fun x hp => ?_)
  · obtain ⟨F, x⟩ := x
    obtain ⟨hp1, hp2⟩ := hp
    dsimp only at hp1 hp2 ⊢
    have hS := pFdC_S (m 39) w (m 38 1) n (k := n - 1 - k) (by omega)
    rw [← hp1, ← hp2, show n - 1 - (n - 1 - k) = k by omega] at hS
    have h5 : az_up (az_set m 39 F) 38 1 x 38 1 = x := az_up_at _ _ _ _
    have h6 : ∀ v, az_up (az_up (az_set m 39 F) 38 1 x) 39 x v 38 1 = x := fun v => (congrFun (az_up_b _ _ _ (by decide)) _).trans h5
    have hcb := az_i2b_b (az_w (az_lshr w (8 * k)))
    have hcc : az_i2b (az_w (az_lshr w (8 * k))) = cByt w k := rfl
    rw [hcc] at hcb
    refine r_iload rfl ?_
    refine r_if_lt kX6_append_44 (fun c1 => absurd c1 (by omega)) (fun c1 => ?_)
    refine r_aload_n rfl ?_
    refine r_getR g_38 rfl ?_
    refine r_aload_n rfl ?_
    refine r_getIx g_38 (h5) ?_
    refine r_lload_n rfl ?_
    refine r_bipush ?_
    refine r_iload rfl ?_
    first | refine r_imul (az_wid (by omega) (by omega)) ?_ | refine r_imulw ?_
    refine r_lshr rfl ?_
    refine r_l2i (rfl) ?_
    refine r_i2b (hcc) ?_
    refine r_bast g_39 (by decide) (by omega) (by omega) (by omega) ?_
    refine r_aload_n rfl ?_
    refine r_dupR ?_
    refine r_getIx g_38 (h6 _) ?_
    refine r_iconst ?_
    first | refine r_iadd (az_wid (by omega) (by omega)) ?_ | refine r_iaddw ?_
    refine r_putI g_38 (by decide) ?_
    refine r_iinc rfl (az_wid (by omega) (by omega)) rfl ?_
    refine r_goto kX6_append_5 ?_
    refine az_Em ?_ (hK (up1 F x (cByt w k), x + 1) ⟨by dsimp only; rw [hS]; congr 1; omega, by dsimp only; omega⟩); dsimp only; rw [az_upc _ (by decide : (38 : Nat) ≠ 39), az_us, az_upup]
  · obtain ⟨F, x⟩ := x
    obtain ⟨hp1, hp2⟩ := hp
    dsimp only at hp1 hp2 ⊢
    rw [show n - 1 - -1 = n by omega] at hp1 hp2
    subst hp1 hp2
    refine r_iload rfl ?_
    refine r_if_lt kX6_append_44 (fun c1 => ?_) (fun c1 => absurd c1 (by decide))
    refine r_vret rfl ?_
    exact ⟨rfl, rfl⟩
def cFeed (m : aM) (w n : Int) : aM := if 1 ≤ n ∧ n ≤ 8 then (if 400 < m 38 1 + n then m else az_up (az_set m 39 (pFdC (m 39) w (m 38 1) n n)) 38 1 (m 38 1 + n)) else m
theorem c_X7_feed {w n : Int} (ht : 0 ≤ m 38 1 ∧ m 38 1 ≤ 400) (he : m 38 1 = m 279 5) : az_CI sc 32 [.inr (.inr 20), .inr (.inl w), .inl n] m (pFeed m w n).1 (cFeed m w n) := by
  unfold pFeed cFeed
  rw [← he]
  by_cases hn : 1 ≤ n ∧ n ≤ 8
  · rw [if_pos hn, if_pos hn]
    by_cases hl : 400 < m 38 1 + n
    · rw [if_pos hl, if_pos hl]
      refine r_iload_n rfl ?_
      refine r_iconst ?_
      refine r_icmp_lt kX7_feed_11 (fun c1 => absurd c1 (by omega)) (fun c1 => ?_)
      refine r_iload_n rfl ?_
      refine r_bipush ?_
      refine r_icmp_le kX7_feed_14 (fun c2 => ?_) (fun c2 => absurd c2 (by omega))
      refine r_aload_n rfl ?_
      refine r_getR g_19 rfl ?_
      refine r_iload_n rfl ?_
      refine r_cV2I g_38 rfl (Nat.le_of_ble_eq_true rfl) (Nat.le_of_ble_eq_true rfl) (c_X6_hasRoomFor rfl ht) ?_
      refine r_if_ne kX7_feed_28 (fun c3 => absurd c3 (by omega)) (fun c3 => ?_)
      refine r_ldcI ?_
      refine r_iret rfl ?_
      exact ⟨rfl, rfl⟩
    · rw [if_neg hl, if_neg hl]
      refine r_iload_n rfl ?_
      refine r_iconst ?_
      refine r_icmp_lt kX7_feed_11 (fun c1 => absurd c1 (by omega)) (fun c1 => ?_)
      refine r_iload_n rfl ?_
      refine r_bipush ?_
      refine r_icmp_le kX7_feed_14 (fun c2 => ?_) (fun c2 => absurd c2 (by omega))
      refine r_aload_n rfl ?_
      refine r_getR g_19 rfl ?_
      refine r_iload_n rfl ?_
      refine r_cV2I g_38 rfl (Nat.le_of_ble_eq_true rfl) (Nat.le_of_ble_eq_true rfl) (c_X6_hasRoomFor rfl ht) ?_
      refine r_if_ne kX7_feed_28 (fun c3 => ?_) (fun c3 => absurd c3 (by omega))
      refine r_aload_n rfl ?_
      refine r_getR g_19 rfl ?_
      refine r_lload_n rfl ?_
      refine r_iload_n rfl ?_
      refine r_cV3V g_38 rfl (Nat.le_of_ble_eq_true rfl) (Nat.le_of_ble_eq_true rfl) (c_X6_append hn (by omega)) ?_
      refine r_aload_n rfl ?_
      refine r_getR g_19 rfl ?_
      refine r_getIx g_38 (az_up_at _ _ _ _) ?_
      refine r_iret rfl ?_
      exact ⟨rfl, rfl⟩
  · rw [if_neg hn, if_neg hn]
    refine r_iload_n rfl ?_
    refine r_iconst ?_
    refine r_icmp_lt kX7_feed_11 (fun c1 => ?_) (fun c1 => ?_)
    · refine r_ldcI ?_
      refine r_iret rfl ?_
      exact ⟨rfl, rfl⟩
    · refine r_iload_n rfl ?_
      refine r_bipush ?_
      refine r_icmp_le kX7_feed_14 (fun c2 => absurd c2 (by omega)) (fun c2 => ?_)
      refine r_ldcI ?_
      refine r_iret rfl ?_
      exact ⟨rfl, rfl⟩
/-! a run of places that keep to something -/
def pRunF (C : Int → Bool) (n : Int) : Nat → Int → Int
  | 0, a => a
  | k + 1, a => if a < n ∧ C a = true then pRunF C n k (a + 1) else a
def pRun (C : Int → Bool) (n a : Int) : Int := pRunF C n (n - a).toNat a
theorem pRun_1 {C : Int → Bool} {n a : Int} (h : a < n) (hc : C a = true) : pRun C n a = pRun C n (a + 1) := by
  unfold pRun
  rw [show (n - a).toNat = (n - (a + 1)).toNat + 1 by omega]
  show (if a < n ∧ C a = true then _ else _) = _
  rw [if_pos ⟨h, hc⟩]
theorem pRun_0 {C : Int → Bool} {n a : Int} (h : ¬ (a < n ∧ C a = true)) : pRun C n a = a := by
  unfold pRun
  cases (n - a).toNat with
  | zero => rfl
  | succ k =>
    show (if a < n ∧ C a = true then _ else _) = _
    rw [if_neg h]
theorem pRunF_b {C : Int → Bool} {n : Int} : ∀ (k : Nat) (a : Int), a ≤ n → (a ≤ pRunF C n k a ∧ pRunF C n k a ≤ n) ∧ ∀ x, a ≤ x → x < pRunF C n k a → C x = true := by
  intro k
  induction k with
  | zero => intro a h; exact ⟨⟨Int.le_refl _, h⟩, fun x h1 h2 => absurd h2 (by show ¬ x < a; omega)⟩
  | succ k ih =>
    intro a h
    show (a ≤ (if a < n ∧ C a = true then pRunF C n k (a + 1) else a) ∧ (if a < n ∧ C a = true then pRunF C n k (a + 1) else a) ≤ n) ∧ ∀ x, a ≤ x → x < (if a < n ∧ C a = true then pRunF C n k (a + 1) else a) → C x = true
    by_cases hc : a < n ∧ C a = true
    · rw [if_pos hc]
      obtain ⟨h1, h2⟩ := ih (a + 1) (by omega)
      refine ⟨by omega, fun x x1 x2 => ?_⟩
      by_cases e : x = a
      · subst e; exact hc.2
      · exact h2 x (by omega) x2
    · rw [if_neg hc]
      exact ⟨by omega, fun x x1 x2 => by omega⟩
theorem pRun_b {C : Int → Bool} {n a : Int} (h : a ≤ n) : (a ≤ pRun C n a ∧ pRun C n a ≤ n) ∧ ∀ x, a ≤ x → x < pRun C n a → C x = true := pRunF_b _ _ h
/-! tokens -/
def pSort (v : Int) : Int := if 97 ≤ v ∧ v ≤ 122 then 1 else if 48 ≤ v ∧ v ≤ 57 then 2 else if v = 59 then 3 else 4
theorem pSort_b (v : Int) : 1 ≤ pSort v ∧ pSort v ≤ 4 := by
  unfold pSort
  (repeat' split) <;> omega
def pBlk (T : Int → Int) (x : Int) : Bool := decide (T x = 32 ∨ T x = 10)
def pIs (T : Int → Int) (s x : Int) : Bool := decide (pSort (T x) = s)
def pB (T : Int → Int) (n a : Int) : Int := pRun (pBlk T) n a
def pK0 (T : Int → Int) (n b : Int) : Int := if b < n then pSort (T b) else 0
def pE (T : Int → Int) (n b : Int) : Int := if pK0 T n b = 1 ∨ pK0 T n b = 2 then pRun (pIs T (pK0 T n b)) n b else if 2 < pK0 T n b then b + 1 else b
def pK (T : Int → Int) (n b : Int) : Int := if pK0 T n b = 2 ∧ 3 < pE T n b - b then 4 else pK0 T n b
def pVs (T : Int → Int) (b s : Int) : Int → Int → Int := fun x v => if 7 < x - b then -1 else if s = 1 then 32 * v + T x - 96 else 10 * v + T x - 48
def pV (T : Int → Int) (b s e : Int) : Int := az_F (fun i v => pVs T b s (b + i) v) 0 (e - b)
theorem pK0_b (T : Int → Int) (n b : Int) : 0 ≤ pK0 T n b ∧ pK0 T n b ≤ 4 ∧ (pK0 T n b = 0 ↔ n ≤ b) := by
  unfold pK0
  have := pSort_b (T b)
  split <;> omega
theorem pB_b {T : Int → Int} {n a : Int} (h : a ≤ n) : a ≤ pB T n a ∧ pB T n a ≤ n := (pRun_b h).1
theorem pE_b {T : Int → Int} {n b : Int} (h : b ≤ n) : b ≤ pE T n b ∧ pE T n b ≤ n := by
  have hk := pK0_b T n b
  unfold pE
  split
  · exact (pRun_b h).1
  · split <;> omega
theorem pE_run {T : Int → Int} {n b : Int} (h : b ≤ n) (hk : pK0 T n b = 1 ∨ pK0 T n b = 2) : ∀ x, b ≤ x → x < pE T n b → pSort (T x) = pK0 T n b := fun x x1 x2 => by
  have hr := (pRun_b (C := pIs T (pK0 T n b)) h).2 x x1
  unfold pE at x2
  rw [if_pos hk] at x2
  have := hr x2
  unfold pIs at this
  simpa using this
theorem pV_S {T : Int → Int} {b s e : Int} (h : b ≤ e) : pV T b s (e + 1) = pVs T b s e (pV T b s e) := by
  unfold pV
  rw [show e + 1 - b = (e - b) + 1 by omega, az_FS _ _ (by omega), show b + (e - b) = e by omega]
/-- positions: token by token -/
def pA (T : Int → Int) (n : Int) : Nat → Int
  | 0 => 0
  | i + 1 => pE T n (pB T n (pA T n i))
def tB (T : Int → Int) (n : Int) (i : Nat) : Int := pB T n (pA T n i)
def tE (T : Int → Int) (n : Int) (i : Nat) : Int := pE T n (tB T n i)
def tK (T : Int → Int) (n : Int) (i : Nat) : Int := pK T n (tB T n i)
def tV (T : Int → Int) (n : Int) (i : Nat) : Int := pV T (tB T n i) (pK0 T n (tB T n i)) (tE T n i)
theorem pA_S (T : Int → Int) (n : Int) (i : Nat) : pA T n (i + 1) = tE T n i := rfl
theorem pA_b {T : Int → Int} {n : Int} (hn : 0 ≤ n) : ∀ i : Nat, 0 ≤ pA T n i ∧ pA T n i ≤ n := by
  intro i
  induction i with
  | zero => exact ⟨Int.le_refl _, hn⟩
  | succ i ih =>
    have h1 := pB_b (T := T) ih.2
    have h2 := pE_b (T := T) h1.2
    show 0 ≤ pE T n (pB T n (pA T n i)) ∧ pE T n (pB T n (pA T n i)) ≤ n
    omega
theorem tB_b {T : Int → Int} {n : Int} (hn : 0 ≤ n) (i : Nat) : pA T n i ≤ tB T n i ∧ tB T n i ≤ n := pB_b (pA_b hn i).2
theorem tE_b {T : Int → Int} {n : Int} (hn : 0 ≤ n) (i : Nat) : tB T n i ≤ tE T n i ∧ tE T n i ≤ n := pE_b (tB_b hn i).2
/-! words, by their letters from the last back -/
def rl (T : Int → Int) (b : Int) : Nat → List Int
  | 0 => []
  | k + 1 => (T (b + k) - 96) :: rl T b k
def hL : List Int → Int
  | [] => 0
  | d :: l => 32 * hL l + d
def l26 (l : List Int) : Prop := ∀ d ∈ l, 1 ≤ d ∧ d ≤ 26
theorem hL_b : ∀ (l : List Int), l26 l → 0 ≤ hL l := by
  intro l
  induction l with
  | nil => intro _; exact Int.le_refl _
  | cons d l ih =>
    intro h
    have h1 := h d (List.mem_cons_self ..)
    have h2 := ih (fun x hx => h x (List.mem_cons_of_mem _ hx))
    show 0 ≤ 32 * hL l + d
    omega
theorem hL_i : ∀ (l l' : List Int), l26 l → l26 l' → hL l = hL l' → l = l' := by
  intro l
  induction l with
  | nil =>
    intro l' _ h' e
    cases l' with
    | nil => rfl
    | cons d l' =>
      have h1 := h' d (List.mem_cons_self ..)
      have h2 := hL_b l' (fun x hx => h' x (List.mem_cons_of_mem _ hx))
      have e2 : 0 = 32 * hL l' + d := e
      omega
  | cons d l ih =>
    intro l' h h' e
    have a1 := h d (List.mem_cons_self ..)
    have a2 := hL_b l (fun x hx => h x (List.mem_cons_of_mem _ hx))
    cases l' with
    | nil =>
      have e2 : 32 * hL l + d = 0 := e
      omega
    | cons d' l' =>
      have h1 := h' d' (List.mem_cons_self ..)
      have e2 : 32 * hL l + d = 32 * hL l' + d' := e
      have e3 : d = d' := by omega
      subst e3
      rw [ih l' (fun x hx => h x (List.mem_cons_of_mem _ hx)) (fun x hx => h' x (List.mem_cons_of_mem _ hx)) (by omega)]
theorem rl_26 {T : Int → Int} {b : Int} : ∀ (k : Nat), (∀ x, b ≤ x → x < b + k → pSort (T x) = 1) → l26 (rl T b k) := by
  intro k
  induction k with
  | zero => intro _ d hd; cases hd
  | succ k ih =>
    intro h d hd
    rcases List.mem_cons.mp hd with e | e
    · have := h (b + k) (by omega) (by omega)
      unfold pSort at this
      subst e
      split at this
      · omega
      · split at this
        · omega
        · split at this <;> omega
    · exact ih (fun x x1 x2 => h x x1 (by omega)) d e
theorem rl_len (T : Int → Int) (b : Int) : ∀ k : Nat, (rl T b k).length = k := by
  intro k
  induction k with
  | zero => rfl
  | succ k ih => show (rl T b k).length + 1 = _; rw [ih]
theorem pV_h {T : Int → Int} {b : Int} : ∀ (k : Nat), k ≤ 8 → pV T b 1 (b + k) = hL (rl T b k) := by
  intro k
  induction k with
  | zero =>
    intro _
    rw [show b + ((0 : Nat) : Int) = b by omega]
    unfold pV
    rw [Int.sub_self]
    rfl
  | succ k ih =>
    intro h
    rw [show b + ((k + 1 : Nat) : Int) = (b + k) + 1 by omega, pV_S (by omega), ih (by omega)]
    unfold pVs
    rw [if_neg (by omega), if_pos rfl]
    show _ = 32 * hL (rl T b k) + (T (b + k) - 96)
    omega
theorem pV_9 {T : Int → Int} {b e : Int} (h : 8 < e - b) : pV T b 1 e = -1 := by
  have := pV_S (T := T) (b := b) (s := 1) (e := e - 1) (by omega)
  rw [show e - 1 + 1 = e by omega] at this
  rw [this]
  unfold pVs
  rw [if_pos (by omega)]
/-- a word's number tells its letters -/
theorem pV_w {T : Int → Int} {b e : Int} (hb : b ≤ e) (hs : ∀ x, b ≤ x → x < e → pSort (T x) = 1) {ws : List Int} (hw : l26 ws) (hl : ws.length ≤ 8) : pV T b 1 e = hL ws ↔ rl T b (e - b).toNat = ws := by
  have hp := hL_b ws hw
  by_cases h8 : e - b ≤ 8
  · have h1 := pV_h (T := T) (b := b) (e - b).toNat (by omega)
    rw [show b + (((e - b).toNat : Nat) : Int) = e by omega] at h1
    rw [h1]
    constructor
    · intro h
      exact hL_i _ _ (rl_26 _ (fun x x1 x2 => hs x x1 (by omega))) hw h
    · intro h
      rw [h]
  · rw [pV_9 (by omega)]
    constructor
    · intro h
      omega
    · intro h
      have := rl_len T b (e - b).toNat
      rw [h] at this
      omega
def wLaw : List Int := [23, 1, 12]
def wSun : List Int := [14, 21, 19]
def wGuest : List Int := [20, 19, 5, 21, 7]
def wLone : List Int := [5, 14, 15, 12]
def wAunt : List Int := [20, 14, 21, 1]
def wChild : List Int := [4, 12, 9, 8, 3]
def wBand : List Int := [4, 14, 1, 2]
def wClan : List Int := [14, 1, 12, 3]
theorem wh_law : hL wLaw = 12343 ∧ l26 wLaw := by
  unfold l26
  decide
theorem wh_sun : hL wSun = 20142 ∧ l26 wSun := by
  unfold l26
  decide
theorem wh_guest : hL wGuest = 8033908 ∧ l26 wGuest := by
  unfold l26
  decide
theorem wh_lone : hL wLone = 409029 ∧ l26 wLone := by
  unfold l26
  decide
theorem wh_aunt : hL wAunt = 54740 ∧ l26 wAunt := by
  unfold l26
  decide
theorem wh_child : hL wChild = 3417476 ∧ l26 wChild := by
  unfold l26
  decide
theorem wh_band : hL wBand = 67012 ∧ l26 wBand := by
  unfold l26
  decide
theorem wh_clan : hL wClan = 110638 ∧ l26 wClan := by
  unfold l26
  decide
end PT
