/-! RULES 2: loads by a told value, divisions, loops by what holds -/
section RU2
variable {sc : aX} {g : aG} {M pc : Nat} {f : List Int} {c c' : aC} {l l' : aL} {s s' : aS} {m m' : aM} {Q : Option aV → aM → Prop} {i : Instr}
theorem r_ialdx {a n r : Nat} {rs : List Nat} {j v : Int} (hg : g[a]? = some (20, n, rs)) (hr : a + 1 = r) (ha : a ≠ 0) (h0 : 0 ≤ j) (h1 : j < (n : Int)) (hv : m a j = v) (K : az_E sc g M c l (.inl v :: s) m Q) : az_E sc g M ((pc, .iaload, f) :: c) l (.inl j :: .inr (.inr r) :: s) m Q := by
  subst hv
  exact r_iald hg hr ha h0 h1 K
theorem r_baldx {a t n r : Nat} {rs : List Nat} {j v : Int} (hg : g[a]? = some (t, n, rs)) (hr : a + 1 = r) (ha : a ≠ 0) (ht : t = 21 ∨ t = 22) (h0 : 0 ≤ j) (h1 : j < (n : Int)) (hv : m a j = v) (K : az_E sc g M c l (.inl v :: s) m Q) : az_E sc g M ((pc, .baload, f) :: c) l (.inl j :: .inr (.inr r) :: s) m Q := by
  subst hv
  exact r_bald hg hr ha ht h0 h1 K
theorem r_getIx {a tg n x : Nat} {rs : List Nat} {k v : Int} {q : List Int} (hg : g[a]? = some (tg, n, rs)) (hv : m a k = v) (K : az_E sc g M c l (.inl v :: s) m Q) : az_E sc g M ((pc, .getfield x, (tg : Int) :: k :: 0 :: q) :: c) l (.inr (.inr (a + 1)) :: s) m Q := by
  subst hv
  exact r_getI hg K
theorem r_getZx {a tg n x : Nat} {rs : List Nat} {k v : Int} {q : List Int} (hg : g[a]? = some (tg, n, rs)) (hv : m a k = v) (K : az_E sc g M c l (.inl v :: s) m Q) : az_E sc g M ((pc, .getfield x, (tg : Int) :: k :: 3 :: q) :: c) l (.inr (.inr (a + 1)) :: s) m Q := by
  subst hv
  exact r_getZ hg K
theorem r_getLx {a tg n x : Nat} {rs : List Nat} {k v : Int} {q : List Int} (hg : g[a]? = some (tg, n, rs)) (hv : m a k = v) (K : az_E sc g M c l (.inr (.inl v) :: s) m Q) : az_E sc g M ((pc, .getfield x, (tg : Int) :: k :: 1 :: q) :: c) l (.inr (.inr (a + 1)) :: s) m Q := by
  subst hv
  exact r_getL hg K
theorem az_divn {x y : Int} (h0 : 0 ≤ x) (h1 : x < 2147483648) (hy : 0 < y) : az_w (x.tdiv y) = x / y := by
  rw [Int.tdiv_eq_ediv_of_nonneg h0]
  have h2 : 0 ≤ x / y := Int.ediv_nonneg h0 (by omega)
  have h3 : x / y ≤ x := Int.ediv_le_self y h0
  exact az_wid (by omega) (by omega)
theorem az_modn {x y : Int} (h0 : 0 ≤ x) : x.tmod y = x % y := Int.tmod_eq_emod_of_nonneg h0
theorem az_mulb {x y X Y : Int} (h0 : 0 ≤ x) (h1 : x ≤ X) (h2 : 0 ≤ y) (h3 : y ≤ Y) : 0 ≤ x * y ∧ x * y ≤ X * Y :=
  ⟨Int.mul_nonneg h0 h2, Int.mul_le_mul h1 h3 h2 (by omega)⟩
theorem az_mulw {x y : Int} (h0 : 0 ≤ x) (h1 : x ≤ 30000) (h2 : 0 ≤ y) (h3 : y ≤ 30000) : az_w (x * y) = x * y := by
  have := az_mulb h0 h1 h2 h3
  exact az_wid (by omega) (by omega)
theorem az_Em {m1 m2 : aM} (h : m1 = m2) (K : az_E sc g M c l s m2 Q) : az_E sc g M c l s m1 Q := by
  subst h
  exact K
theorem az_El {l1 l2 : aL} (h : l1 = l2) (K : az_E sc g M c l2 s m Q) : az_E sc g M c l1 s m Q := by
  subst h
  exact K
/-- a loop, by what holds at its head -/
theorem az_lop {c : aC} {α : Type} (loc : Int → α → aL) (mem : α → aM) (P : Int → α → Prop) (lo hi : Int) (a : α) (h0 : lo ≤ hi) (hp : P lo a) (hb : ∀ g a, lo ≤ g → g < hi → P g a → (∀ a', P (g + 1) a' → az_E sc az_G M c (loc (g + 1) a') [] (mem a') Q) → az_E sc az_G M c (loc g a) [] (mem a) Q) (hK : ∀ a, P hi a → az_E sc az_G M c (loc hi a) [] (mem a) Q) : az_E sc az_G M c (loc lo a) [] (mem a) Q := by
  have H : ∀ (k : Nat) (g : Int) (a : α), lo ≤ g → g + k = hi → P g a → az_E sc az_G M c (loc g a) [] (mem a) Q := by
    intro k
    induction k with
    | zero =>
      intro g a _ h hp
      have : g = hi := by omega
      subst this
      exact hK a hp
    | succ k ih =>
      intro g a h1 h hp
      exact hb g a h1 (by omega) hp (fun a' hp' => ih (g + 1) a' (by omega) (by omega) hp')
  exact H (hi - lo).toNat lo a (by omega) (by omega) hp
/-- a loop that goes down -/
theorem az_dwn {c : aC} {α : Type} (loc : Int → α → aL) (mem : α → aM) (P : Int → α → Prop) (hi : Int) (a : α) (h0 : -1 ≤ hi) (hp : P hi a) (hb : ∀ g a, 0 ≤ g → g ≤ hi → P g a → (∀ a', P (g - 1) a' → az_E sc az_G M c (loc (g - 1) a') [] (mem a') Q) → az_E sc az_G M c (loc g a) [] (mem a) Q) (hK : ∀ a, P (-1) a → az_E sc az_G M c (loc (-1) a) [] (mem a) Q) : az_E sc az_G M c (loc hi a) [] (mem a) Q := by
  have H : ∀ (k : Nat) (g : Int) (a : α), g ≤ hi → g = k - 1 → P g a → az_E sc az_G M c (loc g a) [] (mem a) Q := by
    intro k
    induction k with
    | zero =>
      intro g a _ h hp
      have : g = -1 := by omega
      subst this
      exact hK a hp
    | succ k ih =>
      intro g a h1 h hp
      exact hb g a (by omega) h1 hp (fun a' hp' => ih (g - 1) a' (by omega) (by omega) hp')
  exact H (hi + 1).toNat hi a (by omega) (by omega) hp
end RU2
/-- a fold up to a bound -/
def az_F {α : Type} (s : Int → α → α) (a : α) (k : Int) : α := az_fold s k.toNat 0 a
theorem az_fold_snoc {α : Type} (s : Int → α → α) : ∀ (k : Nat) (g : Int) (a : α), az_fold s (k + 1) g a = s (g + k) (az_fold s k g a)
  | 0, g, a => by simp [az_fold]
  | k + 1, g, a => by
    show az_fold s (k + 1) (g + 1) (s g a) = _
    rw [az_fold_snoc s k (g + 1) (s g a)]
    show s (g + 1 + k) (az_fold s (k + 1) g a) = _
    congr 1
    omega
theorem az_F0 {α : Type} (s : Int → α → α) (a : α) : az_F s a 0 = a := rfl
theorem az_FS {α : Type} (s : Int → α → α) (a : α) {k : Int} (h : 0 ≤ k) : az_F s a (k + 1) = s k (az_F s a k) := by
  unfold az_F
  have e : (k + 1).toNat = k.toNat + 1 := by omega
  rw [e, az_fold_snoc]
  congr 1
  omega
theorem az_Fcong {α : Type} {s1 s2 : Int → α → α} {a : α} {k : Int} (h : ∀ g a, 0 ≤ g → g < k → s1 g a = s2 g a) (hk : 0 ≤ k) : az_F s1 a k = az_F s2 a k := by
  unfold az_F
  exact az_fold_cong (lo := 0) (hi := k) h k.toNat 0 a (by omega) (by omega)
theorem az_Finv {α : Type} {s : Int → α → α} {a : α} (P : Int → α → Prop) {k : Int} (h0 : 0 ≤ k) (hp : P 0 a) (hs : ∀ g a, 0 ≤ g → g < k → P g a → P (g + 1) (s g a)) : P k (az_F s a k) := by
  have H : ∀ n : Nat, (n : Int) ≤ k → P n (az_F s a n) := by
    intro n
    induction n with
    | zero => intro _; exact hp
    | succ n ih =>
      intro h
      have e : ((n + 1 : Nat) : Int) = (n : Int) + 1 := by omega
      rw [e, az_FS s a (by omega)]
      exact hs n _ (by omega) (by omega) (ih (by omega))
  have := H k.toNat (by omega)
  have e : ((k.toNat : Nat) : Int) = k := by omega
  rwa [e] at this
/-- a cell's places, all at once -/
def az_set (m : aM) (b : Nat) (F : Int → Int) : aM := fun b' => if b' = b then F else m b'
def up1 (F : Int → Int) (i v : Int) : Int → Int := fun j => if j = i then v else F j
theorem az_us (m : aM) (b : Nat) (F : Int → Int) (i v : Int) : az_up (az_set m b F) b i v = az_set m b (up1 F i v) := by
  funext b' j
  simp only [az_up, az_set]
  by_cases h : b' = b
  · subst h
    simp [up1]
  · simp [h]
theorem az_us0 (m : aM) (b : Nat) (i v : Int) : az_up m b i v = az_set m b (up1 (m b) i v) := by
  funext b' j
  simp only [az_up, az_set]
  by_cases h : b' = b
  · subst h
    simp [up1]
  · simp [h]
theorem az_ss (m : aM) (b : Nat) (F G : Int → Int) : az_set (az_set m b F) b G = az_set m b G := by
  funext b'
  simp only [az_set]
  split <;> rfl
theorem az_s0 (m : aM) (b : Nat) : az_set m b (m b) = m := by
  funext b'
  simp only [az_set]
  split
  · next h => rw [h]
  · rfl
theorem az_sx (m : aM) {b d : Nat} (h : b ≠ d) (F G : Int → Int) : az_set (az_set m b F) d G = az_set (az_set m d G) b F := by
  funext b'
  simp only [az_set]
  by_cases h1 : b' = b
  · subst h1
    simp [h]
  · simp [h1]
theorem up1_at (F : Int → Int) (i v : Int) : up1 F i v i = v := by simp [up1]
theorem up1_ne (F : Int → Int) {i j : Int} (v : Int) (h : j ≠ i) : up1 F i v j = F j := by simp [up1, h]
theorem up1_up (F : Int → Int) (i v w : Int) : up1 (up1 F i v) i w = up1 F i w := by
  funext j
  simp only [up1]
  split <;> rfl
theorem up1_id (F : Int → Int) (i : Int) : up1 F i (F i) = F := by
  funext j
  simp only [up1]
  split
  · next h => rw [h]
  · rfl
theorem up1_eq {F : Int → Int} {i v j x : Int} (h1 : j = i → v = x) (h2 : j ≠ i → F j = x) : up1 F i v j = x := by
  unfold up1
  split
  · next h => exact h1 h
  · next h => exact h2 h
