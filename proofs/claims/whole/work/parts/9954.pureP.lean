/-! what a text of tokens tells -/
section PP
variable {sc : aX} {g : aG} {M : Nat} {Q : Option aV → aM → Prop}
theorem az_whl {c : aC} {α : Type} (loc : Int → α → aL) (mem : Int → α → aM) (P : Int → α → Prop) (hi : Int) (hb : ∀ g a, g ≤ hi → P g a → (∀ a', g < hi → P (g + 1) a' → az_E sc az_G M c (loc (g + 1) a') [] (mem (g + 1) a') Q) → az_E sc az_G M c (loc g a) [] (mem g a) Q) (g : Int) (a : α) (h : g ≤ hi) (hp : P g a) : az_E sc az_G M c (loc g a) [] (mem g a) Q := by
  have H : ∀ (k : Nat) (g : Int) (a : α), g ≤ hi → (hi - g).toNat = k → P g a → az_E sc az_G M c (loc g a) [] (mem g a) Q := by
    intro k
    induction k with
    | zero =>
      intro g a h e hp
      exact hb g a h hp (fun a' h1 _ => absurd h1 (by omega))
    | succ k ih =>
      intro g a h e hp
      exact hb g a h hp (fun a' h1 hp' => ih (g + 1) a' (by omega) (by omega) hp')
  exact H _ g a h rfl hp
theorem pV_bk {T : Int → Int} {b s : Int} : ∀ (k : Nat), (∀ x, b ≤ x → x < b + k → 0 ≤ T x ∧ T x ≤ 255) → -(256 * 64 ^ k) ≤ pV T b s (b + k) ∧ pV T b s (b + k) ≤ 256 * 64 ^ k := by
  intro k
  induction k with
  | zero =>
    intro _
    have e : pV T b s (b + ((0 : Nat) : Int)) = 0 := by
      rw [show b + ((0 : Nat) : Int) = b by omega]
      unfold pV
      rw [Int.sub_self]
      rfl
    rw [e]
    decide
  | succ k ih =>
    intro h
    have h1 := ih (fun x x1 x2 => h x x1 (by omega))
    have h2 := h (b + k) (by omega) (by omega)
    have h3 : (1 : Int) ≤ 64 ^ k := Int.pow_pos (by decide)
    rw [show b + ((k + 1 : Nat) : Int) = (b + k) + 1 by omega, pV_S (by omega), Int.pow_succ]
    unfold pVs
    (repeat' split) <;> omega
theorem pV_b7 {T : Int → Int} {b s e : Int} (hb : b ≤ e) (h7 : e - b ≤ 7) (h : ∀ x, b ≤ x → x < e → 0 ≤ T x ∧ T x ≤ 255) : -1125899906842624 ≤ pV T b s e ∧ pV T b s e ≤ 1125899906842624 := by
  have h1 := pV_bk (T := T) (b := b) (s := s) (e - b).toNat (fun x x1 x2 => h x x1 (by omega))
  rw [show b + (((e - b).toNat : Nat) : Int) = e by omega] at h1
  have h2 : (64 : Int) ^ (e - b).toNat ≤ 4398046511104 := by
    rcases (show (e - b).toNat = 0 ∨ (e - b).toNat = 1 ∨ (e - b).toNat = 2 ∨ (e - b).toNat = 3 ∨ (e - b).toNat = 4 ∨ (e - b).toNat = 5 ∨ (e - b).toNat = 6 ∨ (e - b).toNat = 7 by omega) with e | e | e | e | e | e | e | e <;> rw [e] <;> decide
  omega
/-- a number of at most three figures -/
theorem pV_n {T : Int → Int} {b e : Int} (hb : b ≤ e) (h3 : e - b ≤ 3) (h : ∀ x, b ≤ x → x < e → pSort (T x) = 2) : 0 ≤ pV T b 2 e ∧ pV T b 2 e ≤ 999 := by
  have hd : ∀ x, b ≤ x → x < e → 48 ≤ T x ∧ T x ≤ 57 := fun x x1 x2 => by
    have := h x x1 x2
    unfold pSort at this
    split at this
    · omega
    · split at this
      · omega
      · split at this <;> omega
  have h0 : pV T b 2 b = 0 := by
    unfold pV
    rw [Int.sub_self]
    rfl
  have hs : ∀ e', b ≤ e' → e' - b ≤ 2 → pV T b 2 (e' + 1) = 10 * pV T b 2 e' + T e' - 48 := fun e' x1 x2 => by
    rw [pV_S x1]
    unfold pVs
    rw [if_neg (by omega), if_neg (by decide)]
  rcases (show e = b ∨ e = b + 1 ∨ e = b + 1 + 1 ∨ e = b + 1 + 1 + 1 by omega) with e1 | e1 | e1 | e1
  · rw [e1, h0]
    decide
  · have d0 := hd b (by omega) (by omega)
    rw [e1, hs b (by omega) (by omega), h0]
    omega
  · have d0 := hd b (by omega) (by omega)
    have d1 := hd (b + 1) (by omega) (by omega)
    rw [e1, hs (b + 1) (by omega) (by omega), hs b (by omega) (by omega), h0]
    omega
  · have d0 := hd b (by omega) (by omega)
    have d1 := hd (b + 1) (by omega) (by omega)
    have d2 := hd (b + 1 + 1) (by omega) (by omega)
    rw [e1, hs (b + 1 + 1) (by omega) (by omega), hs (b + 1) (by omega) (by omega), hs b (by omega) (by omega), h0]
    omega
variable {T : Int → Int} {n : Int}
def tL (T : Int → Int) (n : Int) (i : Nat) : List Int := rl T (tB T n i) (tE T n i - tB T n i).toNat
def kW (T : Int → Int) (n : Int) (ws : List Int) (i : Nat) : Int := if tK T n i = 1 ∧ tL T n i = ws then 0 else 1
def pKd (l : List Int) : Int := if l = wLone then 1 else if l = wAunt then 2 else if l = wChild then 3 else if l = wBand then 4 else if l = wClan then 5 else 0
def tD (T : Int → Int) (n : Int) (i : Nat) : Int := if tK T n i = 1 then pKd (tL T n i) else 0
def kD (T : Int → Int) (n : Int) (i : Nat) : Int := if tD T n i = 0 then 1 else 0
def kN (T : Int → Int) (n lo hi : Int) (i : Nat) : Int := if tK T n i = 2 then (if lo ≤ tV T n i ∧ tV T n i ≤ hi then 0 else 2) else 1
def kS (T : Int → Int) (n : Int) (i : Nat) : Int := if tK T n i = 3 then 0 else 1
theorem tD_b (T : Int → Int) (n : Int) (i : Nat) : 0 ≤ tD T n i ∧ tD T n i ≤ 5 := by
  unfold tD pKd
  (repeat' split) <;> omega
def pCk (T : Int → Int) (n : Int) (i : Nat) : Int := if i = 0 then kW T n wLaw i else if i = 1 then kN T n 0 2 i else if i = 2 then kN T n 0 9 i else if i = 3 then kS T n i else if i = 4 then kW T n wSun i else if i < 11 then kN T n 0 30 i else if i = 11 then kS T n i else if (i - 12) % 6 = 0 then kW T n wGuest i else if (i - 12) % 6 = 1 then kD T n i else if (i - 12) % 6 = 2 then kN T n 0 20 i else if (i - 12) % 6 = 3 then kN T n 0 200 i else if (i - 12) % 6 = 4 then kN T n 1 6 i else kS T n i
def pP (T : Int → Int) (n : Int) : Nat → Nat → Int × Int
  | 0, _ => (1, 0)
  | k + 1, i => if 12 ≤ i ∧ (i - 12) % 6 = 0 ∧ tK T n i = 0 then (0, (((i - 12) / 6 : Nat) : Int)) else if 36 ≤ i then (if kW T n wGuest i = 0 then 3 else 1, tB T n i) else if pCk T n i = 0 then pP T n k (i + 1) else (pCk T n i, tB T n i)
def pR (T : Int → Int) (n : Int) (i : Nat) : Int × Int := pP T n (40 - i) i
theorem pR_e {i : Nat} (h : i ≤ 36) : pR T n i = if 12 ≤ i ∧ (i - 12) % 6 = 0 ∧ tK T n i = 0 then (0, (((i - 12) / 6 : Nat) : Int)) else if 36 ≤ i then (if kW T n wGuest i = 0 then 3 else 1, tB T n i) else if pCk T n i = 0 then pR T n (i + 1) else (pCk T n i, tB T n i) := by
  unfold pR
  rw [show 40 - i = (40 - (i + 1)) + 1 by omega]
  rfl
theorem pR_ok {i : Nat} (h : i < 36) (hc : pCk T n i = 0) (hk : ¬ (12 ≤ i ∧ (i - 12) % 6 = 0 ∧ tK T n i = 0)) : pR T n i = pR T n (i + 1) := by
  rw [pR_e (by omega), if_neg hk, if_neg (by omega), if_pos hc]
theorem pR_no {i : Nat} (h : i < 36) (hc : pCk T n i ≠ 0) (hk : ¬ (12 ≤ i ∧ (i - 12) % 6 = 0 ∧ tK T n i = 0)) : pR T n i = (pCk T n i, tB T n i) := by
  rw [pR_e (by omega), if_neg hk, if_neg (by omega), if_neg hc]
theorem ck_price {h : Nat} (hh : h < 6) : pCk T n (5 + h) = kN T n 0 30 (5 + h) := by
  unfold pCk
  rw [if_neg (by omega), if_neg (by omega), if_neg (by omega), if_neg (by omega), if_neg (by omega), if_pos (by omega)]
theorem ck_g {g c : Nat} (hc : c < 6) : pCk T n (12 + 6 * g + c) = if c = 0 then kW T n wGuest (12 + 6 * g + c) else if c = 1 then kD T n (12 + 6 * g + c) else if c = 2 then kN T n 0 20 (12 + 6 * g + c) else if c = 3 then kN T n 0 200 (12 + 6 * g + c) else if c = 4 then kN T n 1 6 (12 + 6 * g + c) else kS T n (12 + 6 * g + c) := by
  unfold pCk
  have e : (12 + 6 * g + c - 12) % 6 = c := by omega
  rw [if_neg (by omega), if_neg (by omega), if_neg (by omega), if_neg (by omega), if_neg (by omega), if_neg (by omega), if_neg (by omega), e]
theorem pR_end {g : Nat} (hg : g ≤ 4) (hk : tK T n (12 + 6 * g) = 0) : pR T n (12 + 6 * g) = (0, (g : Int)) := by
  rw [pR_e (by omega), if_pos ⟨by omega, by omega, hk⟩, show (12 + 6 * g - 12) / 6 = g by omega]
theorem pR_full (hk : tK T n 36 ≠ 0) : pR T n 36 = (if kW T n wGuest 36 = 0 then 3 else 1, tB T n 36) := by
  rw [pR_e (by omega), if_neg (fun q => hk q.2.2), if_pos (by omega)]
/-- what is read, with so many guests -/
def pRd (T : Int → Int) (n N : Int) : Int → Int := fun j => if j = 0 then tV T n 1 else if j = 1 then tV T n 2 else if j = 2 then N else if 6 ≤ j ∧ j < 12 then tV T n (5 + (j - 6).toNat) else if 12 ≤ j ∧ j < 12 + N then tD T n (12 + 6 * (j - 12).toNat + 1) else if 16 ≤ j ∧ j < 16 + N then tV T n (12 + 6 * (j - 16).toNat + 2) else if 20 ≤ j ∧ j < 20 + N then tV T n (12 + 6 * (j - 20).toNat + 4) else if 24 ≤ j ∧ j < 24 + N then tV T n (12 + 6 * (j - 24).toNat + 3) else 0
end PP
