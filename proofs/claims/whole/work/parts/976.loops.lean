/-! LOOPS: a fold for a for -/
def az_fold {α : Type} (step : Int → α → α) : Nat → Int → α → α
  | 0, _, a => a
  | k + 1, g, a => az_fold step k (g + 1) (step g a)
theorem az_fold_cong {α : Type} {s1 s2 : Int → α → α} {lo hi : Int} (h : ∀ g a, lo ≤ g → g < hi → s1 g a = s2 g a) : ∀ (k : Nat) (g : Int) (a : α), lo ≤ g → g + k = hi → az_fold s1 k g a = az_fold s2 k g a
  | 0, _, _, _, _ => rfl
  | k + 1, g, a, h0, h1 => by
    show az_fold s1 k (g + 1) (s1 g a) = az_fold s2 k (g + 1) (s2 g a)
    rw [h g a h0 (by omega)]
    exact az_fold_cong h k (g + 1) _ (by omega) (by omega)
/-- what holds at the start and is kept, holds at the end -/
theorem az_fold_inv {α : Type} {step : Int → α → α} {hi : Int} (P : Int → α → Prop) (hs : ∀ g a, g < hi → P g a → P (g + 1) (step g a)) : ∀ (k : Nat) (g : Int) (a : α), g + k = hi → P g a → P hi (az_fold step k g a)
  | 0, g, a, h, hp => by
    have : g = hi := by omega
    subst this
    exact hp
  | k + 1, g, a, h, hp => az_fold_inv P hs k (g + 1) (step g a) (by omega) (hs g a (by omega) hp)
theorem az_for {sc : aX} {M : Nat} {c : aC} {α : Type} (loc : Int → α → aL) (mem : α → aM) (step : Int → α → α) (P : Int → α → Prop) (hi : Int) {Q : Option aV → aM → Prop} (hb : ∀ g a, g < hi → P g a → P (g + 1) (step g a) ∧ (az_E sc az_G M c (loc (g + 1) (step g a)) [] (mem (step g a)) Q → az_E sc az_G M c (loc g a) [] (mem a) Q)) : ∀ (k : Nat) (g : Int) (a : α), g + k = hi → P g a → (P hi (az_fold step k g a) → az_E sc az_G M c (loc hi (az_fold step k g a)) [] (mem (az_fold step k g a)) Q) → az_E sc az_G M c (loc g a) [] (mem a) Q
  | 0, g, a, h, hp, hK => by
    have : g = hi := by omega
    subst this
    exact hK hp
  | k + 1, g, a, h, hp, hK => by
    obtain ⟨h1, h2⟩ := hb g a (by omega) hp
    exact h2 (az_for loc mem step P hi hb k (g + 1) (step g a) (by omega) h1 hK)
/-- the same from 0 on -/
theorem az_for0 {sc : aX} {M : Nat} {c : aC} {α : Type} (loc : Int → α → aL) (mem : α → aM) (step : Int → α → α) (P : Int → α → Prop) (hi : Int) (a : α) {Q : Option aV → aM → Prop} (h0 : 0 ≤ hi) (hp : P 0 a) (hb : ∀ g a, g < hi → P g a → P (g + 1) (step g a) ∧ (az_E sc az_G M c (loc (g + 1) (step g a)) [] (mem (step g a)) Q → az_E sc az_G M c (loc g a) [] (mem a) Q)) (hK : P hi (az_fold step hi.toNat 0 a) → az_E sc az_G M c (loc hi (az_fold step hi.toNat 0 a)) [] (mem (az_fold step hi.toNat 0 a)) Q) : az_E sc az_G M c (loc 0 a) [] (mem a) Q :=
  az_for loc mem step P hi hb hi.toNat 0 a (by omega) hp hK
section LP
variable {sc : aX} {m : aM}
theorem az_upx (m : aM) (a : Nat) (i v : Int) : az_up m a i v a i = v := az_up_at m a i v
/-- the state of a beach is as it should be -/
def nOK (f : Int → Int) : Prop := (0 ≤ f 0 ∧ f 0 ≤ 2) ∧ (0 ≤ f 1 ∧ f 1 ≤ 9) ∧ (0 ≤ f 2 ∧ f 2 ≤ 4) ∧ (0 ≤ f 3 ∧ f 3 ≤ 999) ∧ (0 ≤ f 4 ∧ f 4 ≤ 6) ∧ (0 ≤ f 5 ∧ f 5 ≤ 63) ∧ (∀ h, 0 ≤ h → h < 6 → 0 ≤ f (6 + h) ∧ f (6 + h) ≤ 30) ∧
  (∀ g, 0 ≤ g → g < f 2 → (1 ≤ f (12 + g) ∧ f (12 + g) ≤ 5) ∧ (0 ≤ f (16 + g) ∧ f (16 + g) ≤ 20) ∧ (1 ≤ f (20 + g) ∧ f (20 + g) ≤ 6) ∧ (0 ≤ f (24 + g) ∧ f (24 + g) ≤ 9999) ∧ (0 ≤ f (28 + g) ∧ f (28 + g) ≤ 9999) ∧ (0 ≤ f (32 + g) ∧ f (32 + g) ≤ 1) ∧ (0 ≤ f (36 + g) ∧ f (36 + g) ≤ 6) ∧ (0 ≤ f (40 + g) ∧ f (40 + g) ≤ 1) ∧ (f (32 + g) = 0 → f (36 + g) = f 4))
def pBit (c h : Int) : Int := az_and (az_shr c h) 1
def pPrice (f : Int → Int) (h : Int) : Int := if pBit (f 5) h = 1 then (f (6 + h)).tdiv 2 else f (6 + h)
theorem pBit_01 (c h : Int) : pBit c h = 0 ∨ pBit c h = 1 := by
  unfold pBit az_and
  generalize Int32.ofInt (az_shr c h) = x
  have e : Int32.ofInt 1 = 1 := rfl
  rw [e]
  have h1 : (x &&& 1) = nI (x.toBitVec.toNat % 2 ^ 1) := pk_and x 1 rfl
  rw [h1]
  rcases Nat.mod_two_eq_zero_or_one x.toBitVec.toNat with h | h <;> simp only [Nat.pow_one, h]
  · exact Or.inl rfl
  · exact Or.inr rfl
theorem td2 {x : Int} (h : 0 ≤ x) : x.tdiv 2 = x / 2 := Int.tdiv_eq_ediv_of_nonneg h
/-- priceOf -/
theorem c_X8_priceOf (h : Int) (h0 : 0 ≤ h) (h1 : h < 6) (hp : 0 ≤ m 284 (6 + h) ∧ m 284 (6 + h) ≤ 30) : az_CI sc 85 [.inr (.inr 280), .inl h] m ((pPrice (m 284) h)) (m) := by
  refine r_aload_n rfl ?_
  refine r_getR g_279 rfl ?_
  refine r_iconst ?_
  refine r_iald g_284 rfl (by omega) (by omega) (by omega) ?_
  refine r_iload_n rfl ?_
  refine r_ishr rfl ?_
  refine r_iconst ?_
  refine r_iand rfl ?_
  refine r_iconst ?_
  refine r_icmp_ne kX8_priceOf_28 (fun c1 => ?_) (fun c1 => ?_)
  · refine r_aload_n rfl ?_
    refine r_getR g_279 rfl ?_
    refine r_bipush ?_
    refine r_iload_n rfl ?_
    first | refine r_iadd (az_wid (by omega) (by omega)) ?_ | refine r_iaddw ?_
    refine r_iald g_284 rfl (by omega) (by omega) (by omega) ?_
    refine r_iret rfl ?_
    refine ⟨?_, rfl⟩; unfold pPrice pBit; first | rw [if_neg c1] | rw [if_pos c1, az_wid (by rw [td2 hp.1]; omega) (by rw [td2 hp.1]; omega)]
  · refine r_aload_n rfl ?_
    refine r_getR g_279 rfl ?_
    refine r_bipush ?_
    refine r_iload_n rfl ?_
    first | refine r_iadd (az_wid (by omega) (by omega)) ?_ | refine r_iaddw ?_
    refine r_iald g_284 rfl (by omega) (by omega) (by omega) ?_
    refine r_iconst ?_
    refine r_idiv (by omega) rfl ?_
    refine r_goto kX8_priceOf_37 ?_
    refine r_iret rfl ?_
    refine ⟨?_, rfl⟩; unfold pPrice pBit; first | rw [if_neg c1] | rw [if_pos c1, az_wid (by rw [td2 hp.1]; omega) (by rw [td2 hp.1]; omega)]
theorem c_X8_isGuest (g : Int) (hN : 0 ≤ m 284 2 ∧ m 284 2 ≤ 4) : az_CI sc 89 [.inr (.inr 280), .inl g] m ((if 0 ≤ g ∧ g ≤ m 284 2 - 1 then 1 else 0)) (m) := by
  refine r_iload_n rfl ?_
  refine r_i2l ?_
  refine r_lconst0 ?_
  refine r_aload_n rfl ?_
  refine r_getR g_279 rfl ?_
  refine r_iconst ?_
  refine r_iald g_284 rfl (by omega) (by omega) (by omega) ?_
  refine r_iconst ?_
  first | refine r_isub (az_wid (by omega) (by omega)) ?_ | refine r_isubw ?_
  refine r_i2l ?_
  refine r_cS3I (by decide) (Nat.le_of_ble_eq_true rfl) (Nat.le_of_ble_eq_true rfl) (c_X8_in _ _ _) ?_
  refine r_zret rfl (by omega) ?_
  exact ⟨rfl, rfl⟩
end LP
