/-! THE REFERENCE: alone -/
section RI
variable {sc : aX} {m : aM} {f t c : Int → Int} {sp : Int} {Q : Option aV → aM → Prop}
theorem az_cmp_b (x y : Int) : (az_cmp x y = -1 ∧ x < y) ∨ (az_cmp x y = 0 ∧ x = y) ∨ (az_cmp x y = 1 ∧ y < x) := by
  unfold az_cmp
  (repeat' split) <;> omega
def pPos (x : Int) : Int := if 0 < x then x else 0
def pAlG (f : Int → Int) (g h : Int) : Int := pJoyA f g h - (if f (40 + g) = 1 then f 1 else 0)
def pAlS (f : Int → Int) (g c h : Int) (a : Int × Int) : Int × Int := (c * pPos ((pAlG f g h - f (6 + h) / 2) * a.2 + a.1) + (10 - c) * pPos ((pAlG f g h - f (6 + h)) * a.2 + a.1), a.2 * 10)
def pAl (f : Int → Int) (g c k : Int) : Int × Int := az_F (fun k a => pAlS f g c (5 - k) a) (0, 1) k
theorem pAl_S (f : Int → Int) (g c : Int) {k : Int} (h : 0 ≤ k) : pAl f g c (k + 1) = pAlS f g c (5 - k) (pAl f g c k) := az_FS _ _ h
/-- how far it has gone, and how great it may be -/
def pAlB (k w u : Int) : Prop := (k = 0 ∧ u = 1 ∧ 0 ≤ w ∧ w ≤ 0) ∨ (k = 1 ∧ u = 10 ∧ 0 ≤ w ∧ w ≤ 400) ∨ (k = 2 ∧ u = 100 ∧ 0 ≤ w ∧ w ≤ 8000) ∨ (k = 3 ∧ u = 1000 ∧ 0 ≤ w ∧ w ≤ 120000) ∨ (k = 4 ∧ u = 10000 ∧ 0 ≤ w ∧ w ≤ 1600000) ∨ (k = 5 ∧ u = 100000 ∧ 0 ≤ w ∧ w ≤ 20000000) ∨ (k = 6 ∧ u = 1000000 ∧ 0 ≤ w ∧ w ≤ 240000000)
theorem pAlG_b {f : Int → Int} (hN : nOK f) {g h : Int} (h0 : 0 ≤ g) (h1 : g < f 2) : -49 ≤ pAlG f g h ∧ pAlG f g h ≤ 40 := by
  have h2 := pJoyA_b (h := h) (nOK_g hN g h0 h1).2.1
  have h3 := nOK_1 hN
  unfold pAlG
  split <;> omega
theorem pOth_0 (f : Int → Int) (g : Int) {h k : Int} (hh : 0 ≤ h) (hk : 0 ≤ k) : pOth f (fun _ => 0) g h k = 0 := by
  refine az_Finv (s := fun o a => if o ≠ g ∧ h < (fun _ => (0 : Int)) o then a + 1 else a) (a := (0 : Int)) (fun _ a => a = 0) hk rfl (fun o a h0 h1 hp => ?_)
  rw [if_neg (by dsimp only; omega)]
  exact hp
theorem pJoy_0 {f : Int → Int} (g : Int) {h : Int} (hh : 0 ≤ h) (hn : 0 ≤ f 2) : pJoy f (fun _ => 0) g h = pJoyA f g h := by
  unfold pJoy
  rw [pOth_0 f g hh hn]
  omega
/-- one hour, from the last one back -/
theorem l_X8_alone1 {g cc w u wh h : Int} {o9 o10 o11 o12 o13 : Option aV} (hf : m 284 = f) (ht : ∀ g, 0 ≤ g → g < f 2 → m 290 g = (fun _ => 0) g) (hN : nOK f) (h0 : 0 ≤ g) (h1 : g < f 2) (hc : 0 ≤ cc ∧ cc ≤ 10) (hh : 0 ≤ h ∧ h ≤ 5) (hb : pAlB (5 - h) w u) (K : ∀ o9 o10 o11 o12 o13, az_E sc az_G 162 zX8_alone_75 [some (.inr (.inr 280)), some (.inl (g)), some (.inl (cc)), some (.inl (wh)), some (.inr (.inl ((pAlS f g cc h (w, u)).1))), none, some (.inr (.inl ((pAlS f g cc h (w, u)).2))), none, some (.inl (h - 1)), o9, o10, o11, o12, o13] [] m Q) : az_E sc az_G 162 zX8_alone_75 [some (.inr (.inr 280)), some (.inl (g)), some (.inl (cc)), some (.inl (wh)), some (.inr (.inl (w))), none, some (.inr (.inl (u))), none, some (.inl (h)), o9, o10, o11, o12, o13] [] m Q := by
  have hn := nOK_2 hN
  have hT : tOK f (fun _ => 0) := fun g _ _ => ⟨Int.le_refl 0, (by decide : (0 : Int) ≤ 6)⟩
  have hG := nOK_g hN g h0 h1
  have hf1 := nOK_1 hN
  have hp := nOK_p hN h hh.1 (by omega)
  have hJ := pJoyA_b (h := h) hG.2.1
  have hGb := pAlG_b hN (h := h) h0 h1
  have hj := pJoy_0 (f := f) g hh.1 hn.1
  have hB : (-1000000000 ≤ (pAlG f g h - f (6 + h) / 2) * u ∧ (pAlG f g h - f (6 + h) / 2) * u ≤ 40 * u) ∧ (-1000000000 ≤ (pAlG f g h - f (6 + h)) * u ∧ (pAlG f g h - f (6 + h)) * u ≤ 40 * u) ∧ (0 ≤ w ∧ w ≤ 20000000) ∧ (1 ≤ u ∧ u ≤ 100000) := by
    unfold pAlB at hb
    rcases hb with hb | hb | hb | hb | hb | hb | hb <;> (obtain ⟨e1, e2, e3⟩ := hb; subst e2; omega)
  have hcj : az_CI sc 134 [.inr (.inr 280), .inl g, .inl h] m (pJoyA f g h) m := by
    rw [← hj]
    exact c_X8_joyOf hf ht hN hT h0 h1
  obtain ⟨cl, hcl⟩ : ∃ x, x = (pAlG f g h - f (6 + h) / 2) * u + w := ⟨_, rfl⟩
  obtain ⟨cr, hcr⟩ : ∃ x, x = (pAlG f g h - f (6 + h)) * u + w := ⟨_, rfl⟩
  have hm1 := az_cmp_b cl 0
  have hm2 := az_cmp_b cr 0
  have hP : (pAlS f g cc h (w, u)).1 = cc * pPos cl + (10 - cc) * pPos cr := by
    unfold pAlS
    dsimp only
    rw [← hcl, ← hcr]
  have hU : (pAlS f g cc h (w, u)).2 = u * 10 := rfl
  have hpc : (0 ≤ pPos cl ∧ pPos cl ≤ 30000000) ∧ (0 ≤ pPos cr ∧ pPos cr ≤ 30000000) := by
    unfold pPos
    (repeat' split) <;> omega
  have hx1 := az_mulb hc.1 hc.2 hpc.1.1 hpc.1.2
  have hx2 := az_mulb (show 0 ≤ 10 - cc by omega) (show 10 - cc ≤ 10 by omega) hpc.2.1 hpc.2.2
  have H3 : ∀ X, X = pPos cr → ∀ o9, az_E sc az_G 162 zX8_alone_193 [some (.inr (.inr 280)), some (.inl (g)), some (.inl (cc)), some (.inl (wh)), some (.inr (.inl (w))), none, some (.inr (.inl (u))), none, some (.inl (h)), o9, some (.inr (.inl (cl))), none, some (.inr (.inl (cr))), none] [.inr (.inl X), .inr (.inl (10 - cc)), .inr (.inl (cc * pPos cl))] m Q := by
    intro X hX o9
    subst hX
    have K2 := K o9 (some (.inr (.inl cl))) none (some (.inr (.inl cr))) none
    rw [hP, hU] at K2
    first | refine r_lmul (az_wlid (by omega) (by omega)) ?_ | refine r_lmul rfl ?_
    first | refine r_ladd (az_wlid (by omega) (by omega)) ?_ | refine r_ladd rfl ?_
    refine r_lstore (Nat.le_of_ble_eq_true rfl) rfl ?_
    refine r_lload rfl ?_
    refine r_ldc2 ?_
    first | refine r_lmul (az_wlid (by omega) (by omega)) ?_ | refine r_lmul rfl ?_
    refine r_lstore (Nat.le_of_ble_eq_true rfl) rfl ?_
    refine r_iinc rfl (az_wid (by omega) (by omega)) rfl ?_
    refine r_goto kX8_alone_75 ?_
    exact K2
  have H2 : ∀ X, X = pPos cl → ∀ o9, az_E sc az_G 162 zX8_alone_174 [some (.inr (.inr 280)), some (.inl (g)), some (.inl (cc)), some (.inl (wh)), some (.inr (.inl (w))), none, some (.inr (.inl (u))), none, some (.inl (h)), o9, some (.inr (.inl (cl))), none, some (.inr (.inl (cr))), none] [.inr (.inl X), .inr (.inl cc)] m Q := by
    intro X hX o9
    subst hX
    first | refine r_lmul (az_wlid (by omega) (by omega)) ?_ | refine r_lmul rfl ?_
    refine r_bipush ?_
    refine r_iload_n rfl ?_
    first | refine r_isub (az_wid (by omega) (by omega)) ?_ | refine r_isubw ?_
    refine r_i2l ?_
    refine r_lload rfl ?_
    refine r_lconst0 ?_
    refine r_lcmp ?_
    refine r_if_le kX8_alone_192 (fun c1 => ?_) (fun c1 => ?_)
    · refine r_lconst0 ?_
      exact H3 _ (by unfold pPos; first | rw [if_pos (by omega)] | rw [if_neg (by omega)]) _
    · refine r_lload rfl ?_
      refine r_goto kX8_alone_193 ?_
      exact H3 _ (by unfold pPos; first | rw [if_pos (by omega)] | rw [if_neg (by omega)]) _
  have H1 : ∀ X, X = pAlG f g h → az_E sc az_G 162 zX8_alone_110 [some (.inr (.inr 280)), some (.inl (g)), some (.inl (cc)), some (.inl (wh)), some (.inr (.inl (w))), none, some (.inr (.inl (u))), none, some (.inl (h)), o9, o10, o11, o12, o13] [.inl (if f (40 + g) = 1 then f 1 else 0), .inl (pJoyA f g h)] m Q := by
    intro X hX
    have e : pAlG f g h = pJoyA f g h - (if f (40 + g) = 1 then f 1 else 0) := rfl
    refine r_isub ((az_wid (by omega) (by omega)).trans e.symm) ?_
    refine r_istore (Nat.le_of_ble_eq_true rfl) rfl ?_
    refine r_iload rfl ?_
    refine r_aload_n rfl ?_
    refine r_getR g_279 rfl ?_
    refine r_bipush ?_
    refine r_iload rfl ?_
    first | refine r_iadd (az_wid (by omega) (by omega)) ?_ | refine r_iaddw ?_
    refine r_ialdx g_284 rfl (by omega) (by omega) (by omega) (congrFun hf _) ?_
    refine r_iconst ?_
    first | refine r_idiv (by omega) (az_divn (by omega) (by omega) (by omega)) ?_ | refine r_idiv (by omega) rfl ?_
    first | refine r_isub (az_wid (by omega) (by omega)) ?_ | refine r_isubw ?_
    refine r_i2l ?_
    refine r_lload rfl ?_
    first | refine r_lmul (az_wlid (by omega) (by omega)) ?_ | refine r_lmul rfl ?_
    refine r_lload rfl ?_
    refine r_ladd ((az_wlid (by omega) (by omega)).trans hcl.symm) ?_
    refine r_lstore (Nat.le_of_ble_eq_true rfl) rfl ?_
    refine r_iload rfl ?_
    refine r_aload_n rfl ?_
    refine r_getR g_279 rfl ?_
    refine r_bipush ?_
    refine r_iload rfl ?_
    first | refine r_iadd (az_wid (by omega) (by omega)) ?_ | refine r_iaddw ?_
    refine r_ialdx g_284 rfl (by omega) (by omega) (by omega) (congrFun hf _) ?_
    first | refine r_isub (az_wid (by omega) (by omega)) ?_ | refine r_isubw ?_
    refine r_i2l ?_
    refine r_lload rfl ?_
    first | refine r_lmul (az_wlid (by omega) (by omega)) ?_ | refine r_lmul rfl ?_
    refine r_lload rfl ?_
    refine r_ladd ((az_wlid (by omega) (by omega)).trans hcr.symm) ?_
    refine r_lstore (Nat.le_of_ble_eq_true rfl) rfl ?_
    refine r_iload_n rfl ?_
    refine r_i2l ?_
    refine r_lload rfl ?_
    refine r_lconst0 ?_
    refine r_lcmp ?_
    refine r_if_le kX8_alone_173 (fun c1 => ?_) (fun c1 => ?_)
    · refine r_lconst0 ?_
      exact H2 _ (by unfold pPos; first | rw [if_pos (by omega)] | rw [if_neg (by omega)]) _
    · refine r_lload rfl ?_
      refine r_goto kX8_alone_174 ?_
      exact H2 _ (by unfold pPos; first | rw [if_pos (by omega)] | rw [if_neg (by omega)]) _
  refine r_iload rfl ?_
  refine r_if_lt kX8_alone_211 (fun c1 => absurd c1 (by omega)) (fun c1 => ?_)
  refine r_aload_n rfl ?_
  refine r_iload_n rfl ?_
  refine r_iload rfl ?_
  refine r_cV3I g_279 rfl (Nat.le_of_ble_eq_true rfl) (Nat.le_of_ble_eq_true rfl) (hcj) ?_
  refine r_aload_n rfl ?_
  refine r_getR g_279 rfl ?_
  refine r_bipush ?_
  refine r_iload_n rfl ?_
  first | refine r_iadd (az_wid (by omega) (by omega)) ?_ | refine r_iaddw ?_
  refine r_ialdx g_284 rfl (by omega) (by omega) (by omega) (congrFun hf _) ?_
  refine r_iconst ?_
  refine r_icmp_ne kX8_alone_109 (fun c2 => ?_) (fun c2 => ?_)
  · refine r_iconst ?_
    have H4 := H1 _ rfl; first | (rw [if_pos (by assumption)] at H4; exact H4) | (rw [if_neg (by assumption)] at H4; exact H4)
  · refine r_aload_n rfl ?_
    refine r_getR g_279 rfl ?_
    refine r_iconst ?_
    refine r_ialdx g_284 rfl (by omega) (by omega) (by omega) (congrFun hf _) ?_
    refine r_goto kX8_alone_110 ?_
    have H4 := H1 _ rfl; first | (rw [if_pos (by assumption)] at H4; exact H4) | (rw [if_neg (by assumption)] at H4; exact H4)
theorem az_gcd_s {x y : Int} (hx : 0 ≤ x) (hy : 0 < y) : Nat.gcd y.toNat (x % y).toNat = Nat.gcd x.toNat y.toNat := by
  have e : (x % y).toNat = x.toNat % y.toNat := by
    obtain ⟨a, rfl⟩ := Int.eq_ofNat_of_zero_le hx
    obtain ⟨b, rfl⟩ := Int.eq_ofNat_of_zero_le (Int.le_of_lt hy)
    rfl
  rw [e, Nat.gcd_comm x.toNat y.toNat, Nat.gcd_rec y.toNat x.toNat, Nat.gcd_comm]
def pG (x y : Int) : Int := (Nat.gcd x.toNat y.toNat : Nat)
theorem pG_s {x y : Int} (hx : 0 ≤ x) (hy : 0 < y) : pG y (x % y) = pG x y := by
  unfold pG
  rw [az_gcd_s hx hy]
theorem pG_0 {x : Int} (hx : 0 ≤ x) : pG x 0 = x := by
  unfold pG
  simp
  omega
theorem pG_pos {x y : Int} (hy : 0 < y) : 0 < pG x y := by
  unfold pG
  have : 0 < Nat.gcd x.toNat y.toNat := Nat.gcd_pos_of_pos_right _ (by omega)
  omega
theorem l_X8_alone2 {g cc wh w u : Int} {G : Int} (K : ∀ o12 o13, az_E sc az_G 162 zX8_alone_244 [some (.inr (.inr 280)), some (.inl (g)), some (.inl (cc)), some (.inl (wh)), some (.inr (.inl (w))), none, some (.inr (.inl (u))), none, some (.inr (.inl (G))), none, some (.inr (.inl (0))), none, o12, o13] [] m Q) : ∀ (n : Nat) (x y : Int) (o12 o13 : Option aV), 0 ≤ x → 0 ≤ y → y ≤ n → pG x y = G → az_E sc az_G 162 zX8_alone_219 [some (.inr (.inr 280)), some (.inl (g)), some (.inl (cc)), some (.inl (wh)), some (.inr (.inl (w))), none, some (.inr (.inl (u))), none, some (.inr (.inl (x))), none, some (.inr (.inl (y))), none, o12, o13] [] m Q := by
  intro n
  induction n with
  | zero =>
    intro x y o12 o13 hx hy hn hG
    have e : y = 0 := by omega
    subst e
    rw [pG_0 hx] at hG
    subst hG
    have hcm := az_cmp_b 0 0
    refine r_lload rfl ?_
    refine r_lconst0 ?_
    refine r_lcmp ?_
    refine r_if_eq kX8_alone_244 (fun c1 => ?_) (fun c1 => absurd c1 (by omega))
    exact K _ _
  | succ n ih =>
    intro x y o12 o13 hx hy hn hG
    have hcm := az_cmp_b y 0
    by_cases e : y = 0
    · subst e
      rw [pG_0 hx] at hG
      subst hG
      refine r_lload rfl ?_
      refine r_lconst0 ?_
      refine r_lcmp ?_
      refine r_if_eq kX8_alone_244 (fun c1 => ?_) (fun c1 => absurd c1 (by omega))
      exact K _ _
    · have h1 : x % y < y := Int.emod_lt_of_pos x (by omega)
      have h2 : 0 ≤ x % y := Int.emod_nonneg x e
      refine r_lload rfl ?_
      refine r_lconst0 ?_
      refine r_lcmp ?_
      refine r_if_eq kX8_alone_244 (fun c1 => absurd c1 (by omega)) (fun c1 => ?_)
      refine r_lload rfl ?_
      refine r_lload rfl ?_
      refine r_lrem (by omega) (az_modn hx) ?_
      refine r_lstore (Nat.le_of_ble_eq_true rfl) rfl ?_
      refine r_lload rfl ?_
      refine r_lstore (Nat.le_of_ble_eq_true rfl) rfl ?_
      refine r_lload rfl ?_
      refine r_lstore (Nat.le_of_ble_eq_true rfl) rfl ?_
      refine r_goto kX8_alone_219 ?_
      exact ih y (x % y) _ _ (by omega) h2 (by omega) (by rw [pG_s hx (by omega)]; exact hG)
def pAlone (f : Int → Int) (g cc wh : Int) : Int := if wh = 0 then (pAl f g cc 6).1 / pG (pAl f g cc 6).1 (pAl f g cc 6).2 else (pAl f g cc 6).2 / pG (pAl f g cc 6).1 (pAl f g cc 6).2
theorem pAlB_S {f : Int → Int} (hN : nOK f) {g cc k w u : Int} (h0 : 0 ≤ g) (h1 : g < f 2) (hc : 0 ≤ cc ∧ cc ≤ 10) (hk : k ≤ 5) (hb : pAlB k w u) : pAlB (k + 1) (pAlS f g cc (5 - k) (w, u)).1 (pAlS f g cc (5 - k) (w, u)).2 := by
  have hk0 : 0 ≤ k := by
    unfold pAlB at hb
    omega
  have hGb := pAlG_b hN (h := 5 - k) h0 h1
  have hp := nOK_p hN (5 - k) (by omega) (by omega)
  have H : ∀ B : Int, 0 ≤ B → (pAlG f g (5 - k) - f (6 + (5 - k)) / 2) * u + w ≤ B → (pAlG f g (5 - k) - f (6 + (5 - k))) * u + w ≤ B → 0 ≤ (pAlS f g cc (5 - k) (w, u)).1 ∧ (pAlS f g cc (5 - k) (w, u)).1 ≤ 10 * B := by
    intro B hB0 hB1 hB2
    unfold pAlS
    dsimp only
    have hp1 : 0 ≤ pPos ((pAlG f g (5 - k) - f (6 + (5 - k)) / 2) * u + w) ∧ pPos ((pAlG f g (5 - k) - f (6 + (5 - k)) / 2) * u + w) ≤ B := by
      unfold pPos
      split <;> omega
    have hp2 : 0 ≤ pPos ((pAlG f g (5 - k) - f (6 + (5 - k))) * u + w) ∧ pPos ((pAlG f g (5 - k) - f (6 + (5 - k))) * u + w) ≤ B := by
      unfold pPos
      split <;> omega
    have hx1 : 0 ≤ cc * pPos ((pAlG f g (5 - k) - f (6 + (5 - k)) / 2) * u + w) := Int.mul_nonneg hc.1 hp1.1
    have hx2 : 0 ≤ (10 - cc) * pPos ((pAlG f g (5 - k) - f (6 + (5 - k))) * u + w) := Int.mul_nonneg (by omega) hp2.1
    have hx3 : cc * pPos ((pAlG f g (5 - k) - f (6 + (5 - k)) / 2) * u + w) ≤ cc * B := Int.mul_le_mul_of_nonneg_left hp1.2 hc.1
    have hx4 : (10 - cc) * pPos ((pAlG f g (5 - k) - f (6 + (5 - k))) * u + w) ≤ (10 - cc) * B := Int.mul_le_mul_of_nonneg_left hp2.2 (by omega)
    have hx5 : cc * B + (10 - cc) * B = 10 * B := by
      rw [← Int.add_mul]
      congr 1
      omega
    omega
  have hU : (pAlS f g cc (5 - k) (w, u)).2 = u * 10 := rfl
  rw [hU]
  unfold pAlB at hb ⊢
  rcases hb with hb | hb | hb | hb | hb | hb | hb
  · obtain ⟨e1, e2, e3⟩ := hb
    subst e2
    have := H 40 (by omega) (by omega) (by omega)
    omega
  · obtain ⟨e1, e2, e3⟩ := hb
    subst e2
    have := H 800 (by omega) (by omega) (by omega)
    omega
  · obtain ⟨e1, e2, e3⟩ := hb
    subst e2
    have := H 12000 (by omega) (by omega) (by omega)
    omega
  · obtain ⟨e1, e2, e3⟩ := hb
    subst e2
    have := H 160000 (by omega) (by omega) (by omega)
    omega
  · obtain ⟨e1, e2, e3⟩ := hb
    subst e2
    have := H 2000000 (by omega) (by omega) (by omega)
    omega
  · obtain ⟨e1, e2, e3⟩ := hb
    subst e2
    have := H 24000000 (by omega) (by omega) (by omega)
    omega
  · omega
theorem pAl_b {f : Int → Int} (hN : nOK f) {g cc : Int} (h0 : 0 ≤ g) (h1 : g < f 2) (hc : 0 ≤ cc ∧ cc ≤ 10) {k : Int} (hk : 0 ≤ k) (hk6 : k ≤ 6) : pAlB k (pAl f g cc k).1 (pAl f g cc k).2 := by
  refine az_Finv (s := fun k a => pAlS f g cc (5 - k) a) (a := ((0 : Int), (1 : Int))) (fun k a => pAlB k a.1 a.2) hk (Or.inl (by decide)) (fun k a h2 h3 hp => ?_)
  exact pAlB_S hN h0 h1 hc (by omega) hp
theorem c_X8_alone {g cc wh : Int} (hN : nOK (m 284)) (hZ : m 279 7 = 0 ∨ m 279 7 = 1) : az_C sc az_G 162 [.inr (.inr 280), .inl g, .inl cc, .inl wh] m (qP m (if m 279 7 = 0 then -1000002 else if (0 ≤ g ∧ g ≤ m 284 2 - 1) ∧ (0 ≤ cc ∧ cc ≤ 10) ∧ (0 ≤ wh ∧ wh ≤ 1) then pAlone (m 284) g cc wh else -1000001) (m 279 3)) := by
  have hn := nOK_2 hN
  have hf : m 284 = m 284 := rfl
  by_cases hb : m 279 7 = 0
  · rw [if_pos hb]
    refine r_aload_n rfl ?_
    refine r_getZ g_279 ?_
    refine r_if_ne kX8_alone_10 (fun c1 => absurd c1 (by omega)) (fun c1 => ?_)
    refine r_ldcI ?_
    refine r_iret rfl ?_
    exact ⟨rfl, frR_r m, rfl⟩
  rw [if_neg hb]
  by_cases hg : (0 ≤ g ∧ g ≤ m 284 2 - 1) ∧ (0 ≤ cc ∧ cc ≤ 10) ∧ (0 ≤ wh ∧ wh ≤ 1)
  · rw [if_pos hg]
    refine r_aload_n rfl ?_
    refine r_getZ g_279 ?_
    refine r_if_ne kX8_alone_10 (fun c1 => ?_) (fun c1 => absurd c1 (by omega))
    refine r_aload_n rfl ?_
    refine r_iload_n rfl ?_
    refine r_cV2I g_279 rfl (Nat.le_of_ble_eq_true rfl) (Nat.le_of_ble_eq_true rfl) (c_X8_isGuest2 hf hn) ?_
    refine r_if_eq kX8_alone_40 (fun c2 => absurd c2 (by omega)) (fun c2 => ?_)
    refine r_iload_n rfl ?_
    refine r_i2l ?_
    refine r_lconst0 ?_
    refine r_ldc2 ?_
    refine r_cS3I (by decide) (Nat.le_of_ble_eq_true rfl) (Nat.le_of_ble_eq_true rfl) (c_X8_in _ _ _) ?_
    refine r_if_eq kX8_alone_40 (fun c3 => absurd c3 (by omega)) (fun c3 => ?_)
    refine r_iload_n rfl ?_
    refine r_i2l ?_
    refine r_lconst0 ?_
    refine r_lconst1 ?_
    refine r_cS3I (by decide) (Nat.le_of_ble_eq_true rfl) (Nat.le_of_ble_eq_true rfl) (c_X8_in _ _ _) ?_
    refine r_if_ne kX8_alone_43 (fun c4 => ?_) (fun c4 => absurd c4 (by omega))
    refine r_iconst ?_
    refine r_istore (Nat.le_of_ble_eq_true rfl) rfl ?_
    skip
    refine az_lop (α := aM) (fun k _ => [some (.inr (.inr 280)), some (.inl (g)), some (.inl (cc)), some (.inl (wh)), some (.inl (k)), none, none, none, none, none, none, none, none, none]) (fun a => a) (fun k a => fr2 m a ∧ ∀ j, 0 ≤ j → j < k → a 290 j = 0) 0 4 m (by decide) ⟨fr2_r m, fun j j0 j1 => by omega⟩ (fun k a h0 h1 hp hK => ?_) (fun a hp => ?_)
    · refine r_iload rfl ?_
      refine r_iconst ?_
      refine r_icmp_ge kX8_alone_66 (fun c1 => absurd c1 (by omega)) (fun c1 => ?_)
      refine r_aload_n rfl ?_
      refine r_getR g_279 rfl ?_
      refine r_iload rfl ?_
      refine r_iconst ?_
      refine r_iast g_290 (by decide) (by omega) (by omega) ?_
      refine r_iinc rfl (az_wid (by omega) (by omega)) rfl ?_
      refine r_goto kX8_alone_46 ?_
      exact hK (az_up a 290 k 0) ⟨fr2_t hp.1 (fr2_u _ _ _), fun j j0 j1 => az_up_eq (fun e => rfl) (fun e => hp.2 j j0 (by omega))⟩
    · obtain ⟨hp1, hp2⟩ := hp
      have hf : a 284 = m 284 := hp1 _ (by decide) (by decide)
      have hZa := pAl_b hN hg.1.1 (by omega) hg.2.1 (k := 6) (by omega) (by omega)
      refine r_iload rfl ?_
      refine r_iconst ?_
      refine r_icmp_ge kX8_alone_66 (fun c1 => ?_) (fun c1 => absurd c1 (by decide))
      refine r_lconst0 ?_
      refine r_lstore (Nat.le_of_ble_eq_true rfl) rfl ?_
      refine r_lconst1 ?_
      refine r_lstore (Nat.le_of_ble_eq_true rfl) rfl ?_
      refine r_iconst ?_
      refine r_istore (Nat.le_of_ble_eq_true rfl) rfl ?_
      skip
      refine az_dwn (α := (Int × Int) × Option aV × Option aV × Option aV × Option aV × Option aV) (fun h x => [some (.inr (.inr 280)), some (.inl (g)), some (.inl (cc)), some (.inl (wh)), some (.inr (.inl (x.1.1))), none, some (.inr (.inl (x.1.2))), none, some (.inl (h)), x.2.1, x.2.2.1, x.2.2.2.1, x.2.2.2.2.1, x.2.2.2.2.2]) (fun _ => a) (fun h x => x.1 = pAl (m 284) g cc (5 - h)) 5 ((0, 1), none, none, none, none, none) (by decide) rfl (fun h x h0 h1 hq hK => ?_) (fun x hq => ?_)
      · obtain ⟨⟨w, u⟩, o9, o10, o11, o12, o13⟩ := x
        dsimp only at hq ⊢
        have hbk := pAl_b hN hg.1.1 (by omega) hg.2.1 (k := 5 - h) (by omega) (by omega)
        rw [← hq] at hbk
        refine l_X8_alone1 hf (fun g g0 g1 => hp2 g g0 (by omega)) hN hg.1.1 (by omega) hg.2.1 (by omega) hbk (fun o9 o10 o11 o12 o13 => ?_)
        refine hK ((_, _), _, _, _, _, _) ?_
        have hS := pAl_S (m 284) g cc (k := 5 - h) (by omega)
        rw [← hq] at hS
        have e1 : 5 - (h - 1) = 5 - h + 1 := by omega
        have e2 : 5 - (5 - h) = h := by omega
        rw [e1, hS, e2]
        rfl
      · obtain ⟨⟨w, u⟩, o9, o10, o11, o12, o13⟩ := x
        have e6 : (5 : Int) - -1 = 6 := rfl
        rw [e6] at hq
        dsimp only at hq ⊢
        rw [← hq] at hZa
        have hwu : (0 ≤ w ∧ w ≤ 240000000) ∧ u = 1000000 := by
          unfold pAlB at hZa
          dsimp only at hZa
          omega
        have hGp : 0 < pG w u := pG_pos (by omega)
        have hd1 : 0 ≤ w / pG w u ∧ w / pG w u ≤ w := ⟨Int.ediv_nonneg hwu.1.1 (by omega), Int.ediv_le_self _ hwu.1.1⟩
        have hd2 : 0 ≤ u / pG w u ∧ u / pG w u ≤ u := ⟨Int.ediv_nonneg (by omega) (by omega), Int.ediv_le_self _ (by omega)⟩
        have ht1 : w.tdiv (pG w u) = w / pG w u := Int.tdiv_eq_ediv_of_nonneg (by omega)
        have ht2 : u.tdiv (pG w u) = u / pG w u := Int.tdiv_eq_ediv_of_nonneg (by omega)
        have hv : pAlone (m 284) g cc wh = if wh = 0 then w / pG w u else u / pG w u := by
          unfold pAlone
          rw [← hq]
        rw [hv]
        refine r_iload rfl ?_
        refine r_if_lt kX8_alone_211 (fun c1 => ?_) (fun c1 => absurd c1 (by decide))
        refine r_lload rfl ?_
        refine r_lstore (Nat.le_of_ble_eq_true rfl) rfl ?_
        refine r_lload rfl ?_
        refine r_lstore (Nat.le_of_ble_eq_true rfl) rfl ?_
        refine l_X8_alone2 (G := pG w u) (fun o12 o13 => ?_) 1000000 w u _ _ hwu.1.1 (by omega) (by omega) rfl
        refine r_iload_n rfl ?_
        refine r_if_ne kX8_alone_256 (fun c2 => ?_) (fun c2 => ?_)
        · refine r_lload rfl ?_
          refine r_lload rfl ?_
          refine r_ldiv (by omega) ((congrArg az_wl ht2).trans (az_wlid (by omega) (by omega))) ?_
          first | refine r_l2i (az_wid (by omega) (by omega)) ?_ | refine r_l2i rfl ?_
          refine r_iret rfl ?_
          exact ⟨az_oI (by first | rw [if_pos (by omega)] | rw [if_neg (by omega)]), frR_2 hp1, congrFun (hp1 279 (by decide) (by decide)) _⟩
        · refine r_lload rfl ?_
          refine r_lload rfl ?_
          refine r_ldiv (by omega) ((congrArg az_wl ht1).trans (az_wlid (by omega) (by omega))) ?_
          refine r_goto kX8_alone_261 ?_
          first | refine r_l2i (az_wid (by omega) (by omega)) ?_ | refine r_l2i rfl ?_
          refine r_iret rfl ?_
          exact ⟨az_oI (by first | rw [if_pos (by omega)] | rw [if_neg (by omega)]), frR_2 hp1, congrFun (hp1 279 (by decide) (by decide)) _⟩
  · rw [if_neg hg]
    refine r_aload_n rfl ?_
    refine r_getZ g_279 ?_
    refine r_if_ne kX8_alone_10 (fun c1 => ?_) (fun c1 => absurd c1 (by omega))
    refine r_aload_n rfl ?_
    refine r_iload_n rfl ?_
    refine r_cV2I g_279 rfl (Nat.le_of_ble_eq_true rfl) (Nat.le_of_ble_eq_true rfl) (c_X8_isGuest2 hf hn) ?_
    refine r_if_eq kX8_alone_40 (fun c2 => ?_) (fun c2 => ?_)
    · refine r_ldcI ?_
      refine r_iret rfl ?_
      exact ⟨rfl, frR_r m, rfl⟩
    · refine r_iload_n rfl ?_
      refine r_i2l ?_
      refine r_lconst0 ?_
      refine r_ldc2 ?_
      refine r_cS3I (by decide) (Nat.le_of_ble_eq_true rfl) (Nat.le_of_ble_eq_true rfl) (c_X8_in _ _ _) ?_
      refine r_if_eq kX8_alone_40 (fun c3 => ?_) (fun c3 => ?_)
      · refine r_ldcI ?_
        refine r_iret rfl ?_
        exact ⟨rfl, frR_r m, rfl⟩
      · refine r_iload_n rfl ?_
        refine r_i2l ?_
        refine r_lconst0 ?_
        refine r_lconst1 ?_
        refine r_cS3I (by decide) (Nat.le_of_ble_eq_true rfl) (Nat.le_of_ble_eq_true rfl) (c_X8_in _ _ _) ?_
        refine r_if_ne kX8_alone_43 (fun c4 => absurd c4 (by omega)) (fun c4 => ?_)
        refine r_ldcI ?_
        refine r_iret rfl ?_
        exact ⟨rfl, frR_r m, rfl⟩
end RI
