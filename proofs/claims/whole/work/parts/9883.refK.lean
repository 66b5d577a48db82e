/-! THE REFERENCE: sunset, undo, images, counts -/
section RK
variable {sc : aX} {m : aM} {f t c : Int → Int} {sp : Int} {Q : Option aV → aM → Prop}
theorem c_X8_payOf3 {g x u fe tg : Int} (hx : m 292 g = x) (hu : m 284 (40 + g) = u) (hfe : m 284 1 = fe) (htg : m 290 g = tg) (hx2 : 0 ≤ x ∧ x ≤ 3000) (hf2 : 0 ≤ fe ∧ fe ≤ 9) (ht2 : 0 ≤ tg ∧ tg ≤ 6) (h0 : 0 ≤ g) (h1 : g < 4) : az_CI sc 118 [.inr (.inr 280), .inl g] m (x + (if u = 1 then fe * tg else 0)) m := by
  have hm := az_mulb hf2.1 hf2.2 ht2.1 ht2.2
  refine r_aload_n rfl ?_
  refine r_getR g_279 rfl ?_
  refine r_iload_n rfl ?_
  refine r_ialdx g_292 rfl (by omega) (by omega) (by omega) (hx) ?_
  refine r_aload_n rfl ?_
  refine r_getR g_279 rfl ?_
  refine r_bipush ?_
  refine r_iload_n rfl ?_
  first | refine r_iadd (az_wid (by omega) (by omega)) ?_ | refine r_iaddw ?_
  refine r_ialdx g_284 rfl (by omega) (by omega) (by omega) ((by first | exact hu | exact hfe)) ?_
  refine r_iconst ?_
  refine r_icmp_ne kX8_payOf_35 (fun c1 => ?_) (fun c1 => ?_)
  · refine r_iconst ?_
    first | refine r_iadd (az_wid (by omega) (by omega)) ?_ | refine r_iaddw ?_
    refine r_iret rfl ?_
    refine ⟨az_oI ?_, rfl⟩; (repeat' split) <;> first | rfl | (exfalso; omega)
  · refine r_aload_n rfl ?_
    refine r_getR g_279 rfl ?_
    refine r_iconst ?_
    refine r_ialdx g_284 rfl (by omega) (by omega) (by omega) ((by first | exact hu | exact hfe)) ?_
    refine r_aload_n rfl ?_
    refine r_getR g_279 rfl ?_
    refine r_iload_n rfl ?_
    refine r_ialdx g_290 rfl (by omega) (by omega) (by omega) (htg) ?_
    refine r_imul (az_wid (by omega) (by omega)) ?_
    refine r_goto kX8_payOf_36 ?_
    first | refine r_iadd (az_wid (by omega) (by omega)) ?_ | refine r_iaddw ?_
    refine r_iret rfl ?_
    refine ⟨az_oI ?_, rfl⟩; (repeat' split) <;> first | rfl | (exfalso; omega)
def pThr (f : Int → Int) : Int → Int := fun g => f (36 + g)
theorem pThr_ok {f : Int → Int} (hN : nOK f) : tOK f (pThr f) := fun g h0 h1 => (nOK_g hN g h0 h1).2.2.2.2.2.2.1
def pSP (f : Int → Int) (g : Int) : Int := pPay f (pThr f) (pPrice f) (f 0) g
def pPaidS (f : Int → Int) (g : Int) : Int := if pSP f g < f (24 + g) then pSP f g else f (24 + g)
def pND (f : Int → Int) (g : Int) : Int := pLeast (pLeast (f (28 + g) + f (28 + g) / 10) + pSP f g - pPaidS f g)
def pNP (f : Int → Int) (g : Int) : Int := f (24 + g) - pPaidS f g
def pSun (f : Int → Int) (k : Int) : Int → Int := fun j => if 24 ≤ j ∧ j < 24 + k then pNP f (j - 24) else if 28 ≤ j ∧ j < 28 + k then pND f (j - 28) else if 32 ≤ j ∧ j < 32 + k then 0 else if 36 ≤ j ∧ j < 36 + k then 0 else f j
theorem pSun_o (f : Int → Int) {k j : Int} (hk : k ≤ 4) (h : j < 24 ∨ (24 + k ≤ j ∧ j < 28) ∨ (28 + k ≤ j ∧ j < 32) ∨ (32 + k ≤ j ∧ j < 36) ∨ 36 + k ≤ j) : pSun f k j = f j := by
  unfold pSun
  rw [if_neg (by omega), if_neg (by omega), if_neg (by omega), if_neg (by omega)]
theorem pSun_S (f : Int → Int) {k : Int} (h : 0 ≤ k) (hk : k < 4) : pSun f (k + 1) = up1 (up1 (up1 (up1 (pSun f k) (28 + k) (pND f k)) (24 + k) (pNP f k)) (32 + k) 0) (36 + k) 0 := by
  funext j
  by_cases h1 : j = 36 + k
  · subst h1
    rw [up1_at]
    unfold pSun
    rw [if_neg (by omega), if_neg (by omega), if_neg (by omega), if_pos (by omega)]
  rw [up1_ne _ _ h1]
  by_cases h2 : j = 32 + k
  · subst h2
    rw [up1_at]
    unfold pSun
    rw [if_neg (by omega), if_neg (by omega), if_pos (by omega)]
  rw [up1_ne _ _ h2]
  by_cases h3 : j = 24 + k
  · subst h3
    rw [up1_at]
    unfold pSun
    rw [if_pos (by omega), show (24 : Int) + k - 24 = k by omega]
  rw [up1_ne _ _ h3]
  by_cases h4 : j = 28 + k
  · subst h4
    rw [up1_at]
    unfold pSun
    rw [if_neg (by omega), if_pos (by omega), show (28 : Int) + k - 28 = k by omega]
  rw [up1_ne _ _ h4]
  unfold pSun
  have e1 : (24 ≤ j ∧ j < 24 + (k + 1)) ↔ (24 ≤ j ∧ j < 24 + k) := by omega
  have e2 : (28 ≤ j ∧ j < 28 + (k + 1)) ↔ (28 ≤ j ∧ j < 28 + k) := by omega
  have e3 : (32 ≤ j ∧ j < 32 + (k + 1)) ↔ (32 ≤ j ∧ j < 32 + k) := by omega
  have e4 : (36 ≤ j ∧ j < 36 + (k + 1)) ↔ (36 ≤ j ∧ j < 36 + k) := by omega
  simp only [e1, e2, e3, e4]
theorem pSun_0 (f : Int → Int) : pSun f 0 = f := by
  funext j
  exact pSun_o f (by omega) (by omega)
theorem pSP_b {f : Int → Int} (hN : nOK f) {g : Int} (h0 : 0 ≤ g) (h1 : g < f 2) : 0 ≤ pSP f g ∧ pSP f g ≤ 3100 := pPay_b (nOK_2 hN) (nOK_1 hN) (pThr_ok hN) (fun h h0 h1 => pPrice_b (nOK_p hN) h0 h1) h0 h1
theorem pLeast_b {v : Int} (h : 0 ≤ v) : 0 ≤ pLeast v ∧ pLeast v ≤ 9999 := by
  unfold pLeast
  split <;> omega
theorem pPaidS_b {f : Int → Int} (hN : nOK f) {g : Int} (h0 : 0 ≤ g) (h1 : g < f 2) : 0 ≤ pPaidS f g ∧ pPaidS f g ≤ pSP f g ∧ pPaidS f g ≤ f (24 + g) := by
  have h2 := pSP_b hN h0 h1
  have h3 := (nOK_g hN g h0 h1).2.2.2.1
  unfold pPaidS
  split <;> omega
def pSunset (z : Int) (f : Int → Int) : Int × Option (Int → Int) := if z = 0 ∨ f 4 < 6 then (-1000002, none) else if f 3 = 999 then (-1000003, none) else (pBill (pPrice f) (pLong f (pThr f)), some (up1 (up1 (up1 (pSun f (f 2)) 3 (f 3 + 1)) 4 0) 5 0))
theorem rM_s2 {m m1 m4 : aM} (h : remM m m1) (h2 : frR m1 m4) (h3 : m4 279 3 = m1 279 3) (F : Int → Int) : rM m (az_set m4 284 F) F := by
  obtain ⟨a1, a2, a3, a4⟩ := h
  have e9 : m4 279 9 = m1 279 9 := h2.2 9 (by decide) (by decide)
  have e285 : m4 285 = m1 285 := h2.1 285 (by decide) (by decide) (by decide) (by decide)
  refine ⟨fun b b1 b2 b3 b4 b5 b6 => (if_neg b2).trans ((h2.1 b b1 b4 b5 b6).trans (a1 b b1 b3)), fun k k1 k2 => ?_, e9.trans a3, ?_, if_pos rfl⟩
  · by_cases e : k = 3
    · subst e
      exact h3.trans (a2 3 (by decide))
    · exact (h2.2 k k2 e).trans (a2 k k1)
  · show remS _ _ _ (m4 285)
    rw [e285]
    exact a4
/-- the guests pay, one after the other -/
theorem l_X8_sunset {S : Int} {m4 : aM} (hN : nOK f) (hsh : ∀ g, 0 ≤ g → g < f 2 → m4 292 g = pShr f (pThr f) (pPrice f) (f 0) g) (ht : ∀ g, 0 ≤ g → g < f 2 → m4 290 g = pThr f g) (K : ∀ o3 o4, az_E sc az_G 120 zX8_sunset_214 [some (.inr (.inr 280)), some (.inl (S)), some (.inl (f 2)), o3, o4] [] (az_set m4 284 (pSun f (f 2))) Q) : az_E sc az_G 120 zX8_sunset_88 [some (.inr (.inr 280)), some (.inl (S)), some (.inl (0)), none, none] [] (az_set m4 284 f) Q := by
  have hn := nOK_2 hN
  refine az_lop (α := (Int → Int) × Option aV × Option aV) (fun g a => [some (.inr (.inr 280)), some (.inl (S)), some (.inl (g)), a.2.1, a.2.2]) (fun a => az_set m4 284 a.1) (fun g a => a.1 = pSun f g) 0 (f 2) (f, none, none) hn.1 (pSun_0 f).symm (fun g a h0 h1 hp hK => ?_) (fun a hp => ?_)
  · obtain ⟨F, o3, o4⟩ := a
    dsimp only at hp ⊢
    have e2 : F 2 = f 2 := by rw [hp]; exact pSun_o f (by omega) (by omega)
    have e1 : F 1 = f 1 := by rw [hp]; exact pSun_o f (by omega) (by omega)
    have e40 : F (40 + g) = f (40 + g) := by rw [hp]; exact pSun_o f (by omega) (by omega)
    have e24 : F (24 + g) = f (24 + g) := by rw [hp]; exact pSun_o f (by omega) (by omega)
    have e28 : F (28 + g) = f (28 + g) := by rw [hp]; exact pSun_o f (by omega) (by omega)
    have hG := nOK_g hN g h0 h1
    have hb := pShr_b (sp := f 0) hn (pThr_ok hN) (fun h h0 h1 => pPrice_b (nOK_p hN) h0 h1) h0 h1
    have hP := pSP_b hN h0 h1
    have hPd := pPaidS_b hN h0 h1
    have hS := pSun_S f h0 (by omega)
    rw [← hp] at hS
    have hcp : az_CI sc 118 [.inr (.inr 280), .inl g] (az_set m4 284 F) (pSP f g) (az_set m4 284 F) := c_X8_payOf3 (hsh g h0 h1) e40 e1 (ht g h0 h1) hb (nOK_1 hN) (pThr_ok hN g h0 h1) h0 (by omega)
    have H : ∀ x, x = pPaidS f g → az_E sc az_G 120 zX8_sunset_130 [some (.inr (.inr 280)), some (.inl (S)), some (.inl (g)), some (.inl (pSP f g)), o4] [.inl x] (az_set m4 284 F) Q := by
      intro x hx
      subst hx
      have hl1 := pLeast_b (v := f (28 + g) + f (28 + g) / 10) (by omega)
      have e24' : ∀ v, az_up (az_set m4 284 F) 284 (28 + g) v 284 (24 + g) = f (24 + g) := fun v => az_up_eq (fun e => absurd e (by omega)) (fun _ => e24)
      refine r_istore (Nat.le_of_ble_eq_true rfl) rfl ?_
      refine r_aload_n rfl ?_
      refine r_getR g_279 rfl ?_
      refine r_bipush ?_
      refine r_iload_n rfl ?_
      first | refine r_iadd (az_wid (by omega) (by omega)) ?_ | refine r_iaddw ?_
      refine r_aload_n rfl ?_
      refine r_getR g_279 rfl ?_
      refine r_bipush ?_
      refine r_iload_n rfl ?_
      first | refine r_iadd (az_wid (by omega) (by omega)) ?_ | refine r_iaddw ?_
      refine r_ialdx g_284 rfl (by omega) (by omega) (by omega) (e28) ?_
      refine r_aload_n rfl ?_
      refine r_getR g_279 rfl ?_
      refine r_bipush ?_
      refine r_iload_n rfl ?_
      first | refine r_iadd (az_wid (by omega) (by omega)) ?_ | refine r_iaddw ?_
      refine r_ialdx g_284 rfl (by omega) (by omega) (by omega) (e28) ?_
      refine r_bipush ?_
      first | refine r_idiv (by omega) (az_divn (by omega) (by omega) (by omega)) ?_ | refine r_idiv (by omega) rfl ?_
      first | refine r_iadd (az_wid (by omega) (by omega)) ?_ | refine r_iaddw ?_
      refine r_cS1I (by decide) (Nat.le_of_ble_eq_true rfl) (Nat.le_of_ble_eq_true rfl) (c_X8_least _) ?_
      refine r_iload_n rfl ?_
      first | refine r_iadd (az_wid (by omega) (by omega)) ?_ | refine r_iaddw ?_
      refine r_iload rfl ?_
      first | refine r_isub (az_wid (by omega) (by omega)) ?_ | refine r_isubw ?_
      refine r_cS1I (by decide) (Nat.le_of_ble_eq_true rfl) (Nat.le_of_ble_eq_true rfl) (c_X8_least _) ?_
      refine r_iast g_284 (by decide) (by omega) (by omega) ?_
      refine r_aload_n rfl ?_
      refine r_getR g_279 rfl ?_
      refine r_bipush ?_
      refine r_iload_n rfl ?_
      first | refine r_iadd (az_wid (by omega) (by omega)) ?_ | refine r_iaddw ?_
      refine r_dup2 ?_
      refine r_ialdx g_284 rfl (by omega) (by omega) (by omega) (e24' _) ?_
      refine r_iload rfl ?_
      first | refine r_isub (az_wid (by omega) (by omega)) ?_ | refine r_isubw ?_
      refine r_iast g_284 (by decide) (by omega) (by omega) ?_
      refine r_aload_n rfl ?_
      refine r_getR g_279 rfl ?_
      refine r_bipush ?_
      refine r_iload_n rfl ?_
      first | refine r_iadd (az_wid (by omega) (by omega)) ?_ | refine r_iaddw ?_
      refine r_iconst ?_
      refine r_iast g_284 (by decide) (by omega) (by omega) ?_
      refine r_aload_n rfl ?_
      refine r_getR g_279 rfl ?_
      refine r_bipush ?_
      refine r_iload_n rfl ?_
      first | refine r_iadd (az_wid (by omega) (by omega)) ?_ | refine r_iaddw ?_
      refine r_iconst ?_
      refine r_iast g_284 (by decide) (by omega) (by omega) ?_
      refine r_iinc rfl (az_wid (by omega) (by omega)) rfl ?_
      refine r_goto kX8_sunset_88 ?_
      refine az_Em ?_ (hK (_, _, _) hS.symm); dsimp only; rw [az_us, az_us, az_us, az_us]; rfl
    refine r_iload_n rfl ?_
    refine r_aload_n rfl ?_
    refine r_getR g_279 rfl ?_
    refine r_iconst ?_
    refine r_ialdx g_284 rfl (by omega) (by omega) (by omega) ((by first | exact e2 | exact e24)) ?_
    refine r_icmp_ge kX8_sunset_214 (fun c1 => absurd c1 (by omega)) (fun c1 => ?_)
    refine r_aload_n rfl ?_
    refine r_iload_n rfl ?_
    refine r_cV2I g_279 rfl (Nat.le_of_ble_eq_true rfl) (Nat.le_of_ble_eq_true rfl) (hcp) ?_
    refine r_istore_n (Nat.le_of_ble_eq_true rfl) rfl ?_
    refine r_iload_n rfl ?_
    refine r_aload_n rfl ?_
    refine r_getR g_279 rfl ?_
    refine r_bipush ?_
    refine r_iload_n rfl ?_
    first | refine r_iadd (az_wid (by omega) (by omega)) ?_ | refine r_iaddw ?_
    refine r_ialdx g_284 rfl (by omega) (by omega) (by omega) ((by first | exact e2 | exact e24)) ?_
    refine r_icmp_ge kX8_sunset_121 (fun c2 => ?_) (fun c2 => ?_)
    · refine r_aload_n rfl ?_
      refine r_getR g_279 rfl ?_
      refine r_bipush ?_
      refine r_iload_n rfl ?_
      first | refine r_iadd (az_wid (by omega) (by omega)) ?_ | refine r_iaddw ?_
      refine r_ialdx g_284 rfl (by omega) (by omega) (by omega) ((by first | exact e2 | exact e24)) ?_
      exact H _ (by unfold pPaidS; first | rw [if_pos (by omega)] | rw [if_neg (by omega)])
    · refine r_iload_n rfl ?_
      refine r_goto kX8_sunset_130 ?_
      exact H _ (by unfold pPaidS; first | rw [if_pos (by omega)] | rw [if_neg (by omega)])
  · obtain ⟨F, o3, o4⟩ := a
    dsimp only at hp ⊢
    subst hp
    have e2 : pSun f (f 2) 2 = f 2 := pSun_o f (by omega) (by omega)
    refine r_iload_n rfl ?_
    refine r_aload_n rfl ?_
    refine r_getR g_279 rfl ?_
    refine r_iconst ?_
    refine r_ialdx g_284 rfl (by omega) (by omega) (by omega) (e2) ?_
    refine r_icmp_ge kX8_sunset_214 (fun c1 => ?_) (fun c1 => absurd c1 (by omega))
    exact K _ _
theorem c_X8_sunset (hN : nOK (m 284)) (ha : 0 ≤ m 279 9 ∧ m 279 9 ≤ 24) (hZ : m 279 7 = 0 ∨ m 279 7 = 1) : az_C sc az_G 120 [.inr (.inr 280)] m (qM m (pSunset (m 279 7) (m 284))) := by
  have hn := nOK_2 hN
  have hf : m 284 = m 284 := rfl
  have h3 := nOK_3 hN
  unfold pSunset
  by_cases hz : m 279 7 = 0 ∨ m 284 4 < 6
  · rw [if_pos hz]
    refine r_aload_n rfl ?_
    refine r_getZ g_279 ?_
    refine r_if_eq kX8_sunset_18 (fun c1 => ?_) (fun c1 => ?_)
    · refine r_ldcI ?_
      refine r_iret rfl ?_
      exact qM_0
    · refine r_aload_n rfl ?_
      refine r_getR g_279 rfl ?_
      refine r_iconst ?_
      refine r_ialdx g_284 rfl (by omega) (by omega) (by omega) (congrFun hf _) ?_
      refine r_bipush ?_
      refine r_icmp_ge kX8_sunset_21 (fun c2 => absurd c2 (by omega)) (fun c2 => ?_)
      refine r_ldcI ?_
      refine r_iret rfl ?_
      exact qM_0
  rw [if_neg hz]
  by_cases h9 : m 284 3 = 999
  · rw [if_pos h9]
    refine r_aload_n rfl ?_
    refine r_getZ g_279 ?_
    refine r_if_eq kX8_sunset_18 (fun c1 => absurd c1 (by omega)) (fun c1 => ?_)
    refine r_aload_n rfl ?_
    refine r_getR g_279 rfl ?_
    refine r_iconst ?_
    refine r_ialdx g_284 rfl (by omega) (by omega) (by omega) (congrFun hf _) ?_
    refine r_bipush ?_
    refine r_icmp_ge kX8_sunset_21 (fun c2 => ?_) (fun c2 => absurd c2 (by omega))
    refine r_aload_n rfl ?_
    refine r_getR g_279 rfl ?_
    refine r_iconst ?_
    refine r_ialdx g_284 rfl (by omega) (by omega) (by omega) (congrFun hf _) ?_
    refine r_sipush ?_
    refine r_icmp_ne kX8_sunset_36 (fun c3 => absurd c3 (by omega)) (fun c3 => ?_)
    refine r_ldcI ?_
    refine r_iret rfl ?_
    exact qM_0
  rw [if_neg h9]
  obtain ⟨f, hff⟩ : ∃ f, f = m 284 := ⟨_, rfl⟩
  rw [← hff] at hN hn h3 h9 hz hf ⊢
  refine r_aload_n rfl ?_
  refine r_getZ g_279 ?_
  refine r_if_eq kX8_sunset_18 (fun c1 => absurd c1 (by omega)) (fun c1 => ?_)
  refine r_aload_n rfl ?_
  refine r_getR g_279 rfl ?_
  refine r_iconst ?_
  refine r_ialdx g_284 rfl (by omega) (by omega) (by omega) (congrFun hff.symm _) ?_
  refine r_bipush ?_
  refine r_icmp_ge kX8_sunset_21 (fun c2 => ?_) (fun c2 => absurd c2 (by omega))
  refine r_aload_n rfl ?_
  refine r_getR g_279 rfl ?_
  refine r_iconst ?_
  refine r_ialdx g_284 rfl (by omega) (by omega) (by omega) (congrFun hff.symm _) ?_
  refine r_sipush ?_
  refine r_icmp_ne kX8_sunset_36 (fun c3 => ?_) (fun c3 => absurd c3 (by omega))
  refine r_aload_n rfl ?_
  refine r_cV1 g_279 rfl (Nat.le_of_ble_eq_true rfl) (Nat.le_of_ble_eq_true rfl) (c_X8_remember ha) (fun v_37 m_37 hq_37 => ?_)
  obtain ⟨rfl, hR⟩ := hq_37; have hf2 : m_37 284 = f := by { rw [hff]; exact hR.1 284 (by decide) (by decide) }
  refine r_aload_n rfl ?_
  refine r_cV1V g_279 rfl (Nat.le_of_ble_eq_true rfl) (Nat.le_of_ble_eq_true rfl) (c_X8_layNow hf2 hN) ?_
  refine r_iconst ?_
  refine r_istore_n (Nat.le_of_ble_eq_true rfl) rfl ?_
  skip
  have hlB := lay_B hf2 hN
  have hlF := lay_fr m_37 f (f 0)
  revert hlB hlF
  generalize az_up (az_set m_37 291 (pCosts f (m_37 291) 6)) 279 23 (f 0) = m2
  intro hlB hlF
  refine az_lop (α := aM) (fun g _ => [some (.inr (.inr 280)), some (.inl (g)), none, none, none]) (fun a => a) (fun g a => fr2 m2 a ∧ ∀ j, 0 ≤ j → j < g → a 290 j = pThr f j) 0 (f 2) m2 hn.1 ⟨fr2_r m2, fun j j0 j1 => by omega⟩ (fun g a h0 h1 hp hK => ?_) (fun a hp => ?_)
  · obtain ⟨hp1, hp2⟩ := hp
    have hf := (rB_fr hlB hp1).1
    refine r_iload_n rfl ?_
    refine r_aload_n rfl ?_
    refine r_getR g_279 rfl ?_
    refine r_iconst ?_
    refine r_ialdx g_284 rfl (by omega) (by omega) (by omega) (congrFun hf _) ?_
    refine r_icmp_ge kX8_sunset_77 (fun c1 => absurd c1 (by omega)) (fun c1 => ?_)
    refine r_aload_n rfl ?_
    refine r_getR g_279 rfl ?_
    refine r_iload_n rfl ?_
    refine r_aload_n rfl ?_
    refine r_getR g_279 rfl ?_
    refine r_bipush ?_
    refine r_iload_n rfl ?_
    first | refine r_iadd (az_wid (by omega) (by omega)) ?_ | refine r_iaddw ?_
    refine r_ialdx g_284 rfl (by omega) (by omega) (by omega) (congrFun hf _) ?_
    refine r_iast g_290 (by decide) (by omega) (by omega) ?_
    refine r_iinc rfl (az_wid (by omega) (by omega)) rfl ?_
    refine r_goto kX8_sunset_46 ?_
    exact hK _ ⟨fr2_t hp1 (fr2_u _ _ _), fun j j0 j1 => az_up_eq (fun e => by rw [e]; rfl) (fun e => hp2 j j0 (by omega))⟩
  · obtain ⟨hp1, hp2⟩ := hp
    have hf := (rB_fr hlB hp1).1
    have hD := rD_B (rB_fr hlB hp1) hp2 (pThr_ok hN)
    refine r_iload_n rfl ?_
    refine r_aload_n rfl ?_
    refine r_getR g_279 rfl ?_
    refine r_iconst ?_
    refine r_ialdx g_284 rfl (by omega) (by omega) (by omega) (congrFun hf _) ?_
    refine r_icmp_ge kX8_sunset_77 (fun c1 => ?_) (fun c1 => absurd c1 (by omega))
    refine r_aload_n rfl ?_
    refine r_cV1 g_279 rfl (Nat.le_of_ble_eq_true rfl) (Nat.le_of_ble_eq_true rfl) (c_X8_share hD.1 hD.2.1 hD.2.2.1 hD.2.2.2.1 hn hD.2.2.2.2.2.1 hD.2.2.2.2.2.2.1 hD.2.2.2.2.2.2.2) (fun v_78 m_78 hq_78 => ?_)
    obtain ⟨rfl, s1, rfl, hs1⟩ := hq_78
    refine r_aload_n rfl ?_
    refine r_cV1I g_279 rfl (Nat.le_of_ble_eq_true rfl) (Nat.le_of_ble_eq_true rfl) (c_X8_sum (f := f) hD.1 hD.2.1 hD.2.2.1 hn hD.2.2.2.2.2.1 hD.2.2.2.2.2.2.1) ?_
    refine r_istore_n (Nat.le_of_ble_eq_true rfl) rfl ?_
    refine r_iconst ?_
    refine r_istore_n (Nat.le_of_ble_eq_true rfl) rfl ?_
    skip
    have hf4 : az_set a 292 s1 284 = f := hf
    refine az_Em (az_s0 (az_set a 292 s1) 284).symm ?_
    rw [hf4]
    refine l_X8_sunset hN hs1 hD.2.1 (fun o3 o4 => ?_)
    have e3 : pSun f (f 2) 3 = f 3 := pSun_o f (by omega) (by omega)
    have hfr : frR m_37 (az_set a 292 s1) := frR_t hlF.1 (frR_t (frR_2 hp1) (frR_2 (fr2_s a s1)))
    have hst : az_set a 292 s1 279 3 = m_37 279 3 := (congrFun (hp1 279 (by decide) (by decide)) 3).trans hlF.2
    refine r_aload_n rfl ?_
    refine r_getR g_279 rfl ?_
    refine r_iconst ?_
    refine r_dup2 ?_
    refine r_ialdx g_284 rfl (by omega) (by omega) (by omega) (e3) ?_
    refine r_iconst ?_
    first | refine r_iadd (az_wid (by omega) (by omega)) ?_ | refine r_iaddw ?_
    refine r_iast g_284 (by decide) (by omega) (by omega) ?_
    refine r_aload_n rfl ?_
    refine r_getR g_279 rfl ?_
    refine r_iconst ?_
    refine r_iconst ?_
    refine r_iast g_284 (by decide) (by omega) (by omega) ?_
    refine r_aload_n rfl ?_
    refine r_getR g_279 rfl ?_
    refine r_iconst ?_
    refine r_iconst ?_
    refine r_iast g_284 (by decide) (by omega) (by omega) ?_
    refine r_iload_n rfl ?_
    refine r_iret rfl ?_
    refine qM_1 ?_; rw [az_us, az_us, az_us]; exact rM_s2 hR hfr hst _
/-- undo -/
theorem c_X8_undo (ha : 0 ≤ m 279 9 ∧ m 279 9 ≤ 24) : az_CI sc 123 [.inr (.inr 280)] m (if m 279 9 = 0 then -1000002 else m 279 9 - 1) (if m 279 9 = 0 then m else az_cp (az_up m 279 9 (m 279 9 - 1)) 285 (44 * (m 279 9 - 1)) 284 0 44) := by
  by_cases h : m 279 9 = 0
  · rw [if_pos h, if_pos h]
    refine r_aload_n rfl ?_
    refine r_getI g_279 ?_
    refine r_if_ne kX8_undo_10 (fun c1 => absurd c1 (by omega)) (fun c1 => ?_)
    refine r_ldcI ?_
    refine r_iret rfl ?_
    exact ⟨rfl, rfl⟩
  · rw [if_neg h, if_neg h]
    refine r_aload_n rfl ?_
    refine r_getI g_279 ?_
    refine r_if_ne kX8_undo_10 (fun c1 => ?_) (fun c1 => absurd c1 (by omega))
    refine r_aload_n rfl ?_
    refine r_dupR ?_
    refine r_getI g_279 ?_
    refine r_iconst ?_
    first | refine r_isub (az_wid (by omega) (by omega)) ?_ | refine r_isubw ?_
    refine r_putI g_279 (by decide) ?_
    refine r_aload_n rfl ?_
    refine r_getR g_279 rfl ?_
    refine r_bipush ?_
    refine r_aload_n rfl ?_
    refine r_getIx g_279 (az_up_at _ _ _ _) ?_
    first | refine r_imul (az_wid (by omega) (by omega)) ?_ | refine r_imulw ?_
    refine r_aload_n rfl ?_
    refine r_getR g_279 rfl ?_
    refine r_iconst ?_
    refine r_cS4V (by decide) (Nat.le_of_ble_eq_true rfl) (Nat.le_of_ble_eq_true rfl) (l_X8_copies g_285 g_284 (by decide) (by decide) (by decide) (44 * (m 279 9 - 1)) 0 ⟨by omega, by show _ ≤ (1056 : Int); omega, by omega⟩ (by decide)) ?_
    refine r_aload_n rfl ?_
    refine r_getIx g_279 ((congrFun (az_cp_b _ _ _ _ (by decide)) _).trans (az_up_at _ _ _ _)) ?_
    refine r_iret rfl ?_
    exact ⟨rfl, rfl⟩
def pImg (m : aM) (k : Int) : Int × aM := if 0 ≤ k ∧ k ≤ 1 then (if m 279 7 = 0 then (-1000002, m) else (1, az_up (az_cp m 284 0 286 (44 * k) 44) 287 k 1)) else (-1000001, m)
theorem c_X8_image {k : Int} (hZ : m 279 7 = 0 ∨ m 279 7 = 1) : az_CI sc 179 [.inr (.inr 280), .inl k] m (pImg m k).1 (pImg m k).2 := by
  unfold pImg
  by_cases hk : 0 ≤ k ∧ k ≤ 1
  · rw [if_pos hk]
    by_cases hz : m 279 7 = 0
    · rw [if_pos hz]
      refine r_iload_n rfl ?_
      refine r_i2l ?_
      refine r_lconst0 ?_
      refine r_lconst1 ?_
      refine r_cS3I (by decide) (Nat.le_of_ble_eq_true rfl) (Nat.le_of_ble_eq_true rfl) (c_X8_in _ _ _) ?_
      refine r_if_ne kX8_image_13 (fun c1 => ?_) (fun c1 => absurd c1 (by omega))
      refine r_aload_n rfl ?_
      refine r_getZ g_279 ?_
      refine r_if_ne kX8_image_23 (fun c2 => absurd c2 (by omega)) (fun c2 => ?_)
      refine r_ldcI ?_
      refine r_iret rfl ?_
      exact ⟨rfl, rfl⟩
    · rw [if_neg hz]
      refine r_iload_n rfl ?_
      refine r_i2l ?_
      refine r_lconst0 ?_
      refine r_lconst1 ?_
      refine r_cS3I (by decide) (Nat.le_of_ble_eq_true rfl) (Nat.le_of_ble_eq_true rfl) (c_X8_in _ _ _) ?_
      refine r_if_ne kX8_image_13 (fun c1 => ?_) (fun c1 => absurd c1 (by omega))
      refine r_aload_n rfl ?_
      refine r_getZ g_279 ?_
      refine r_if_ne kX8_image_23 (fun c2 => ?_) (fun c2 => absurd c2 (by omega))
      refine r_aload_n rfl ?_
      refine r_getR g_279 rfl ?_
      refine r_iconst ?_
      refine r_aload_n rfl ?_
      refine r_getR g_279 rfl ?_
      refine r_bipush ?_
      refine r_iload_n rfl ?_
      first | refine r_imul (az_wid (by omega) (by omega)) ?_ | refine r_imulw ?_
      refine r_cS4V (by decide) (Nat.le_of_ble_eq_true rfl) (Nat.le_of_ble_eq_true rfl) (l_X8_copies g_284 g_286 (by decide) (by decide) (by decide) 0 (44 * k) (by decide) ⟨by omega, by show _ ≤ (88 : Int); omega, by omega⟩) ?_
      refine r_aload_n rfl ?_
      refine r_getR g_279 rfl ?_
      refine r_iload_n rfl ?_
      refine r_iconst ?_
      refine r_bast g_287 (by decide) (by omega) (by omega) (by omega) ?_
      refine r_iconst ?_
      refine r_iret rfl ?_
      exact ⟨rfl, rfl⟩
  · rw [if_neg hk]
    refine r_iload_n rfl ?_
    refine r_i2l ?_
    refine r_lconst0 ?_
    refine r_lconst1 ?_
    refine r_cS3I (by decide) (Nat.le_of_ble_eq_true rfl) (Nat.le_of_ble_eq_true rfl) (c_X8_in _ _ _) ?_
    refine r_if_ne kX8_image_13 (fun c1 => absurd c1 (by omega)) (fun c1 => ?_)
    refine r_ldcI ?_
    refine r_iret rfl ?_
    exact ⟨rfl, rfl⟩
def pRes (m : aM) (k : Int) : Int × aM := if 0 ≤ k ∧ k ≤ 1 then (if m 287 k = 0 then (-1000002, m) else (1, az_up (az_cp m 286 (44 * k) 284 0 44) 279 9 0)) else (-1000001, m)
theorem c_X8_restore {k : Int} : az_CI sc 181 [.inr (.inr 280), .inl k] m (pRes m k).1 (pRes m k).2 := by
  unfold pRes
  by_cases hk : 0 ≤ k ∧ k ≤ 1
  · rw [if_pos hk]
    by_cases hz : m 287 k = 0
    · rw [if_pos hz]
      refine r_iload_n rfl ?_
      refine r_i2l ?_
      refine r_lconst0 ?_
      refine r_lconst1 ?_
      refine r_cS3I (by decide) (Nat.le_of_ble_eq_true rfl) (Nat.le_of_ble_eq_true rfl) (c_X8_in _ _ _) ?_
      refine r_if_ne kX8_restore_13 (fun c1 => ?_) (fun c1 => absurd c1 (by omega))
      refine r_aload_n rfl ?_
      refine r_getR g_279 rfl ?_
      refine r_iload_n rfl ?_
      refine r_bald g_287 rfl (by omega) (by decide) (by omega) (by omega) ?_
      refine r_if_ne kX8_restore_25 (fun c2 => absurd c2 (by omega)) (fun c2 => ?_)
      refine r_ldcI ?_
      refine r_iret rfl ?_
      exact ⟨rfl, rfl⟩
    · rw [if_neg hz]
      refine r_iload_n rfl ?_
      refine r_i2l ?_
      refine r_lconst0 ?_
      refine r_lconst1 ?_
      refine r_cS3I (by decide) (Nat.le_of_ble_eq_true rfl) (Nat.le_of_ble_eq_true rfl) (c_X8_in _ _ _) ?_
      refine r_if_ne kX8_restore_13 (fun c1 => ?_) (fun c1 => absurd c1 (by omega))
      refine r_aload_n rfl ?_
      refine r_getR g_279 rfl ?_
      refine r_iload_n rfl ?_
      refine r_bald g_287 rfl (by omega) (by decide) (by omega) (by omega) ?_
      refine r_if_ne kX8_restore_25 (fun c2 => ?_) (fun c2 => absurd c2 (by omega))
      refine r_aload_n rfl ?_
      refine r_getR g_279 rfl ?_
      refine r_bipush ?_
      refine r_iload_n rfl ?_
      first | refine r_imul (az_wid (by omega) (by omega)) ?_ | refine r_imulw ?_
      refine r_aload_n rfl ?_
      refine r_getR g_279 rfl ?_
      refine r_iconst ?_
      refine r_cS4V (by decide) (Nat.le_of_ble_eq_true rfl) (Nat.le_of_ble_eq_true rfl) (l_X8_copies g_286 g_284 (by decide) (by decide) (by decide) (44 * k) 0 ⟨by omega, by show _ ≤ (88 : Int); omega, by omega⟩ (by decide)) ?_
      refine r_aload_n rfl ?_
      refine r_iconst ?_
      refine r_putI g_279 (by decide) ?_
      refine r_iconst ?_
      refine r_iret rfl ?_
      exact ⟨rfl, rfl⟩
  · rw [if_neg hk]
    refine r_iload_n rfl ?_
    refine r_i2l ?_
    refine r_lconst0 ?_
    refine r_lconst1 ?_
    refine r_cS3I (by decide) (Nat.le_of_ble_eq_true rfl) (Nat.le_of_ble_eq_true rfl) (c_X8_in _ _ _) ?_
    refine r_if_ne kX8_restore_13 (fun c1 => absurd c1 (by omega)) (fun c1 => ?_)
    refine r_ldcI ?_
    refine r_iret rfl ?_
    exact ⟨rfl, rfl⟩
def pRws (s : Int → Int) (k : Int) : Int := az_F (fun r a => if s r < 0 then a else a + 1) 0 k
def pTh (f : Int → Int) (k : Int) : Int := az_F (fun g a => a + (1 - f (32 + g))) 0 k
def pDbt (f : Int → Int) (k : Int) : Int := az_F (fun g a => a + f (28 + g)) 0 k
theorem pTh_S (f : Int → Int) {k : Int} (h : 0 ≤ k) : pTh f (k + 1) = pTh f k + (1 - f (32 + k)) := az_FS _ _ h
theorem pDbt_S (f : Int → Int) {k : Int} (h : 0 ≤ k) : pDbt f (k + 1) = pDbt f k + f (28 + k) := az_FS _ _ h
theorem pRws_S (s : Int → Int) {k : Int} (h : 0 ≤ k) : pRws s (k + 1) = if s k < 0 then pRws s k else pRws s k + 1 := az_FS _ _ h
theorem pRws_b (s : Int → Int) {k : Int} (h : 0 ≤ k) : 0 ≤ pRws s k ∧ pRws s k ≤ k := by
  refine az_Finv (s := fun r a => if s r < 0 then a else a + 1) (fun k a => 0 ≤ a ∧ a ≤ k) h (by omega) (fun g a h0 h1 hp => ?_)
  split <;> omega
theorem pTh_b {f : Int → Int} (hN : nOK f) {k : Int} (h : 0 ≤ k) (hk : k ≤ f 2) : 0 ≤ pTh f k ∧ pTh f k ≤ k := by
  refine az_Finv (s := fun g a => a + (1 - f (32 + g))) (fun k a => 0 ≤ a ∧ a ≤ k) h (by omega) (fun g a h0 h1 hp => ?_)
  have := (nOK_g hN g h0 (by omega)).2.2.2.2.2.1
  omega
theorem pDbt_b {f : Int → Int} (hN : nOK f) {k : Int} (h : 0 ≤ k) (hk : k ≤ f 2) : 0 ≤ pDbt f k ∧ pDbt f k ≤ 9999 * k := by
  refine az_Finv (s := fun g a => a + f (28 + g)) (fun k a => 0 ≤ a ∧ a ≤ 9999 * k) h (by omega) (fun g a h0 h1 hp => ?_)
  have := (nOK_g hN g h0 (by omega)).2.2.2.2.1
  omega
def pCount (m : aM) (w : Int) : Int := if w = 0 then pRws (m 281) 8 else if w = 1 then m 284 2 else if w = 2 then m 284 4 else if w = 3 then m 284 3 else if w = 4 then m 279 9 else if w = 5 then pTh (m 284) (m 284 2) else if w = 6 then pDbt (m 284) (m 284 2) else if w = 7 then m 279 5 else -1000001
theorem c_X8_count {w : Int} (hN : nOK (m 284)) : az_CI sc 215 [.inr (.inr 280), .inl w] m (pCount m w) m := by
  have hn := nOK_2 hN
  have hf : m 284 = m 284 := rfl
  refine r_iconst ?_
  refine r_istore_n (Nat.le_of_ble_eq_true rfl) rfl ?_
  refine r_iconst ?_
  refine r_istore_n (Nat.le_of_ble_eq_true rfl) rfl ?_
  refine r_iconst ?_
  refine r_istore (Nat.le_of_ble_eq_true rfl) rfl ?_
  refine r_iconst ?_
  refine r_istore (Nat.le_of_ble_eq_true rfl) rfl ?_
  skip
  refine az_lop (α := Int) (fun r a => [some (.inr (.inr 280)), some (.inl (w)), some (.inl (a)), some (.inl (0)), some (.inl (0)), some (.inl (r))]) (fun _ => m) (fun r a => a = pRws (m 281) r) 0 8 0 (by decide) rfl (fun r a h0 h1 hp hK => ?_) (fun a hp => ?_)
  · have hS := pRws_S (m 281) h0
    have hb := pRws_b (m 281) h0
    rw [← hp] at hS hb
    refine r_iload rfl ?_
    refine r_bipush ?_
    refine r_icmp_ge kX8_count_41 (fun c1 => absurd c1 (by omega)) (fun c1 => ?_)
    refine r_iload_n rfl ?_
    refine r_aload_n rfl ?_
    refine r_getR g_279 rfl ?_
    refine r_iload rfl ?_
    refine r_iald g_281 rfl (by omega) (by omega) (by omega) ?_
    refine r_if_ge kX8_count_32 (fun c2 => ?_) (fun c2 => ?_)
    · refine r_iconst ?_
      first | refine r_iadd (az_wid (by omega) (by omega)) ?_ | refine r_iaddw ?_
      refine r_istore_n (Nat.le_of_ble_eq_true rfl) rfl ?_
      refine r_iinc rfl (az_wid (by omega) (by omega)) rfl ?_
      refine r_goto kX8_count_10 ?_
      exact hK _ (by rw [hS]; first | (rw [if_pos (by omega)]; omega) | rw [if_neg (by omega)])
    · refine r_iconst ?_
      refine r_goto kX8_count_33 ?_
      first | refine r_iadd (az_wid (by omega) (by omega)) ?_ | refine r_iaddw ?_
      refine r_istore_n (Nat.le_of_ble_eq_true rfl) rfl ?_
      refine r_iinc rfl (az_wid (by omega) (by omega)) rfl ?_
      refine r_goto kX8_count_10 ?_
      exact hK _ (by rw [hS]; first | (rw [if_pos (by omega)]; omega) | rw [if_neg (by omega)])
  · subst hp
    have hn5 := pDbt_b hN hn.1 (Int.le_refl _)
    refine r_iload rfl ?_
    refine r_bipush ?_
    refine r_icmp_ge kX8_count_41 (fun c1 => ?_) (fun c1 => absurd c1 (by decide))
    refine r_iconst ?_
    refine r_istore (Nat.le_of_ble_eq_true rfl) rfl ?_
    skip
    refine az_lop (α := Int × Int) (fun g a => [some (.inr (.inr 280)), some (.inl (w)), some (.inl (pRws (m 281) 8)), some (.inl (a.1)), some (.inl (a.2)), some (.inl (g))]) (fun _ => m) (fun g a => a.1 = pTh (m 284) g ∧ a.2 = pDbt (m 284) g) 0 (m 284 2) (0, 0) hn.1 ⟨rfl, rfl⟩ (fun g a h0 h1 hp hK => ?_) (fun a hp => ?_)
    · obtain ⟨a1, a2⟩ := a
      obtain ⟨hp1, hp2⟩ := hp
      dsimp only at hp1 hp2 ⊢
      have hS1 := pTh_S (m 284) h0
      have hS2 := pDbt_S (m 284) h0
      have hb1 := pTh_b hN h0 (by omega)
      have hb2 := pDbt_b hN h0 (by omega)
      have hG := nOK_g hN g h0 h1
      rw [← hp1] at hS1 hb1
      rw [← hp2] at hS2 hb2
      refine r_iload rfl ?_
      refine r_aload_n rfl ?_
      refine r_getR g_279 rfl ?_
      refine r_iconst ?_
      refine r_ialdx g_284 rfl (by omega) (by omega) (by omega) (congrFun hf _) ?_
      refine r_icmp_ge kX8_count_91 (fun c1 => absurd c1 (by omega)) (fun c1 => ?_)
      refine r_iload_n rfl ?_
      refine r_iconst ?_
      refine r_aload_n rfl ?_
      refine r_getR g_279 rfl ?_
      refine r_bipush ?_
      refine r_iload rfl ?_
      first | refine r_iadd (az_wid (by omega) (by omega)) ?_ | refine r_iaddw ?_
      refine r_ialdx g_284 rfl (by omega) (by omega) (by omega) (congrFun hf _) ?_
      first | refine r_isub (az_wid (by omega) (by omega)) ?_ | refine r_isubw ?_
      first | refine r_iadd (az_wid (by omega) (by omega)) ?_ | refine r_iaddw ?_
      refine r_istore_n (Nat.le_of_ble_eq_true rfl) rfl ?_
      refine r_iload rfl ?_
      refine r_aload_n rfl ?_
      refine r_getR g_279 rfl ?_
      refine r_bipush ?_
      refine r_iload rfl ?_
      first | refine r_iadd (az_wid (by omega) (by omega)) ?_ | refine r_iaddw ?_
      refine r_ialdx g_284 rfl (by omega) (by omega) (by omega) (congrFun hf _) ?_
      first | refine r_iadd (az_wid (by omega) (by omega)) ?_ | refine r_iaddw ?_
      refine r_istore (Nat.le_of_ble_eq_true rfl) rfl ?_
      refine r_iinc rfl (az_wid (by omega) (by omega)) rfl ?_
      refine r_goto kX8_count_44 ?_
      exact hK (_, _) ⟨by dsimp only; omega, by dsimp only; omega⟩
    · obtain ⟨a1, a2⟩ := a
      obtain ⟨hp1, hp2⟩ := hp
      dsimp only at hp1 hp2 ⊢
      subst hp1 hp2
      refine r_iload rfl ?_
      refine r_aload_n rfl ?_
      refine r_getR g_279 rfl ?_
      refine r_iconst ?_
      refine r_ialdx g_284 rfl (by omega) (by omega) (by omega) (congrFun hf _) ?_
      refine r_icmp_ge kX8_count_91 (fun c1 => ?_) (fun c1 => absurd c1 (by omega))
      refine r_iload_n rfl ?_
      rcases (show w = 0 ∨ w = 1 ∨ w = 2 ∨ w = 3 ∨ w = 4 ∨ w = 5 ∨ w = 6 ∨ w = 7 ∨ (w < 0 ∨ 7 < w) by omega) with hs_ | hs_ | hs_ | hs_ | hs_ | hs_ | hs_ | hs_ | hs_
      · subst hs_
        refine r_tswI (by decide) rfl kX8_count_140 ?_
        refine r_iload_n rfl ?_
        refine r_iret rfl ?_
        refine ⟨az_oI ?_, rfl⟩; first | rfl | (unfold pCount; (repeat' split) <;> first | rfl | (exfalso; omega))
      · subst hs_
        refine r_tswI (by decide) rfl kX8_count_142 ?_
        refine r_aload_n rfl ?_
        refine r_getR g_279 rfl ?_
        refine r_iconst ?_
        refine r_ialdx g_284 rfl (by omega) (by omega) (by omega) (congrFun hf _) ?_
        refine r_iret rfl ?_
        refine ⟨az_oI ?_, rfl⟩; first | rfl | (unfold pCount; (repeat' split) <;> first | rfl | (exfalso; omega))
      · subst hs_
        refine r_tswI (by decide) rfl kX8_count_149 ?_
        refine r_aload_n rfl ?_
        refine r_getR g_279 rfl ?_
        refine r_iconst ?_
        refine r_ialdx g_284 rfl (by omega) (by omega) (by omega) (congrFun hf _) ?_
        refine r_iret rfl ?_
        refine ⟨az_oI ?_, rfl⟩; first | rfl | (unfold pCount; (repeat' split) <;> first | rfl | (exfalso; omega))
      · subst hs_
        refine r_tswI (by decide) rfl kX8_count_156 ?_
        refine r_aload_n rfl ?_
        refine r_getR g_279 rfl ?_
        refine r_iconst ?_
        refine r_ialdx g_284 rfl (by omega) (by omega) (by omega) (congrFun hf _) ?_
        refine r_iret rfl ?_
        refine ⟨az_oI ?_, rfl⟩; first | rfl | (unfold pCount; (repeat' split) <;> first | rfl | (exfalso; omega))
      · subst hs_
        refine r_tswI (by decide) rfl kX8_count_163 ?_
        refine r_aload_n rfl ?_
        refine r_getI g_279 ?_
        refine r_iret rfl ?_
        refine ⟨az_oI ?_, rfl⟩; first | rfl | (unfold pCount; (repeat' split) <;> first | rfl | (exfalso; omega))
      · subst hs_
        refine r_tswI (by decide) rfl kX8_count_168 ?_
        refine r_iload_n rfl ?_
        refine r_iret rfl ?_
        refine ⟨az_oI ?_, rfl⟩; first | rfl | (unfold pCount; (repeat' split) <;> first | rfl | (exfalso; omega))
      · subst hs_
        refine r_tswI (by decide) rfl kX8_count_170 ?_
        refine r_iload rfl ?_
        refine r_iret rfl ?_
        refine ⟨az_oI ?_, rfl⟩; first | rfl | (unfold pCount; (repeat' split) <;> first | rfl | (exfalso; omega))
      · subst hs_
        refine r_tswI (by decide) rfl kX8_count_173 ?_
        refine r_aload_n rfl ?_
        refine r_getI g_279 ?_
        refine r_iret rfl ?_
        refine ⟨az_oI ?_, rfl⟩; first | rfl | (unfold pCount; (repeat' split) <;> first | rfl | (exfalso; omega))
      · refine r_tswO hs_ kX8_count_178 ?_
        refine r_ldcI ?_
        refine r_iret rfl ?_
        refine ⟨az_oI ?_, rfl⟩; first | rfl | (unfold pCount; (repeat' split) <;> first | rfl | (exfalso; omega))
end RK
