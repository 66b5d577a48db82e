/-! THE CLASS: rests, pacts -/
section CF
variable {sc : aX} {m : aM} {f t c : Int → Int} {sp : Int} {Q : Option aV → aM → Prop}
noncomputable def pCn (f t c : Int → Int) (sp g : Int) : Int := @ite Int (pCon f t c sp g) (Classical.propDecidable _) 1 0
theorem pCn_1 {g : Int} (h : pCon f t c sp g) : pCn f t c sp g = 1 := by
  unfold pCn
  rw [if_pos h]
theorem pCn_0 {g : Int} (h : ¬ pCon f t c sp g) : pCn f t c sp g = 0 := by
  unfold pCn
  rw [if_neg h]
theorem c_X3_isContent {g : Int} (hD : dD m f t c sp) (h0 : 0 ≤ g) (h1 : g < f 2) : az_C sc az_G 148 [.inr (.inr 235), .inl g] m (fun v m' => v = some (.inl (pCn f t c sp g)) ∧ fd2 m m' ∧ m' 241 = m 241) := by
  have htg := hD.2.2.2.2.2.2.1 g h0 h1
  have hci := pCon_iff (f := f) (c := c) (sp := sp) (t := t) (g := g) htg
  have hbb := pBst_b f t c sp g
  have hn := nOK_2 hD.2.2.2.2.2.1
  refine r_aload_n rfl ?_
  refine r_iload_n rfl ?_
  refine r_cV2 g_234 rfl (Nat.le_of_ble_eq_true rfl) (Nat.le_of_ble_eq_true rfl) (c_X3_bestOf hD h0 h1) (fun v_ m_ hq_ => ?_)
  obtain ⟨rfl, hfr, hto, hw⟩ := hq_; have ht := (congrFun hto g).trans (dD_tt hD g h0 h1)
  refine r_istore_n (Nat.le_of_ble_eq_true rfl) rfl ?_
  refine r_aload_n rfl ?_
  refine r_getR g_234 rfl ?_
  refine r_aload_n rfl ?_
  refine r_getR g_234 rfl ?_
  refine r_getR g_235 rfl ?_
  refine r_iload_n rfl ?_
  refine r_ialdx g_241 rfl (by omega) (by omega) (by omega) (ht) ?_
  refine r_ialdx g_242 rfl (by omega) (by omega) (by omega) (hw _ (by omega) (by omega)) ?_
  refine r_aload_n rfl ?_
  refine r_getR g_234 rfl ?_
  refine r_iload_n rfl ?_
  refine r_ialdx g_242 rfl (by omega) (by omega) (by omega) (hw _ (by omega) (by omega)) ?_
  refine r_icmp_ne kX3_isContent_33 (fun c1 => ?_) (fun c1 => ?_)
  · refine r_iconst ?_
    refine r_zret rfl (by omega) ?_
    first | exact ⟨az_oI (pCn_0 (fun q => by have := hci.mp q; omega)).symm, hfr, hto⟩ | exact ⟨az_oI (pCn_1 (hci.mpr (by omega))).symm, hfr, hto⟩
  · refine r_iconst ?_
    refine r_goto kX3_isContent_34 ?_
    refine r_zret rfl (by omega) ?_
    first | exact ⟨az_oI (pCn_0 (fun q => by have := hci.mp q; omega)).symm, hfr, hto⟩ | exact ⟨az_oI (pCn_1 (hci.mpr (by omega))).symm, hfr, hto⟩
theorem c_X3_isRest (hD : dD m f t c sp) : az_C sc az_G 149 [.inr (.inr 235)] m (fun v m' => v = some (.inl (pRst f t c sp)) ∧ fd2 m m' ∧ m' 241 = m 241) := by
  have hn := nOK_2 hD.2.2.2.2.2.1
  refine r_iconst ?_
  refine r_istore_n (Nat.le_of_ble_eq_true rfl) rfl ?_
  skip
  refine az_lop (α := aM) (fun g _ => [some (.inr (.inr (235))), some (.inl (g))]) (fun a => a) (fun g a => fd2 m a ∧ a 241 = m 241 ∧ ∀ j, 0 ≤ j → j < g → pCon f t c sp j) 0 (f 2) m hn.1 ⟨fd2_r m, rfl, fun j j0 j1 => by omega⟩ (fun g a h0 h1 hp hK => ?_) (fun a hp => ?_)
  · obtain ⟨p1, p2, p3⟩ := hp
    have hDa := dD_2 hD p1 (by rw [p2]; exact dD_tt hD) hD.2.2.2.2.2.2.1
    by_cases hc : pCon f t c sp g
    · have e1 := pCn_1 hc
      refine r_iload_n rfl ?_
      refine r_aload_n rfl ?_
      refine r_getR g_234 rfl ?_
      refine r_getIx g_235 (hDa.1) ?_
      refine r_icmp_ge kX3_isRest_29 (fun c1 => absurd c1 (by omega)) (fun c1 => ?_)
      refine r_aload_n rfl ?_
      refine r_iload_n rfl ?_
      refine r_cV2 g_234 rfl (Nat.le_of_ble_eq_true rfl) (Nat.le_of_ble_eq_true rfl) (c_X3_isContent hDa h0 h1) (fun v_ m_ hq_ => ?_)
      obtain ⟨rfl, hfr, hto⟩ := hq_
      refine r_if_ne kX3_isRest_23 (fun c2 => ?_) (fun c2 => absurd c2 (by omega))
      refine r_iinc rfl (az_wid (by omega) (by omega)) rfl ?_
      refine r_goto kX3_isRest_2 ?_
      exact hK _ ⟨fd2_t p1 hfr, hto.trans p2, fun j j0 j1 => (if e : j = g then by rw [e]; exact hc else p3 j j0 (by omega))⟩
    · have e1 := pCn_0 hc
      refine r_iload_n rfl ?_
      refine r_aload_n rfl ?_
      refine r_getR g_234 rfl ?_
      refine r_getIx g_235 (hDa.1) ?_
      refine r_icmp_ge kX3_isRest_29 (fun c1 => absurd c1 (by omega)) (fun c1 => ?_)
      refine r_aload_n rfl ?_
      refine r_iload_n rfl ?_
      refine r_cV2 g_234 rfl (Nat.le_of_ble_eq_true rfl) (Nat.le_of_ble_eq_true rfl) (c_X3_isContent hDa h0 h1) (fun v_ m_ hq_ => ?_)
      obtain ⟨rfl, hfr, hto⟩ := hq_
      refine r_if_ne kX3_isRest_23 (fun c2 => absurd c2 (by omega)) (fun c2 => ?_)
      refine r_iconst ?_
      refine r_zret rfl (by omega) ?_
      exact ⟨az_oI (pRst_0 (fun q => hc (q g h0 h1))).symm, fd2_t p1 hfr, hto.trans p2⟩
  · obtain ⟨p1, p2, p3⟩ := hp
    have hDa := dD_2 hD p1 (by rw [p2]; exact dD_tt hD) hD.2.2.2.2.2.2.1
    refine r_iload_n rfl ?_
    refine r_aload_n rfl ?_
    refine r_getR g_234 rfl ?_
    refine r_getIx g_235 (hDa.1) ?_
    refine r_icmp_ge kX3_isRest_29 (fun c1 => ?_) (fun c1 => absurd c1 (by omega))
    refine r_iconst ?_
    refine r_zret rfl (by omega) ?_
    exact ⟨az_oI (pRst_1 p3).symm, p1, p2⟩
theorem c_X3_forgetCommon : az_C sc az_G 145 [.inr (.inr 235)] m (fun v m' => v = none ∧ (∀ x, x ≠ 244 → m' x = m x) ∧ ∀ j, 0 ≤ j → j < 4 → m' 244 j = -1000000) := by
  refine r_iconst ?_
  refine r_istore_n (Nat.le_of_ble_eq_true rfl) rfl ?_
  skip
  refine az_lop (α := aM) (fun g _ => [some (.inr (.inr (235))), some (.inl (g))]) (fun a => a) (fun g a => (∀ x, x ≠ 244 → a x = m x) ∧ ∀ j, 0 ≤ j → j < g → a 244 j = -1000000) 0 4 m (by decide) ⟨fun _ _ => rfl, fun j j0 j1 => by omega⟩ (fun g a h0 h1 hp hK => ?_) (fun a hp => ?_)
  · refine r_iload_n rfl ?_
    refine r_iconst ?_
    refine r_icmp_ge kX3_forgetCommon_21 (fun c1 => absurd c1 (by omega)) (fun c1 => ?_)
    refine r_aload_n rfl ?_
    refine r_getR g_234 rfl ?_
    refine r_iload_n rfl ?_
    refine r_ldcI ?_
    refine r_iast g_244 (by decide) (by omega) (by omega) ?_
    refine r_iinc rfl (az_wid (by omega) (by omega)) rfl ?_
    refine r_goto kX3_forgetCommon_2 ?_
    exact hK _ ⟨fun x hx => (az_up_b _ _ _ hx).trans (hp.1 x hx), fun j j0 j1 => az_up_eq (fun _ => rfl) (fun e => hp.2 j j0 (by omega))⟩
  · refine r_iload_n rfl ?_
    refine r_iconst ?_
    refine r_icmp_ge kX3_forgetCommon_21 (fun c1 => ?_) (fun c1 => absurd c1 (by decide))
    refine r_vret rfl ?_
    exact ⟨rfl, hp.1, hp.2⟩
theorem c_X3_countChoices (h6 : m 235 6 = f 2) (hn : 0 ≤ f 2 ∧ f 2 ≤ 4) : az_CI sc 146 [.inr (.inr 235)] m (pSev (f 2)) m := by
  refine r_iconst ?_
  refine r_istore_n (Nat.le_of_ble_eq_true rfl) rfl ?_
  refine r_iconst ?_
  refine r_istore_n (Nat.le_of_ble_eq_true rfl) rfl ?_
  skip
  refine az_lop (α := Int) (fun g a => [some (.inr (.inr (235))), some (.inl (a)), some (.inl (g))]) (fun _ => m) (fun g a => a = pSev g) 0 (f 2) 1 hn.1 rfl (fun g a h0 h1 hp hK => ?_) (fun a hp => ?_)
  · have hS : pSev (g + 1) = pSev g * 7 := az_FS _ _ h0
    have hb := pSev_b3 h0 (by omega)
    refine r_iload_n rfl ?_
    refine r_aload_n rfl ?_
    refine r_getR g_234 rfl ?_
    refine r_getIx g_235 (h6) ?_
    refine r_icmp_ge kX3_countChoices_26 (fun c1 => absurd c1 (by omega)) (fun c1 => ?_)
    refine r_iload_n rfl ?_
    refine r_bipush ?_
    first | refine r_imul (az_wid (by omega) (by omega)) ?_ | refine r_imulw ?_
    refine r_istore_n (Nat.le_of_ble_eq_true rfl) rfl ?_
    refine r_iinc rfl (az_wid (by omega) (by omega)) rfl ?_
    refine r_goto kX3_countChoices_4 ?_
    exact hK _ (by omega)
  · refine r_iload_n rfl ?_
    refine r_aload_n rfl ?_
    refine r_getR g_234 rfl ?_
    refine r_getIx g_235 (h6) ?_
    refine r_icmp_ge kX3_countChoices_26 (fun c1 => ?_) (fun c1 => absurd c1 (by omega))
    refine r_iload_n rfl ?_
    refine r_iret rfl ?_
    exact ⟨az_oI hp, rfl⟩
theorem c_X3_choose {x : Int} (h6 : m 235 6 = f 2) (hn : 0 ≤ f 2 ∧ f 2 ≤ 4) (hx : 0 ≤ x ∧ x ≤ 5000) : az_C sc az_G 147 [.inr (.inr 235), .inl x] m (fun v m' => v = none ∧ (∀ y, y ≠ 241 → m' y = m y) ∧ ∀ g, 0 ≤ g → g < f 2 → m' 241 g = pDg (f 2) x g) := by
  refine r_iload_n rfl ?_
  refine r_istore_n (Nat.le_of_ble_eq_true rfl) rfl ?_
  refine r_aload_n rfl ?_
  refine r_getR g_234 rfl ?_
  refine r_getIx g_235 (h6) ?_
  refine r_iconst ?_
  first | refine r_isub (az_wid (by omega) (by omega)) ?_ | refine r_isubw ?_
  refine r_istore_n (Nat.le_of_ble_eq_true rfl) rfl ?_
  skip
  refine az_dwn (α := aM × Int) (fun g a => [some (.inr (.inr (235))), some (.inl (x)), some (.inl (a.2)), some (.inl (g))]) (fun a => a.1) (fun g a => (∀ y, y ≠ 241 → a.1 y = m y) ∧ a.2 = pLf x (f 2 - 1 - g) ∧ (0 ≤ a.2 ∧ a.2 ≤ 5000) ∧ ∀ j, g < j → j < f 2 → a.1 241 j = pDg (f 2) x j) (f 2 - 1) (m, x) (by omega) ⟨fun _ _ => rfl, by rw [Int.sub_self]; rfl, hx, fun j j0 j1 => by omega⟩ (fun g a h0 h1 hp hK => ?_) (fun a hp => ?_)
  · obtain ⟨m1, l⟩ := a
    obtain ⟨hp1, hp2, hp3, hp4⟩ := hp
    dsimp only at hp1 hp2 hp3 hp4 ⊢
    have hS : pLf x (f 2 - 1 - g + 1) = pLf x (f 2 - 1 - g) / 7 := az_FS _ _ (by omega)
    have hmod : (l % 7) = pDg (f 2) x g := by unfold pDg; rw [← hp2]
    refine r_iload_n rfl ?_
    refine r_if_lt kX3_choose_40 (fun c1 => absurd c1 (by omega)) (fun c1 => ?_)
    refine r_aload_n rfl ?_
    refine r_getR g_234 rfl ?_
    refine r_getR g_235 rfl ?_
    refine r_iload_n rfl ?_
    refine r_iload_n rfl ?_
    refine r_bipush ?_
    first | refine r_irem (by omega) (az_modn (by omega)) ?_ | refine r_irem (by omega) rfl ?_
    refine r_iast g_241 (by decide) (by omega) (by omega) ?_
    refine r_iload_n rfl ?_
    refine r_bipush ?_
    first | refine r_idiv (by omega) (az_divn (by omega) (by omega) (by omega)) ?_ | refine r_idiv (by omega) rfl ?_
    refine r_istore_n (Nat.le_of_ble_eq_true rfl) rfl ?_
    refine r_iinc rfl (az_wid (by omega) (by omega)) rfl ?_
    refine r_goto kX3_choose_12 ?_
    refine hK (az_up m1 241 g (l % 7), l / 7) ⟨fun y hy => (az_up_b _ _ _ hy).trans (hp1 y hy), by rw [show f 2 - 1 - (g - 1) = f 2 - 1 - g + 1 by omega, hS, ← hp2], by dsimp only; omega, fun j j0 j1 => az_up_eq (fun e => by rw [hmod, e]) (fun e => hp4 j (by omega) j1)⟩
  · obtain ⟨m1, l⟩ := a
    obtain ⟨hp1, hp2, hp3, hp4⟩ := hp
    dsimp only at hp1 hp2 hp3 hp4 ⊢
    refine r_iload_n rfl ?_
    refine r_if_lt kX3_choose_40 (fun c1 => ?_) (fun c1 => absurd c1 (by decide))
    refine r_vret rfl ?_
    exact ⟨rfl, hp1, fun g g0 g1 => hp4 g (by omega) g1⟩
def fd3 (m m' : aM) : Prop := ∀ x, x ≠ 241 → x ≠ 242 → x ≠ 244 → m' x = m x
theorem fd3_r (m : aM) : fd3 m m := fun _ _ _ _ => rfl
theorem fd3_t {m m1 m2 : aM} (h1 : fd3 m m1) (h2 : fd3 m1 m2) : fd3 m m2 := fun x a b d => (h2 x a b d).trans (h1 x a b d)
theorem fd3_2 {m m1 : aM} (h : fd2 m m1) : fd3 m m1 := fun x a b _ => h x a b
theorem fd3_c {m m1 : aM} (h : ∀ x, x ≠ 241 → m1 x = m x) : fd3 m m1 := fun x a _ _ => h x a
theorem fd3_k {m m1 : aM} (h : ∀ x, x ≠ 244 → m1 x = m x) : fd3 m m1 := fun x _ _ a => h x a
theorem frC_3 {m m1 : aM} (h : fd3 m m1) : frC m m1 := frC_d (fun x hx => h x (by omega) (by omega) (by omega))
theorem dD_3 {m m' : aM} {t' : Int → Int} (h : dD m f t c sp) (hf : fd3 m m') (ht : ∀ g, 0 ≤ g → g < f 2 → m' 241 g = t' g) (hT : tOK f t') : dD m' f t' c sp := dD_t h (fun x a b => hf x (by omega) (by omega) (by omega)) ht hT
theorem pRsS_1 {k x : Int} (h : pRst f (pDg (f 2) x) c sp = 1) (a : Int × Int) : pRsS f c sp k x a = (a.1 + 1, if a.1 = 0 ∧ 0 ≤ k then pDg (f 2) x k else a.2) := by
  unfold pRsS
  rw [if_pos h]
theorem pRsS_0 {k x : Int} (h : ¬ pRst f (pDg (f 2) x) c sp = 1) (a : Int × Int) : pRsS f c sp k x a = a := by
  unfold pRsS
  rw [if_neg h]
def qRs (m : aM) (f c : Int → Int) (sp : Int) : Option aV → aM → Prop := fun v m' => fd3 m m' ∧ (∀ k, v = some (.inl (pRsts f c sp k).1)) ∧ ∀ k, 0 ≤ k → k < f 2 → m' 244 k = (pRsts f c sp k).2
theorem c_X3_countRests (hD : dD m f t c sp) : az_C sc az_G 150 [.inr (.inr 235)] m (qRs m f c sp) := by
  have hN := hD.2.2.2.2.2.1
  have hn := nOK_2 hN
  have hsb := pSev_b hn.1 hn.2
  refine r_aload_n rfl ?_
  refine r_cV1 g_234 rfl (Nat.le_of_ble_eq_true rfl) (Nat.le_of_ble_eq_true rfl) (c_X3_forgetCommon) (fun v_ m_ hq_ => ?_)
  obtain ⟨rfl, hf1, hc1⟩ := hq_; have e6 : m_ 235 6 = f 2 := (congrFun (hf1 235 (by decide)) _).trans hD.1
  refine r_iconst ?_
  refine r_istore_n (Nat.le_of_ble_eq_true rfl) rfl ?_
  refine r_aload_n rfl ?_
  refine r_cV1I g_234 rfl (Nat.le_of_ble_eq_true rfl) (Nat.le_of_ble_eq_true rfl) (c_X3_countChoices e6 hn) ?_
  refine r_istore_n (Nat.le_of_ble_eq_true rfl) rfl ?_
  refine r_iconst ?_
  refine r_istore_n (Nat.le_of_ble_eq_true rfl) rfl ?_
  skip
  refine az_lop (α := aM × Int) (fun x a => [some (.inr (.inr (235))), some (.inl (a.2)), some (.inl (pSev (f 2))), some (.inl (x))]) (fun a => a.1) (fun x a => fd3 m a.1 ∧ (∀ k, a.2 = (az_F (pRsS f c sp k) (0, -1000000) x).1) ∧ (∀ k, 0 ≤ k → k < f 2 → a.1 244 k = (az_F (pRsS f c sp k) (0, -1000000) x).2) ∧ 0 ≤ a.2 ∧ a.2 ≤ x) 0 (pSev (f 2)) (m_, 0) (by omega) ⟨fd3_k hf1, fun _ => rfl, fun k k0 k1 => hc1 k k0 (by omega), by dsimp only; omega⟩ (fun x a h0 h1 hp hK => ?_) (fun a hp => ?_)
  · obtain ⟨m1, n⟩ := a
    obtain ⟨p1, p2, p3, p4⟩ := hp
    dsimp only at p1 p2 p3 p4 ⊢
    have hS := fun k => az_FS (pRsS f c sp k) (0, -1000000) h0
    have e6 : m1 235 6 = f 2 := (congrFun (p1 235 (by decide) (by decide) (by decide)) _).trans hD.1
    have hrb := pRst_b f (pDg (f 2) x) c sp
    have hA : pRst f (pDg (f 2) x) c sp = 0 → ∀ m2, fd3 m1 m2 → m2 244 = m1 244 → az_E sc az_G 150 zX3_countRests_13 [some (.inr (.inr (235))), some (.inl (n)), some (.inl (pSev (f 2))), some (.inl (x + 1))] [] m2 (qRs m f c sp) := by
      intro hr m2 hf2 h44
      refine hK (m2, n) ⟨fd3_t p1 hf2, fun k => ?_, fun k k0 k1 => ?_, by dsimp only; omega⟩
      · rw [hS k, pRsS_0 (by omega)]
        exact p2 k
      · rw [hS k, pRsS_0 (by omega)]
        dsimp only
        rw [h44]
        exact p3 k k0 k1
    have hBB : pRst f (pDg (f 2) x) c sp = 1 → ∀ m2, fd3 m1 m2 → (∀ k, 0 ≤ k → k < f 2 → m2 244 k = if n = 0 then pDg (f 2) x k else m1 244 k) → az_E sc az_G 150 zX3_countRests_13 [some (.inr (.inr (235))), some (.inl (n + 1)), some (.inl (pSev (f 2))), some (.inl (x + 1))] [] m2 (qRs m f c sp) := by
      intro hr m2 hf2 h44
      refine hK (m2, n + 1) ⟨fd3_t p1 hf2, fun k => ?_, fun k k0 k1 => ?_, by dsimp only; omega⟩
      · rw [hS k, pRsS_1 hr]
        dsimp only
        rw [← p2 k]
      · rw [hS k, pRsS_1 hr]
        dsimp only
        rw [h44 k k0 k1, p3 k k0 k1, ← p2 k]
        by_cases e : n = 0
        · rw [if_pos e, if_pos ⟨e, k0⟩]
        · rw [if_neg e, if_neg (fun q => e q.1)]
    rcases hrb with hr | hr
    · refine r_iload_n rfl ?_
      refine r_iload_n rfl ?_
      refine r_icmp_ge kX3_countRests_66 (fun c1 => absurd c1 (by omega)) (fun c1 => ?_)
      refine r_aload_n rfl ?_
      refine r_iload_n rfl ?_
      refine r_cV2 g_234 rfl (Nat.le_of_ble_eq_true rfl) (Nat.le_of_ble_eq_true rfl) (c_X3_choose e6 hn (by omega)) (fun v_20 m_20 hq_20 => ?_)
      obtain ⟨rfl, hf_20, ht_20⟩ := hq_20; have hD_20 := dD_3 hD (fd3_t p1 (fd3_c hf_20)) ht_20 (tOK_dg f x)
      refine r_aload_n rfl ?_
      refine r_cV1 g_234 rfl (Nat.le_of_ble_eq_true rfl) (Nat.le_of_ble_eq_true rfl) (c_X3_isRest hD_20) (fun v_24 m_24 hq_24 => ?_)
      obtain ⟨rfl, hf_24, ht_24⟩ := hq_24
      refine r_if_eq kX3_countRests_60 (fun c2 => ?_) (fun c2 => absurd c2 (by omega))
      refine r_iinc rfl (az_wid (by omega) (by omega)) rfl ?_
      refine r_goto kX3_countRests_13 ?_
      exact hA hr _ (fd3_t (fd3_c hf_20) (fd3_2 hf_24)) ((hf_24 244 (by decide) (by decide)).trans (hf_20 244 (by decide)))
    · by_cases e0 : n = 0
      · refine r_iload_n rfl ?_
        refine r_iload_n rfl ?_
        refine r_icmp_ge kX3_countRests_66 (fun c1 => absurd c1 (by omega)) (fun c1 => ?_)
        refine r_aload_n rfl ?_
        refine r_iload_n rfl ?_
        refine r_cV2 g_234 rfl (Nat.le_of_ble_eq_true rfl) (Nat.le_of_ble_eq_true rfl) (c_X3_choose e6 hn (by omega)) (fun v_20 m_20 hq_20 => ?_)
        obtain ⟨rfl, hf_20, ht_20⟩ := hq_20; have hD_20 := dD_3 hD (fd3_t p1 (fd3_c hf_20)) ht_20 (tOK_dg f x)
        refine r_aload_n rfl ?_
        refine r_cV1 g_234 rfl (Nat.le_of_ble_eq_true rfl) (Nat.le_of_ble_eq_true rfl) (c_X3_isRest hD_20) (fun v_24 m_24 hq_24 => ?_)
        obtain ⟨rfl, hf_24, ht_24⟩ := hq_24; have e62 : m_24 235 6 = f 2 := (congrFun (hf_24 235 (by decide) (by decide)) _).trans hD_20.1
        refine r_if_eq kX3_countRests_60 (fun c2 => absurd c2 (by omega)) (fun c2 => ?_)
        refine r_iload_n rfl ?_
        refine r_if_ne kX3_countRests_57 (fun c3 => absurd c3 (by omega)) (fun c3 => ?_)
        refine r_aload_n rfl ?_
        refine r_getR g_234 rfl ?_
        refine r_getR g_235 rfl ?_
        refine r_iconst ?_
        refine r_aload_n rfl ?_
        refine r_getR g_234 rfl ?_
        refine r_iconst ?_
        refine r_aload_n rfl ?_
        refine r_getR g_234 rfl ?_
        refine r_getIx g_235 (e62) ?_
        refine r_cpy g_241 g_244 (by decide) (by decide) (by omega) (by omega) (by omega) (by show _ ≤ (4 : Int); omega) (by show _ ≤ (4 : Int); omega) (Nat.le_of_ble_eq_true rfl) ?_
        refine r_iinc rfl (az_wid (by omega) (by omega)) rfl ?_
        refine r_iinc rfl (az_wid (by omega) (by omega)) rfl ?_
        refine r_goto kX3_countRests_13 ?_
        exact hBB hr _ (fd3_t (fd3_t (fd3_c hf_20) (fd3_2 hf_24)) (fd3_k (fun x hx => az_cp_b _ _ _ _ hx))) (fun k k0 k1 => by rw [if_pos e0, az_cp_in _ (by omega) (by omega), show (0 : Int) + (k - 0) = k by omega, ht_24]; exact ht_20 k k0 k1)
      · refine r_iload_n rfl ?_
        refine r_iload_n rfl ?_
        refine r_icmp_ge kX3_countRests_66 (fun c1 => absurd c1 (by omega)) (fun c1 => ?_)
        refine r_aload_n rfl ?_
        refine r_iload_n rfl ?_
        refine r_cV2 g_234 rfl (Nat.le_of_ble_eq_true rfl) (Nat.le_of_ble_eq_true rfl) (c_X3_choose e6 hn (by omega)) (fun v_20 m_20 hq_20 => ?_)
        obtain ⟨rfl, hf_20, ht_20⟩ := hq_20; have hD_20 := dD_3 hD (fd3_t p1 (fd3_c hf_20)) ht_20 (tOK_dg f x)
        refine r_aload_n rfl ?_
        refine r_cV1 g_234 rfl (Nat.le_of_ble_eq_true rfl) (Nat.le_of_ble_eq_true rfl) (c_X3_isRest hD_20) (fun v_24 m_24 hq_24 => ?_)
        obtain ⟨rfl, hf_24, ht_24⟩ := hq_24
        refine r_if_eq kX3_countRests_60 (fun c2 => absurd c2 (by omega)) (fun c2 => ?_)
        refine r_iload_n rfl ?_
        refine r_if_ne kX3_countRests_57 (fun c3 => ?_) (fun c3 => absurd c3 (by omega))
        refine r_iinc rfl (az_wid (by omega) (by omega)) rfl ?_
        refine r_iinc rfl (az_wid (by omega) (by omega)) rfl ?_
        refine r_goto kX3_countRests_13 ?_
        exact hBB hr _ (fd3_t (fd3_c hf_20) (fd3_2 hf_24)) (fun k k0 k1 => by rw [if_neg e0, hf_24 244 (by decide) (by decide), hf_20 244 (by decide)])
  · obtain ⟨m1, n⟩ := a
    obtain ⟨p1, p2, p3, p4⟩ := hp
    dsimp only at p1 p2 p3 p4 ⊢
    refine r_iload_n rfl ?_
    refine r_iload_n rfl ?_
    refine r_icmp_ge kX3_countRests_66 (fun c1 => ?_) (fun c1 => absurd c1 (by omega))
    refine r_iload_n rfl ?_
    refine r_iret rfl ?_
    exact ⟨p1, fun k => az_oI (p2 k), p3⟩
theorem c_X7_rests {k : Int} (hI : iB m) : az_C sc az_G 151 [.inr (.inr 20), .inl k] m (qS m (pRests m k) (m 19 9)) := by
  obtain ⟨hB, hN, hz, hz1, hz2⟩ := hI
  have hn := nOK_2 hN
  have h10 : m 22 10 = m 284 2 := hB.1.2.2.1
  unfold pRests
  by_cases hb : m 279 7 = 0
  · rw [if_pos hb]
    refine r_aload_n rfl ?_
    refine r_getR g_19 rfl ?_
    refine r_getZx g_22 (hz) ?_
    refine r_if_ne kX7_rests_13 (fun c1 => absurd c1 (by omega)) (fun c1 => ?_)
    refine r_ldcI ?_
    refine r_iret rfl ?_
    exact ⟨rfl, frC_r m, rfl⟩
  rw [if_neg hb]
  by_cases hk : k ≠ -1 ∧ ¬ (0 ≤ k ∧ k ≤ m 284 2 - 1)
  · rw [if_pos hk]
    refine r_aload_n rfl ?_
    refine r_getR g_19 rfl ?_
    refine r_getZx g_22 (hz) ?_
    refine r_if_ne kX7_rests_13 (fun c1 => ?_) (fun c1 => absurd c1 (by omega))
    refine r_iload_n rfl ?_
    refine r_iconst ?_
    refine r_icmp_eq kX7_rests_32 (fun c2 => absurd c2 (by omega)) (fun c2 => ?_)
    refine r_aload_n rfl ?_
    refine r_getR g_19 rfl ?_
    refine r_iload_n rfl ?_
    refine r_cV2I g_22 rfl (Nat.le_of_ble_eq_true rfl) (Nat.le_of_ble_eq_true rfl) (c_X1_has h10) ?_
    refine r_if_ne kX7_rests_32 (fun c3 => absurd c3 (by omega)) (fun c3 => ?_)
    refine r_ldcI ?_
    refine r_iret rfl ?_
    exact ⟨rfl, frC_r m, rfl⟩
  rw [if_neg hk]
  have H : az_E sc az_G 151 zX7_rests_32 [some (.inr (.inr 20)), some (.inl (k)), none] [] m (qS m (if k < 0 then (pRsts (m 284) (pPrice (m 284)) (m 284 0) k).1 else (pRsts (m 284) (pPrice (m 284)) (m 284 0) k).2) (m 19 9)) := by
    refine r_aload_n rfl ?_
    refine r_getR g_19 rfl ?_
    refine r_aload_n rfl ?_
    refine r_getR g_19 rfl ?_
    refine r_cV2 g_235 rfl (Nat.le_of_ble_eq_true rfl) (Nat.le_of_ble_eq_true rfl) (c_X2_open hB hN) (fun v_40 m_40 hq_40 => ?_)
    obtain ⟨rfl, hf_40, hD_40⟩ := hq_40
    refine r_aload_n rfl ?_
    refine r_getR g_19 rfl ?_
    refine r_cV1 g_234 rfl (Nat.le_of_ble_eq_true rfl) (Nat.le_of_ble_eq_true rfl) (c_X3_countRests hD_40) (fun v_47 m_47 hq_47 => ?_)
    obtain ⟨hf_47, hv_47, hc_47⟩ := hq_47; have hv := hv_47 k; subst hv
    refine r_istore_n (Nat.le_of_ble_eq_true rfl) rfl ?_
    refine r_iload_n rfl ?_
    refine r_iconst ?_
    refine r_icmp_ne kX7_rests_60 (fun c1 => ?_) (fun c1 => ?_)
    · refine r_aload_n rfl ?_
      refine r_getR g_19 rfl ?_
      refine r_getR g_234 rfl ?_
      refine r_iload_n rfl ?_
      refine r_ialdx g_244 rfl (by omega) (by omega) (by omega) (hc_47 _ (by omega) (by omega)) ?_
      refine r_iret rfl ?_
      exact ⟨az_oI (by first | rw [if_pos (by omega)] | rw [if_neg (by omega)]), frC_t (frC_d (fun x hx => hf_40 x (by omega))) (frC_3 hf_47), (congrFun (hf_47 19 (by decide) (by decide) (by decide)) _).trans (congrFun (hf_40 19 (by decide)) _)⟩
    · refine r_iload_n rfl ?_
      refine r_goto kX7_rests_69 ?_
      refine r_iret rfl ?_
      exact ⟨az_oI (by first | rw [if_pos (by omega)] | rw [if_neg (by omega)]), frC_t (frC_d (fun x hx => hf_40 x (by omega))) (frC_3 hf_47), (congrFun (hf_47 19 (by decide) (by decide) (by decide)) _).trans (congrFun (hf_40 19 (by decide)) _)⟩
  refine r_aload_n rfl ?_
  refine r_getR g_19 rfl ?_
  refine r_getZx g_22 (hz) ?_
  refine r_if_ne kX7_rests_13 (fun c1 => ?_) (fun c1 => absurd c1 (by omega))
  refine r_iload_n rfl ?_
  refine r_iconst ?_
  refine r_icmp_eq kX7_rests_32 (fun c2 => ?_) (fun c2 => ?_)
  · exact H
  · refine r_aload_n rfl ?_
    refine r_getR g_19 rfl ?_
    refine r_iload_n rfl ?_
    refine r_cV2I g_22 rfl (Nat.le_of_ble_eq_true rfl) (Nat.le_of_ble_eq_true rfl) (c_X1_has h10) ?_
    refine r_if_ne kX7_rests_32 (fun c3 => ?_) (fun c3 => absurd c3 (by omega))
    exact H
/-! pacts -/
def qAg (m : aM) (f t c : Int → Int) (sp a b : Int) : Option aV → aM → Prop := fun v m' => v = some (.inl (pAgK f t c sp a b 7)) ∧ (∀ y, y ≠ 241 → m' y = m y) ∧ (pAgK f t c sp a b 7 ≠ -1000000 → dD m' f (tAB t a b (pAgK f t c sp a b 7)) c sp)
theorem c_X3_agree {a b : Int} (hD : dD m f t c sp) (ha : 0 ≤ a ∧ a < f 2) (hb : 0 ≤ b ∧ b < f 2) : az_C sc az_G 156 [.inr (.inr 235), .inl a, .inl b] m (qAg m f t c sp a b) := by
  have hN := hD.2.2.2.2.2.1
  have hn := nOK_2 hN
  have hT := hD.2.2.2.2.2.2.1
  refine r_aload_n rfl ?_
  refine r_getR g_234 rfl ?_
  refine r_iload_n rfl ?_
  refine r_cV2I g_235 rfl (Nat.le_of_ble_eq_true rfl) (Nat.le_of_ble_eq_true rfl) (c_X2_worthOf hD ha.1 ha.2) ?_
  refine r_istore_n (Nat.le_of_ble_eq_true rfl) rfl ?_
  refine r_aload_n rfl ?_
  refine r_getR g_234 rfl ?_
  refine r_iload_n rfl ?_
  refine r_cV2I g_235 rfl (Nat.le_of_ble_eq_true rfl) (Nat.le_of_ble_eq_true rfl) (c_X2_worthOf hD hb.1 hb.2) ?_
  refine r_istore (Nat.le_of_ble_eq_true rfl) rfl ?_
  refine r_iconst ?_
  refine r_istore (Nat.le_of_ble_eq_true rfl) rfl ?_
  skip
  refine az_lop (α := aM) (fun n _ => [some (.inr (.inr (235))), some (.inl (a)), some (.inl (b)), some (.inl (pWor f t c sp a)), some (.inl (pWor f t c sp b)), some (.inl (n))]) (fun x => x) (fun n x => (∀ y, y ≠ 241 → x y = m y) ∧ pAgK f t c sp a b n = -1000000 ∧ ∃ t', dD x f t' c sp ∧ ∀ k, tAB t' a b k = tAB t a b k) 0 7 m (by decide) ⟨fun _ _ => rfl, rfl, t, hD, fun _ => rfl⟩ (fun n x h0 h1 hp hK => ?_) (fun x hp => ?_)
  · obtain ⟨p1, p2, t', p3, p4⟩ := hp
    have hS := pAgK_S f t c sp a b h0
    have hD2 : dD (az_up (az_up x 241 a n) 241 b n) f (tAB t a b n) c sp := by
      rw [← p4 n]
      exact dD_u (dD_u p3 (by omega)) (by omega)
    have f2 : ∀ y, y ≠ 241 → az_up (az_up x 241 a n) 241 b n y = m y := fun y hy => by rw [az_up_b _ _ _ hy, az_up_b _ _ _ hy]; exact p1 y hy
    have hN1 : ¬ (pWor f t c sp a < pWor f (tAB t a b n) c sp a ∧ pWor f t c sp b < pWor f (tAB t a b n) c sp b) → az_E sc az_G 156 zX3_agree_22 [some (.inr (.inr (235))), some (.inl (a)), some (.inl (b)), some (.inl (pWor f t c sp a)), some (.inl (pWor f t c sp b)), some (.inl (n + 1))] [] (az_up (az_up x 241 a n) 241 b n) (qAg m f t c sp a b) := fun h => by
      refine hK _ ⟨f2, ?_, _, hD2, fun k => tAB_t t a b k n⟩
      rw [hS, if_neg (fun q => h q.2)]
      exact p2
    have hN2 : (pWor f t c sp a < pWor f (tAB t a b n) c sp a ∧ pWor f t c sp b < pWor f (tAB t a b n) c sp b) → pAgK f t c sp a b 7 = n := fun h => by
      rw [if_pos ⟨p2, h⟩] at hS
      rw [← hS]
      exact pAgK_k (i := n + 1) (k := 7) (by omega) (by omega) (by omega)
    refine r_iload rfl ?_
    refine r_bipush ?_
    refine r_icmp_ge kX3_agree_85 (fun c1 => absurd c1 (by omega)) (fun c1 => ?_)
    refine r_aload_n rfl ?_
    refine r_getR g_234 rfl ?_
    refine r_getR g_235 rfl ?_
    refine r_iload_n rfl ?_
    refine r_iload rfl ?_
    refine r_iast g_241 (by decide) (by omega) (by omega) ?_
    refine r_aload_n rfl ?_
    refine r_getR g_234 rfl ?_
    refine r_getR g_235 rfl ?_
    refine r_iload_n rfl ?_
    refine r_iload rfl ?_
    refine r_iast g_241 (by decide) (by omega) (by omega) ?_
    refine r_aload_n rfl ?_
    refine r_getR g_234 rfl ?_
    refine r_iload_n rfl ?_
    refine r_cV2I g_235 rfl (Nat.le_of_ble_eq_true rfl) (Nat.le_of_ble_eq_true rfl) (c_X2_worthOf hD2 ha.1 ha.2) ?_
    refine r_iload_n rfl ?_
    refine r_icmp_le kX3_agree_79 (fun c2 => ?_) (fun c2 => ?_)
    · refine r_iinc rfl (az_wid (by omega) (by omega)) rfl ?_
      refine r_goto kX3_agree_22 ?_
      exact hN1 (by omega)
    · refine r_aload_n rfl ?_
      refine r_getR g_234 rfl ?_
      refine r_iload_n rfl ?_
      refine r_cV2I g_235 rfl (Nat.le_of_ble_eq_true rfl) (Nat.le_of_ble_eq_true rfl) (c_X2_worthOf hD2 hb.1 hb.2) ?_
      refine r_iload rfl ?_
      refine r_icmp_le kX3_agree_79 (fun c3 => ?_) (fun c3 => ?_)
      · refine r_iinc rfl (az_wid (by omega) (by omega)) rfl ?_
        refine r_goto kX3_agree_22 ?_
        exact hN1 (by omega)
      · refine r_iload rfl ?_
        refine r_iret rfl ?_
        have e7 := hN2 (by omega); refine ⟨az_oI e7.symm, f2, fun _ => ?_⟩; rw [e7]; exact hD2
  · obtain ⟨p1, p2, t', p3, p4⟩ := hp
    refine r_iload rfl ?_
    refine r_bipush ?_
    refine r_icmp_ge kX3_agree_85 (fun c1 => ?_) (fun c1 => absurd c1 (by decide))
    refine r_ldcI ?_
    refine r_iret rfl ?_
    exact ⟨az_oI p2.symm, p1, fun q => absurd p2 q⟩
theorem c_X7_pact {row a b w : Int} (hI : iD m) : az_C sc az_G 157 [.inr (.inr 20), .inl row, .inl a, .inl b, .inl w] m (qS m (pOr (pTl m row (p01 ((0 ≤ a ∧ a ≤ m 284 2 - 1) ∧ (0 ≤ b ∧ b ≤ m 284 2 - 1) ∧ a ≠ b ∧ (0 ≤ w ∧ w ≤ 1))) 6).1 (pPactV (m 284) (pIt m row) (pPrice (m 284)) (m 284 0) a b w)) (pTl m row (p01 ((0 ≤ a ∧ a ≤ m 284 2 - 1) ∧ (0 ≤ b ∧ b ≤ m 284 2 - 1) ∧ a ≠ b ∧ (0 ≤ w ∧ w ≤ 1))) 6).2) := by
  have h10 : m 22 10 = m 284 2 := hI.1.1.1.2.2.1
  have H : ∀ good, good = p01 ((0 ≤ a ∧ a ≤ m 284 2 - 1) ∧ (0 ≤ b ∧ b ≤ m 284 2 - 1) ∧ a ≠ b ∧ (0 ≤ w ∧ w ≤ 1)) → az_E sc az_G 157 zX7_pact_43 [some (.inr (.inr 20)), some (.inl (row)), some (.inl (a)), some (.inl (b)), some (.inl (w)), none, none] [.inl good, .inl row, .inr (.inr 20)] m (qS m (pOr (pTl m row (p01 ((0 ≤ a ∧ a ≤ m 284 2 - 1) ∧ (0 ≤ b ∧ b ≤ m 284 2 - 1) ∧ a ≠ b ∧ (0 ≤ w ∧ w ≤ 1))) 6).1 (pPactV (m 284) (pIt m row) (pPrice (m 284)) (m 284 0) a b w)) (pTl m row (p01 ((0 ≤ a ∧ a ≤ m 284 2 - 1) ∧ (0 ≤ b ∧ b ≤ m 284 2 - 1) ∧ a ≠ b ∧ (0 ≤ w ∧ w ≤ 1))) 6).2) := by
    intro good hgo
    by_cases hno : (pTl m row (p01 ((0 ≤ a ∧ a ≤ m 284 2 - 1) ∧ (0 ≤ b ∧ b ≤ m 284 2 - 1) ∧ a ≠ b ∧ (0 ≤ w ∧ w ≤ 1))) 6).1 < 0
    · refine r_cV3 g_19 rfl (Nat.le_of_ble_eq_true rfl) (Nat.le_of_ble_eq_true rfl) (c_X7_hear hI) (fun v_ m_ hq_ => ?_)
      rw [hgo] at hq_; obtain ⟨hq1, hq2⟩ := hq_; obtain ⟨rfl, hq3, hq4⟩ := hq1
      refine r_istore (Nat.le_of_ble_eq_true rfl) rfl ?_
      refine r_iload rfl ?_
      refine r_if_eq kX7_pact_56 (fun c1 => absurd c1 (by omega)) (fun c1 => ?_)
      refine r_iload rfl ?_
      refine r_iret rfl ?_
      exact ⟨az_oI (by unfold pOr; rw [if_pos hno]), hq3, hq4⟩
    · have hz := pTl_z hno
      have hg := p01_e (pTl_g hno)
      have ep : ∀ y, pOr (pTl m row (p01 ((0 ≤ a ∧ a ≤ m 284 2 - 1) ∧ (0 ≤ b ∧ b ≤ m 284 2 - 1) ∧ a ≠ b ∧ (0 ≤ w ∧ w ≤ 1))) 6).1 y = y := fun y => by unfold pOr; rw [if_neg hno]
      rw [ep]
      by_cases hn7 : pAgK (m 284) (pIt m row) (pPrice (m 284)) (m 284 0) a b 7 = -1000000 ∨ w = 0
      · have e : pPactV (m 284) (pIt m row) (pPrice (m 284)) (m 284 0) a b w = pAgK (m 284) (pIt m row) (pPrice (m 284)) (m 284 0) a b 7 := by unfold pPactV; rw [if_pos hn7]
        rw [e]
        refine r_cV3 g_19 rfl (Nat.le_of_ble_eq_true rfl) (Nat.le_of_ble_eq_true rfl) (c_X7_hear hI) (fun v_43 m_43 hq_43 => ?_)
        rw [hgo] at hq_43; obtain ⟨hq1, hq2⟩ := hq_43; obtain ⟨rfl, hq3, hq4⟩ := hq1; have hD := hq2 hz
        refine r_istore (Nat.le_of_ble_eq_true rfl) rfl ?_
        refine r_iload rfl ?_
        refine r_if_eq kX7_pact_56 (fun c1 => ?_) (fun c1 => absurd c1 (by omega))
        refine r_aload_n rfl ?_
        refine r_getR g_19 rfl ?_
        refine r_iload_n rfl ?_
        refine r_iload_n rfl ?_
        refine r_cV3 g_234 rfl (Nat.le_of_ble_eq_true rfl) (Nat.le_of_ble_eq_true rfl) (c_X3_agree hD (by omega) (by omega)) (fun v_62 m_62 hq_62 => ?_)
        obtain ⟨rfl, hf_62, hd_62⟩ := hq_62
        refine r_istore (Nat.le_of_ble_eq_true rfl) rfl ?_
        refine r_iload rfl ?_
        refine r_ldcw ?_
        refine r_icmp_eq kX7_pact_80 (fun c2 => ?_) (fun c2 => ?_)
        · refine r_iload rfl ?_
          refine r_iret rfl ?_
          exact ⟨rfl, frC_t hq3 (frC_d (fun x hx => hf_62 x (by omega))), (congrFun (hf_62 19 (by decide)) _).trans hq4⟩
        · refine r_iload rfl ?_
          refine r_if_ne kX7_pact_83 (fun c3 => absurd c3 (by omega)) (fun c3 => ?_)
          refine r_iload rfl ?_
          refine r_iret rfl ?_
          exact ⟨rfl, frC_t hq3 (frC_d (fun x hx => hf_62 x (by omega))), (congrFun (hf_62 19 (by decide)) _).trans hq4⟩
      · have hx : ¬ pAgK (m 284) (pIt m row) (pPrice (m 284)) (m 284 0) a b 7 = -1000000 := fun q => hn7 (Or.inl q)
        obtain ⟨t2, ht2⟩ : ∃ x, x = tAB (pIt m row) a b (pAgK (m 284) (pIt m row) (pPrice (m 284)) (m 284 0) a b 7) := ⟨_, rfl⟩
        unfold pPactV
        rw [if_neg hn7, ← ht2]
        by_cases hca : pCon (m 284) t2 (pPrice (m 284)) (m 284 0) a
        · have e1 := pCn_1 hca
          by_cases hcb : pCon (m 284) t2 (pPrice (m 284)) (m 284 0) b
          · have e2 := pCn_1 hcb
            rw [if_pos ⟨hca, hcb⟩]
            refine r_cV3 g_19 rfl (Nat.le_of_ble_eq_true rfl) (Nat.le_of_ble_eq_true rfl) (c_X7_hear hI) (fun v_43 m_43 hq_43 => ?_)
            rw [hgo] at hq_43; obtain ⟨hq1, hq2⟩ := hq_43; obtain ⟨rfl, hq3, hq4⟩ := hq1; have hD := hq2 hz
            refine r_istore (Nat.le_of_ble_eq_true rfl) rfl ?_
            refine r_iload rfl ?_
            refine r_if_eq kX7_pact_56 (fun c1 => ?_) (fun c1 => absurd c1 (by omega))
            refine r_aload_n rfl ?_
            refine r_getR g_19 rfl ?_
            refine r_iload_n rfl ?_
            refine r_iload_n rfl ?_
            refine r_cV3 g_234 rfl (Nat.le_of_ble_eq_true rfl) (Nat.le_of_ble_eq_true rfl) (c_X3_agree hD (by omega) (by omega)) (fun v_62 m_62 hq_62 => ?_)
            obtain ⟨rfl, hf_62, hd_62⟩ := hq_62; have hD2 := hd_62 hx; rw [← ht2] at hD2
            refine r_istore (Nat.le_of_ble_eq_true rfl) rfl ?_
            refine r_iload rfl ?_
            refine r_ldcw ?_
            refine r_icmp_eq kX7_pact_80 (fun c2 => absurd c2 (by omega)) (fun c2 => ?_)
            refine r_iload rfl ?_
            refine r_if_ne kX7_pact_83 (fun c3 => ?_) (fun c3 => absurd c3 (by omega))
            refine r_aload_n rfl ?_
            refine r_getR g_19 rfl ?_
            refine r_iload_n rfl ?_
            refine r_cV2 g_234 rfl (Nat.le_of_ble_eq_true rfl) (Nat.le_of_ble_eq_true rfl) (c_X3_isContent hD2 hg.1.1 (by omega)) (fun v_88 m_88 hq_88 => ?_)
            obtain ⟨rfl, hf_88, ht_88⟩ := hq_88; have hD3 := dD_2 hD2 hf_88 (by rw [ht_88]; exact dD_tt hD2) hD2.2.2.2.2.2.2.1
            refine r_if_eq kX7_pact_109 (fun c4 => absurd c4 (by omega)) (fun c4 => ?_)
            refine r_aload_n rfl ?_
            refine r_getR g_19 rfl ?_
            refine r_iload_n rfl ?_
            refine r_cV2 g_234 rfl (Nat.le_of_ble_eq_true rfl) (Nat.le_of_ble_eq_true rfl) (c_X3_isContent hD3 hg.2.1.1 (by omega)) (fun v_99 m_99 hq_99 => ?_)
            obtain ⟨rfl, hf_99, ht_99⟩ := hq_99
            refine r_if_eq kX7_pact_109 (fun c5 => absurd c5 (by omega)) (fun c5 => ?_)
            refine r_iconst ?_
            refine r_goto kX7_pact_110 ?_
            refine r_iret rfl ?_
            exact ⟨rfl, frC_t hq3 (frC_t (frC_d (fun x hx => hf_62 x (by omega))) (frC_t (frC_2 hf_88) (frC_2 hf_99))), (congrFun (hf_99 19 (by decide) (by decide)) _).trans ((congrFun (hf_88 19 (by decide) (by decide)) _).trans ((congrFun (hf_62 19 (by decide)) _).trans hq4))⟩
          · have e2 := pCn_0 hcb
            rw [if_neg (fun q => hcb q.2)]
            refine r_cV3 g_19 rfl (Nat.le_of_ble_eq_true rfl) (Nat.le_of_ble_eq_true rfl) (c_X7_hear hI) (fun v_43 m_43 hq_43 => ?_)
            rw [hgo] at hq_43; obtain ⟨hq1, hq2⟩ := hq_43; obtain ⟨rfl, hq3, hq4⟩ := hq1; have hD := hq2 hz
            refine r_istore (Nat.le_of_ble_eq_true rfl) rfl ?_
            refine r_iload rfl ?_
            refine r_if_eq kX7_pact_56 (fun c1 => ?_) (fun c1 => absurd c1 (by omega))
            refine r_aload_n rfl ?_
            refine r_getR g_19 rfl ?_
            refine r_iload_n rfl ?_
            refine r_iload_n rfl ?_
            refine r_cV3 g_234 rfl (Nat.le_of_ble_eq_true rfl) (Nat.le_of_ble_eq_true rfl) (c_X3_agree hD (by omega) (by omega)) (fun v_62 m_62 hq_62 => ?_)
            obtain ⟨rfl, hf_62, hd_62⟩ := hq_62; have hD2 := hd_62 hx; rw [← ht2] at hD2
            refine r_istore (Nat.le_of_ble_eq_true rfl) rfl ?_
            refine r_iload rfl ?_
            refine r_ldcw ?_
            refine r_icmp_eq kX7_pact_80 (fun c2 => absurd c2 (by omega)) (fun c2 => ?_)
            refine r_iload rfl ?_
            refine r_if_ne kX7_pact_83 (fun c3 => ?_) (fun c3 => absurd c3 (by omega))
            refine r_aload_n rfl ?_
            refine r_getR g_19 rfl ?_
            refine r_iload_n rfl ?_
            refine r_cV2 g_234 rfl (Nat.le_of_ble_eq_true rfl) (Nat.le_of_ble_eq_true rfl) (c_X3_isContent hD2 hg.1.1 (by omega)) (fun v_88 m_88 hq_88 => ?_)
            obtain ⟨rfl, hf_88, ht_88⟩ := hq_88; have hD3 := dD_2 hD2 hf_88 (by rw [ht_88]; exact dD_tt hD2) hD2.2.2.2.2.2.2.1
            refine r_if_eq kX7_pact_109 (fun c4 => absurd c4 (by omega)) (fun c4 => ?_)
            refine r_aload_n rfl ?_
            refine r_getR g_19 rfl ?_
            refine r_iload_n rfl ?_
            refine r_cV2 g_234 rfl (Nat.le_of_ble_eq_true rfl) (Nat.le_of_ble_eq_true rfl) (c_X3_isContent hD3 hg.2.1.1 (by omega)) (fun v_99 m_99 hq_99 => ?_)
            obtain ⟨rfl, hf_99, ht_99⟩ := hq_99
            refine r_if_eq kX7_pact_109 (fun c5 => ?_) (fun c5 => absurd c5 (by omega))
            refine r_iconst ?_
            refine r_iret rfl ?_
            exact ⟨rfl, frC_t hq3 (frC_t (frC_d (fun x hx => hf_62 x (by omega))) (frC_t (frC_2 hf_88) (frC_2 hf_99))), (congrFun (hf_99 19 (by decide) (by decide)) _).trans ((congrFun (hf_88 19 (by decide) (by decide)) _).trans ((congrFun (hf_62 19 (by decide)) _).trans hq4))⟩
        · have e1 := pCn_0 hca
          rw [if_neg (fun q => hca q.1)]
          refine r_cV3 g_19 rfl (Nat.le_of_ble_eq_true rfl) (Nat.le_of_ble_eq_true rfl) (c_X7_hear hI) (fun v_43 m_43 hq_43 => ?_)
          rw [hgo] at hq_43; obtain ⟨hq1, hq2⟩ := hq_43; obtain ⟨rfl, hq3, hq4⟩ := hq1; have hD := hq2 hz
          refine r_istore (Nat.le_of_ble_eq_true rfl) rfl ?_
          refine r_iload rfl ?_
          refine r_if_eq kX7_pact_56 (fun c1 => ?_) (fun c1 => absurd c1 (by omega))
          refine r_aload_n rfl ?_
          refine r_getR g_19 rfl ?_
          refine r_iload_n rfl ?_
          refine r_iload_n rfl ?_
          refine r_cV3 g_234 rfl (Nat.le_of_ble_eq_true rfl) (Nat.le_of_ble_eq_true rfl) (c_X3_agree hD (by omega) (by omega)) (fun v_62 m_62 hq_62 => ?_)
          obtain ⟨rfl, hf_62, hd_62⟩ := hq_62; have hD2 := hd_62 hx; rw [← ht2] at hD2
          refine r_istore (Nat.le_of_ble_eq_true rfl) rfl ?_
          refine r_iload rfl ?_
          refine r_ldcw ?_
          refine r_icmp_eq kX7_pact_80 (fun c2 => absurd c2 (by omega)) (fun c2 => ?_)
          refine r_iload rfl ?_
          refine r_if_ne kX7_pact_83 (fun c3 => ?_) (fun c3 => absurd c3 (by omega))
          refine r_aload_n rfl ?_
          refine r_getR g_19 rfl ?_
          refine r_iload_n rfl ?_
          refine r_cV2 g_234 rfl (Nat.le_of_ble_eq_true rfl) (Nat.le_of_ble_eq_true rfl) (c_X3_isContent hD2 hg.1.1 (by omega)) (fun v_88 m_88 hq_88 => ?_)
          obtain ⟨rfl, hf_88, ht_88⟩ := hq_88
          refine r_if_eq kX7_pact_109 (fun c4 => ?_) (fun c4 => absurd c4 (by omega))
          refine r_iconst ?_
          refine r_iret rfl ?_
          exact ⟨rfl, frC_t hq3 (frC_t (frC_d (fun x hx => hf_62 x (by omega))) (frC_2 hf_88)), (congrFun (hf_88 19 (by decide) (by decide)) _).trans ((congrFun (hf_62 19 (by decide)) _).trans hq4)⟩
  refine r_aload_n rfl ?_
  refine r_iload_n rfl ?_
  refine r_aload_n rfl ?_
  refine r_getR g_19 rfl ?_
  refine r_iload_n rfl ?_
  refine r_cV2I g_22 rfl (Nat.le_of_ble_eq_true rfl) (Nat.le_of_ble_eq_true rfl) (c_X1_has h10) ?_
  refine r_if_eq kX7_pact_42 (fun c1 => ?_) (fun c1 => ?_)
  · refine r_iconst ?_
    exact H _ (by unfold p01; first | rw [if_pos (by omega)] | rw [if_neg (by omega)])
  · refine r_aload_n rfl ?_
    refine r_getR g_19 rfl ?_
    refine r_iload_n rfl ?_
    refine r_cV2I g_22 rfl (Nat.le_of_ble_eq_true rfl) (Nat.le_of_ble_eq_true rfl) (c_X1_has h10) ?_
    refine r_if_eq kX7_pact_42 (fun c2 => ?_) (fun c2 => ?_)
    · refine r_iconst ?_
      exact H _ (by unfold p01; first | rw [if_pos (by omega)] | rw [if_neg (by omega)])
    · refine r_iload_n rfl ?_
      refine r_iload_n rfl ?_
      refine r_icmp_eq kX7_pact_42 (fun c3 => ?_) (fun c3 => ?_)
      · refine r_iconst ?_
        exact H _ (by unfold p01; first | rw [if_pos (by omega)] | rw [if_neg (by omega)])
      · refine r_iload rfl ?_
        refine r_iconst ?_
        refine r_cS2I (by decide) (Nat.le_of_ble_eq_true rfl) (Nat.le_of_ble_eq_true rfl) (c_X7_isOneOf _ _) ?_
        refine r_if_eq kX7_pact_42 (fun c4 => ?_) (fun c4 => ?_)
        · refine r_iconst ?_
          exact H _ (by unfold p01; first | rw [if_pos (by omega)] | rw [if_neg (by omega)])
        · refine r_iconst ?_
          refine r_goto kX7_pact_43 ?_
          exact H _ (by unfold p01; first | rw [if_pos (by omega)] | rw [if_neg (by omega)])
end CF
