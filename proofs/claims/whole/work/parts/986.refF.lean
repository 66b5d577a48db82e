/-! THE REFERENCE: rests, explained, laws, owner -/
section RF
variable {sc : aX} {m : aM} {f t c : Int → Int} {sp : Int} {Q : Option aV → aM → Prop}
/-- the day without hours -/
def rB (m : aM) (f c : Int → Int) (sp : Int) : Prop := m 284 = f ∧ (∀ h, 0 ≤ h → h < 6 → m 291 h = c h) ∧ m 279 23 = sp ∧ nOK f ∧ cOK c ∧ (0 ≤ sp ∧ sp ≤ 2)
theorem rB_fr {m m' : aM} (h : rB m f c sp) (hf : fr2 m m') : rB m' f c sp := by
  obtain ⟨h1, h3, h4, h5, h7, h8⟩ := h
  refine ⟨(hf _ (by decide) (by decide)).trans h1, fun j h0 h1 => ?_, ?_, h5, h7, h8⟩
  · rw [hf 291 (by decide) (by decide)]; exact h3 j h0 h1
  · rw [hf 279 (by decide) (by decide)]; exact h4
theorem rD_B (h : rB m f c sp) (ht : ∀ g, 0 ≤ g → g < f 2 → m 290 g = t g) (hT : tOK f t) : rD m f t c sp := ⟨h.1, ht, h.2.1, h.2.2.1, h.2.2.2.1, hT, h.2.2.2.2.1, h.2.2.2.2.2⟩
theorem rB_D (h : rD m f t c sp) : rB m f c sp := ⟨h.1, h.2.2.1, h.2.2.2.1, h.2.2.2.2.1, h.2.2.2.2.2.2.1, h.2.2.2.2.2.2.2⟩
theorem tOK_dg (f : Int → Int) (x : Int) : tOK f (pDg (f 2) x) := fun g _ _ => pDg_b (f 2) x g
theorem lay_fr (m : aM) (f : Int → Int) (z : Int) : frR m (az_up (az_set m 291 (pCosts f (m 291) 6)) 279 23 z) ∧ (az_up (az_set m 291 (pCosts f (m 291) 6)) 279 23 z) 279 3 = m 279 3 := by
  refine ⟨⟨fun b b1 b2 b3 b4 => ?_, fun k k1 k2 => ?_⟩, ?_⟩
  · funext j
    simp [az_up, az_set, b1, b3]
  · simp [az_up, az_set, k1]
  · simp [az_up, az_set]
theorem lay_B {f : Int → Int} (hf : m 284 = f) (hN : nOK f) : rB (az_up (az_set m 291 (pCosts f (m 291) 6)) 279 23 (f 0)) f (pPrice f) (f 0) := by
  refine ⟨?_, fun h h0 h1 => ?_, ?_, hN, fun h h0 h1 => pPrice_b (nOK_p hN) h0 h1, nOK_0 hN⟩
  · funext j
    rw [← hf]
    simp [az_up, az_set]
  · simp [az_up, az_set, pCosts, h0, h1]
  · simp [az_up]
noncomputable def pRsS (f c : Int → Int) (sp k : Int) : Int → Int × Int → Int × Int := fun x a => if pRst f (pDg (f 2) x) c sp = 1 then (a.1 + 1, if a.1 = 0 ∧ 0 ≤ k then pDg (f 2) x k else a.2) else a
noncomputable def pRsts (f c : Int → Int) (sp k : Int) : Int × Int := az_F (pRsS f c sp k) (0, -1000000) (pSev (f 2))
noncomputable def pRests (m : aM) (k : Int) : Int := if m 279 7 = 0 then -1000002 else if k ≠ -1 ∧ ¬ (0 ≤ k ∧ k ≤ m 284 2 - 1) then -1000001 else if k < 0 then (pRsts (m 284) (pPrice (m 284)) (m 284 0) k).1 else (pRsts (m 284) (pPrice (m 284)) (m 284 0) k).2
theorem l_X8_rests {k : Int} (hB : rB m f c sp) (hk : k = -1 ∨ (0 ≤ k ∧ k ≤ f 2 - 1)) (K : ∀ m', fr2 m m' → az_E sc az_G 155 zX8_rests_88 [some (.inr (.inr 280)), some (.inl (k)), some (.inl ((pRsts f c sp k).1)), some (.inl ((pRsts f c sp k).2)), some (.inl (pSev (f 2)))] [] m' Q) : az_E sc az_G 155 zX8_rests_38 [some (.inr (.inr 280)), some (.inl (k)), some (.inl (0)), some (.inl (-1000000)), some (.inl (0))] [] m Q := by
  have hn := nOK_2 hB.2.2.2.1
  have hsb := pSev_b hn.1 hn.2
  refine az_lop (α := aM × Int × Int) (fun x a => [some (.inr (.inr 280)), some (.inl (k)), some (.inl (a.2.1)), some (.inl (a.2.2)), some (.inl (x))]) (fun a => a.1) (fun x a => fr2 m a.1 ∧ a.2 = az_F (pRsS f c sp k) (0, -1000000) x ∧ 0 ≤ a.2.1 ∧ a.2.1 ≤ x) 0 (pSev (f 2)) (m, 0, -1000000) (by omega) ⟨fr2_r m, rfl, by dsimp only; omega⟩ (fun x a h0 h1 hp hK => ?_) (fun a hp => ?_)
  · obtain ⟨m1, n, fi⟩ := a
    obtain ⟨hp1, hp2, hp3⟩ := hp
    dsimp only at hp1 hp2 hp3 ⊢
    have hB1 := rB_fr hB hp1
    have hf := hB1.1
    have hS := az_FS (pRsS f c sp k) (0, -1000000) h0
    rw [← hp2] at hS
    have hrb := pRst_b f (pDg (f 2) x) c sp
    refine r_iload rfl ?_
    refine r_aload_n rfl ?_
    refine r_cV1I g_279 rfl (Nat.le_of_ble_eq_true rfl) (Nat.le_of_ble_eq_true rfl) (c_X8_rows hf hn) ?_
    refine r_icmp_ge kX8_rests_88 (fun c1 => absurd c1 (by omega)) (fun c1 => ?_)
    refine r_aload_n rfl ?_
    refine r_iload rfl ?_
    refine r_cV2 g_279 rfl (Nat.le_of_ble_eq_true rfl) (Nat.le_of_ble_eq_true rfl) (c_X8_tellBy hf hn (by omega)) (fun v_50 m_50 hq_50 => ?_)
    obtain ⟨rfl, hf1_50, ht1_50⟩ := hq_50; have hD := rD_B (rB_fr hB1 hf1_50) ht1_50 (tOK_dg f x)
    refine r_aload_n rfl ?_
    refine r_cV1 g_279 rfl (Nat.le_of_ble_eq_true rfl) (Nat.le_of_ble_eq_true rfl) (c_X8_isRest hD) (fun v_54 m_54 hq_54 => ?_)
    obtain ⟨rfl, hf2_54, ht2_54⟩ := hq_54; have ht : ∀ g, 0 ≤ g → g < f 2 → m_54 290 g = pDg (f 2) x g := fun g g0 g1 => by rw [ht2_54]; exact ht1_50 g g0 g1
    refine r_if_eq kX8_rests_82 (fun c2 => ?_) (fun c2 => ?_)
    · refine r_iinc rfl (az_wid (by omega) (by omega)) rfl ?_
      refine r_goto kX8_rests_38 ?_
      refine hK (m_54, _, _) ⟨fr2_t hp1 (fr2_t hf1_50 hf2_54), ?_, by dsimp only; omega⟩; rw [hS]; unfold pRsS; first | (rw [if_pos (by omega)]; dsimp only; first | (rw [if_pos (by omega)]; try rfl) | rw [if_neg (by omega)]) | rw [if_neg (by omega)]
    · refine r_iload_n rfl ?_
      refine r_if_ne kX8_rests_77 (fun c3 => ?_) (fun c3 => ?_)
      · refine r_iload_n rfl ?_
        refine r_istore_n (Nat.le_of_ble_eq_true rfl) rfl ?_
        refine r_iinc rfl (az_wid (by omega) (by omega)) rfl ?_
        refine r_iinc rfl (az_wid (by omega) (by omega)) rfl ?_
        refine r_goto kX8_rests_38 ?_
        refine hK (m_54, _, _) ⟨fr2_t hp1 (fr2_t hf1_50 hf2_54), ?_, by dsimp only; omega⟩; rw [hS]; unfold pRsS; first | (rw [if_pos (by omega)]; dsimp only; first | (rw [if_pos (by omega)]; try rfl) | rw [if_neg (by omega)]) | rw [if_neg (by omega)]
      · refine r_iload_n rfl ?_
        refine r_if_lt kX8_rests_77 (fun c4 => ?_) (fun c4 => ?_)
        · refine r_iload_n rfl ?_
          refine r_istore_n (Nat.le_of_ble_eq_true rfl) rfl ?_
          refine r_iinc rfl (az_wid (by omega) (by omega)) rfl ?_
          refine r_iinc rfl (az_wid (by omega) (by omega)) rfl ?_
          refine r_goto kX8_rests_38 ?_
          refine hK (m_54, _, _) ⟨fr2_t hp1 (fr2_t hf1_50 hf2_54), ?_, by dsimp only; omega⟩; rw [hS]; unfold pRsS; first | (rw [if_pos (by omega)]; dsimp only; first | (rw [if_pos (by omega)]; try rfl) | rw [if_neg (by omega)]) | rw [if_neg (by omega)]
        · refine r_aload_n rfl ?_
          refine r_getR g_279 rfl ?_
          refine r_iload_n rfl ?_
          refine r_ialdx g_290 rfl (by omega) (by omega) (by omega) (ht _ (by omega) (by omega)) ?_
          refine r_goto kX8_rests_78 ?_
          refine r_istore_n (Nat.le_of_ble_eq_true rfl) rfl ?_
          refine r_iinc rfl (az_wid (by omega) (by omega)) rfl ?_
          refine r_iinc rfl (az_wid (by omega) (by omega)) rfl ?_
          refine r_goto kX8_rests_38 ?_
          refine hK (m_54, _, _) ⟨fr2_t hp1 (fr2_t hf1_50 hf2_54), ?_, by dsimp only; omega⟩; rw [hS]; unfold pRsS; first | (rw [if_pos (by omega)]; dsimp only; first | (rw [if_pos (by omega)]; try rfl) | rw [if_neg (by omega)]) | rw [if_neg (by omega)]
  · obtain ⟨m1, n, fi⟩ := a
    obtain ⟨hp1, hp2, hp3⟩ := hp
    dsimp only at hp1 hp2 hp3 ⊢
    have hB1 := rB_fr hB hp1
    have hf := hB1.1
    have h3 : n = (pRsts f c sp k).1 ∧ fi = (pRsts f c sp k).2 := by
      unfold pRsts
      rw [← hp2]
      exact ⟨rfl, rfl⟩
    obtain ⟨rfl, rfl⟩ := h3
    refine r_iload rfl ?_
    refine r_aload_n rfl ?_
    refine r_cV1I g_279 rfl (Nat.le_of_ble_eq_true rfl) (Nat.le_of_ble_eq_true rfl) (c_X8_rows hf hn) ?_
    refine r_icmp_ge kX8_rests_88 (fun c1 => ?_) (fun c1 => absurd c1 (by omega))
    exact K m1 hp1
theorem c_X8_rests {k : Int} (hN : nOK (m 284)) (hZ : m 279 7 = 0 ∨ m 279 7 = 1) : az_C sc az_G 155 [.inr (.inr 280), .inl k] m (qP m (pRests m k) (m 279 3)) := by
  have hn := nOK_2 hN
  have hf : m 284 = m 284 := rfl
  unfold pRests
  by_cases hb : m 279 7 = 0
  · rw [if_pos hb]
    refine r_aload_n rfl ?_
    refine r_getZ g_279 ?_
    refine r_if_ne kX8_rests_10 (fun c1 => absurd c1 (by omega)) (fun c1 => ?_)
    refine r_ldcI ?_
    refine r_iret rfl ?_
    exact ⟨rfl, frR_r m, rfl⟩
  rw [if_neg hb]
  by_cases hk : k ≠ -1 ∧ ¬ (0 ≤ k ∧ k ≤ m 284 2 - 1)
  · rw [if_pos hk]
    refine r_aload_n rfl ?_
    refine r_getZ g_279 ?_
    refine r_if_ne kX8_rests_10 (fun c1 => ?_) (fun c1 => absurd c1 (by omega))
    refine r_iload_n rfl ?_
    refine r_iconst ?_
    refine r_icmp_eq kX8_rests_26 (fun c2 => absurd c2 (by omega)) (fun c2 => ?_)
    refine r_aload_n rfl ?_
    refine r_iload_n rfl ?_
    refine r_cV2I g_279 rfl (Nat.le_of_ble_eq_true rfl) (Nat.le_of_ble_eq_true rfl) (c_X8_isGuest2 hf hn) ?_
    refine r_if_ne kX8_rests_26 (fun c3 => absurd c3 (by omega)) (fun c3 => ?_)
    refine r_ldcI ?_
    refine r_iret rfl ?_
    exact ⟨rfl, frR_r m, rfl⟩
  rw [if_neg hk]
  have H : az_E sc az_G 155 zX8_rests_26 [some (.inr (.inr 280)), some (.inl (k)), none, none, none] [] m (qP m (if k < 0 then (pRsts (m 284) (pPrice (m 284)) (m 284 0) k).1 else (pRsts (m 284) (pPrice (m 284)) (m 284 0) k).2) (m 279 3)) := by
    have hl := lay_fr m (m 284) (m 284 0)
    refine r_aload_n rfl ?_
    refine r_cV1V g_279 rfl (Nat.le_of_ble_eq_true rfl) (Nat.le_of_ble_eq_true rfl) (c_X8_layNow hf hN) ?_
    refine r_iconst ?_
    refine r_istore_n (Nat.le_of_ble_eq_true rfl) rfl ?_
    refine r_ldcI ?_
    refine r_istore_n (Nat.le_of_ble_eq_true rfl) rfl ?_
    refine r_iconst ?_
    refine r_istore (Nat.le_of_ble_eq_true rfl) rfl ?_
    refine l_X8_rests (lay_B hf hN) (by omega) (fun m2 hf2 => ?_)
    refine r_iload_n rfl ?_
    refine r_if_ge kX8_rests_96 (fun c1 => ?_) (fun c1 => ?_)
    · refine r_iload_n rfl ?_
      refine r_iret rfl ?_
      exact ⟨az_oI (by first | rw [if_pos (by omega)] | rw [if_neg (by omega)]), frR_t hl.1 (frR_2 hf2), (congrFun (hf2 279 (by decide) (by decide)) _).trans hl.2⟩
    · refine r_iload_n rfl ?_
      refine r_goto kX8_rests_97 ?_
      refine r_iret rfl ?_
      exact ⟨az_oI (by first | rw [if_pos (by omega)] | rw [if_neg (by omega)]), frR_t hl.1 (frR_2 hf2), (congrFun (hf2 279 (by decide) (by decide)) _).trans hl.2⟩
  refine r_aload_n rfl ?_
  refine r_getZ g_279 ?_
  refine r_if_ne kX8_rests_10 (fun c1 => ?_) (fun c1 => absurd c1 (by omega))
  refine r_iload_n rfl ?_
  refine r_iconst ?_
  refine r_icmp_eq kX8_rests_26 (fun c2 => ?_) (fun c2 => ?_)
  · exact H
  · refine r_aload_n rfl ?_
    refine r_iload_n rfl ?_
    refine r_cV2I g_279 rfl (Nat.le_of_ble_eq_true rfl) (Nat.le_of_ble_eq_true rfl) (c_X8_isGuest2 hf hn) ?_
    refine r_if_ne kX8_rests_26 (fun c3 => ?_) (fun c3 => absurd c3 (by omega))
    exact H
def pPaid (f c it : Int → Int) (sp x : Int) : Prop := ∀ g, 0 ≤ g → g < f 2 → pPay f (pDg (f 2) x) c sp g = it g
noncomputable def pExS (f c it : Int → Int) (sp k : Int) : Int → Int × Int → Int × Int := fun x a => @ite _ (pPaid f c it sp x) (Classical.propDecidable _) (a.1 + 1, if 0 ≤ k then (if a.1 = 0 ∨ a.2 = pDg (f 2) x k then pDg (f 2) x k else -1000000) else a.2) a
noncomputable def pExp (f c it : Int → Int) (sp k : Int) : Int × Int := az_F (pExS f c it sp k) (0, -1000000) (pSev (f 2))
theorem pExS_1 {f c it : Int → Int} {sp k x : Int} (h : pPaid f c it sp x) (a : Int × Int) : pExS f c it sp k x a = (a.1 + 1, if 0 ≤ k then (if a.1 = 0 ∨ a.2 = pDg (f 2) x k then pDg (f 2) x k else -1000000) else a.2) := by
  unfold pExS
  rw [if_pos h]
theorem pExS_0 {f c it : Int → Int} {sp k x : Int} (h : ¬ pPaid f c it sp x) (a : Int × Int) : pExS f c it sp k x a = a := by
  unfold pExS
  rw [if_neg h]
/-- whether the hours of a number explain what was paid -/
theorem l_X8_paid {row k no n hr x : Int} {o8 : Option aV} (hD : rD m f (pDg (f 2) x) c sp) (hsh : ∀ g, 0 ≤ g → g < f 2 → m 292 g = pShr f (pDg (f 2) x) c sp g) (hr7 : 0 ≤ row ∧ row ≤ 7) (K : ∀ is o8, (is = 1 ∧ pPaid f c (pIt m row) sp x ∨ is = 0 ∧ ¬ pPaid f c (pIt m row) sp x) → az_E sc az_G 167 zX8_explained_117 [some (.inr (.inr 280)), some (.inl (row)), some (.inl (k)), some (.inl (no)), some (.inl (n)), some (.inl (hr)), some (.inl (x)), some (.inl (is)), o8] [] m Q) : az_E sc az_G 167 zX8_explained_67 [some (.inr (.inr 280)), some (.inl (row)), some (.inl (k)), some (.inl (no)), some (.inl (n)), some (.inl (hr)), some (.inl (x)), some (.inl (1)), some (.inl (0))] [] m Q := by
  obtain ⟨hf, ht, hc, hs, hN, hT, hC, hsp⟩ := hD
  have hn := nOK_2 hN
  refine az_lop (α := Int) (fun g a => [some (.inr (.inr 280)), some (.inl (row)), some (.inl (k)), some (.inl (no)), some (.inl (n)), some (.inl (hr)), some (.inl (x)), some (.inl (a)), some (.inl (g))]) (fun _ => m) (fun g a => a = 1 ∧ (∀ j, 0 ≤ j → j < g → pPay f (pDg (f 2) x) c sp j = pIt m row j) ∨ a = 0 ∧ ¬ pPaid f c (pIt m row) sp x) 0 (f 2) 1 hn.1 (Or.inl ⟨rfl, fun j j0 j1 => by omega⟩) (fun g a h0 h1 hp hK => ?_) (fun a hp => ?_)
  · have hb := pShr_b (sp := sp) hn hT hC h0 h1
    have hcp : az_CI sc 118 [.inr (.inr 280), .inl g] m (pPay f (pDg (f 2) x) c sp g) m := c_X8_payOf hf ht hN hT (hsh g h0 h1) hb h0 h1
    rcases hp with ⟨rfl, hp⟩ | ⟨rfl, hp⟩
    · refine r_iload rfl ?_
      refine r_aload_n rfl ?_
      refine r_getR g_279 rfl ?_
      refine r_iconst ?_
      refine r_ialdx g_284 rfl (by omega) (by omega) (by omega) (congrFun hf _) ?_
      refine r_icmp_ge kX8_explained_117 (fun c1 => absurd c1 (by omega)) (fun c1 => ?_)
      refine r_iload rfl ?_
      refine r_if_eq kX8_explained_108 (fun c2 => absurd c2 (by decide)) (fun c2 => ?_)
      refine r_aload_n rfl ?_
      refine r_iload rfl ?_
      refine r_cV2I g_279 rfl (Nat.le_of_ble_eq_true rfl) (Nat.le_of_ble_eq_true rfl) (hcp) ?_
      refine r_aload_n rfl ?_
      refine r_getR g_279 rfl ?_
      refine r_bipush ?_
      refine r_iload_n rfl ?_
      first | refine r_imul (az_wid (by omega) (by omega)) ?_ | refine r_imulw ?_
      refine r_iload rfl ?_
      first | refine r_iadd (az_wid (by omega) (by omega)) ?_ | refine r_iaddw ?_
      refine r_ialdx g_282 rfl (by omega) (by omega) (by omega) ((rfl : _ = pIt m row g)) ?_
      refine r_icmp_ne kX8_explained_108 (fun c3 => ?_) (fun c3 => ?_)
      · refine r_iconst ?_
        refine r_istore (Nat.le_of_ble_eq_true rfl) rfl ?_
        refine r_iinc rfl (az_wid (by omega) (by omega)) rfl ?_
        refine r_goto kX8_explained_67 ?_
        first | exact hK 1 (Or.inl ⟨rfl, fun j j0 j1 => if e : j = g then by rw [e]; assumption else hp j j0 (by omega)⟩) | exact hK 0 (Or.inr ⟨rfl, fun q => absurd (q g h0 h1) (by assumption)⟩)
      · refine r_iconst ?_
        refine r_goto kX8_explained_109 ?_
        refine r_istore (Nat.le_of_ble_eq_true rfl) rfl ?_
        refine r_iinc rfl (az_wid (by omega) (by omega)) rfl ?_
        refine r_goto kX8_explained_67 ?_
        first | exact hK 1 (Or.inl ⟨rfl, fun j j0 j1 => if e : j = g then by rw [e]; assumption else hp j j0 (by omega)⟩) | exact hK 0 (Or.inr ⟨rfl, fun q => absurd (q g h0 h1) (by assumption)⟩)
    · refine r_iload rfl ?_
      refine r_aload_n rfl ?_
      refine r_getR g_279 rfl ?_
      refine r_iconst ?_
      refine r_ialdx g_284 rfl (by omega) (by omega) (by omega) (congrFun hf _) ?_
      refine r_icmp_ge kX8_explained_117 (fun c1 => absurd c1 (by omega)) (fun c1 => ?_)
      refine r_iload rfl ?_
      refine r_if_eq kX8_explained_108 (fun c2 => ?_) (fun c2 => absurd c2 (by decide))
      refine r_iconst ?_
      refine r_istore (Nat.le_of_ble_eq_true rfl) rfl ?_
      refine r_iinc rfl (az_wid (by omega) (by omega)) rfl ?_
      refine r_goto kX8_explained_67 ?_
      exact hK 0 (Or.inr ⟨rfl, hp⟩)
  · refine r_iload rfl ?_
    refine r_aload_n rfl ?_
    refine r_getR g_279 rfl ?_
    refine r_iconst ?_
    refine r_ialdx g_284 rfl (by omega) (by omega) (by omega) (congrFun hf _) ?_
    refine r_icmp_ge kX8_explained_117 (fun c1 => ?_) (fun c1 => absurd c1 (by omega))
    exact K a _ hp
theorem l_X8_explained {row k no : Int} (hB : rB m f c sp) (hk : k = -1 ∨ (0 ≤ k ∧ k ≤ f 2 - 1)) (hr7 : 0 ≤ row ∧ row ≤ 7) (K : ∀ m' o7 o8, fr2 m m' → az_E sc az_G 167 zX8_explained_176 [some (.inr (.inr 280)), some (.inl (row)), some (.inl (k)), some (.inl (no)), some (.inl ((pExp f c (pIt m row) sp k).1)), some (.inl ((pExp f c (pIt m row) sp k).2)), some (.inl (pSev (f 2))), o7, o8] [] m' Q) : az_E sc az_G 167 zX8_explained_42 [some (.inr (.inr 280)), some (.inl (row)), some (.inl (k)), some (.inl (no)), some (.inl (0)), some (.inl (-1000000)), some (.inl (0)), none, none] [] m Q := by
  have hn := nOK_2 hB.2.2.2.1
  have hsb := pSev_b hn.1 hn.2
  refine az_lop (α := aM × (Int × Int) × Option aV × Option aV) (fun x a => [some (.inr (.inr 280)), some (.inl (row)), some (.inl (k)), some (.inl (no)), some (.inl (a.2.1.1)), some (.inl (a.2.1.2)), some (.inl (x)), a.2.2.1, a.2.2.2]) (fun a => a.1) (fun x a => fr2 m a.1 ∧ a.2.1 = az_F (pExS f c (pIt m row) sp k) (0, -1000000) x ∧ 0 ≤ a.2.1.1 ∧ a.2.1.1 ≤ x) 0 (pSev (f 2)) (m, (0, -1000000), none, none) (by omega) ⟨fr2_r m, rfl, by dsimp only; omega⟩ (fun x a h0 h1 hp hK => ?_) (fun a hp => ?_)
  · obtain ⟨m1, ⟨n, hr⟩, o7, o8⟩ := a
    obtain ⟨hp1, hp2, hp3⟩ := hp
    dsimp only at hp1 hp2 hp3 ⊢
    have hB1 := rB_fr hB hp1
    have hf := hB1.1
    have hS := az_FS (pExS f c (pIt m row) sp k) (0, -1000000) h0
    rw [← hp2] at hS
    have hD3 : ∀ m_ s1, fr2 m1 m_ → (∀ g, 0 ≤ g → g < f 2 → m_ 290 g = pDg (f 2) x g) → rD (az_set m_ 292 s1) f (pDg (f 2) x) c sp := fun m_ s1 h1 h2 => rD_B (rB_fr (rB_fr hB1 h1) (fr2_s m_ s1)) h2 (tOK_dg f x)
    have hit : ∀ m_ s1, fr2 m1 m_ → pIt (az_set m_ 292 s1) row = pIt m row := fun m_ s1 h1 => by
      funext g
      show m_ 282 (40 * row + g) = m 282 (40 * row + g)
      rw [h1 282 (by decide) (by decide), hp1 282 (by decide) (by decide)]
    refine r_iload rfl ?_
    refine r_aload_n rfl ?_
    refine r_cV1I g_279 rfl (Nat.le_of_ble_eq_true rfl) (Nat.le_of_ble_eq_true rfl) (c_X8_rows hf hn) ?_
    refine r_icmp_ge kX8_explained_176 (fun c1 => absurd c1 (by omega)) (fun c1 => ?_)
    refine r_aload_n rfl ?_
    refine r_iload rfl ?_
    refine r_cV2 g_279 rfl (Nat.le_of_ble_eq_true rfl) (Nat.le_of_ble_eq_true rfl) (c_X8_tellBy hf hn (by omega)) (fun v_54 m_54 hq_54 => ?_)
    obtain ⟨rfl, hf1_54, ht1_54⟩ := hq_54; have hD := rD_B (rB_fr hB1 hf1_54) ht1_54 (tOK_dg f x)
    refine r_aload_n rfl ?_
    refine r_cV1 g_279 rfl (Nat.le_of_ble_eq_true rfl) (Nat.le_of_ble_eq_true rfl) (c_X8_share hD.1 hD.2.1 hD.2.2.1 hD.2.2.2.1 hn hD.2.2.2.2.2.1 hD.2.2.2.2.2.2.1 hD.2.2.2.2.2.2.2) (fun v_58 m_58 hq_58 => ?_)
    obtain ⟨rfl, s1, rfl, hs1⟩ := hq_58; have ht := (hD3 m_54 s1 hf1_54 ht1_54).2.1
    refine r_iconst ?_
    refine r_istore (Nat.le_of_ble_eq_true rfl) rfl ?_
    refine r_iconst ?_
    refine r_istore (Nat.le_of_ble_eq_true rfl) rfl ?_
    refine l_X8_paid (o8 := none) (hD3 m_54 s1 hf1_54 ht1_54) hs1 hr7 (fun is o8 his => ?_); rw [hit m_54 s1 hf1_54] at his
    refine r_iload rfl ?_
    refine r_if_eq kX8_explained_155 (fun c2 => ?_) (fun c2 => ?_)
    · refine r_iload rfl ?_
      refine r_iload rfl ?_
      refine r_if_eq kX8_explained_166 (fun c3 => ?_) (fun c3 => ?_)
      · refine r_iconst ?_
        first | refine r_iadd (az_wid (by omega) (by omega)) ?_ | refine r_iaddw ?_
        refine r_istore (Nat.le_of_ble_eq_true rfl) rfl ?_
        refine r_iinc rfl (az_wid (by omega) (by omega)) rfl ?_
        refine r_goto kX8_explained_42 ?_
        refine hK (_, (_, _), _, _) ⟨fr2_t hp1 (fr2_t hf1_54 (fr2_s m_54 s1)), ?_, by dsimp only; omega⟩; rw [hS]; first | (rw [pExS_1 (by rcases his with his | his <;> first | exact his.2 | omega)]; dsimp only; (repeat' split) <;> first | rfl | omega) | (rw [pExS_0 (by rcases his with his | his <;> first | exact his.2 | omega)]; simp)
      · refine r_iconst ?_
        refine r_goto kX8_explained_167 ?_
        first | refine r_iadd (az_wid (by omega) (by omega)) ?_ | refine r_iaddw ?_
        refine r_istore (Nat.le_of_ble_eq_true rfl) rfl ?_
        refine r_iinc rfl (az_wid (by omega) (by omega)) rfl ?_
        refine r_goto kX8_explained_42 ?_
        refine hK (_, (_, _), _, _) ⟨fr2_t hp1 (fr2_t hf1_54 (fr2_s m_54 s1)), ?_, by dsimp only; omega⟩; rw [hS]; first | (rw [pExS_1 (by rcases his with his | his <;> first | exact his.2 | omega)]; dsimp only; (repeat' split) <;> first | rfl | omega) | (rw [pExS_0 (by rcases his with his | his <;> first | exact his.2 | omega)]; simp)
    · refine r_iload_n rfl ?_
      refine r_if_lt kX8_explained_155 (fun c4 => ?_) (fun c4 => ?_)
      · refine r_iload rfl ?_
        refine r_iload rfl ?_
        refine r_if_eq kX8_explained_166 (fun c5 => ?_) (fun c5 => ?_)
        · refine r_iconst ?_
          first | refine r_iadd (az_wid (by omega) (by omega)) ?_ | refine r_iaddw ?_
          refine r_istore (Nat.le_of_ble_eq_true rfl) rfl ?_
          refine r_iinc rfl (az_wid (by omega) (by omega)) rfl ?_
          refine r_goto kX8_explained_42 ?_
          refine hK (_, (_, _), _, _) ⟨fr2_t hp1 (fr2_t hf1_54 (fr2_s m_54 s1)), ?_, by dsimp only; omega⟩; rw [hS]; first | (rw [pExS_1 (by rcases his with his | his <;> first | exact his.2 | omega)]; dsimp only; (repeat' split) <;> first | rfl | omega) | (rw [pExS_0 (by rcases his with his | his <;> first | exact his.2 | omega)]; simp)
        · refine r_iconst ?_
          refine r_goto kX8_explained_167 ?_
          first | refine r_iadd (az_wid (by omega) (by omega)) ?_ | refine r_iaddw ?_
          refine r_istore (Nat.le_of_ble_eq_true rfl) rfl ?_
          refine r_iinc rfl (az_wid (by omega) (by omega)) rfl ?_
          refine r_goto kX8_explained_42 ?_
          refine hK (_, (_, _), _, _) ⟨fr2_t hp1 (fr2_t hf1_54 (fr2_s m_54 s1)), ?_, by dsimp only; omega⟩; rw [hS]; first | (rw [pExS_1 (by rcases his with his | his <;> first | exact his.2 | omega)]; dsimp only; (repeat' split) <;> first | rfl | omega) | (rw [pExS_0 (by rcases his with his | his <;> first | exact his.2 | omega)]; simp)
      · refine r_iload rfl ?_
        refine r_if_eq kX8_explained_142 (fun c6 => ?_) (fun c6 => ?_)
        · refine r_aload_n rfl ?_
          refine r_getR g_279 rfl ?_
          refine r_iload_n rfl ?_
          refine r_ialdx g_290 rfl (by omega) (by omega) (by omega) (ht _ (by omega) (by omega)) ?_
          refine r_goto kX8_explained_153 ?_
          refine r_istore (Nat.le_of_ble_eq_true rfl) rfl ?_
          refine r_iload rfl ?_
          refine r_iload rfl ?_
          refine r_if_eq kX8_explained_166 (fun c7 => ?_) (fun c7 => ?_)
          · refine r_iconst ?_
            first | refine r_iadd (az_wid (by omega) (by omega)) ?_ | refine r_iaddw ?_
            refine r_istore (Nat.le_of_ble_eq_true rfl) rfl ?_
            refine r_iinc rfl (az_wid (by omega) (by omega)) rfl ?_
            refine r_goto kX8_explained_42 ?_
            refine hK (_, (_, _), _, _) ⟨fr2_t hp1 (fr2_t hf1_54 (fr2_s m_54 s1)), ?_, by dsimp only; omega⟩; rw [hS]; first | (rw [pExS_1 (by rcases his with his | his <;> first | exact his.2 | omega)]; dsimp only; (repeat' split) <;> first | rfl | omega) | (rw [pExS_0 (by rcases his with his | his <;> first | exact his.2 | omega)]; simp)
          · refine r_iconst ?_
            refine r_goto kX8_explained_167 ?_
            first | refine r_iadd (az_wid (by omega) (by omega)) ?_ | refine r_iaddw ?_
            refine r_istore (Nat.le_of_ble_eq_true rfl) rfl ?_
            refine r_iinc rfl (az_wid (by omega) (by omega)) rfl ?_
            refine r_goto kX8_explained_42 ?_
            refine hK (_, (_, _), _, _) ⟨fr2_t hp1 (fr2_t hf1_54 (fr2_s m_54 s1)), ?_, by dsimp only; omega⟩; rw [hS]; first | (rw [pExS_1 (by rcases his with his | his <;> first | exact his.2 | omega)]; dsimp only; (repeat' split) <;> first | rfl | omega) | (rw [pExS_0 (by rcases his with his | his <;> first | exact his.2 | omega)]; simp)
        · refine r_iload rfl ?_
          refine r_aload_n rfl ?_
          refine r_getR g_279 rfl ?_
          refine r_iload_n rfl ?_
          refine r_ialdx g_290 rfl (by omega) (by omega) (by omega) (ht _ (by omega) (by omega)) ?_
          refine r_icmp_ne kX8_explained_151 (fun c8 => ?_) (fun c8 => ?_)
          · refine r_ldcI ?_
            refine r_istore (Nat.le_of_ble_eq_true rfl) rfl ?_
            refine r_iload rfl ?_
            refine r_iload rfl ?_
            refine r_if_eq kX8_explained_166 (fun c9 => ?_) (fun c9 => ?_)
            · refine r_iconst ?_
              first | refine r_iadd (az_wid (by omega) (by omega)) ?_ | refine r_iaddw ?_
              refine r_istore (Nat.le_of_ble_eq_true rfl) rfl ?_
              refine r_iinc rfl (az_wid (by omega) (by omega)) rfl ?_
              refine r_goto kX8_explained_42 ?_
              refine hK (_, (_, _), _, _) ⟨fr2_t hp1 (fr2_t hf1_54 (fr2_s m_54 s1)), ?_, by dsimp only; omega⟩; rw [hS]; first | (rw [pExS_1 (by rcases his with his | his <;> first | exact his.2 | omega)]; dsimp only; (repeat' split) <;> first | rfl | omega) | (rw [pExS_0 (by rcases his with his | his <;> first | exact his.2 | omega)]; simp)
            · refine r_iconst ?_
              refine r_goto kX8_explained_167 ?_
              first | refine r_iadd (az_wid (by omega) (by omega)) ?_ | refine r_iaddw ?_
              refine r_istore (Nat.le_of_ble_eq_true rfl) rfl ?_
              refine r_iinc rfl (az_wid (by omega) (by omega)) rfl ?_
              refine r_goto kX8_explained_42 ?_
              refine hK (_, (_, _), _, _) ⟨fr2_t hp1 (fr2_t hf1_54 (fr2_s m_54 s1)), ?_, by dsimp only; omega⟩; rw [hS]; first | (rw [pExS_1 (by rcases his with his | his <;> first | exact his.2 | omega)]; dsimp only; (repeat' split) <;> first | rfl | omega) | (rw [pExS_0 (by rcases his with his | his <;> first | exact his.2 | omega)]; simp)
          · refine r_aload_n rfl ?_
            refine r_getR g_279 rfl ?_
            refine r_iload_n rfl ?_
            refine r_ialdx g_290 rfl (by omega) (by omega) (by omega) (ht _ (by omega) (by omega)) ?_
            refine r_goto kX8_explained_153 ?_
            refine r_istore (Nat.le_of_ble_eq_true rfl) rfl ?_
            refine r_iload rfl ?_
            refine r_iload rfl ?_
            refine r_if_eq kX8_explained_166 (fun c10 => ?_) (fun c10 => ?_)
            · refine r_iconst ?_
              first | refine r_iadd (az_wid (by omega) (by omega)) ?_ | refine r_iaddw ?_
              refine r_istore (Nat.le_of_ble_eq_true rfl) rfl ?_
              refine r_iinc rfl (az_wid (by omega) (by omega)) rfl ?_
              refine r_goto kX8_explained_42 ?_
              refine hK (_, (_, _), _, _) ⟨fr2_t hp1 (fr2_t hf1_54 (fr2_s m_54 s1)), ?_, by dsimp only; omega⟩; rw [hS]; first | (rw [pExS_1 (by rcases his with his | his <;> first | exact his.2 | omega)]; dsimp only; (repeat' split) <;> first | rfl | omega) | (rw [pExS_0 (by rcases his with his | his <;> first | exact his.2 | omega)]; simp)
            · refine r_iconst ?_
              refine r_goto kX8_explained_167 ?_
              first | refine r_iadd (az_wid (by omega) (by omega)) ?_ | refine r_iaddw ?_
              refine r_istore (Nat.le_of_ble_eq_true rfl) rfl ?_
              refine r_iinc rfl (az_wid (by omega) (by omega)) rfl ?_
              refine r_goto kX8_explained_42 ?_
              refine hK (_, (_, _), _, _) ⟨fr2_t hp1 (fr2_t hf1_54 (fr2_s m_54 s1)), ?_, by dsimp only; omega⟩; rw [hS]; first | (rw [pExS_1 (by rcases his with his | his <;> first | exact his.2 | omega)]; dsimp only; (repeat' split) <;> first | rfl | omega) | (rw [pExS_0 (by rcases his with his | his <;> first | exact his.2 | omega)]; simp)
  · obtain ⟨m1, ⟨n, hr⟩, o7, o8⟩ := a
    obtain ⟨hp1, hp2, hp3⟩ := hp
    dsimp only at hp1 hp2 hp3 ⊢
    have hB1 := rB_fr hB hp1
    have hf := hB1.1
    have h3 : n = (pExp f c (pIt m row) sp k).1 ∧ hr = (pExp f c (pIt m row) sp k).2 := by
      unfold pExp
      rw [← hp2]
      exact ⟨rfl, rfl⟩
    obtain ⟨rfl, rfl⟩ := h3
    refine r_iload rfl ?_
    refine r_aload_n rfl ?_
    refine r_cV1I g_279 rfl (Nat.le_of_ble_eq_true rfl) (Nat.le_of_ble_eq_true rfl) (c_X8_rows hf hn) ?_
    refine r_icmp_ge kX8_explained_176 (fun c1 => ?_) (fun c1 => absurd c1 (by omega))
    exact K m1 _ _ hp1
theorem pTl_r {m : aM} {row good most : Int} (h : ¬ (pTl m row good most).1 < 0) : (0 ≤ row ∧ row ≤ 7) ∧ m 279 7 ≠ 0 := by
  refine ⟨?_, fun e => ?_⟩
  · by_cases e : 0 ≤ row ∧ row ≤ 7
    · exact e
    · exfalso
      apply h
      unfold pTl
      (repeat' split) <;> first | (dsimp only; omega) | (exfalso; omega)
  · apply h
    unfold pTl
    rw [if_pos e]
    dsimp only
    omega
theorem c_X8_explained {row k : Int} (hN : nOK (m 284)) (hR : pRowsOK m) (hZ : m 279 7 = 0 ∨ m 279 7 = 1) : az_C sc az_G 167 [.inr (.inr 280), .inl row, .inl k] m (qP m (pOr (pTl m row (p01 (k = -1 ∨ (0 ≤ k ∧ k ≤ m 284 2 - 1))) 2147483647).1 (if k < 0 then (pExp (m 284) (pPrice (m 284)) (pIt m row) (m 284 0) k).1 else (pExp (m 284) (pPrice (m 284)) (pIt m row) (m 284 0) k).2)) (pTl m row (p01 (k = -1 ∨ (0 ≤ k ∧ k ≤ m 284 2 - 1))) 2147483647).2) := by
  have hn := nOK_2 hN
  have hf : m 284 = m 284 := rfl
  have H : ∀ good, good = p01 (k = -1 ∨ (0 ≤ k ∧ k ≤ m 284 2 - 1)) → az_E sc az_G 167 zX8_explained_20 [some (.inr (.inr 280)), some (.inl (row)), some (.inl (k)), none, none, none, none, none, none] [.inl good, .inl row, .inr (.inr 280)] m (qP m (pOr (pTl m row (p01 (k = -1 ∨ (0 ≤ k ∧ k ≤ m 284 2 - 1))) 2147483647).1 (if k < 0 then (pExp (m 284) (pPrice (m 284)) (pIt m row) (m 284 0) k).1 else (pExp (m 284) (pPrice (m 284)) (pIt m row) (m 284 0) k).2)) (pTl m row (p01 (k = -1 ∨ (0 ≤ k ∧ k ≤ m 284 2 - 1))) 2147483647).2) := by
    intro good hgo
    by_cases hno : (pTl m row (p01 (k = -1 ∨ (0 ≤ k ∧ k ≤ m 284 2 - 1))) 2147483647).1 < 0
    · refine r_ldcI ?_
      refine r_cV4 g_279 rfl (Nat.le_of_ble_eq_true rfl) (Nat.le_of_ble_eq_true rfl) (c_X8_tells hN hR hZ (by decide)) (fun v_ m_ hq_ => ?_)
      rw [hgo] at hq_; obtain ⟨hq1, hq2⟩ := hq_; obtain ⟨rfl, hq3, hq4⟩ := hq1
      refine r_istore_n (Nat.le_of_ble_eq_true rfl) rfl ?_
      refine r_iload_n rfl ?_
      refine r_if_ge kX8_explained_32 (fun c1 => absurd c1 (by omega)) (fun c1 => ?_)
      refine r_iload_n rfl ?_
      refine r_iret rfl ?_
      exact ⟨az_oI (by unfold pOr; rw [if_pos hno]), hq3, hq4⟩
    · have hz := pTl_z hno
      have hg := p01_e (pTl_g hno)
      have hrw := (pTl_r hno).1
      refine r_ldcI ?_
      refine r_cV4 g_279 rfl (Nat.le_of_ble_eq_true rfl) (Nat.le_of_ble_eq_true rfl) (c_X8_tells hN hR hZ (by decide)) (fun v_ m_ hq_ => ?_)
      rw [hgo] at hq_; obtain ⟨hq1, hq2⟩ := hq_; obtain ⟨rfl, hq3, hq4⟩ := hq1; have hq5 := hq2 hz; have hB : rB m_ (m 284) (pPrice (m 284)) (m 284 0) := ⟨hq3.1 _ (by decide) (by decide) (by decide) (by decide), hq5.2.1, hq5.2.2, hN, fun h h0 h1 => pPrice_b (nOK_p hN) h0 h1, nOK_0 hN⟩; have hit : pIt m_ row = pIt m row := by { funext g; exact congrFun (hq3.1 282 (by decide) (by decide) (by decide) (by decide)) _ }
      refine r_istore_n (Nat.le_of_ble_eq_true rfl) rfl ?_
      refine r_iload_n rfl ?_
      refine r_if_ge kX8_explained_32 (fun c1 => ?_) (fun c1 => absurd c1 (by omega))
      refine r_iconst ?_
      refine r_istore (Nat.le_of_ble_eq_true rfl) rfl ?_
      refine r_ldcI ?_
      refine r_istore (Nat.le_of_ble_eq_true rfl) rfl ?_
      refine r_iconst ?_
      refine r_istore (Nat.le_of_ble_eq_true rfl) rfl ?_
      refine l_X8_explained hB (by omega) hrw (fun m2 o7 o8 hf2 => ?_); rw [hit]
      refine r_iload_n rfl ?_
      refine r_if_ge kX8_explained_185 (fun c2 => ?_) (fun c2 => ?_)
      · refine r_iload rfl ?_
        refine r_iret rfl ?_
        exact ⟨az_oI (by unfold pOr; rw [if_neg hno]; first | rw [if_pos (by omega)] | rw [if_neg (by omega)]), frR_t hq3 (frR_2 hf2), (congrFun (hf2 279 (by decide) (by decide)) _).trans hq4⟩
      · refine r_iload rfl ?_
        refine r_goto kX8_explained_187 ?_
        refine r_iret rfl ?_
        exact ⟨az_oI (by unfold pOr; rw [if_neg hno]; first | rw [if_pos (by omega)] | rw [if_neg (by omega)]), frR_t hq3 (frR_2 hf2), (congrFun (hf2 279 (by decide) (by decide)) _).trans hq4⟩
  refine r_aload_n rfl ?_
  refine r_iload_n rfl ?_
  refine r_iload_n rfl ?_
  refine r_iconst ?_
  refine r_icmp_eq kX8_explained_15 (fun c1 => ?_) (fun c1 => ?_)
  · refine r_iconst ?_
    refine r_goto kX8_explained_20 ?_
    exact H _ (by unfold p01; first | rw [if_pos (by omega)] | rw [if_neg (by omega)])
  · refine r_aload_n rfl ?_
    refine r_iload_n rfl ?_
    refine r_cV2I g_279 rfl (Nat.le_of_ble_eq_true rfl) (Nat.le_of_ble_eq_true rfl) (c_X8_isGuest2 hf hn) ?_
    refine r_if_eq kX8_explained_19 (fun c2 => ?_) (fun c2 => ?_)
    · refine r_iconst ?_
      exact H _ (by unfold p01; first | rw [if_pos (by omega)] | rw [if_neg (by omega)])
    · refine r_iconst ?_
      refine r_goto kX8_explained_20 ?_
      exact H _ (by unfold p01; first | rw [if_pos (by omega)] | rw [if_neg (by omega)])
end RF
