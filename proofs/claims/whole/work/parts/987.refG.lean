/-! THE REFERENCE: laws, owner, pact -/
section RG
variable {sc : aX} {m : aM} {f t c : Int → Int} {sp : Int} {Q : Option aV → aM → Prop}
def pLow (f t c : Int → Int) (sp k : Int) : Int := az_F (fun g a => if g = 0 ∨ pWor f t c sp g < a then pWor f t c sp g else a) 0 k
def pHig (f t c : Int → Int) (sp k : Int) : Int := az_F (fun g a => if g = 0 ∨ a < pWor f t c sp g then pWor f t c sp g else a) 0 k
def pGap (f t c : Int → Int) (sp : Int) : Int := pHig f t c sp (f 2) - pLow f t c sp (f 2)
def pFair (f t c : Int → Int) (k : Int) : Int × Int := az_F (fun l a => if l = 0 ∨ pGap f t c l < a.2 then (l, pGap f t c l) else a) (0, 0) k
noncomputable def pHold (f t c : Int → Int) (k : Int) : Int := az_F (fun l a => az_or a (if pRst f t c l = 0 then 0 else az_shl 1 l)) 0 k
theorem pLow_S (f t c : Int → Int) (sp : Int) {k : Int} (h : 0 ≤ k) : pLow f t c sp (k + 1) = if k = 0 ∨ pWor f t c sp k < pLow f t c sp k then pWor f t c sp k else pLow f t c sp k := az_FS _ _ h
theorem pHig_S (f t c : Int → Int) (sp : Int) {k : Int} (h : 0 ≤ k) : pHig f t c sp (k + 1) = if k = 0 ∨ pHig f t c sp k < pWor f t c sp k then pWor f t c sp k else pHig f t c sp k := az_FS _ _ h
theorem pGap_b {f t c : Int → Int} {sp : Int} (hN : nOK f) (hT : tOK f t) (hC : cOK c) {k : Int} (h : 0 ≤ k) (hk : k ≤ f 2) : (-4000 ≤ pLow f t c sp k ∧ pLow f t c sp k ≤ 4000) ∧ (-4000 ≤ pHig f t c sp k ∧ pHig f t c sp k ≤ 4000) := by
  constructor
  · refine az_Finv (s := fun g a => if g = 0 ∨ pWor f t c sp g < a then pWor f t c sp g else a) (fun _ a => -4000 ≤ a ∧ a ≤ 4000) h (by omega) (fun g a h0 h1 hp => ?_)
    have := pWor_b (sp := sp) hN hT hC h0 (show g < f 2 by omega)
    split <;> omega
  · refine az_Finv (s := fun g a => if g = 0 ∨ a < pWor f t c sp g then pWor f t c sp g else a) (fun _ a => -4000 ≤ a ∧ a ≤ 4000) h (by omega) (fun g a h0 h1 hp => ?_)
    have := pWor_b (sp := sp) hN hT hC h0 (show g < f 2 by omega)
    split <;> omega
theorem rD_sp (h : rD m f t c sp) {l : Int} (hl : 0 ≤ l ∧ l ≤ 2) : rD (az_up m 279 23 l) f t c l := by
  obtain ⟨h1, h2, h3, h4, h5, h6, h7, h8⟩ := h
  refine ⟨?_, fun g g0 g1 => ?_, fun g g0 g1 => ?_, az_up_at _ _ _ _, h5, h6, h7, hl⟩
  · rw [← h1]
    funext j
    simp [az_up]
  · rw [← h2 g g0 g1]
    simp [az_up]
  · rw [← h3 g g0 g1]
    simp [az_up]
theorem frR_sp (m : aM) (l : Int) : frR m (az_up m 279 23 l) ∧ (az_up m 279 23 l) 279 3 = m 279 3 := by
  refine ⟨⟨fun b h _ _ _ => ?_, fun k h _ => ?_⟩, by simp [az_up]⟩
  · funext j
    simp [az_up, h]
  · simp [az_up, h]
/-- the lowest and the highest worth -/
theorem l_X8_laws1 {row what no fa le se l : Int} {o11 : Option aV} (hD : rD m f t c l) (K : ∀ m' o11, fr2 m m' → m' 290 = m 290 → az_E sc az_G 172 zX8_laws_121 [some (.inr (.inr 280)), some (.inl (row)), some (.inl (what)), some (.inl (no)), some (.inl (fa)), some (.inl (le)), some (.inl (se)), some (.inl (l)), some (.inl (pLow f t c l (f 2))), some (.inl (pHig f t c l (f 2))), some (.inl (f 2)), o11] [] m' Q) : az_E sc az_G 172 zX8_laws_54 [some (.inr (.inr 280)), some (.inl (row)), some (.inl (what)), some (.inl (no)), some (.inl (fa)), some (.inl (le)), some (.inl (se)), some (.inl (l)), some (.inl (0)), some (.inl (0)), some (.inl (0)), o11] [] m Q := by
  have hN := hD.2.2.2.2.1
  have hn := nOK_2 hN
  refine az_lop (α := aM × Int × Int × Option aV) (fun g a => [some (.inr (.inr 280)), some (.inl (row)), some (.inl (what)), some (.inl (no)), some (.inl (fa)), some (.inl (le)), some (.inl (se)), some (.inl (l)), some (.inl (a.2.1)), some (.inl (a.2.2.1)), some (.inl (g)), a.2.2.2]) (fun a => a.1) (fun g a => fr2 m a.1 ∧ a.1 290 = m 290 ∧ a.2.1 = pLow f t c l g ∧ a.2.2.1 = pHig f t c l g) 0 (f 2) (m, 0, 0, o11) hn.1 ⟨fr2_r m, rfl, rfl, rfl⟩ (fun g a h0 h1 hp hK => ?_) (fun a hp => ?_)
  · obtain ⟨m1, lo, hi, o⟩ := a
    obtain ⟨hp1, hp2, hp3, hp4⟩ := hp
    dsimp only at hp1 hp2 hp3 hp4 ⊢
    have hD1 := rD_fr hD hp1 (by rw [hp2]; exact hD.2.1) hD.2.2.2.2.2.1
    have hf := hD1.1
    have hS1 := pLow_S f t c l h0
    have hS2 := pHig_S f t c l h0
    rw [← hp3] at hS1
    rw [← hp4] at hS2
    refine r_iload rfl ?_
    refine r_aload_n rfl ?_
    refine r_getR g_279 rfl ?_
    refine r_iconst ?_
    refine r_ialdx g_284 rfl (by omega) (by omega) (by omega) (congrFun hf _) ?_
    refine r_icmp_ge kX8_laws_121 (fun c1 => absurd c1 (by omega)) (fun c1 => ?_)
    refine r_aload_n rfl ?_
    refine r_iload rfl ?_
    refine r_cV2 g_279 rfl (Nat.le_of_ble_eq_true rfl) (Nat.le_of_ble_eq_true rfl) (c_X8_worthOf2 hD1 h0 h1) (fun v_ m_ hq_ => ?_)
    obtain ⟨rfl, hfr, hD2, hto⟩ := hq_
    refine r_istore (Nat.le_of_ble_eq_true rfl) rfl ?_
    refine r_iload rfl ?_
    refine r_if_eq kX8_laws_85 (fun c2 => ?_) (fun c2 => ?_)
    · refine r_iload rfl ?_
      refine r_goto kX8_laws_92 ?_
      refine r_istore (Nat.le_of_ble_eq_true rfl) rfl ?_
      refine r_iload rfl ?_
      refine r_if_eq kX8_laws_106 (fun c3 => ?_) (fun c3 => ?_)
      · refine r_iload rfl ?_
        refine r_goto kX8_laws_113 ?_
        refine r_istore (Nat.le_of_ble_eq_true rfl) rfl ?_
        refine r_iinc rfl (az_wid (by omega) (by omega)) rfl ?_
        refine r_goto kX8_laws_54 ?_
        exact hK (m_, _, _, _) ⟨fr2_t hp1 hfr, hto.trans hp2, by (dsimp only; rw [hS1]; first | (exfalso; omega) | (rw [if_pos (by omega)]; try rfl) | (rw [if_neg (by omega)]; try rfl)), by (dsimp only; rw [hS2]; first | (exfalso; omega) | (rw [if_pos (by omega)]; try rfl) | (rw [if_neg (by omega)]; try rfl))⟩
      · refine r_iload rfl ?_
        refine r_iload rfl ?_
        refine r_icmp_le kX8_laws_111 (fun c4 => ?_) (fun c4 => ?_)
        · refine r_iload rfl ?_
          refine r_istore (Nat.le_of_ble_eq_true rfl) rfl ?_
          refine r_iinc rfl (az_wid (by omega) (by omega)) rfl ?_
          refine r_goto kX8_laws_54 ?_
          exact hK (m_, _, _, _) ⟨fr2_t hp1 hfr, hto.trans hp2, by (dsimp only; rw [hS1]; first | (exfalso; omega) | (rw [if_pos (by omega)]; try rfl) | (rw [if_neg (by omega)]; try rfl)), by (dsimp only; rw [hS2]; first | (exfalso; omega) | (rw [if_pos (by omega)]; try rfl) | (rw [if_neg (by omega)]; try rfl))⟩
        · refine r_iload rfl ?_
          refine r_goto kX8_laws_113 ?_
          refine r_istore (Nat.le_of_ble_eq_true rfl) rfl ?_
          refine r_iinc rfl (az_wid (by omega) (by omega)) rfl ?_
          refine r_goto kX8_laws_54 ?_
          exact hK (m_, _, _, _) ⟨fr2_t hp1 hfr, hto.trans hp2, by (dsimp only; rw [hS1]; first | (exfalso; omega) | (rw [if_pos (by omega)]; try rfl) | (rw [if_neg (by omega)]; try rfl)), by (dsimp only; rw [hS2]; first | (exfalso; omega) | (rw [if_pos (by omega)]; try rfl) | (rw [if_neg (by omega)]; try rfl))⟩
    · refine r_iload rfl ?_
      refine r_iload rfl ?_
      refine r_icmp_ge kX8_laws_90 (fun c5 => ?_) (fun c5 => ?_)
      · refine r_iload rfl ?_
        refine r_istore (Nat.le_of_ble_eq_true rfl) rfl ?_
        refine r_iload rfl ?_
        refine r_if_eq kX8_laws_106 (fun c6 => ?_) (fun c6 => ?_)
        · refine r_iload rfl ?_
          refine r_goto kX8_laws_113 ?_
          refine r_istore (Nat.le_of_ble_eq_true rfl) rfl ?_
          refine r_iinc rfl (az_wid (by omega) (by omega)) rfl ?_
          refine r_goto kX8_laws_54 ?_
          exact hK (m_, _, _, _) ⟨fr2_t hp1 hfr, hto.trans hp2, by (dsimp only; rw [hS1]; first | (exfalso; omega) | (rw [if_pos (by omega)]; try rfl) | (rw [if_neg (by omega)]; try rfl)), by (dsimp only; rw [hS2]; first | (exfalso; omega) | (rw [if_pos (by omega)]; try rfl) | (rw [if_neg (by omega)]; try rfl))⟩
        · refine r_iload rfl ?_
          refine r_iload rfl ?_
          refine r_icmp_le kX8_laws_111 (fun c7 => ?_) (fun c7 => ?_)
          · refine r_iload rfl ?_
            refine r_istore (Nat.le_of_ble_eq_true rfl) rfl ?_
            refine r_iinc rfl (az_wid (by omega) (by omega)) rfl ?_
            refine r_goto kX8_laws_54 ?_
            exact hK (m_, _, _, _) ⟨fr2_t hp1 hfr, hto.trans hp2, by (dsimp only; rw [hS1]; first | (exfalso; omega) | (rw [if_pos (by omega)]; try rfl) | (rw [if_neg (by omega)]; try rfl)), by (dsimp only; rw [hS2]; first | (exfalso; omega) | (rw [if_pos (by omega)]; try rfl) | (rw [if_neg (by omega)]; try rfl))⟩
          · refine r_iload rfl ?_
            refine r_goto kX8_laws_113 ?_
            refine r_istore (Nat.le_of_ble_eq_true rfl) rfl ?_
            refine r_iinc rfl (az_wid (by omega) (by omega)) rfl ?_
            refine r_goto kX8_laws_54 ?_
            exact hK (m_, _, _, _) ⟨fr2_t hp1 hfr, hto.trans hp2, by (dsimp only; rw [hS1]; first | (exfalso; omega) | (rw [if_pos (by omega)]; try rfl) | (rw [if_neg (by omega)]; try rfl)), by (dsimp only; rw [hS2]; first | (exfalso; omega) | (rw [if_pos (by omega)]; try rfl) | (rw [if_neg (by omega)]; try rfl))⟩
      · refine r_iload rfl ?_
        refine r_goto kX8_laws_92 ?_
        refine r_istore (Nat.le_of_ble_eq_true rfl) rfl ?_
        refine r_iload rfl ?_
        refine r_if_eq kX8_laws_106 (fun c8 => ?_) (fun c8 => ?_)
        · refine r_iload rfl ?_
          refine r_goto kX8_laws_113 ?_
          refine r_istore (Nat.le_of_ble_eq_true rfl) rfl ?_
          refine r_iinc rfl (az_wid (by omega) (by omega)) rfl ?_
          refine r_goto kX8_laws_54 ?_
          exact hK (m_, _, _, _) ⟨fr2_t hp1 hfr, hto.trans hp2, by (dsimp only; rw [hS1]; first | (exfalso; omega) | (rw [if_pos (by omega)]; try rfl) | (rw [if_neg (by omega)]; try rfl)), by (dsimp only; rw [hS2]; first | (exfalso; omega) | (rw [if_pos (by omega)]; try rfl) | (rw [if_neg (by omega)]; try rfl))⟩
        · refine r_iload rfl ?_
          refine r_iload rfl ?_
          refine r_icmp_le kX8_laws_111 (fun c9 => ?_) (fun c9 => ?_)
          · refine r_iload rfl ?_
            refine r_istore (Nat.le_of_ble_eq_true rfl) rfl ?_
            refine r_iinc rfl (az_wid (by omega) (by omega)) rfl ?_
            refine r_goto kX8_laws_54 ?_
            exact hK (m_, _, _, _) ⟨fr2_t hp1 hfr, hto.trans hp2, by (dsimp only; rw [hS1]; first | (exfalso; omega) | (rw [if_pos (by omega)]; try rfl) | (rw [if_neg (by omega)]; try rfl)), by (dsimp only; rw [hS2]; first | (exfalso; omega) | (rw [if_pos (by omega)]; try rfl) | (rw [if_neg (by omega)]; try rfl))⟩
          · refine r_iload rfl ?_
            refine r_goto kX8_laws_113 ?_
            refine r_istore (Nat.le_of_ble_eq_true rfl) rfl ?_
            refine r_iinc rfl (az_wid (by omega) (by omega)) rfl ?_
            refine r_goto kX8_laws_54 ?_
            exact hK (m_, _, _, _) ⟨fr2_t hp1 hfr, hto.trans hp2, by (dsimp only; rw [hS1]; first | (exfalso; omega) | (rw [if_pos (by omega)]; try rfl) | (rw [if_neg (by omega)]; try rfl)), by (dsimp only; rw [hS2]; first | (exfalso; omega) | (rw [if_pos (by omega)]; try rfl) | (rw [if_neg (by omega)]; try rfl))⟩
  · obtain ⟨m1, lo, hi, o⟩ := a
    obtain ⟨hp1, hp2, hp3, hp4⟩ := hp
    dsimp only at hp1 hp2 hp3 hp4 ⊢
    subst hp3 hp4
    have hf := (hp1 284 (by decide) (by decide)).trans hD.1
    refine r_iload rfl ?_
    refine r_aload_n rfl ?_
    refine r_getR g_279 rfl ?_
    refine r_iconst ?_
    refine r_ialdx g_284 rfl (by omega) (by omega) (by omega) (congrFun hf _) ?_
    refine r_icmp_ge kX8_laws_121 (fun c1 => ?_) (fun c1 => absurd c1 (by omega))
    exact K m1 _ hp1 hp2
theorem pFair_S (f t c : Int → Int) {k : Int} (h : 0 ≤ k) : pFair f t c (k + 1) = if k = 0 ∨ pGap f t c k < (pFair f t c k).2 then (k, pGap f t c k) else pFair f t c k := az_FS _ _ h
theorem pHold_S (f t c : Int → Int) {k : Int} (h : 0 ≤ k) : pHold f t c (k + 1) = az_or (pHold f t c k) (if pRst f t c k = 0 then 0 else az_shl 1 k) := az_FS _ _ h
theorem l_X8_laws {row what no : Int} (hD : rD m f t c sp) (K : ∀ m' o8 o9 o10 o11, frR m m' → m' 279 3 = m 279 3 → az_E sc az_G 172 zX8_laws_173 [some (.inr (.inr 280)), some (.inl (row)), some (.inl (what)), some (.inl (no)), some (.inl ((pFair f t c 3).1)), some (.inl ((pFair f t c 3).2)), some (.inl (pHold f t c 3)), some (.inl (3)), o8, o9, o10, o11] [] m' Q) : az_E sc az_G 172 zX8_laws_33 [some (.inr (.inr 280)), some (.inl (row)), some (.inl (what)), some (.inl (no)), some (.inl (0)), some (.inl (0)), some (.inl (0)), some (.inl (0)), none, none, none, none] [] m Q := by
  have hN := hD.2.2.2.2.1
  have hn := nOK_2 hN
  refine az_lop (α := aM × (Int × Int) × Int × (Option aV × Option aV × Option aV × Option aV) × Int) (fun l a => [some (.inr (.inr 280)), some (.inl (row)), some (.inl (what)), some (.inl (no)), some (.inl (a.2.1.1)), some (.inl (a.2.1.2)), some (.inl (a.2.2.1)), some (.inl (l)), a.2.2.2.1.1, a.2.2.2.1.2.1, a.2.2.2.1.2.2.1, a.2.2.2.1.2.2.2]) (fun a => a.1) (fun l a => frR m a.1 ∧ a.1 279 3 = m 279 3 ∧ rD a.1 f t c a.2.2.2.2 ∧ a.2.1 = pFair f t c l ∧ a.2.2.1 = pHold f t c l) 0 3 (m, (0, 0), 0, (none, none, none, none), sp) (by decide) ⟨frR_r m, rfl, hD, rfl, rfl⟩ (fun l a h0 h1 hp hK => ?_) (fun a hp => ?_)
  · obtain ⟨m1, ⟨fa, le⟩, se, ⟨o8, o9, o10, o11⟩, sq⟩ := a
    obtain ⟨hp1, hp2, hp3, hp4, hp5⟩ := hp
    dsimp only at hp1 hp2 hp3 hp4 hp5 ⊢
    have hD1 := rD_sp hp3 (l := l) (by omega)
    have hfs := frR_sp m1 l
    have hS1 := pFair_S f t c h0
    have hS2 := pHold_S f t c h0
    rw [← hp4] at hS1
    rw [← hp5] at hS2
    have hgb := pGap_b (sp := l) hN hD.2.2.2.2.2.1 hD.2.2.2.2.2.2.1 hn.1 (show f 2 ≤ f 2 by omega)
    have hrb := pRst_b f t c l
    have hge : pGap f t c l = pHig f t c l (f 2) - pLow f t c l (f 2) := rfl
    refine r_iload rfl ?_
    refine r_iconst ?_
    refine r_icmp_ge kX8_laws_173 (fun c1 => absurd c1 (by omega)) (fun c1 => ?_)
    refine r_aload_n rfl ?_
    refine r_iload rfl ?_
    refine r_putI g_279 (by decide) ?_
    refine r_iconst ?_
    refine r_istore (Nat.le_of_ble_eq_true rfl) rfl ?_
    refine r_iconst ?_
    refine r_istore (Nat.le_of_ble_eq_true rfl) rfl ?_
    refine r_iconst ?_
    refine r_istore (Nat.le_of_ble_eq_true rfl) rfl ?_
    skip
    refine l_X8_laws1 hD1 (fun m2 o11 hf2 ht2 => ?_)
    have hD2 := rD_fr hD1 hf2 (by rw [ht2]; exact hD1.2.1) hD1.2.2.2.2.2.1
    have hst2 : m2 279 3 = m 279 3 := (congrFun (hf2 279 (by decide) (by decide)) _).trans (hfs.2.trans hp2)
    have H : ∀ fa2 le2, (fa2, le2) = pFair f t c (l + 1) → az_E sc az_G 172 zX8_laws_147 [some (.inr (.inr 280)), some (.inl (row)), some (.inl (what)), some (.inl (no)), some (.inl (fa2)), some (.inl (le2)), some (.inl (se)), some (.inl (l)), some (.inl (pLow f t c l (f 2))), some (.inl (pHig f t c l (f 2))), some (.inl (f 2)), o11] [] m2 Q := by
      intro fa2 le2 hfl
      refine r_iload rfl ?_
      refine r_aload_n rfl ?_
      refine r_cV1 g_279 rfl (Nat.le_of_ble_eq_true rfl) (Nat.le_of_ble_eq_true rfl) (c_X8_isRest hD2) (fun v_ m_ hq_ => ?_)
      obtain ⟨rfl, hf3, ht3⟩ := hq_
      refine r_if_eq kX8_laws_163 (fun c1 => ?_) (fun c1 => ?_)
      · refine r_iconst ?_
        refine r_ior rfl ?_
        refine r_istore (Nat.le_of_ble_eq_true rfl) rfl ?_
        refine r_iinc rfl (az_wid (by omega) (by omega)) rfl ?_
        refine r_goto kX8_laws_33 ?_
        first | exact hK (m_, (fa2, le2), az_or se 0, (_, _, _, _), l) ⟨frR_t hp1 (frR_t hfs.1 (frR_t (frR_2 hf2) (frR_2 hf3))), (congrFun (hf3 279 (by decide) (by decide)) _).trans hst2, rD_fr hD2 hf3 (fun g g0 g1 => (congrFun ht3 g).trans (hD2.2.1 g g0 g1)) hD2.2.2.2.2.2.1, hfl, by dsimp only; rw [hS2, if_pos (by omega)]⟩ | exact hK (m_, (fa2, le2), az_or se (az_shl 1 l), (_, _, _, _), l) ⟨frR_t hp1 (frR_t hfs.1 (frR_t (frR_2 hf2) (frR_2 hf3))), (congrFun (hf3 279 (by decide) (by decide)) _).trans hst2, rD_fr hD2 hf3 (fun g g0 g1 => (congrFun ht3 g).trans (hD2.2.1 g g0 g1)) hD2.2.2.2.2.2.1, hfl, by dsimp only; rw [hS2, if_neg (by omega)]⟩
      · refine r_iconst ?_
        refine r_iload rfl ?_
        refine r_ishl rfl ?_
        refine r_goto kX8_laws_164 ?_
        refine r_ior rfl ?_
        refine r_istore (Nat.le_of_ble_eq_true rfl) rfl ?_
        refine r_iinc rfl (az_wid (by omega) (by omega)) rfl ?_
        refine r_goto kX8_laws_33 ?_
        first | exact hK (m_, (fa2, le2), az_or se 0, (_, _, _, _), l) ⟨frR_t hp1 (frR_t hfs.1 (frR_t (frR_2 hf2) (frR_2 hf3))), (congrFun (hf3 279 (by decide) (by decide)) _).trans hst2, rD_fr hD2 hf3 (fun g g0 g1 => (congrFun ht3 g).trans (hD2.2.1 g g0 g1)) hD2.2.2.2.2.2.1, hfl, by dsimp only; rw [hS2, if_pos (by omega)]⟩ | exact hK (m_, (fa2, le2), az_or se (az_shl 1 l), (_, _, _, _), l) ⟨frR_t hp1 (frR_t hfs.1 (frR_t (frR_2 hf2) (frR_2 hf3))), (congrFun (hf3 279 (by decide) (by decide)) _).trans hst2, rD_fr hD2 hf3 (fun g g0 g1 => (congrFun ht3 g).trans (hD2.2.1 g g0 g1)) hD2.2.2.2.2.2.1, hfl, by dsimp only; rw [hS2, if_neg (by omega)]⟩
    refine r_iload rfl ?_
    refine r_if_eq kX8_laws_136 (fun c1 => ?_) (fun c1 => ?_)
    · refine r_iload rfl ?_
      refine r_istore (Nat.le_of_ble_eq_true rfl) rfl ?_
      refine r_iload rfl ?_
      refine r_iload rfl ?_
      first | refine r_isub (az_wid (by omega) (by omega)) ?_ | refine r_isubw ?_
      refine r_istore (Nat.le_of_ble_eq_true rfl) rfl ?_
      exact H _ _ (by rw [hS1]; first | (rw [if_pos (by dsimp only; omega)]; try rfl) | rw [if_neg (by dsimp only; omega)])
    · refine r_iload rfl ?_
      refine r_iload rfl ?_
      first | refine r_isub (az_wid (by omega) (by omega)) ?_ | refine r_isubw ?_
      refine r_iload rfl ?_
      refine r_icmp_ge kX8_laws_147 (fun c2 => ?_) (fun c2 => ?_)
      · exact H _ _ (by rw [hS1]; first | (rw [if_pos (by dsimp only; omega)]; try rfl) | rw [if_neg (by dsimp only; omega)])
      · refine r_iload rfl ?_
        refine r_istore (Nat.le_of_ble_eq_true rfl) rfl ?_
        refine r_iload rfl ?_
        refine r_iload rfl ?_
        first | refine r_isub (az_wid (by omega) (by omega)) ?_ | refine r_isubw ?_
        refine r_istore (Nat.le_of_ble_eq_true rfl) rfl ?_
        exact H _ _ (by rw [hS1]; first | (rw [if_pos (by dsimp only; omega)]; try rfl) | rw [if_neg (by dsimp only; omega)])
  · obtain ⟨m1, ⟨fa, le⟩, se, ⟨o8, o9, o10, o11⟩, sq⟩ := a
    obtain ⟨hp1, hp2, hp3, hp4, hp5⟩ := hp
    dsimp only at hp1 hp2 hp3 hp4 hp5 ⊢
    have h3 : fa = (pFair f t c 3).1 ∧ le = (pFair f t c 3).2 := by
      rw [← hp4]
      exact ⟨rfl, rfl⟩
    obtain ⟨rfl, rfl⟩ := h3
    subst hp5
    refine r_iload rfl ?_
    refine r_iconst ?_
    refine r_icmp_ge kX8_laws_173 (fun c1 => ?_) (fun c1 => absurd c1 (by decide))
    exact K m1 _ _ _ _ hp1 hp2
theorem c_X8_laws {row w : Int} (hN : nOK (m 284)) (hR : pRowsOK m) (hZ : m 279 7 = 0 ∨ m 279 7 = 1) : az_C sc az_G 172 [.inr (.inr 280), .inl row, .inl w] m (qP m (pOr (pTl m row (p01 (0 ≤ w ∧ w ≤ 1)) 6).1 (if w = 0 then (pFair (m 284) (pIt m row) (pPrice (m 284)) 3).1 else pHold (m 284) (pIt m row) (pPrice (m 284)) 3)) (pTl m row (p01 (0 ≤ w ∧ w ≤ 1)) 6).2) := by
  have hn := nOK_2 hN
  by_cases hno : (pTl m row (p01 (0 ≤ w ∧ w ≤ 1)) 6).1 < 0
  · refine r_aload_n rfl ?_
    refine r_iload_n rfl ?_
    refine r_iload_n rfl ?_
    refine r_i2l ?_
    refine r_lconst0 ?_
    refine r_lconst1 ?_
    refine r_cS3I (by decide) (Nat.le_of_ble_eq_true rfl) (Nat.le_of_ble_eq_true rfl) (c_X8_in _ _ _) ?_
    refine r_bipush ?_
    refine r_cV4 g_279 rfl (Nat.le_of_ble_eq_true rfl) (Nat.le_of_ble_eq_true rfl) (c_X8_tells hN hR hZ (by decide)) (fun v_ m_ hq_ => ?_)
    obtain ⟨hq1, hq2⟩ := hq_; obtain ⟨rfl, hq3, hq4⟩ := hq1
    refine r_istore_n (Nat.le_of_ble_eq_true rfl) rfl ?_
    refine r_iload_n rfl ?_
    refine r_if_ge kX8_laws_21 (fun c1 => absurd c1 (by have h2 := hno; unfold p01 at h2; omega)) (fun c1 => ?_)
    refine r_iload_n rfl ?_
    refine r_iret rfl ?_
    exact ⟨az_oI (by unfold pOr; rw [if_pos hno]; rfl), hq3, hq4⟩
  · have hz := pTl_z hno
    have hg := p01_e (pTl_g hno)
    refine r_aload_n rfl ?_
    refine r_iload_n rfl ?_
    refine r_iload_n rfl ?_
    refine r_i2l ?_
    refine r_lconst0 ?_
    refine r_lconst1 ?_
    refine r_cS3I (by decide) (Nat.le_of_ble_eq_true rfl) (Nat.le_of_ble_eq_true rfl) (c_X8_in _ _ _) ?_
    refine r_bipush ?_
    refine r_cV4 g_279 rfl (Nat.le_of_ble_eq_true rfl) (Nat.le_of_ble_eq_true rfl) (c_X8_tells hN hR hZ (by decide)) (fun v_ m_ hq_ => ?_)
    obtain ⟨hq1, hq2⟩ := hq_; obtain ⟨rfl, hq3, hq4⟩ := hq1; have hD := rD_tl hN hz hq3 (hq2 hz)
    refine r_istore_n (Nat.le_of_ble_eq_true rfl) rfl ?_
    refine r_iload_n rfl ?_
    refine r_if_ge kX8_laws_21 (fun c1 => ?_) (fun c1 => absurd c1 (by have h2 := hno; unfold p01 at h2; omega))
    refine r_iconst ?_
    refine r_istore (Nat.le_of_ble_eq_true rfl) rfl ?_
    refine r_iconst ?_
    refine r_istore (Nat.le_of_ble_eq_true rfl) rfl ?_
    refine r_iconst ?_
    refine r_istore (Nat.le_of_ble_eq_true rfl) rfl ?_
    refine r_iconst ?_
    refine r_istore (Nat.le_of_ble_eq_true rfl) rfl ?_
    refine l_X8_laws hD (fun m2 o8 o9 o10 o11 hf2 hs2 => ?_)
    refine r_iload_n rfl ?_
    refine r_if_ne kX8_laws_182 (fun c2 => ?_) (fun c2 => ?_)
    · refine r_iload rfl ?_
      refine r_iret rfl ?_
      exact ⟨az_oI (by unfold pOr; rw [if_neg hno]; first | rw [if_pos (by omega)] | rw [if_neg (by omega)]), frR_t hq3 hf2, hs2.trans hq4⟩
    · refine r_iload rfl ?_
      refine r_goto kX8_laws_184 ?_
      refine r_iret rfl ?_
      exact ⟨az_oI (by unfold pOr; rw [if_neg hno]; first | rw [if_pos (by omega)] | rw [if_neg (by omega)]), frR_t hq3 hf2, hs2.trans hq4⟩
def pOwnS (f t : Int → Int) (sp p : Int) : Int := pBill (fun _ => p) (pLong f (pTrn f (fun _ => p) sp 20 t 1).1)
def pOwn (f t : Int → Int) (sp k : Int) : Int × Int := az_F (fun p a => if a.2 < pOwnS f t sp p then (p, pOwnS f t sp p) else a) (0, -1) k
theorem pOwn_S (f t : Int → Int) (sp : Int) {k : Int} (h : 0 ≤ k) : pOwn f t sp (k + 1) = if (pOwn f t sp k).2 < pOwnS f t sp k then (k, pOwnS f t sp k) else pOwn f t sp k := az_FS _ _ h
theorem pTl_fr {m m1 : aM} (hf : frR m m1) {row good most : Int} (h : (pTl m row good most).1 = 0) : (pTl m1 row 1 most) = (0, 0) := by
  have h1 : m1 284 = m 284 := hf.1 _ (by decide) (by decide) (by decide) (by decide)
  have h2 : m1 281 = m 281 := hf.1 _ (by decide) (by decide) (by decide) (by decide)
  have h3 : m1 282 = m 282 := hf.1 _ (by decide) (by decide) (by decide) (by decide)
  have h4 : m1 279 7 = m 279 7 := hf.2 _ (by decide) (by decide)
  unfold pTl at h ⊢
  rw [h1, h2, h4]
  have h5 : pIn m1 row most ↔ pIn m row most := by unfold pIn; rw [h1, h3]
  split at h
  · exact absurd h (by dsimp only; omega)
  · next c1 =>
    rw [if_neg c1]
    split at h
    · exact absurd h (by dsimp only; omega)
    · next c2 =>
      rw [if_neg (by omega)]
      split at h
      · exact absurd h (by dsimp only; omega)
      · next c3 =>
        rw [if_neg c3]
        split at h
        · exact absurd h (by dsimp only; omega)
        · next c4 =>
          rw [if_neg c4]
          split at h
          · next c5 => rw [if_pos (h5.mpr c5)]
          · exact absurd h (by dsimp only; omega)
theorem frR_c (m : aM) (F : Int → Int) : frR m (az_set m 291 F) := ⟨fun b _ _ h _ => if_neg h, fun _ _ _ => rfl⟩
/-- one price of the owner's -/
theorem l_X8_owner1 {row w no be mo p : Int} {o7 : Option aV} (hN : nOK (m 284)) (hR : pRowsOK m) (hb : m 279 7 = 0 ∨ m 279 7 = 1) (hz : pTl m row 1 6 = (0, 0)) (hp : 0 ≤ p ∧ p ≤ 30) (hmo : -1 ≤ mo ∧ mo ≤ 180) (K : ∀ m' no be2 mo2 o7, frR m m' → m' 279 3 = 0 → (mo < pOwnS (m 284) (pIt m row) (m 284 0) p ∧ be2 = p ∧ mo2 = pOwnS (m 284) (pIt m row) (m 284 0) p ∨ ¬ mo < pOwnS (m 284) (pIt m row) (m 284 0) p ∧ be2 = be ∧ mo2 = mo) → (-1 ≤ mo2 ∧ mo2 ≤ 180) → az_E sc az_G 175 zX8_owner_30 [some (.inr (.inr 280)), some (.inl (row)), some (.inl (w)), some (.inl (no)), some (.inl (be2)), some (.inl (mo2)), some (.inl (p + 1)), o7] [] m' Q) : az_E sc az_G 175 zX8_owner_30 [some (.inr (.inr 280)), some (.inl (row)), some (.inl (w)), some (.inl (no)), some (.inl (be)), some (.inl (mo)), some (.inl (p)), o7] [] m Q := by
  have hn := nOK_2 hN
  have hC : cOK (fun _ => p) := fun h _ _ => hp
  refine r_iload rfl ?_
  refine r_bipush ?_
  refine r_icmp_gt kX8_owner_102 (fun c1 => absurd c1 (by omega)) (fun c1 => ?_)
  refine r_aload_n rfl ?_
  refine r_iload_n rfl ?_
  refine r_iconst ?_
  refine r_bipush ?_
  refine r_cV4 g_279 rfl (Nat.le_of_ble_eq_true rfl) (Nat.le_of_ble_eq_true rfl) (c_X8_tells hN hR hb (by decide)) (fun v_ m_ hq_ => ?_)
  rw [hz] at hq_; obtain ⟨hq1, hq2⟩ := hq_; obtain ⟨rfl, hq3, hq4⟩ := hq1; have hD := rD_tl hN (by rw [hz]) hq3 (hq2 rfl)
  refine r_istore_n (Nat.le_of_ble_eq_true rfl) rfl ?_
  refine r_iconst ?_
  refine r_istore (Nat.le_of_ble_eq_true rfl) rfl ?_
  skip
  refine az_Em (az_s0 m_ 291).symm ?_
  refine az_lop (α := Int → Int) (fun h _ => [some (.inr (.inr 280)), some (.inl (row)), some (.inl (w)), some (.inl (0)), some (.inl (be)), some (.inl (mo)), some (.inl (p)), some (.inl (h))]) (fun a => az_set m_ 291 a) (fun h a => ∀ j, 0 ≤ j → j < h → a j = p) 0 6 (m_ 291) (by decide) (fun j j0 j1 => by omega) (fun h a h0 h1 hq hK => ?_) (fun a hq => ?_)
  · refine r_iload rfl ?_
    refine r_bipush ?_
    refine r_icmp_ge kX8_owner_71 (fun c1 => absurd c1 (by omega)) (fun c1 => ?_)
    refine r_aload_n rfl ?_
    refine r_getR g_279 rfl ?_
    refine r_iload rfl ?_
    refine r_iload rfl ?_
    refine r_iast g_291 (by decide) (by omega) (by omega) ?_
    refine r_iinc rfl (az_wid (by omega) (by omega)) rfl ?_
    refine r_goto kX8_owner_49 ?_
    refine az_Em (az_us _ _ _ _ _) (hK (up1 a h p) (fun j hj0 hj1 => up1_eq (fun e => rfl) (fun e => hq j hj0 (by omega))))
  · have hD2 : rD (az_set m_ 291 a) (m 284) (pIt m row) (fun _ => p) (m 284 0) := ⟨hD.1, hD.2.1, hq, hD.2.2.2.1, hN, hD.2.2.2.2.2.1, hC, hD.2.2.2.2.2.2.2⟩
    have hsb : ∀ t, tOK (m 284) t → 0 ≤ pBill (fun _ => p) (pLong (m 284) t) ∧ pBill (fun _ => p) (pLong (m 284) t) ≤ 180 := fun t ht => by
      have h1 := pLong_b hn.1 ht
      have h2 := pBill_b hC h1.1 h1.2
      omega
    refine r_iload rfl ?_
    refine r_bipush ?_
    refine r_icmp_ge kX8_owner_71 (fun c1 => ?_) (fun c1 => absurd c1 (by decide))
    refine r_aload_n rfl ?_
    refine r_cV1 g_279 rfl (Nat.le_of_ble_eq_true rfl) (Nat.le_of_ble_eq_true rfl) (c_X8_turns hD2) (fun v_72 m_72 hq_72 => ?_)
    obtain ⟨rfl, hf2, hD3⟩ := hq_72; have hsb2 : 0 ≤ pOwnS (m 284) (pIt m row) (m 284 0) p ∧ pOwnS (m 284) (pIt m row) (m 284 0) p ≤ 180 := hsb _ hD3.2.2.2.2.2.1
    refine r_istore (Nat.le_of_ble_eq_true rfl) rfl ?_
    refine r_aload_n rfl ?_
    refine r_cV1I g_279 rfl (Nat.le_of_ble_eq_true rfl) (Nat.le_of_ble_eq_true rfl) (show az_CI _ _ _ _ (pOwnS (m 284) (pIt m row) (m 284 0) p) _ from c_X8_sum hD3.1 hD3.2.1 hD3.2.2.1 hn hD3.2.2.2.2.2.1 hC) ?_
    refine r_iload rfl ?_
    refine r_icmp_le kX8_owner_96 (fun c2 => ?_) (fun c2 => ?_)
    · refine r_iinc rfl (az_wid (by omega) (by omega)) rfl ?_
      refine r_goto kX8_owner_30 ?_
      exact K m_72 0 _ _ _ (frR_t hq3 (frR_t (frR_c _ _) (frR_2 hf2))) ((congrFun (hf2 279 (by decide) (by decide)) _).trans hq4) (by first | exact Or.inl ⟨by omega, rfl, rfl⟩ | exact Or.inr ⟨by omega, rfl, rfl⟩) (by omega)
    · refine r_iload rfl ?_
      refine r_istore (Nat.le_of_ble_eq_true rfl) rfl ?_
      refine r_aload_n rfl ?_
      refine r_cV1I g_279 rfl (Nat.le_of_ble_eq_true rfl) (Nat.le_of_ble_eq_true rfl) (show az_CI _ _ _ _ (pOwnS (m 284) (pIt m row) (m 284 0) p) _ from c_X8_sum hD3.1 hD3.2.1 hD3.2.2.1 hn hD3.2.2.2.2.2.1 hC) ?_
      refine r_istore (Nat.le_of_ble_eq_true rfl) rfl ?_
      refine r_iinc rfl (az_wid (by omega) (by omega)) rfl ?_
      refine r_goto kX8_owner_30 ?_
      exact K m_72 0 _ _ _ (frR_t hq3 (frR_t (frR_c _ _) (frR_2 hf2))) ((congrFun (hf2 279 (by decide) (by decide)) _).trans hq4) (by first | exact Or.inl ⟨by omega, rfl, rfl⟩ | exact Or.inr ⟨by omega, rfl, rfl⟩) (by omega)
theorem c_X8_owner {row w : Int} (hN : nOK (m 284)) (hR : pRowsOK m) (hZ : m 279 7 = 0 ∨ m 279 7 = 1) : az_C sc az_G 175 [.inr (.inr 280), .inl row, .inl w] m (qP m (pOr (pTl m row (p01 (0 ≤ w ∧ w ≤ 1)) 6).1 (if w = 0 then (pOwn (m 284) (pIt m row) (m 284 0) 31).1 else (pOwn (m 284) (pIt m row) (m 284 0) 31).2)) (pTl m row (p01 (0 ≤ w ∧ w ≤ 1)) 6).2) := by
  have hn := nOK_2 hN
  by_cases hno : (pTl m row (p01 (0 ≤ w ∧ w ≤ 1)) 6).1 < 0
  · refine r_aload_n rfl ?_
    refine r_iload_n rfl ?_
    refine r_iload_n rfl ?_
    refine r_i2l ?_
    refine r_lconst0 ?_
    refine r_lconst1 ?_
    refine r_cS3I (by decide) (Nat.le_of_ble_eq_true rfl) (Nat.le_of_ble_eq_true rfl) (c_X8_in _ _ _) ?_
    refine r_bipush ?_
    refine r_cV4 g_279 rfl (Nat.le_of_ble_eq_true rfl) (Nat.le_of_ble_eq_true rfl) (c_X8_tells hN hR hZ (by decide)) (fun v_ m_ hq_ => ?_)
    obtain ⟨hq1, hq2⟩ := hq_; obtain ⟨rfl, hq3, hq4⟩ := hq1
    refine r_istore_n (Nat.le_of_ble_eq_true rfl) rfl ?_
    refine r_iload_n rfl ?_
    refine r_if_ge kX8_owner_21 (fun c1 => absurd c1 (by have h2 := hno; unfold p01 at h2; omega)) (fun c1 => ?_)
    refine r_iload_n rfl ?_
    refine r_iret rfl ?_
    exact ⟨az_oI (by unfold pOr; rw [if_pos hno]; rfl), hq3, hq4⟩
  · have hz := pTl_z hno
    have hg := p01_e (pTl_g hno)
    have hs0 : (pTl m row (p01 (0 ≤ w ∧ w ≤ 1)) 6).2 = 0 := by
      have h1 := pTl_fr (frR_r m) hz
      rw [p01_1 hg, h1]
    refine r_aload_n rfl ?_
    refine r_iload_n rfl ?_
    refine r_iload_n rfl ?_
    refine r_i2l ?_
    refine r_lconst0 ?_
    refine r_lconst1 ?_
    refine r_cS3I (by decide) (Nat.le_of_ble_eq_true rfl) (Nat.le_of_ble_eq_true rfl) (c_X8_in _ _ _) ?_
    refine r_bipush ?_
    refine r_cV4 g_279 rfl (Nat.le_of_ble_eq_true rfl) (Nat.le_of_ble_eq_true rfl) (c_X8_tells hN hR hZ (by decide)) (fun v_ m_ hq_ => ?_)
    obtain ⟨hq1, hq2⟩ := hq_; obtain ⟨rfl, hq3, hq4⟩ := hq1; have hD := rD_tl hN hz hq3 (hq2 hz)
    refine r_istore_n (Nat.le_of_ble_eq_true rfl) rfl ?_
    refine r_iload_n rfl ?_
    refine r_if_ge kX8_owner_21 (fun c1 => ?_) (fun c1 => absurd c1 (by have h2 := hno; unfold p01 at h2; omega))
    refine r_iconst ?_
    refine r_istore (Nat.le_of_ble_eq_true rfl) rfl ?_
    refine r_iconst ?_
    refine r_istore (Nat.le_of_ble_eq_true rfl) rfl ?_
    refine r_iconst ?_
    refine r_istore (Nat.le_of_ble_eq_true rfl) rfl ?_
    skip
    have hqs : m_ 279 3 = 0 := hq4.trans hs0
    refine az_lop (α := aM × Int × (Int × Int) × Option aV) (fun p a => [some (.inr (.inr 280)), some (.inl (row)), some (.inl (w)), some (.inl (a.2.1)), some (.inl (a.2.2.1.1)), some (.inl (a.2.2.1.2)), some (.inl (p)), a.2.2.2]) (fun a => a.1) (fun p a => frR m a.1 ∧ a.1 279 3 = 0 ∧ a.2.2.1 = pOwn (m 284) (pIt m row) (m 284 0) p ∧ -1 ≤ a.2.2.1.2 ∧ a.2.2.1.2 ≤ 180) 0 31 (m_, _, (0, -1), none) (by decide) ⟨hq3, hqs, rfl, by dsimp only; omega⟩ (fun p a h0 h1 hp hK => ?_) (fun a hp => ?_)
    · obtain ⟨m1, no, ⟨be, mo⟩, o7⟩ := a
      obtain ⟨hp1, hp2, hp3, hp4⟩ := hp
      dsimp only at hp1 hp2 hp3 hp4 ⊢
      have e1 : m1 284 = m 284 := hp1.1 _ (by decide) (by decide) (by decide) (by decide)
      have e2 : pIt m1 row = pIt m row := by
        funext g
        exact congrFun (hp1.1 282 (by decide) (by decide) (by decide) (by decide)) _
      have e3 : pRowsOK m1 := by
        intro r h0 h1
        rw [hp1.1 281 (by decide) (by decide) (by decide) (by decide), hp1.1 280 (by decide) (by decide) (by decide) (by decide)]
        exact hR r h0 h1
      have hS := pOwn_S (m 284) (pIt m row) (m 284 0) h0
      rw [← hp3] at hS
      refine l_X8_owner1 (by rw [e1]; exact hN) e3 (by rw [hp1.2 _ (by decide) (by decide)]; exact hZ) (pTl_fr hp1 hz) (by omega) hp4 (fun m2 no2 be2 mo2 o7 hf2 hs2 hc2 hb2 => ?_)
      rw [e1, e2] at hc2
      refine hK (m2, no2, (be2, mo2), o7) ⟨frR_t hp1 hf2, hs2, ?_, hb2⟩
      rw [hS]
      dsimp only
      rcases hc2 with ⟨h1, rfl, rfl⟩ | ⟨h1, rfl, rfl⟩
      · rw [if_pos h1]
      · rw [if_neg h1]
    · obtain ⟨m1, no, ⟨be, mo⟩, o7⟩ := a
      obtain ⟨hp1, hp2, hp3, hp4⟩ := hp
      dsimp only at hp1 hp2 hp3 hp4 ⊢
      have h3 : be = (pOwn (m 284) (pIt m row) (m 284 0) 31).1 ∧ mo = (pOwn (m 284) (pIt m row) (m 284 0) 31).2 := by
        rw [← hp3]
        exact ⟨rfl, rfl⟩
      refine r_iload rfl ?_
      refine r_bipush ?_
      refine r_icmp_gt kX8_owner_102 (fun c1 => ?_) (fun c1 => absurd c1 (by decide))
      refine r_iload_n rfl ?_
      refine r_if_ne kX8_owner_111 (fun c2 => ?_) (fun c2 => ?_)
      · refine r_iload rfl ?_
        refine r_iret rfl ?_
        exact ⟨az_oI (by unfold pOr; rw [if_neg hno]; first | (rw [if_pos (by omega)]; exact h3.1) | (rw [if_neg (by omega)]; exact h3.2)), hp1, hp2.trans hs0.symm⟩
      · refine r_iload rfl ?_
        refine r_goto kX8_owner_113 ?_
        refine r_iret rfl ?_
        exact ⟨az_oI (by unfold pOr; rw [if_neg hno]; first | (rw [if_pos (by omega)]; exact h3.1) | (rw [if_neg (by omega)]; exact h3.2)), hp1, hp2.trans hs0.symm⟩
end RG
