/-! THE REFERENCE: rests, turns, rows by number -/
section RD
variable {sc : aX} {m : aM} {f t c : Int → Int} {sp : Int} {Q : Option aV → aM → Prop}
noncomputable def pRst (f t c : Int → Int) (sp : Int) : Int := @ite Int (∀ g, 0 ≤ g → g < f 2 → pCon f t c sp g) (Classical.propDecidable _) 1 0
theorem pRst_1 {f t c : Int → Int} {sp : Int} (h : ∀ g, 0 ≤ g → g < f 2 → pCon f t c sp g) : pRst f t c sp = 1 := by
  unfold pRst
  rw [if_pos h]
theorem pRst_0 {f t c : Int → Int} {sp : Int} (h : ¬ ∀ g, 0 ≤ g → g < f 2 → pCon f t c sp g) : pRst f t c sp = 0 := by
  unfold pRst
  rw [if_neg h]
theorem pRst_b (f t c : Int → Int) (sp : Int) : pRst f t c sp = 0 ∨ pRst f t c sp = 1 := by
  unfold pRst
  split
  · exact Or.inr rfl
  · exact Or.inl rfl
/-- one guest of isRest -/
theorem l_X8_isRest {g : Int} {o3 o4 o5 : Option aV} (hD : rD m f t c sp) (h0 : 0 ≤ g) (h1 : g < f 2) (K : ∀ m' x o3 o4 o5, fr2 m m' → m' 290 = m 290 → (x = 1 ∧ pCon f t c sp g ∨ x = 0 ∧ ¬ pCon f t c sp g) → az_E sc az_G 154 zX8_isRest_4 [some (.inr (.inr 280)), some (.inl (x)), some (.inl (g + 1)), o3, o4, o5] [] m' Q) : az_E sc az_G 154 zX8_isRest_4 [some (.inr (.inr 280)), some (.inl (1)), some (.inl (g)), o3, o4, o5] [] m Q := by
  have hD0 := hD
  obtain ⟨hf, ht, hc, hs, hN, hT, hC, hsp⟩ := hD
  have hn := nOK_2 hN
  have htg := hT g h0 h1
  have htm := ht g h0 h1
  refine r_iload_n rfl ?_
  refine r_aload_n rfl ?_
  refine r_getR g_279 rfl ?_
  refine r_iconst ?_
  refine r_ialdx g_284 rfl (by omega) (by omega) (by omega) (congrFun hf _) ?_
  refine r_icmp_ge kX8_isRest_89 (fun c1 => absurd c1 (by omega)) (fun c1 => ?_)
  refine r_iload_n rfl ?_
  refine r_if_eq kX8_isRest_89 (fun c2 => absurd c2 (by decide)) (fun c2 => ?_)
  refine r_aload_n rfl ?_
  refine r_getR g_279 rfl ?_
  refine r_iload_n rfl ?_
  refine r_ialdx g_290 rfl (by omega) (by omega) (by omega) (ht _ (by omega) (by omega)) ?_
  refine r_istore_n (Nat.le_of_ble_eq_true rfl) rfl ?_
  refine r_aload_n rfl ?_
  refine r_iload_n rfl ?_
  refine r_cV2 g_279 rfl (Nat.le_of_ble_eq_true rfl) (Nat.le_of_ble_eq_true rfl) (c_X8_worthOf2 hD0 h0 h1) (fun v_ m_ hq_ => ?_)
  obtain ⟨rfl, hfr, hD2, hto⟩ := hq_
  refine r_istore (Nat.le_of_ble_eq_true rfl) rfl ?_
  refine r_iconst ?_
  refine r_istore (Nat.le_of_ble_eq_true rfl) rfl ?_
  skip
  have hr0 : rT m m_ g (m 290 g) := rT_f (rT_0 m g) hfr hto
  refine az_lop (α := aM × Int × Int) (fun n a => [some (.inr (.inr 280)), some (.inl (a.2.1)), some (.inl (g)), some (.inl (t g)), some (.inl (pWor f t c sp g)), some (.inl (n))]) (fun a => a.1) (fun n a => rT m a.1 g a.2.2 ∧ (a.2.1 = 1 ∧ (∀ k, 0 ≤ k → k < n → pW f t c sp g k ≤ pWor f t c sp g) ∨ a.2.1 = 0 ∧ ¬ pCon f t c sp g)) 0 7 (m_, 1, m 290 g) (by decide) ⟨hr0, Or.inl ⟨rfl, fun k h2 h3 => by omega⟩⟩ (fun n a h2 h3 hp hK => ?_) (fun a hp => ?_)
  · obtain ⟨m1, is, x⟩ := a
    obtain ⟨hp1, hp2⟩ := hp
    dsimp only at hp1 hp2 ⊢
    have hT1 := rT_u hp1 n
    have hD1 := rT_D hD0 hT1 (by omega)
    rcases hp2 with ⟨rfl, hp2⟩ | ⟨rfl, hp2⟩
    · refine r_iload rfl ?_
      refine r_bipush ?_
      refine r_icmp_gt kX8_isRest_76 (fun c1 => absurd c1 (by omega)) (fun c1 => ?_)
      refine r_aload_n rfl ?_
      refine r_getR g_279 rfl ?_
      refine r_iload_n rfl ?_
      refine r_iload rfl ?_
      refine r_iast g_290 (by decide) (by omega) (by omega) ?_
      refine r_iload_n rfl ?_
      refine r_if_eq kX8_isRest_68 (fun c2 => absurd c2 (by decide)) (fun c2 => ?_)
      refine r_aload_n rfl ?_
      refine r_iload_n rfl ?_
      refine r_cV2 g_279 rfl (Nat.le_of_ble_eq_true rfl) (Nat.le_of_ble_eq_true rfl) (c_X8_worthOf2 hD1 h0 h1) (fun v_ m_ hq_ => ?_)
      obtain ⟨rfl, hfr, hD2, hto⟩ := hq_
      refine r_iload rfl ?_
      refine r_icmp_gt kX8_isRest_68 (fun c3 => ?_) (fun c3 => ?_)
      · refine r_iconst ?_
        refine r_istore_n (Nat.le_of_ble_eq_true rfl) rfl ?_
        refine r_iinc rfl (az_wid (by omega) (by omega)) rfl ?_
        refine r_goto kX8_isRest_35 ?_
        first | exact hK (m_, 0, n) ⟨rT_f hT1 hfr hto, Or.inr ⟨rfl, fun q => by have := q n h2 h3; unfold pW at this; omega⟩⟩ | exact hK (m_, 1, n) ⟨rT_f hT1 hfr hto, Or.inl ⟨rfl, fun k k0 k1 => by by_cases e : k = n; · { subst e; unfold pW; omega }; · exact hp2 k k0 (by omega)⟩⟩
      · refine r_iconst ?_
        refine r_goto kX8_isRest_69 ?_
        refine r_istore_n (Nat.le_of_ble_eq_true rfl) rfl ?_
        refine r_iinc rfl (az_wid (by omega) (by omega)) rfl ?_
        refine r_goto kX8_isRest_35 ?_
        first | exact hK (m_, 0, n) ⟨rT_f hT1 hfr hto, Or.inr ⟨rfl, fun q => by have := q n h2 h3; unfold pW at this; omega⟩⟩ | exact hK (m_, 1, n) ⟨rT_f hT1 hfr hto, Or.inl ⟨rfl, fun k k0 k1 => by by_cases e : k = n; · { subst e; unfold pW; omega }; · exact hp2 k k0 (by omega)⟩⟩
    · refine r_iload rfl ?_
      refine r_bipush ?_
      refine r_icmp_gt kX8_isRest_76 (fun c1 => absurd c1 (by omega)) (fun c1 => ?_)
      refine r_aload_n rfl ?_
      refine r_getR g_279 rfl ?_
      refine r_iload_n rfl ?_
      refine r_iload rfl ?_
      refine r_iast g_290 (by decide) (by omega) (by omega) ?_
      refine r_iload_n rfl ?_
      refine r_if_eq kX8_isRest_68 (fun c2 => ?_) (fun c2 => absurd c2 (by decide))
      refine r_iconst ?_
      refine r_istore_n (Nat.le_of_ble_eq_true rfl) rfl ?_
      refine r_iinc rfl (az_wid (by omega) (by omega)) rfl ?_
      refine r_goto kX8_isRest_35 ?_
      exact hK (_, 0, n) ⟨hT1, Or.inr ⟨rfl, hp2⟩⟩
  · obtain ⟨m1, is, x⟩ := a
    obtain ⟨hp1, hp2⟩ := hp
    dsimp only at hp1 hp2 ⊢
    have hT1 := rT_u hp1 (t g)
    rw [← htm] at hT1
    have hz : az_up m1 290 g (t g) = az_up m1 290 g (m 290 g) := by rw [htm]
    refine r_iload rfl ?_
    refine r_bipush ?_
    refine r_icmp_gt kX8_isRest_76 (fun c1 => ?_) (fun c1 => absurd c1 (by omega))
    refine r_aload_n rfl ?_
    refine r_getR g_279 rfl ?_
    refine r_iload_n rfl ?_
    refine r_iload_n rfl ?_
    refine r_iast g_290 (by decide) (by omega) (by omega) ?_
    refine r_iinc rfl (az_wid (by omega) (by omega)) rfl ?_
    refine r_goto kX8_isRest_4 ?_
    refine K _ is _ _ _ (by rw [hz]; exact hT1.1) (by rw [hz]; exact rT_back hT1) hp2
theorem c_X8_isRest (hD : rD m f t c sp) : az_C sc az_G 154 [.inr (.inr 280)] m (fun v m' => v = some (.inl (pRst f t c sp)) ∧ fr2 m m' ∧ m' 290 = m 290) := by
  have hn := nOK_2 hD.2.2.2.2.1
  have hD0 := hD
  refine r_iconst ?_
  refine r_istore_n (Nat.le_of_ble_eq_true rfl) rfl ?_
  refine r_iconst ?_
  refine r_istore_n (Nat.le_of_ble_eq_true rfl) rfl ?_
  skip
  refine az_lop (α := aM × Int × Option aV × Option aV × Option aV) (fun g a => [some (.inr (.inr 280)), some (.inl (a.2.1)), some (.inl (g)), a.2.2.1, a.2.2.2.1, a.2.2.2.2]) (fun a => a.1) (fun g a => fr2 m a.1 ∧ a.1 290 = m 290 ∧ (a.2.1 = 1 ∧ (∀ j, 0 ≤ j → j < g → pCon f t c sp j) ∨ a.2.1 = 0 ∧ ¬ ∀ j, 0 ≤ j → j < f 2 → pCon f t c sp j)) 0 (f 2) (m, 1, none, none, none) hn.1 ⟨fr2_r m, rfl, Or.inl ⟨rfl, fun j j0 j1 => by omega⟩⟩ (fun g a h0 h1 hp hK => ?_) (fun a hp => ?_)
  · obtain ⟨m1, is, o3, o4, o5⟩ := a
    obtain ⟨hp1, hp2, hp3⟩ := hp
    dsimp only at hp1 hp2 hp3 ⊢
    have hD1 : rD m1 f t c sp := rD_fr hD0 hp1 (by rw [hp2]; exact hD0.2.1) hD0.2.2.2.2.2.1
    rcases hp3 with ⟨rfl, hp3⟩ | ⟨rfl, hp3⟩
    · refine l_X8_isRest hD1 h0 h1 (fun m2 x o3 o4 o5 hf2 ht2 hx => ?_)
      refine hK (m2, x, _, _, _) ⟨fr2_t hp1 hf2, ht2.trans hp2, ?_⟩
      rcases hx with ⟨rfl, hx⟩ | ⟨rfl, hx⟩
      · refine Or.inl ⟨rfl, fun j j0 j1 => ?_⟩
        by_cases e : j = g
        · subst e; exact hx
        · exact hp3 j j0 (by omega)
      · exact Or.inr ⟨rfl, fun q => hx (q g h0 h1)⟩
    · have hf := hD1.1
      refine r_iload_n rfl ?_
      refine r_aload_n rfl ?_
      refine r_getR g_279 rfl ?_
      refine r_iconst ?_
      refine r_ialdx g_284 rfl (by omega) (by omega) (by omega) (congrFun hf _) ?_
      refine r_icmp_ge kX8_isRest_89 (fun c1 => absurd c1 (by omega)) (fun c1 => ?_)
      refine r_iload_n rfl ?_
      refine r_if_eq kX8_isRest_89 (fun c2 => ?_) (fun c2 => absurd c2 (by decide))
      refine r_iload_n rfl ?_
      refine r_zret rfl (by omega) ?_
      exact ⟨az_oI (pRst_0 hp3).symm, hp1, hp2⟩
  · obtain ⟨m1, is, o3, o4, o5⟩ := a
    obtain ⟨hp1, hp2, hp3⟩ := hp
    dsimp only at hp1 hp2 hp3 ⊢
    have hf : m1 284 = f := (hp1 _ (by decide) (by decide)).trans hD0.1
    have hv : is = pRst f t c sp := by
      rcases hp3 with ⟨rfl, hp3⟩ | ⟨rfl, hp3⟩
      · exact (pRst_1 hp3).symm
      · exact (pRst_0 hp3).symm
    have hvb := pRst_b f t c sp
    refine r_iload_n rfl ?_
    refine r_aload_n rfl ?_
    refine r_getR g_279 rfl ?_
    refine r_iconst ?_
    refine r_ialdx g_284 rfl (by omega) (by omega) (by omega) (congrFun hf _) ?_
    refine r_icmp_ge kX8_isRest_89 (fun c1 => ?_) (fun c1 => absurd c1 (by omega))
    refine r_iload_n rfl ?_
    refine r_zret rfl (by omega) ?_
    exact ⟨az_oI hv, hp1, hp2⟩
def pRndK (f c : Int → Int) (sp : Int) (t : Int → Int) (k : Int) : (Int → Int) × Int := az_F (fun g a => (up1 a.1 g (pBst f a.1 c sp g), if a.2 = 0 ∧ pBst f a.1 c sp g = a.1 g then 0 else 1)) (t, 0) k
def pTrn (f c : Int → Int) (sp : Int) : Nat → (Int → Int) → Int → (Int → Int) × Int
  | 0, t, _ => (t, -1000000)
  | k + 1, t, r => if (pRndK f c sp t (f 2)).2 = 0 then ((pRndK f c sp t (f 2)).1, r) else pTrn f c sp k (pRndK f c sp t (f 2)).1 (r + 1)
theorem pRndK_S (f c : Int → Int) (sp : Int) (t : Int → Int) {k : Int} (h : 0 ≤ k) : pRndK f c sp t (k + 1) = (up1 (pRndK f c sp t k).1 k (pBst f (pRndK f c sp t k).1 c sp k), if (pRndK f c sp t k).2 = 0 ∧ pBst f (pRndK f c sp t k).1 c sp k = (pRndK f c sp t k).1 k then 0 else 1) := az_FS _ _ h
theorem l_X8_turns {r : Int} {o2 o3 o4 : Option aV} (hD : rD m f t c sp) (hr : 1 ≤ r ∧ r ≤ 20) (K : ∀ m' o3 o4, fr2 m m' → rD m' f (pRndK f c sp t (f 2)).1 c sp → az_E sc az_G 143 zX8_turns_64 [some (.inr (.inr 280)), some (.inl (r)), some (.inl ((pRndK f c sp t (f 2)).2)), o3, o4] [] m' Q) : az_E sc az_G 143 zX8_turns_2 [some (.inr (.inr 280)), some (.inl (r)), o2, o3, o4] [] m Q := by
  have hn := nOK_2 hD.2.2.2.2.1
  refine r_iload_n rfl ?_
  refine r_bipush ?_
  refine r_icmp_gt kX8_turns_76 (fun c1 => absurd c1 (by omega)) (fun c1 => ?_)
  refine r_iconst ?_
  refine r_istore_n (Nat.le_of_ble_eq_true rfl) rfl ?_
  refine r_iconst ?_
  refine r_istore_n (Nat.le_of_ble_eq_true rfl) rfl ?_
  skip
  refine az_lop (α := aM × Int × Option aV) (fun g a => [some (.inr (.inr 280)), some (.inl (r)), some (.inl (a.2.1)), some (.inl (g)), a.2.2]) (fun a => a.1) (fun g a => fr2 m a.1 ∧ rD a.1 f (pRndK f c sp t g).1 c sp ∧ a.2.1 = (pRndK f c sp t g).2) 0 (f 2) (m, 0, o4) hn.1 ⟨fr2_r m, hD, rfl⟩ (fun g a h0 h1 hp hK => ?_) (fun a hp => ?_)
  · obtain ⟨m1, ch, o⟩ := a
    obtain ⟨hp1, hp2, hp3⟩ := hp
    dsimp only at hp1 hp2 hp3 ⊢
    have hS := pRndK_S f c sp t h0
    rw [← hp3] at hS
    have hb := pBst_b f (pRndK f c sp t g).1 c sp g
    have hD1 := hp2
    obtain ⟨hf, ht, hc, hs, hN, hT, hC, hsp⟩ := hp2
    refine r_iload_n rfl ?_
    refine r_aload_n rfl ?_
    refine r_getR g_279 rfl ?_
    refine r_iconst ?_
    refine r_ialdx g_284 rfl (by omega) (by omega) (by omega) (congrFun hf _) ?_
    refine r_icmp_ge kX8_turns_64 (fun c1 => absurd c1 (by omega)) (fun c1 => ?_)
    refine r_aload_n rfl ?_
    refine r_iload_n rfl ?_
    refine r_cV2 g_279 rfl (Nat.le_of_ble_eq_true rfl) (Nat.le_of_ble_eq_true rfl) (c_X8_bestOf hD1 h0 h1) (fun v_ m_ hq_ => ?_)
    obtain ⟨rfl, hfr, hto⟩ := hq_; have hD2 := rD_fr hD1 hfr (by rw [hto]; exact hD1.2.1) hD1.2.2.2.2.2.1; obtain ⟨hf, ht, hc, hs, hN, hT, hC, hsp⟩ := hD2; have hD2 := rD_fr hD1 hfr (by rw [hto]; exact hD1.2.1) hD1.2.2.2.2.2.1
    refine r_istore (Nat.le_of_ble_eq_true rfl) rfl ?_
    refine r_iload_n rfl ?_
    refine r_if_ne kX8_turns_44 (fun c2 => ?_) (fun c2 => ?_)
    · refine r_iconst ?_
      refine r_goto kX8_turns_49 ?_
      refine r_istore_n (Nat.le_of_ble_eq_true rfl) rfl ?_
      refine r_aload_n rfl ?_
      refine r_getR g_279 rfl ?_
      refine r_iload_n rfl ?_
      refine r_iload rfl ?_
      refine r_iast g_290 (by decide) (by omega) (by omega) ?_
      refine r_iinc rfl (az_wid (by omega) (by omega)) rfl ?_
      refine r_goto kX8_turns_12 ?_
      refine hK (_, _, _) ⟨fr2_t hp1 (fr2_t hfr (fr2_u _ _ _)), by rw [hS]; exact rD_u hD2 hb, ?_⟩; dsimp only; rw [hS]; dsimp only; first | rw [if_pos (by omega)] | rw [if_neg (by omega)]
    · refine r_iload rfl ?_
      refine r_aload_n rfl ?_
      refine r_getR g_279 rfl ?_
      refine r_iload_n rfl ?_
      refine r_ialdx g_290 rfl (by omega) (by omega) (by omega) (ht _ (by omega) (by omega)) ?_
      refine r_icmp_eq kX8_turns_48 (fun c3 => ?_) (fun c3 => ?_)
      · refine r_iconst ?_
        refine r_istore_n (Nat.le_of_ble_eq_true rfl) rfl ?_
        refine r_aload_n rfl ?_
        refine r_getR g_279 rfl ?_
        refine r_iload_n rfl ?_
        refine r_iload rfl ?_
        refine r_iast g_290 (by decide) (by omega) (by omega) ?_
        refine r_iinc rfl (az_wid (by omega) (by omega)) rfl ?_
        refine r_goto kX8_turns_12 ?_
        refine hK (_, _, _) ⟨fr2_t hp1 (fr2_t hfr (fr2_u _ _ _)), by rw [hS]; exact rD_u hD2 hb, ?_⟩; dsimp only; rw [hS]; dsimp only; first | rw [if_pos (by omega)] | rw [if_neg (by omega)]
      · refine r_iconst ?_
        refine r_goto kX8_turns_49 ?_
        refine r_istore_n (Nat.le_of_ble_eq_true rfl) rfl ?_
        refine r_aload_n rfl ?_
        refine r_getR g_279 rfl ?_
        refine r_iload_n rfl ?_
        refine r_iload rfl ?_
        refine r_iast g_290 (by decide) (by omega) (by omega) ?_
        refine r_iinc rfl (az_wid (by omega) (by omega)) rfl ?_
        refine r_goto kX8_turns_12 ?_
        refine hK (_, _, _) ⟨fr2_t hp1 (fr2_t hfr (fr2_u _ _ _)), by rw [hS]; exact rD_u hD2 hb, ?_⟩; dsimp only; rw [hS]; dsimp only; first | rw [if_pos (by omega)] | rw [if_neg (by omega)]
  · obtain ⟨m1, ch, o⟩ := a
    obtain ⟨hp1, hp2, hp3⟩ := hp
    dsimp only at hp1 hp2 hp3 ⊢
    subst hp3
    have hf := hp2.1
    refine r_iload_n rfl ?_
    refine r_aload_n rfl ?_
    refine r_getR g_279 rfl ?_
    refine r_iconst ?_
    refine r_ialdx g_284 rfl (by omega) (by omega) (by omega) (congrFun hf _) ?_
    refine r_icmp_ge kX8_turns_64 (fun c1 => ?_) (fun c1 => absurd c1 (by omega))
    exact K _ _ _ hp1 hp2
theorem c_X8_turns0 (hD : rD m f t c sp) : ∀ (k : Nat) (r : Int) (m1 : aM) (t1 : Int → Int) (o2 o3 o4 : Option aV), r = 21 - k → 1 ≤ r → fr2 m m1 → rD m1 f t1 c sp → az_E sc az_G 143 zX8_turns_2 [some (.inr (.inr 280)), some (.inl (r)), o2, o3, o4] [] m1 (fun v m' => v = some (.inl (pTrn f c sp k t1 r).2) ∧ fr2 m m' ∧ rD m' f (pTrn f c sp k t1 r).1 c sp) := by
  intro k
  induction k with
  | zero =>
    intro r m1 t1 o2 o3 o4 hr h1 hf hD1
    refine r_iload_n rfl ?_
    refine r_bipush ?_
    refine r_icmp_gt kX8_turns_76 (fun c1 => ?_) (fun c1 => absurd c1 (by omega))
    refine r_ldcI ?_
    refine r_iret rfl ?_
    exact ⟨rfl, hf, hD1⟩
  | succ k ih =>
    intro r m1 t1 o2 o3 o4 hr h1 hf hD1
    refine l_X8_turns hD1 (by omega) (fun m2 o3 o4 hf2 hD2 => ?_)
    by_cases e : (pRndK f c sp t1 (f 2)).2 = 0
    · have ep : pTrn f c sp (k + 1) t1 r = ((pRndK f c sp t1 (f 2)).1, r) := by
        show (if _ then _ else _) = _
        rw [if_pos e]
      rw [ep]
      refine r_iload_n rfl ?_
      refine r_if_ne kX8_turns_70 (fun c1 => absurd c1 (by omega)) (fun c1 => ?_)
      refine r_iload_n rfl ?_
      refine r_iret rfl ?_
      exact ⟨rfl, fr2_t hf hf2, hD2⟩
    · have ep : pTrn f c sp (k + 1) t1 r = pTrn f c sp k (pRndK f c sp t1 (f 2)).1 (r + 1) := by
        show (if _ then _ else _) = _
        rw [if_neg e]
      rw [ep]
      refine r_iload_n rfl ?_
      refine r_if_ne kX8_turns_70 (fun c1 => ?_) (fun c1 => absurd c1 (by omega))
      refine r_iinc rfl (az_wid (by omega) (by omega)) rfl ?_
      refine r_goto kX8_turns_2 ?_
      exact ih (r + 1) m2 _ _ _ _ (by omega) (by omega) (fr2_t hf hf2) hD2
theorem c_X8_turns (hD : rD m f t c sp) : az_C sc az_G 143 [.inr (.inr 280)] m (fun v m' => v = some (.inl (pTrn f c sp 20 t 1).2) ∧ fr2 m m' ∧ rD m' f (pTrn f c sp 20 t 1).1 c sp) := by
  refine r_iconst ?_
  refine r_istore_n (Nat.le_of_ble_eq_true rfl) rfl ?_
  exact c_X8_turns0 hD 20 1 m t none none none rfl (by decide) (fr2_r m) hD
theorem az_up_eq {m : aM} {a : Nat} {i v j x : Int} (h1 : j = i → v = x) (h2 : j ≠ i → m a j = x) : az_up m a i v a j = x := by
  unfold az_up
  by_cases e : j = i
  · rw [if_pos ⟨rfl, e⟩]; exact h1 e
  · rw [if_neg (fun q => e q.2)]; exact h2 e
def pSev (k : Int) : Int := az_F (fun _ a => a * 7) 1 k
theorem pSev_b {k : Int} (h0 : 0 ≤ k) (h1 : k ≤ 4) : 1 ≤ pSev k ∧ pSev k ≤ 2401 := by
  rcases (show k = 0 ∨ k = 1 ∨ k = 2 ∨ k = 3 ∨ k = 4 by omega) with rfl | rfl | rfl | rfl | rfl <;> decide
theorem pSev_b3 {k : Int} (h0 : 0 ≤ k) (h1 : k ≤ 3) : 1 ≤ pSev k ∧ pSev k ≤ 343 := by
  rcases (show k = 0 ∨ k = 1 ∨ k = 2 ∨ k = 3 by omega) with rfl | rfl | rfl | rfl <;> decide
theorem c_X8_rows (hf : m 284 = f) (hn : 0 ≤ f 2 ∧ f 2 ≤ 4) : az_CI sc 152 [.inr (.inr 280)] m (pSev (f 2)) m := by
  refine r_iconst ?_
  refine r_istore_n (Nat.le_of_ble_eq_true rfl) rfl ?_
  refine r_iconst ?_
  refine r_istore_n (Nat.le_of_ble_eq_true rfl) rfl ?_
  skip
  refine az_lop (α := Int) (fun g a => [some (.inr (.inr 280)), some (.inl (a)), some (.inl (g))]) (fun _ => m) (fun g a => a = pSev g) 0 (f 2) 1 hn.1 rfl (fun g a h0 h1 hp hK => ?_) (fun a hp => ?_)
  · have hS : pSev (g + 1) = pSev g * 7 := az_FS _ _ h0
    have hb := pSev_b3 h0 (by omega)
    refine r_iload_n rfl ?_
    refine r_aload_n rfl ?_
    refine r_getR g_279 rfl ?_
    refine r_iconst ?_
    refine r_ialdx g_284 rfl (by omega) (by omega) (by omega) (congrFun hf _) ?_
    refine r_icmp_ge kX8_rows_25 (fun c1 => absurd c1 (by omega)) (fun c1 => ?_)
    refine r_iload_n rfl ?_
    refine r_bipush ?_
    first | refine r_imul (az_wid (by omega) (by omega)) ?_ | refine r_imulw ?_
    refine r_istore_n (Nat.le_of_ble_eq_true rfl) rfl ?_
    refine r_iinc rfl (az_wid (by omega) (by omega)) rfl ?_
    refine r_goto kX8_rows_4 ?_
    exact hK _ (by omega)
  · refine r_iload_n rfl ?_
    refine r_aload_n rfl ?_
    refine r_getR g_279 rfl ?_
    refine r_iconst ?_
    refine r_ialdx g_284 rfl (by omega) (by omega) (by omega) (congrFun hf _) ?_
    refine r_icmp_ge kX8_rows_25 (fun c1 => ?_) (fun c1 => absurd c1 (by omega))
    refine r_iload_n rfl ?_
    refine r_iret rfl ?_
    exact ⟨az_oI hp, rfl⟩
def pLf (x k : Int) : Int := az_F (fun _ a => a / 7) x k
def pDg (n x g : Int) : Int := pLf x (n - 1 - g) % 7
theorem pDg_b (n x g : Int) : 0 ≤ pDg n x g ∧ pDg n x g ≤ 6 := by
  unfold pDg
  omega
theorem c_X8_tellBy {x : Int} (hf : m 284 = f) (hn : 0 ≤ f 2 ∧ f 2 ≤ 4) (hx : 0 ≤ x ∧ x ≤ 5000) : az_C sc az_G 153 [.inr (.inr 280), .inl x] m (fun v m' => v = none ∧ fr2 m m' ∧ ∀ g, 0 ≤ g → g < f 2 → m' 290 g = pDg (f 2) x g) := by
  refine r_iload_n rfl ?_
  refine r_istore_n (Nat.le_of_ble_eq_true rfl) rfl ?_
  refine r_aload_n rfl ?_
  refine r_getR g_279 rfl ?_
  refine r_iconst ?_
  refine r_ialdx g_284 rfl (by omega) (by omega) (by omega) (congrFun hf _) ?_
  refine r_iconst ?_
  first | refine r_isub (az_wid (by omega) (by omega)) ?_ | refine r_isubw ?_
  refine r_istore_n (Nat.le_of_ble_eq_true rfl) rfl ?_
  skip
  refine az_dwn (α := aM × Int) (fun g a => [some (.inr (.inr 280)), some (.inl (x)), some (.inl (a.2)), some (.inl (g))]) (fun a => a.1) (fun g a => fr2 m a.1 ∧ a.2 = pLf x (f 2 - 1 - g) ∧ (0 ≤ a.2 ∧ a.2 ≤ 5000) ∧ ∀ j, g < j → j < f 2 → a.1 290 j = pDg (f 2) x j) (f 2 - 1) (m, x) (by omega) ⟨fr2_r m, by rw [Int.sub_self]; rfl, hx, fun j j0 j1 => by omega⟩ (fun g a h0 h1 hp hK => ?_) (fun a hp => ?_)
  · obtain ⟨m1, l⟩ := a
    obtain ⟨hp1, hp2, hp3, hp4⟩ := hp
    dsimp only at hp1 hp2 hp3 hp4 ⊢
    have hS : pLf x (f 2 - 1 - g + 1) = pLf x (f 2 - 1 - g) / 7 := az_FS _ _ (by omega)
    have hmod : (l % 7) = pDg (f 2) x g := by unfold pDg; rw [← hp2]
    refine r_iload_n rfl ?_
    refine r_if_lt kX8_tellBy_36 (fun c1 => absurd c1 (by omega)) (fun c1 => ?_)
    refine r_aload_n rfl ?_
    refine r_getR g_279 rfl ?_
    refine r_iload_n rfl ?_
    refine r_iload_n rfl ?_
    refine r_bipush ?_
    first | refine r_irem (by omega) (az_modn (by omega)) ?_ | refine r_irem (by omega) rfl ?_
    refine r_iast g_290 (by decide) (by omega) (by omega) ?_
    refine r_iload_n rfl ?_
    refine r_bipush ?_
    first | refine r_idiv (by omega) (az_divn (by omega) (by omega) (by omega)) ?_ | refine r_idiv (by omega) rfl ?_
    refine r_istore_n (Nat.le_of_ble_eq_true rfl) rfl ?_
    refine r_iinc rfl (az_wid (by omega) (by omega)) rfl ?_
    refine r_goto kX8_tellBy_11 ?_
    refine hK (az_up m1 290 g (l % 7), l / 7) ⟨fr2_t hp1 (fr2_u _ _ _), by rw [show f 2 - 1 - (g - 1) = f 2 - 1 - g + 1 by omega, hS, ← hp2], by dsimp only; omega, fun j j0 j1 => az_up_eq (fun e => by rw [hmod, e]) (fun e => hp4 j (by omega) j1)⟩
  · obtain ⟨m1, l⟩ := a
    obtain ⟨hp1, hp2, hp3, hp4⟩ := hp
    dsimp only at hp1 hp2 hp3 hp4 ⊢
    refine r_iload_n rfl ?_
    refine r_if_lt kX8_tellBy_36 (fun c1 => ?_) (fun c1 => absurd c1 (by decide))
    refine r_vret rfl ?_
    exact ⟨rfl, hp1, fun g g0 g1 => hp4 g (by omega) g1⟩
end RD
