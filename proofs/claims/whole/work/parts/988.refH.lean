/-! THE REFERENCE: pact, alone -/
section RH
variable {sc : aX} {m : aM} {f t c : Int → Int} {sp : Int} {Q : Option aV → aM → Prop}
def tAB (t : Int → Int) (a b n : Int) : Int → Int := up1 (up1 t a n) b n
def pAgK (f t c : Int → Int) (sp a b k : Int) : Int := az_F (fun n r => if r = -1000000 ∧ (pWor f t c sp a < pWor f (tAB t a b n) c sp a ∧ pWor f t c sp b < pWor f (tAB t a b n) c sp b) then n else r) (-1000000) k
theorem pAgK_S (f t c : Int → Int) (sp a b : Int) {k : Int} (h : 0 ≤ k) : pAgK f t c sp a b (k + 1) = if pAgK f t c sp a b k = -1000000 ∧ (pWor f t c sp a < pWor f (tAB t a b k) c sp a ∧ pWor f t c sp b < pWor f (tAB t a b k) c sp b) then k else pAgK f t c sp a b k := az_FS _ _ h
theorem pAgK_b (f t c : Int → Int) (sp a b : Int) {k : Int} (h : 0 ≤ k) : pAgK f t c sp a b k = -1000000 ∨ (0 ≤ pAgK f t c sp a b k ∧ pAgK f t c sp a b k < k) := by
  refine az_Finv (s := fun n r => if r = -1000000 ∧ (pWor f t c sp a < pWor f (tAB t a b n) c sp a ∧ pWor f t c sp b < pWor f (tAB t a b n) c sp b) then n else r) (fun k r => r = -1000000 ∨ (0 ≤ r ∧ r < k)) h (Or.inl rfl) (fun g r h0 h1 hp => ?_)
  split <;> omega
theorem pAgK_k {f t c : Int → Int} {sp a b i k : Int} (h : 0 ≤ i) (hk : i ≤ k) (hi : pAgK f t c sp a b i ≠ -1000000) : pAgK f t c sp a b k = pAgK f t c sp a b i := by
  have H : ∀ n : Nat, pAgK f t c sp a b (i + n) = pAgK f t c sp a b i := by
    intro n
    induction n with
    | zero => simp
    | succ n ih =>
      have e : i + ((n + 1 : Nat) : Int) = (i + n) + 1 := by omega
      rw [e, pAgK_S f t c sp a b (by omega), ih, if_neg (fun q => hi q.1)]
  have := H (k - i).toNat
  have e : i + ((k - i).toNat : Int) = k := by omega
  rwa [e] at this
theorem tAB_t (t : Int → Int) (a b n k : Int) : tAB (tAB t a b k) a b n = tAB t a b n := by
  funext j
  unfold tAB up1
  (repeat' split) <;> rfl
theorem tAB_ok {f t : Int → Int} (h : tOK f t) {a b n : Int} (hn : 0 ≤ n ∧ n ≤ 6) : tOK f (tAB t a b n) := tOK_up (tOK_up h hn) hn
theorem tAB_a (t : Int → Int) (a b n : Int) : tAB t a b n a = n ∧ tAB t a b n b = n := by
  unfold tAB up1
  constructor
  · (repeat' split) <;> first | rfl | omega
  · rw [if_pos rfl]
theorem l_X8_pact1 {row a b w no : Int} (hD : rD m f t c sp) (ha : 0 ≤ a ∧ a < f 2) (hb : 0 ≤ b ∧ b < f 2) (K : ∀ m' n is t', fr2 m m' → rD m' f t' c sp → (is = 0 ∧ pAgK f t c sp a b 7 = -1000000 ∧ n = 7 ∨ is = 1 ∧ (0 ≤ pAgK f t c sp a b 7 ∧ pAgK f t c sp a b 7 ≤ 6) ∧ n = pAgK f t c sp a b 7 + 1 ∧ t' = tAB t a b (pAgK f t c sp a b 7)) → az_E sc az_G 158 zX8_pact_135 [some (.inr (.inr 280)), some (.inl (row)), some (.inl (a)), some (.inl (b)), some (.inl (w)), some (.inl (no)), some (.inl (pWor f t c sp a)), some (.inl (pWor f t c sp b)), some (.inl (n)), some (.inl (is)), none, none] [] m' Q) : az_E sc az_G 158 zX8_pact_74 [some (.inr (.inr 280)), some (.inl (row)), some (.inl (a)), some (.inl (b)), some (.inl (w)), some (.inl (no)), some (.inl (pWor f t c sp a)), some (.inl (pWor f t c sp b)), some (.inl (0)), some (.inl (0)), none, none] [] m Q := by
  have hN := hD.2.2.2.2.1
  have hn := nOK_2 hN
  refine az_lop (α := aM × (Int → Int)) (fun n _ => [some (.inr (.inr 280)), some (.inl (row)), some (.inl (a)), some (.inl (b)), some (.inl (w)), some (.inl (no)), some (.inl (pWor f t c sp a)), some (.inl (pWor f t c sp b)), some (.inl (n)), some (.inl (0)), none, none]) (fun a => a.1) (fun n x => fr2 m x.1 ∧ rD x.1 f x.2 c sp ∧ (∀ k, tAB x.2 a b k = tAB t a b k) ∧ pAgK f t c sp a b n = -1000000) 0 7 (m, t) (by decide) ⟨fr2_r m, hD, fun _ => rfl, rfl⟩ (fun n x h0 h1 hp hK => ?_) (fun x hp => ?_)
  · obtain ⟨m1, t1⟩ := x
    obtain ⟨hp1, hp2, hp3, hp4⟩ := hp
    dsimp only at hp1 hp2 hp3 hp4 ⊢
    have hS := pAgK_S f t c sp a b h0
    have hD1 := rD_u (g := b) (n := n) (rD_u (g := a) (n := n) hp2 (by omega)) (by omega)
    have e : up1 (up1 t1 a n) b n = tAB t a b n := hp3 n
    rw [e] at hD1
    have hfu : fr2 m (az_up (az_up m1 290 a n) 290 b n) := fr2_t hp1 (fr2_t (fr2_u _ _ _) (fr2_u _ _ _))
    have H0 : ∀ m2, fr2 m m2 → rD m2 f (tAB t a b n) c sp → ¬ (pWor f t c sp a < pWor f (tAB t a b n) c sp a ∧ pWor f t c sp b < pWor f (tAB t a b n) c sp b) → az_E sc az_G 158 zX8_pact_127 [some (.inr (.inr 280)), some (.inl (row)), some (.inl (a)), some (.inl (b)), some (.inl (w)), some (.inl (no)), some (.inl (pWor f t c sp a)), some (.inl (pWor f t c sp b)), some (.inl (n)), some (.inl (0)), none, none] [.inl 0] m2 Q := by
      intro m2 hf2 hD2 hno
      refine r_istore (Nat.le_of_ble_eq_true rfl) rfl ?_
      refine r_iinc rfl (az_wid (by omega) (by omega)) rfl ?_
      refine r_goto kX8_pact_74 ?_
      exact hK (m2, tAB t a b n) ⟨hf2, hD2, fun k => tAB_t t a b k n, by rw [hS, if_neg (fun q => hno q.2)]; exact hp4⟩
    have H1 : ∀ m2, fr2 m m2 → rD m2 f (tAB t a b n) c sp → (pWor f t c sp a < pWor f (tAB t a b n) c sp a ∧ pWor f t c sp b < pWor f (tAB t a b n) c sp b) → az_E sc az_G 158 zX8_pact_127 [some (.inr (.inr 280)), some (.inl (row)), some (.inl (a)), some (.inl (b)), some (.inl (w)), some (.inl (no)), some (.inl (pWor f t c sp a)), some (.inl (pWor f t c sp b)), some (.inl (n)), some (.inl (0)), none, none] [.inl 1] m2 Q := by
      intro m2 hf2 hD2 hyes
      have hfd : pAgK f t c sp a b (n + 1) = n := by rw [hS, if_pos ⟨hp4, hyes⟩]
      have hf7 : pAgK f t c sp a b 7 = n := by rw [pAgK_k (i := n + 1) (k := 7) (by omega) (by omega) (by omega), hfd]
      have K1 := K m2 (n + 1) 1 (tAB t a b n) hf2 hD2 (Or.inr ⟨rfl, by omega, by omega, by rw [hf7]⟩)
      refine r_istore (Nat.le_of_ble_eq_true rfl) rfl ?_
      refine r_iinc rfl (az_wid (by omega) (by omega)) rfl ?_
      refine r_goto kX8_pact_74 ?_
      refine r_iload rfl ?_
      refine r_bipush ?_
      refine r_icmp_gt kX8_pact_135 (fun c1 => ?_) (fun c1 => ?_)
      · exact K1
      · refine r_iload rfl ?_
        refine r_if_ne kX8_pact_135 (fun c2 => ?_) (fun c2 => absurd c2 (by decide))
        exact K1
    refine r_iload rfl ?_
    refine r_bipush ?_
    refine r_icmp_gt kX8_pact_135 (fun c1 => absurd c1 (by omega)) (fun c1 => ?_)
    refine r_iload rfl ?_
    refine r_if_ne kX8_pact_135 (fun c2 => absurd c2 (by decide)) (fun c2 => ?_)
    refine r_aload_n rfl ?_
    refine r_getR g_279 rfl ?_
    refine r_iload_n rfl ?_
    refine r_iload rfl ?_
    refine r_iast g_290 (by decide) (by omega) (by omega) ?_
    refine r_aload_n rfl ?_
    refine r_getR g_279 rfl ?_
    refine r_iload_n rfl ?_
    refine r_iload rfl ?_
    refine r_iast g_290 (by decide) (by omega) (by omega) ?_
    refine r_aload_n rfl ?_
    refine r_iload_n rfl ?_
    refine r_cV2 g_279 rfl (Nat.le_of_ble_eq_true rfl) (Nat.le_of_ble_eq_true rfl) (c_X8_worthOf2 hD1 ha.1 ha.2) (fun v_104 m_104 hq_104 => ?_)
    obtain ⟨rfl, hf_104, hD_104, ht_104⟩ := hq_104
    refine r_iload rfl ?_
    refine r_icmp_le kX8_pact_126 (fun c3 => ?_) (fun c3 => ?_)
    · refine r_iconst ?_
      first | exact H0 _ (fr2_t hfu (fr2_t hf_104 hf_114)) hD_114 (by omega) | exact H0 _ (fr2_t hfu hf_104) hD_104 (by omega) | exact H1 _ (fr2_t hfu (fr2_t hf_104 hf_114)) hD_114 ⟨by assumption, by assumption⟩
    · refine r_aload_n rfl ?_
      refine r_iload_n rfl ?_
      refine r_cV2 g_279 rfl (Nat.le_of_ble_eq_true rfl) (Nat.le_of_ble_eq_true rfl) (c_X8_worthOf2 hD_104 hb.1 hb.2) (fun v_114 m_114 hq_114 => ?_)
      obtain ⟨rfl, hf_114, hD_114, ht_114⟩ := hq_114
      refine r_iload rfl ?_
      refine r_icmp_le kX8_pact_126 (fun c4 => ?_) (fun c4 => ?_)
      · refine r_iconst ?_
        first | exact H0 _ (fr2_t hfu (fr2_t hf_104 hf_114)) hD_114 (by omega) | exact H0 _ (fr2_t hfu hf_104) hD_104 (by omega) | exact H1 _ (fr2_t hfu (fr2_t hf_104 hf_114)) hD_114 ⟨by assumption, by assumption⟩
      · refine r_iconst ?_
        refine r_goto kX8_pact_127 ?_
        first | exact H0 _ (fr2_t hfu (fr2_t hf_104 hf_114)) hD_114 (by omega) | exact H0 _ (fr2_t hfu hf_104) hD_104 (by omega) | exact H1 _ (fr2_t hfu (fr2_t hf_104 hf_114)) hD_114 ⟨by assumption, by assumption⟩
  · obtain ⟨m1, t1⟩ := x
    obtain ⟨hp1, hp2, hp3, hp4⟩ := hp
    dsimp only at hp1 hp2 hp3 hp4 ⊢
    refine r_iload rfl ?_
    refine r_bipush ?_
    refine r_icmp_gt kX8_pact_135 (fun c1 => ?_) (fun c1 => absurd c1 (by decide))
    exact K m1 7 0 t1 hp1 hp2 (Or.inl ⟨rfl, hp4, rfl⟩)
/-- whether a pact holds -/
theorem l_X8_pact2 {row a b w no n : Int} (hD : rD m f t c sp) (ha : 0 ≤ a ∧ a < f 2) (hb : 0 ≤ b ∧ b < f 2) (hta : t a = n) (htb : t b = n) (hn6 : 0 ≤ n ∧ n ≤ 6) (K : ∀ m' h, fr2 m m' → (h = 1 ∧ (pCon f t c sp a ∧ pCon f t c sp b) ∨ h = 0 ∧ ¬ (pCon f t c sp a ∧ pCon f t c sp b)) → az_E sc az_G 158 zX8_pact_270 [some (.inr (.inr 280)), some (.inl (row)), some (.inl (a)), some (.inl (b)), some (.inl (w)), some (.inl (no)), some (.inl (pWor f t c sp a)), some (.inl (pWor f t c sp b)), some (.inl (n)), some (.inl (1)), some (.inl (h)), some (.inl (7))] [] m' Q) : az_E sc az_G 158 zX8_pact_181 [some (.inr (.inr 280)), some (.inl (row)), some (.inl (a)), some (.inl (b)), some (.inl (w)), some (.inl (no)), some (.inl (pWor f t c sp a)), some (.inl (pWor f t c sp b)), some (.inl (n)), some (.inl (1)), some (.inl (1)), some (.inl (0))] [] m Q := by
  have hN := hD.2.2.2.2.1
  have hn := nOK_2 hN
  have eA : ∀ k, up1 (up1 t a k) a n = t := fun k => by rw [up1_up, ← hta, up1_id]
  have eB : ∀ k, up1 (up1 t b k) b n = t := fun k => by rw [up1_up, ← htb, up1_id]
  refine az_lop (α := aM × Int) (fun k x => [some (.inr (.inr 280)), some (.inl (row)), some (.inl (a)), some (.inl (b)), some (.inl (w)), some (.inl (no)), some (.inl (pWor f t c sp a)), some (.inl (pWor f t c sp b)), some (.inl (n)), some (.inl (1)), some (.inl (x.2)), some (.inl (k))]) (fun x => x.1) (fun k x => fr2 m x.1 ∧ rD x.1 f t c sp ∧ (x.2 = 1 ∧ (∀ j, 0 ≤ j → j < k → pW f t c sp a j ≤ pWor f t c sp a ∧ pW f t c sp b j ≤ pWor f t c sp b) ∨ x.2 = 0 ∧ ¬ (pCon f t c sp a ∧ pCon f t c sp b))) 0 7 (m, 1) (by decide) ⟨fr2_r m, hD, Or.inl ⟨rfl, fun j j0 j1 => by omega⟩⟩ (fun k x h0 h1 hp hK => ?_) (fun x hp => ?_)
  · obtain ⟨m1, h⟩ := x
    obtain ⟨hp1, hp2, hp3⟩ := hp
    dsimp only at hp1 hp2 hp3 ⊢
    have hD1 := rD_u (g := a) (n := k) hp2 (by omega)
    have H2 : ∀ m3 hx h3, fr2 m m3 → rD m3 f (up1 t b k) c sp → (h3 = 1 ∧ (∀ j, 0 ≤ j → j < k + 1 → pW f t c sp a j ≤ pWor f t c sp a ∧ pW f t c sp b j ≤ pWor f t c sp b) ∨ h3 = 0 ∧ ¬ (pCon f t c sp a ∧ pCon f t c sp b)) → az_E sc az_G 158 zX8_pact_254 [some (.inr (.inr 280)), some (.inl (row)), some (.inl (a)), some (.inl (b)), some (.inl (w)), some (.inl (no)), some (.inl (pWor f t c sp a)), some (.inl (pWor f t c sp b)), some (.inl (n)), some (.inl (1)), some (.inl (hx)), some (.inl (k))] [.inl h3] m3 Q := by
      intro m3 hx h3 hf3 hD3 hc3
      have hD4 := rD_u (g := b) (n := n) hD3 hn6
      rw [eB] at hD4
      refine r_istore (Nat.le_of_ble_eq_true rfl) rfl ?_
      refine r_aload_n rfl ?_
      refine r_getR g_279 rfl ?_
      refine r_iload_n rfl ?_
      refine r_iload rfl ?_
      refine r_iast g_290 (by decide) (by omega) (by omega) ?_
      refine r_iinc rfl (az_wid (by omega) (by omega)) rfl ?_
      refine r_goto kX8_pact_181 ?_
      exact hK (az_up m3 290 b n, h3) ⟨fr2_t hf3 (fr2_u _ _ _), hD4, hc3⟩
    have H1 : ∀ m2 hx h2, fr2 m m2 → rD m2 f (up1 t a k) c sp → (h2 = 1 ∧ (∀ j, 0 ≤ j → j < k → pW f t c sp a j ≤ pWor f t c sp a ∧ pW f t c sp b j ≤ pWor f t c sp b) ∧ pW f t c sp a k ≤ pWor f t c sp a ∨ h2 = 0 ∧ ¬ (pCon f t c sp a ∧ pCon f t c sp b)) → az_E sc az_G 158 zX8_pact_216 [some (.inr (.inr 280)), some (.inl (row)), some (.inl (a)), some (.inl (b)), some (.inl (w)), some (.inl (no)), some (.inl (pWor f t c sp a)), some (.inl (pWor f t c sp b)), some (.inl (n)), some (.inl (1)), some (.inl (hx)), some (.inl (k))] [.inl h2] m2 Q := by
      intro m2 hx h2 hf2 hD2 hc2
      have hD4 := rD_u (g := b) (n := k) (rD_u (g := a) (n := n) hD2 hn6) (by omega)
      rw [eA] at hD4
      have hf4 : fr2 m (az_up (az_up m2 290 a n) 290 b k) := fr2_t hf2 (fr2_t (fr2_u _ _ _) (fr2_u _ _ _))
      rcases hc2 with ⟨rfl, hc2, hc3⟩ | ⟨rfl, hc2⟩
      · refine r_istore (Nat.le_of_ble_eq_true rfl) rfl ?_
        refine r_aload_n rfl ?_
        refine r_getR g_279 rfl ?_
        refine r_iload_n rfl ?_
        refine r_iload rfl ?_
        refine r_iast g_290 (by decide) (by omega) (by omega) ?_
        refine r_aload_n rfl ?_
        refine r_getR g_279 rfl ?_
        refine r_iload_n rfl ?_
        refine r_iload rfl ?_
        refine r_iast g_290 (by decide) (by omega) (by omega) ?_
        refine r_iload rfl ?_
        refine r_if_eq kX8_pact_253 (fun c1 => absurd c1 (by decide)) (fun c1 => ?_)
        refine r_aload_n rfl ?_
        refine r_iload_n rfl ?_
        refine r_cV2 g_279 rfl (Nat.le_of_ble_eq_true rfl) (Nat.le_of_ble_eq_true rfl) (c_X8_worthOf2 hD4 hb.1 hb.2) (fun v_241 m_241 hq_241 => ?_)
        obtain ⟨rfl, hf_241, hD_241, ht_241⟩ := hq_241
        refine r_iload rfl ?_
        refine r_icmp_gt kX8_pact_253 (fun c2 => ?_) (fun c2 => ?_)
        · refine r_iconst ?_
          first | exact H2 _ _ 0 (fr2_t hf4 hf_241) hD_241 (Or.inr ⟨rfl, fun q => by have := q.2 k h0 h1; unfold pW at this; omega⟩) | exact H2 _ _ 1 (fr2_t hf4 hf_241) hD_241 (Or.inl ⟨rfl, fun j j0 j1 => if e : j = k then by rw [e]; exact ⟨hc3, by unfold pW; omega⟩ else hc2 j j0 (by omega)⟩)
        · refine r_iconst ?_
          refine r_goto kX8_pact_254 ?_
          first | exact H2 _ _ 0 (fr2_t hf4 hf_241) hD_241 (Or.inr ⟨rfl, fun q => by have := q.2 k h0 h1; unfold pW at this; omega⟩) | exact H2 _ _ 1 (fr2_t hf4 hf_241) hD_241 (Or.inl ⟨rfl, fun j j0 j1 => if e : j = k then by rw [e]; exact ⟨hc3, by unfold pW; omega⟩ else hc2 j j0 (by omega)⟩)
      · refine r_istore (Nat.le_of_ble_eq_true rfl) rfl ?_
        refine r_aload_n rfl ?_
        refine r_getR g_279 rfl ?_
        refine r_iload_n rfl ?_
        refine r_iload rfl ?_
        refine r_iast g_290 (by decide) (by omega) (by omega) ?_
        refine r_aload_n rfl ?_
        refine r_getR g_279 rfl ?_
        refine r_iload_n rfl ?_
        refine r_iload rfl ?_
        refine r_iast g_290 (by decide) (by omega) (by omega) ?_
        refine r_iload rfl ?_
        refine r_if_eq kX8_pact_253 (fun c1 => ?_) (fun c1 => absurd c1 (by decide))
        refine r_iconst ?_
        exact H2 _ _ 0 hf4 hD4 (Or.inr ⟨rfl, hc2⟩)
    have hf1 : fr2 m (az_up m1 290 a k) := fr2_t hp1 (fr2_u _ _ _)
    rcases hp3 with ⟨rfl, hp3⟩ | ⟨rfl, hp3⟩
    · refine r_iload rfl ?_
      refine r_bipush ?_
      refine r_icmp_gt kX8_pact_270 (fun c1 => absurd c1 (by omega)) (fun c1 => ?_)
      refine r_aload_n rfl ?_
      refine r_getR g_279 rfl ?_
      refine r_iload_n rfl ?_
      refine r_iload rfl ?_
      refine r_iast g_290 (by decide) (by omega) (by omega) ?_
      refine r_iload rfl ?_
      refine r_if_eq kX8_pact_215 (fun c2 => absurd c2 (by decide)) (fun c2 => ?_)
      refine r_aload_n rfl ?_
      refine r_iload_n rfl ?_
      refine r_cV2 g_279 rfl (Nat.le_of_ble_eq_true rfl) (Nat.le_of_ble_eq_true rfl) (c_X8_worthOf2 hD1 ha.1 ha.2) (fun v_203 m_203 hq_203 => ?_)
      obtain ⟨rfl, hf_203, hD_203, ht_203⟩ := hq_203
      refine r_iload rfl ?_
      refine r_icmp_gt kX8_pact_215 (fun c3 => ?_) (fun c3 => ?_)
      · refine r_iconst ?_
        first | exact H1 _ _ 0 (fr2_t hf1 hf_203) hD_203 (Or.inr ⟨rfl, fun q => by have := q.1 k h0 h1; unfold pW at this; omega⟩) | exact H1 _ _ 1 (fr2_t hf1 hf_203) hD_203 (Or.inl ⟨rfl, hp3, by unfold pW; omega⟩)
      · refine r_iconst ?_
        refine r_goto kX8_pact_216 ?_
        first | exact H1 _ _ 0 (fr2_t hf1 hf_203) hD_203 (Or.inr ⟨rfl, fun q => by have := q.1 k h0 h1; unfold pW at this; omega⟩) | exact H1 _ _ 1 (fr2_t hf1 hf_203) hD_203 (Or.inl ⟨rfl, hp3, by unfold pW; omega⟩)
    · refine r_iload rfl ?_
      refine r_bipush ?_
      refine r_icmp_gt kX8_pact_270 (fun c1 => absurd c1 (by omega)) (fun c1 => ?_)
      refine r_aload_n rfl ?_
      refine r_getR g_279 rfl ?_
      refine r_iload_n rfl ?_
      refine r_iload rfl ?_
      refine r_iast g_290 (by decide) (by omega) (by omega) ?_
      refine r_iload rfl ?_
      refine r_if_eq kX8_pact_215 (fun c2 => ?_) (fun c2 => absurd c2 (by decide))
      refine r_iconst ?_
      exact H1 _ _ 0 hf1 hD1 (Or.inr ⟨rfl, hp3⟩)
  · obtain ⟨m1, h⟩ := x
    obtain ⟨hp1, hp2, hp3⟩ := hp
    dsimp only at hp1 hp2 hp3 ⊢
    refine r_iload rfl ?_
    refine r_bipush ?_
    refine r_icmp_gt kX8_pact_270 (fun c1 => ?_) (fun c1 => absurd c1 (by decide))
    refine K m1 h hp1 ?_; rcases hp3 with ⟨e, hp3⟩ | hp3; exact Or.inl ⟨e, fun j j0 j1 => (hp3 j j0 j1).1, fun j j0 j1 => (hp3 j j0 j1).2⟩; exact Or.inr hp3
noncomputable def pPactV (f t c : Int → Int) (sp a b w : Int) : Int := if pAgK f t c sp a b 7 = -1000000 ∨ w = 0 then pAgK f t c sp a b 7 else @ite Int (pCon f (tAB t a b (pAgK f t c sp a b 7)) c sp a ∧ pCon f (tAB t a b (pAgK f t c sp a b 7)) c sp b) (Classical.propDecidable _) 1 0
theorem l_X8_pact3 {row a b w no : Int} {m0 : aM} {st : Int} (hm0 : frR m0 m ∧ m 279 3 = st) (hD : rD m f t c sp) (ha : 0 ≤ a ∧ a < f 2) (hb : 0 ≤ b ∧ b < f 2) : az_E sc az_G 158 zX8_pact_74 [some (.inr (.inr 280)), some (.inl (row)), some (.inl (a)), some (.inl (b)), some (.inl (w)), some (.inl (no)), some (.inl (pWor f t c sp a)), some (.inl (pWor f t c sp b)), some (.inl (0)), some (.inl (0)), none, none] [] m (qP m0 (pPactV f t c sp a b w) st) := by
  refine l_X8_pact1 hD ha hb (fun m1 n is t1 hf1 hD1 hc => ?_)
  have hfin : ∀ m2, fr2 m m2 → frR m0 m2 ∧ m2 279 3 = st := fun m2 h => ⟨frR_t hm0.1 (frR_2 h), (congrFun (h 279 (by decide) (by decide)) _).trans hm0.2⟩
  rcases hc with ⟨rfl, hc1, rfl⟩ | ⟨rfl, hc1, rfl, rfl⟩
  · have e : pPactV f t c sp a b w = -1000000 := by unfold pPactV; rw [if_pos (Or.inl hc1), hc1]
    rw [e]
    refine r_iinc rfl (az_wid (by omega) (by omega)) rfl ?_
    refine r_iload rfl ?_
    refine r_if_eq kX8_pact_148 (fun c1 => ?_) (fun c1 => absurd c1 (by decide))
    refine r_iload rfl ?_
    refine r_if_eq kX8_pact_158 (fun c2 => ?_) (fun c2 => absurd c2 (by decide))
    refine r_ldcI ?_
    refine r_iret rfl ?_
    exact ⟨rfl, hfin m1 hf1⟩
  · by_cases hw : w = 0
    · have e : pPactV f t c sp a b w = pAgK f t c sp a b 7 := by unfold pPactV; rw [if_pos (Or.inr hw)]
      rw [e]
      refine r_iinc rfl (az_wid (by omega) (by omega)) rfl ?_
      refine r_iload rfl ?_
      refine r_if_eq kX8_pact_148 (fun c1 => absurd c1 (by decide)) (fun c1 => ?_)
      refine r_iload rfl ?_
      refine r_if_ne kX8_pact_161 (fun c2 => absurd c2 (by omega)) (fun c2 => ?_)
      refine r_iload rfl ?_
      refine r_if_eq kX8_pact_158 (fun c3 => absurd c3 (by decide)) (fun c3 => ?_)
      refine r_iload rfl ?_
      refine r_goto kX8_pact_160 ?_
      refine r_iret rfl ?_
      exact ⟨az_oI (by omega), hfin m1 hf1⟩
    · have ht2 := tAB_a t a b (pAgK f t c sp a b 7)
      refine r_iinc rfl ((az_wid (by omega) (by omega)).trans (show pAgK f t c sp a b 7 + 1 + -1 = pAgK f t c sp a b 7 by omega)) rfl ?_
      refine r_iload rfl ?_
      refine r_if_eq kX8_pact_148 (fun c1 => absurd c1 (by decide)) (fun c1 => ?_)
      refine r_iload rfl ?_
      refine r_if_ne kX8_pact_161 (fun c2 => ?_) (fun c2 => absurd c2 (by omega))
      refine r_aload_n rfl ?_
      refine r_iload_n rfl ?_
      refine r_cV2 g_279 rfl (Nat.le_of_ble_eq_true rfl) (Nat.le_of_ble_eq_true rfl) (c_X8_worthOf2 hD1 ha.1 ha.2) (fun v_163 m_163 hq_163 => ?_)
      obtain ⟨rfl, hf_163, hD_163, ht_163⟩ := hq_163
      refine r_istore (Nat.le_of_ble_eq_true rfl) rfl ?_
      refine r_aload_n rfl ?_
      refine r_iload_n rfl ?_
      refine r_cV2 g_279 rfl (Nat.le_of_ble_eq_true rfl) (Nat.le_of_ble_eq_true rfl) (c_X8_worthOf2 hD_163 hb.1 hb.2) (fun v_170 m_170 hq_170 => ?_)
      obtain ⟨rfl, hf_170, hD_170, ht_170⟩ := hq_170
      refine r_istore (Nat.le_of_ble_eq_true rfl) rfl ?_
      refine r_iconst ?_
      refine r_istore (Nat.le_of_ble_eq_true rfl) rfl ?_
      refine r_iconst ?_
      refine r_istore (Nat.le_of_ble_eq_true rfl) rfl ?_
      skip
      refine l_X8_pact2 hD_170 ha hb ht2.1 ht2.2 hc1 (fun m4 h hf4 hc4 => ?_)
      have hf5 := hfin m4 (fr2_t hf1 (fr2_t hf_163 (fr2_t hf_170 hf4)))
      unfold pPactV
      rw [if_neg (by omega)]
      rcases hc4 with ⟨rfl, hc4⟩ | ⟨rfl, hc4⟩
      · rw [if_pos hc4]
        refine r_iload rfl ?_
        refine r_if_eq kX8_pact_279 (fun c1 => absurd c1 (by decide)) (fun c1 => ?_)
        refine r_iconst ?_
        refine r_goto kX8_pact_280 ?_
        refine r_iret rfl ?_
        exact ⟨rfl, hf5⟩
      · rw [if_neg hc4]
        refine r_iload rfl ?_
        refine r_if_eq kX8_pact_279 (fun c1 => ?_) (fun c1 => absurd c1 (by decide))
        refine r_iconst ?_
        refine r_iret rfl ?_
        exact ⟨rfl, hf5⟩
theorem c_X8_pact {row a b w : Int} (hN : nOK (m 284)) (hR : pRowsOK m) (hZ : m 279 7 = 0 ∨ m 279 7 = 1) : az_C sc az_G 158 [.inr (.inr 280), .inl row, .inl a, .inl b, .inl w] m (qP m (pOr (pTl m row (p01 ((0 ≤ a ∧ a ≤ m 284 2 - 1) ∧ (0 ≤ b ∧ b ≤ m 284 2 - 1) ∧ a ≠ b ∧ (0 ≤ w ∧ w ≤ 1))) 6).1 (pPactV (m 284) (pIt m row) (pPrice (m 284)) (m 284 0) a b w)) (pTl m row (p01 ((0 ≤ a ∧ a ≤ m 284 2 - 1) ∧ (0 ≤ b ∧ b ≤ m 284 2 - 1) ∧ a ≠ b ∧ (0 ≤ w ∧ w ≤ 1))) 6).2) := by
  have hn := nOK_2 hN
  have hf : m 284 = m 284 := rfl
  have H : ∀ good, good = p01 ((0 ≤ a ∧ a ≤ m 284 2 - 1) ∧ (0 ≤ b ∧ b ≤ m 284 2 - 1) ∧ a ≠ b ∧ (0 ≤ w ∧ w ≤ 1)) → az_E sc az_G 158 zX8_pact_39 [some (.inr (.inr 280)), some (.inl (row)), some (.inl (a)), some (.inl (b)), some (.inl (w)), none, none, none, none, none, none, none] [.inl good, .inl row, .inr (.inr 280)] m (qP m (pOr (pTl m row (p01 ((0 ≤ a ∧ a ≤ m 284 2 - 1) ∧ (0 ≤ b ∧ b ≤ m 284 2 - 1) ∧ a ≠ b ∧ (0 ≤ w ∧ w ≤ 1))) 6).1 (pPactV (m 284) (pIt m row) (pPrice (m 284)) (m 284 0) a b w)) (pTl m row (p01 ((0 ≤ a ∧ a ≤ m 284 2 - 1) ∧ (0 ≤ b ∧ b ≤ m 284 2 - 1) ∧ a ≠ b ∧ (0 ≤ w ∧ w ≤ 1))) 6).2) := by
    intro good hgo
    by_cases hno : (pTl m row (p01 ((0 ≤ a ∧ a ≤ m 284 2 - 1) ∧ (0 ≤ b ∧ b ≤ m 284 2 - 1) ∧ a ≠ b ∧ (0 ≤ w ∧ w ≤ 1))) 6).1 < 0
    · refine r_bipush ?_
      refine r_cV4 g_279 rfl (Nat.le_of_ble_eq_true rfl) (Nat.le_of_ble_eq_true rfl) (c_X8_tells hN hR hZ (by decide)) (fun v_ m_ hq_ => ?_)
      rw [hgo] at hq_; obtain ⟨hq1, hq2⟩ := hq_; obtain ⟨rfl, hq3, hq4⟩ := hq1
      refine r_istore (Nat.le_of_ble_eq_true rfl) rfl ?_
      refine r_iload rfl ?_
      refine r_if_ge kX8_pact_54 (fun c1 => absurd c1 (by omega)) (fun c1 => ?_)
      refine r_iload rfl ?_
      refine r_iret rfl ?_
      exact ⟨az_oI (by unfold pOr; rw [if_pos hno]), hq3, hq4⟩
    · have hz := pTl_z hno
      have hg := p01_e (pTl_g hno)
      have ep : ∀ y, pOr (pTl m row (p01 ((0 ≤ a ∧ a ≤ m 284 2 - 1) ∧ (0 ≤ b ∧ b ≤ m 284 2 - 1) ∧ a ≠ b ∧ (0 ≤ w ∧ w ≤ 1))) 6).1 y = y := fun y => by unfold pOr; rw [if_neg hno]
      rw [ep]
      refine r_bipush ?_
      refine r_cV4 g_279 rfl (Nat.le_of_ble_eq_true rfl) (Nat.le_of_ble_eq_true rfl) (c_X8_tells hN hR hZ (by decide)) (fun v_41 m_41 hq_41 => ?_)
      rw [hgo] at hq_41; obtain ⟨hq1, hq2⟩ := hq_41; obtain ⟨rfl, hq3, hq4⟩ := hq1; have hD := rD_tl hN hz hq3 (hq2 hz)
      refine r_istore (Nat.le_of_ble_eq_true rfl) rfl ?_
      refine r_iload rfl ?_
      refine r_if_ge kX8_pact_54 (fun c1 => ?_) (fun c1 => absurd c1 (by omega))
      refine r_aload_n rfl ?_
      refine r_iload_n rfl ?_
      refine r_cV2 g_279 rfl (Nat.le_of_ble_eq_true rfl) (Nat.le_of_ble_eq_true rfl) (c_X8_worthOf2 hD hg.1.1 (by omega)) (fun v_56 m_56 hq_56 => ?_)
      obtain ⟨rfl, hf_56, hD_56, ht_56⟩ := hq_56
      refine r_istore (Nat.le_of_ble_eq_true rfl) rfl ?_
      refine r_aload_n rfl ?_
      refine r_iload_n rfl ?_
      refine r_cV2 g_279 rfl (Nat.le_of_ble_eq_true rfl) (Nat.le_of_ble_eq_true rfl) (c_X8_worthOf2 hD_56 hg.2.1.1 (by omega)) (fun v_63 m_63 hq_63 => ?_)
      obtain ⟨rfl, hf_63, hD_63, ht_63⟩ := hq_63
      refine r_istore (Nat.le_of_ble_eq_true rfl) rfl ?_
      refine r_iconst ?_
      refine r_istore (Nat.le_of_ble_eq_true rfl) rfl ?_
      refine r_iconst ?_
      refine r_istore (Nat.le_of_ble_eq_true rfl) rfl ?_
      exact l_X8_pact3 ⟨frR_t hq3 (frR_t (frR_2 hf_56) (frR_2 hf_63)), (congrFun (hf_63 279 (by decide) (by decide)) _).trans ((congrFun (hf_56 279 (by decide) (by decide)) _).trans hq4)⟩ hD_63 (by omega) (by omega)
  refine r_aload_n rfl ?_
  refine r_iload_n rfl ?_
  refine r_aload_n rfl ?_
  refine r_iload_n rfl ?_
  refine r_cV2I g_279 rfl (Nat.le_of_ble_eq_true rfl) (Nat.le_of_ble_eq_true rfl) (c_X8_isGuest2 hf hn) ?_
  refine r_if_eq kX8_pact_38 (fun c1 => ?_) (fun c1 => ?_)
  · refine r_iconst ?_
    exact H _ (by unfold p01; first | rw [if_pos (by omega)] | rw [if_neg (by omega)])
  · refine r_aload_n rfl ?_
    refine r_iload_n rfl ?_
    refine r_cV2I g_279 rfl (Nat.le_of_ble_eq_true rfl) (Nat.le_of_ble_eq_true rfl) (c_X8_isGuest2 hf hn) ?_
    refine r_if_eq kX8_pact_38 (fun c2 => ?_) (fun c2 => ?_)
    · refine r_iconst ?_
      exact H _ (by unfold p01; first | rw [if_pos (by omega)] | rw [if_neg (by omega)])
    · refine r_iload_n rfl ?_
      refine r_iload_n rfl ?_
      refine r_icmp_eq kX8_pact_38 (fun c3 => ?_) (fun c3 => ?_)
      · refine r_iconst ?_
        exact H _ (by unfold p01; first | rw [if_pos (by omega)] | rw [if_neg (by omega)])
      · refine r_iload rfl ?_
        refine r_i2l ?_
        refine r_lconst0 ?_
        refine r_lconst1 ?_
        refine r_cS3I (by decide) (Nat.le_of_ble_eq_true rfl) (Nat.le_of_ble_eq_true rfl) (c_X8_in _ _ _) ?_
        refine r_if_eq kX8_pact_38 (fun c4 => ?_) (fun c4 => ?_)
        · refine r_iconst ?_
          exact H _ (by unfold p01; first | rw [if_pos (by omega)] | rw [if_neg (by omega)])
        · refine r_iconst ?_
          refine r_goto kX8_pact_39 ?_
          exact H _ (by unfold p01; first | rw [if_pos (by omega)] | rw [if_neg (by omega)])
end RH
