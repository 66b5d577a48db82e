/-! THE REFERENCE: joys, worths, the best hour -/
section RC
variable {sc : aX} {m : aM} {f t c : Int → Int} {sp : Int} {Q : Option aV → aM → Prop}
theorem az_oI {x y : Int} (h : x = y) : (some (Sum.inl x) : Option aV) = some (Sum.inl y) := by rw [h]
theorem az_oL {x y : Int} (h : x = y) : (some (Sum.inr (Sum.inl x)) : Option aV) = some (Sum.inr (Sum.inl y)) := by rw [h]
/-- the day that the reference has before it -/
def rD (m : aM) (f t c : Int → Int) (sp : Int) : Prop := m 284 = f ∧ (∀ g, 0 ≤ g → g < f 2 → m 290 g = t g) ∧ (∀ h, 0 ≤ h → h < 6 → m 291 h = c h) ∧ m 279 23 = sp ∧ nOK f ∧ tOK f t ∧ cOK c ∧ (0 ≤ sp ∧ sp ≤ 2)
/-- all cells but told and shares are as they were -/
def fr2 (m m' : aM) : Prop := ∀ b, b ≠ 290 → b ≠ 292 → m' b = m b
theorem fr2_r (m : aM) : fr2 m m := fun _ _ _ => rfl
theorem fr2_t {m m1 m2 : aM} (h1 : fr2 m m1) (h2 : fr2 m1 m2) : fr2 m m2 := fun b hb hb2 => (h2 b hb hb2).trans (h1 b hb hb2)
theorem fr2_s (m : aM) (s : Int → Int) : fr2 m (az_set m 292 s) := fun b _ hb => if_neg hb
theorem fr2_u (m : aM) (g n : Int) : fr2 m (az_up m 290 g n) := fun b hb _ => by
  funext j
  simp [az_up, hb]
theorem rD_fr {m m' : aM} {t' : Int → Int} (h : rD m f t c sp) (hf : fr2 m m') (ht : ∀ g, 0 ≤ g → g < f 2 → m' 290 g = t' g) (hT : tOK f t') : rD m' f t' c sp := by
  obtain ⟨h1, h2, h3, h4, h5, h6, h7, h8⟩ := h
  refine ⟨(hf _ (by decide) (by decide)).trans h1, ht, fun j h0 h1 => ?_, ?_, h5, hT, h7, h8⟩
  · rw [hf 291 (by decide) (by decide)]; exact h3 j h0 h1
  · rw [hf 279 (by decide) (by decide)]; exact h4
theorem rD_u {m : aM} {g n : Int} (h : rD m f t c sp) (hn : 0 ≤ n ∧ n ≤ 6) : rD (az_up m 290 g n) f (up1 t g n) c sp := by
  refine rD_fr h (fr2_u m g n) (fun j h0 h1 => ?_) (tOK_up h.2.2.2.2.2.1 hn)
  unfold az_up up1
  by_cases e : j = g
  · rw [if_pos ⟨rfl, e⟩, if_pos e]
  · rw [if_neg (fun q => e q.2), if_neg e]
    exact h.2.1 j h0 h1
theorem c_X8_payOf {g x : Int} (hf : m 284 = f) (ht : ∀ g, 0 ≤ g → g < f 2 → m 290 g = t g) (hN : nOK f) (hT : tOK f t) (hx : m 292 g = x) (hx2 : 0 ≤ x ∧ x ≤ 3000) (h0 : 0 ≤ g) (h1 : g < f 2) : az_CI sc 118 [.inr (.inr 280), .inl g] m (x + (if f (40 + g) = 1 then f 1 * t g else 0)) m := by
  have hn := nOK_2 hN
  have hfe := pFee_b (nOK_1 hN) (hT g h0 h1)
  refine r_aload_n rfl ?_
  refine r_getR g_279 rfl ?_
  refine r_iload_n rfl ?_
  refine r_ialdx g_292 rfl (by omega) (by omega) (by omega) (hx) ?_
  refine r_aload_n rfl ?_
  refine r_getR g_279 rfl ?_
  refine r_bipush ?_
  refine r_iload_n rfl ?_
  first | refine r_iadd (az_wid (by omega) (by omega)) ?_ | refine r_iaddw ?_
  refine r_ialdx g_284 rfl (by omega) (by omega) (by omega) (congrFun hf _) ?_
  refine r_iconst ?_
  refine r_icmp_ne kX8_payOf_35 (fun c1 => ?_) (fun c1 => ?_)
  · refine r_iconst ?_
    first | refine r_iadd (az_wid (by omega) (by omega)) ?_ | refine r_iaddw ?_
    refine r_iret rfl ?_
    refine ⟨az_oI ?_, rfl⟩; (repeat' split) <;> first | rfl | (exfalso; omega)
  · refine r_aload_n rfl ?_
    refine r_getR g_279 rfl ?_
    refine r_iconst ?_
    refine r_ialdx g_284 rfl (by omega) (by omega) (by omega) (congrFun hf _) ?_
    refine r_aload_n rfl ?_
    refine r_getR g_279 rfl ?_
    refine r_iload_n rfl ?_
    refine r_ialdx g_290 rfl (by omega) (by omega) (by omega) (ht _ (by omega) (by omega)) ?_
    refine r_imul (az_wid (by omega) (by omega)) ?_
    refine r_goto kX8_payOf_36 ?_
    first | refine r_iadd (az_wid (by omega) (by omega)) ?_ | refine r_iaddw ?_
    refine r_iret rfl ?_
    refine ⟨az_oI ?_, rfl⟩; (repeat' split) <;> first | rfl | (exfalso; omega)
theorem l_X8_joyOf {g h j : Int} (hf : m 284 = f) (ht : ∀ g, 0 ≤ g → g < f 2 → m 290 g = t g) (hN : nOK f) (hT : tOK f t) (h0 : 0 ≤ g) (h1 : g < f 2) (hj : j = pJ0 f g h) : az_E sc az_G 134 zX8_joyOf_62 [some (.inr (.inr 280)), some (.inl (g)), some (.inl (h)), some (.inl (f (12 + g))), some (.inl (f (16 + g))), none, none, none] [.inl j] m (fun v m' => v = some (.inl (pJoy f t g h)) ∧ m' = m) := by
  have hn := nOK_2 hN
  have hG := nOK_g hN g h0 h1
  have hJ := pJ0_b (h := h) hG.2.1
  refine r_istore (Nat.le_of_ble_eq_true rfl) rfl ?_
  refine r_iconst ?_
  refine r_istore (Nat.le_of_ble_eq_true rfl) rfl ?_
  refine r_iconst ?_
  refine r_istore (Nat.le_of_ble_eq_true rfl) rfl ?_
  skip
  refine az_lop (α := Int) (fun o a => [some (.inr (.inr 280)), some (.inl (g)), some (.inl (h)), some (.inl (f (12 + g))), some (.inl (f (16 + g))), some (.inl (j)), some (.inl (a)), some (.inl (o))]) (fun _ => m) (fun o a => a = pOth f t g h o) 0 (f 2) 0 hn.1 rfl (fun o a h2 h3 hp hK => ?_) (fun a hp => ?_)
  · have hS := pOth_S f t g h h2
    have hB := pOth_b f t g h h2
    rw [← hp] at hS hB
    refine r_iload rfl ?_
    refine r_aload_n rfl ?_
    refine r_getR g_279 rfl ?_
    refine r_iconst ?_
    refine r_ialdx g_284 rfl (by omega) (by omega) (by omega) (congrFun hf _) ?_
    refine r_icmp_ge kX8_joyOf_114 (fun c1 => absurd c1 (by omega)) (fun c1 => ?_)
    refine r_iload rfl ?_
    refine r_iload rfl ?_
    refine r_iload_n rfl ?_
    refine r_icmp_eq kX8_joyOf_104 (fun c2 => ?_) (fun c2 => ?_)
    · refine r_iconst ?_
      first | refine r_iadd (az_wid (by omega) (by omega)) ?_ | refine r_iaddw ?_
      refine r_istore (Nat.le_of_ble_eq_true rfl) rfl ?_
      refine r_iinc rfl (az_wid (by omega) (by omega)) rfl ?_
      refine r_goto kX8_joyOf_70 ?_
      refine hK _ (by rw [hS]; first | rw [if_pos (by omega)] | (rw [if_neg (by omega)]; omega))
    · refine r_aload_n rfl ?_
      refine r_getR g_279 rfl ?_
      refine r_iload rfl ?_
      refine r_ialdx g_290 rfl (by omega) (by omega) (by omega) (ht _ (by omega) (by omega)) ?_
      refine r_iload_n rfl ?_
      refine r_icmp_le kX8_joyOf_104 (fun c3 => ?_) (fun c3 => ?_)
      · refine r_iconst ?_
        first | refine r_iadd (az_wid (by omega) (by omega)) ?_ | refine r_iaddw ?_
        refine r_istore (Nat.le_of_ble_eq_true rfl) rfl ?_
        refine r_iinc rfl (az_wid (by omega) (by omega)) rfl ?_
        refine r_goto kX8_joyOf_70 ?_
        refine hK _ (by rw [hS]; first | rw [if_pos (by omega)] | (rw [if_neg (by omega)]; omega))
      · refine r_iconst ?_
        refine r_goto kX8_joyOf_105 ?_
        first | refine r_iadd (az_wid (by omega) (by omega)) ?_ | refine r_iaddw ?_
        refine r_istore (Nat.le_of_ble_eq_true rfl) rfl ?_
        refine r_iinc rfl (az_wid (by omega) (by omega)) rfl ?_
        refine r_goto kX8_joyOf_70 ?_
        refine hK _ (by rw [hS]; first | rw [if_pos (by omega)] | (rw [if_neg (by omega)]; omega))
  · have hB := pOth_b f t g h hn.1
    rw [← hp] at hB
    refine r_iload rfl ?_
    refine r_aload_n rfl ?_
    refine r_getR g_279 rfl ?_
    refine r_iconst ?_
    refine r_ialdx g_284 rfl (by omega) (by omega) (by omega) (congrFun hf _) ?_
    refine r_icmp_ge kX8_joyOf_114 (fun c1 => ?_) (fun c1 => absurd c1 (by omega))
    refine r_iload_n rfl ?_
    refine r_iconst ?_
    refine r_icmp_ne kX8_joyOf_134 (fun c2 => ?_) (fun c2 => ?_)
    · refine r_iload_n rfl ?_
      refine r_iconst ?_
      refine r_icmp_ne kX8_joyOf_147 (fun c3 => ?_) (fun c3 => ?_)
      · refine r_iload_n rfl ?_
        refine r_iconst ?_
        refine r_icmp_lt kX8_joyOf_160 (fun c4 => ?_) (fun c4 => ?_)
        · refine r_iload rfl ?_
          refine r_iret rfl ?_
          refine ⟨az_oI ?_, rfl⟩; rw [pJoy_e, ← hp]; unfold pJoyA; rw [← hj]; (repeat' split) <;> omega
        · refine r_iload rfl ?_
          refine r_iload rfl ?_
          first | refine r_isub (az_wid (by omega) (by omega)) ?_ | refine r_isubw ?_
          refine r_goto kX8_joyOf_162 ?_
          refine r_iret rfl ?_
          refine ⟨az_oI ?_, rfl⟩; rw [pJoy_e, ← hp]; unfold pJoyA; rw [← hj]; (repeat' split) <;> omega
      · refine r_iload rfl ?_
        refine r_iload rfl ?_
        first | refine r_iadd (az_wid (by omega) (by omega)) ?_ | refine r_iaddw ?_
        refine r_goto kX8_joyOf_162 ?_
        refine r_iret rfl ?_
        refine ⟨az_oI ?_, rfl⟩; rw [pJoy_e, ← hp]; unfold pJoyA; rw [← hj]; (repeat' split) <;> omega
    · refine r_iload_n rfl ?_
      refine r_iconst ?_
      refine r_icmp_ge kX8_joyOf_131 (fun c5 => ?_) (fun c5 => ?_)
      · refine r_iload rfl ?_
        refine r_iret rfl ?_
        refine ⟨az_oI ?_, rfl⟩; rw [pJoy_e, ← hp]; unfold pJoyA; rw [← hj]; (repeat' split) <;> omega
      · refine r_iconst ?_
        refine r_iload rfl ?_
        first | refine r_imul (az_wid (by omega) (by omega)) ?_ | refine r_imulw ?_
        refine r_goto kX8_joyOf_133 ?_
        refine r_iret rfl ?_
        refine ⟨az_oI ?_, rfl⟩; rw [pJoy_e, ← hp]; unfold pJoyA; rw [← hj]; (repeat' split) <;> omega
theorem c_X8_joyOf {g h : Int} (hf : m 284 = f) (ht : ∀ g, 0 ≤ g → g < f 2 → m 290 g = t g) (hN : nOK f) (hT : tOK f t) (h0 : 0 ≤ g) (h1 : g < f 2) : az_CI sc 134 [.inr (.inr 280), .inl g, .inl h] m (pJoy f t g h) m := by
  have hn := nOK_2 hN
  have hG := nOK_g hN g h0 h1
  refine r_aload_n rfl ?_
  refine r_getR g_279 rfl ?_
  refine r_bipush ?_
  refine r_iload_n rfl ?_
  first | refine r_iadd (az_wid (by omega) (by omega)) ?_ | refine r_iaddw ?_
  refine r_ialdx g_284 rfl (by omega) (by omega) (by omega) (congrFun hf _) ?_
  refine r_istore_n (Nat.le_of_ble_eq_true rfl) rfl ?_
  refine r_aload_n rfl ?_
  refine r_getR g_279 rfl ?_
  refine r_bipush ?_
  refine r_iload_n rfl ?_
  first | refine r_iadd (az_wid (by omega) (by omega)) ?_ | refine r_iaddw ?_
  refine r_ialdx g_284 rfl (by omega) (by omega) (by omega) (congrFun hf _) ?_
  refine r_istore (Nat.le_of_ble_eq_true rfl) rfl ?_
  refine r_aload_n rfl ?_
  refine r_getR g_279 rfl ?_
  refine r_bipush ?_
  refine r_iload_n rfl ?_
  first | refine r_iadd (az_wid (by omega) (by omega)) ?_ | refine r_iaddw ?_
  refine r_ialdx g_284 rfl (by omega) (by omega) (by omega) (congrFun hf _) ?_
  refine r_iconst ?_
  refine r_icmp_ne kX8_joyOf_41 (fun c1 => ?_) (fun c1 => ?_)
  · refine r_iload_n rfl ?_
    refine r_aload_n rfl ?_
    refine r_getR g_279 rfl ?_
    refine r_bipush ?_
    refine r_iload_n rfl ?_
    first | refine r_iadd (az_wid (by omega) (by omega)) ?_ | refine r_iaddw ?_
    refine r_ialdx g_284 rfl (by omega) (by omega) (by omega) (congrFun hf _) ?_
    refine r_icmp_lt kX8_joyOf_60 (fun c2 => ?_) (fun c2 => ?_)
    · refine r_iload rfl ?_
      exact l_X8_joyOf hf ht hN hT h0 h1 (by unfold pJ0; (repeat' split) <;> first | rfl | omega)
    · refine r_iload rfl ?_
      first | refine r_ineg (az_wid (by omega) (by omega)) ?_ | refine r_ineg rfl ?_
      refine r_goto kX8_joyOf_62 ?_
      exact l_X8_joyOf hf ht hN hT h0 h1 (by unfold pJ0; (repeat' split) <;> first | rfl | omega)
  · refine r_iload rfl ?_
    refine r_iconst ?_
    first | refine r_idiv (by omega) (az_divn (by omega) (by omega) (by omega)) ?_ | refine r_idiv (by omega) rfl ?_
    refine r_goto kX8_joyOf_62 ?_
    exact l_X8_joyOf hf ht hN hT h0 h1 (by unfold pJ0; (repeat' split) <;> first | rfl | omega)
theorem c_X8_worthOf {g : Int} (hD : rD m f t c sp) (h0 : 0 ≤ g) (h1 : g < f 2) : az_C sc az_G 135 [.inr (.inr 280), .inl g] m (fun v m' => v = some (.inl (pWor f t c sp g)) ∧ ∃ s', m' = az_set m 292 s' ∧ ∀ g, 0 ≤ g → g < f 2 → s' g = pShr f t c sp g) := by
  obtain ⟨hf, ht, hc, hs, hN, hT, hC, hsp⟩ := hD
  have hn := nOK_2 hN
  have hG := nOK_g hN g h0 h1
  have hb := pShr_b (sp := sp) hn hT hC h0 h1
  have hpb := pPay_b (sp := sp) hn (nOK_1 hN) hT hC h0 h1
  have htg := hT g h0 h1
  refine r_aload_n rfl ?_
  refine r_cV1 g_279 rfl (Nat.le_of_ble_eq_true rfl) (Nat.le_of_ble_eq_true rfl) (c_X8_share hf ht hc hs hn hT hC hsp) (fun v_ m_ hq_ => ?_)
  obtain ⟨rfl, s1, rfl, hs1⟩ := hq_
  refine r_aload_n rfl ?_
  refine r_iload_n rfl ?_
  refine r_cV2I g_279 rfl (Nat.le_of_ble_eq_true rfl) (Nat.le_of_ble_eq_true rfl) (show az_CI _ _ _ (az_set m 292 s1) (pPay f t c sp g) (az_set m 292 s1) from c_X8_payOf hf ht hN hT (hs1 g h0 h1) hb h0 h1) ?_
  first | refine r_ineg (az_wid (by omega) (by omega)) ?_ | refine r_ineg rfl ?_
  refine r_istore_n (Nat.le_of_ble_eq_true rfl) rfl ?_
  refine r_iconst ?_
  refine r_istore_n (Nat.le_of_ble_eq_true rfl) rfl ?_
  skip
  refine az_lop (α := Int) (fun h a => [some (.inr (.inr 280)), some (.inl (g)), some (.inl (a)), some (.inl (h))]) (fun _ => az_set m 292 s1) (fun h a => a = pJoys f t g h - pPay f t c sp g) 0 (t g) _ htg.1 (by have e : pJoys f t g 0 = 0 := rfl; rw [e]; omega) (fun h a h2 h3 hp hK => ?_) (fun a hp => ?_)
  · have hS := pJoys_S f t g h2
    have hB := pJoys_b (t := t) hn hG.2.1 h2
    have hB2 := pJoy_b (t := t) (h := h) hn hG.2.1
    refine r_iload_n rfl ?_
    refine r_aload_n rfl ?_
    refine r_getR g_279 rfl ?_
    refine r_iload_n rfl ?_
    refine r_ialdx g_290 rfl (by omega) (by omega) (by omega) (ht _ (by omega) (by omega)) ?_
    refine r_icmp_ge kX8_worthOf_38 (fun c1 => absurd c1 (by omega)) (fun c1 => ?_)
    refine r_iload_n rfl ?_
    refine r_aload_n rfl ?_
    refine r_iload_n rfl ?_
    refine r_iload_n rfl ?_
    refine r_cV3I g_279 rfl (Nat.le_of_ble_eq_true rfl) (Nat.le_of_ble_eq_true rfl) (c_X8_joyOf hf ht hN hT h0 h1) ?_
    first | refine r_iadd (az_wid (by omega) (by omega)) ?_ | refine r_iaddw ?_
    refine r_istore_n (Nat.le_of_ble_eq_true rfl) rfl ?_
    refine r_iinc rfl (az_wid (by omega) (by omega)) rfl ?_
    refine r_goto kX8_worthOf_13 ?_
    exact hK _ (by omega)
  · refine r_iload_n rfl ?_
    refine r_aload_n rfl ?_
    refine r_getR g_279 rfl ?_
    refine r_iload_n rfl ?_
    refine r_ialdx g_290 rfl (by omega) (by omega) (by omega) (ht _ (by omega) (by omega)) ?_
    refine r_icmp_ge kX8_worthOf_38 (fun c1 => ?_) (fun c1 => absurd c1 (by omega))
    refine r_iload_n rfl ?_
    refine r_iret rfl ?_
    exact ⟨az_oI hp, s1, rfl, hs1⟩
/-- the same, as callers want it -/
theorem c_X8_worthOf2 {g : Int} (hD : rD m f t c sp) (h0 : 0 ≤ g) (h1 : g < f 2) : az_C sc az_G 135 [.inr (.inr 280), .inl g] m (fun v m' => v = some (.inl (pWor f t c sp g)) ∧ fr2 m m' ∧ rD m' f t c sp ∧ m' 290 = m 290) := by
  refine az_C_mono (c_X8_worthOf hD h0 h1) (fun v m' hq => ?_)
  obtain ⟨rfl, s', rfl, _⟩ := hq
  exact ⟨rfl, fr2_s m s', rD_fr hD (fr2_s m s') hD.2.1 hD.2.2.2.2.2.1, rfl⟩
theorem pBstK_S (f t c : Int → Int) (sp g : Int) {k : Int} (h : 0 ≤ k) : pBstK f t c sp g (k + 1) = if k = 0 ∨ pW f t c sp g (pBstK f t c sp g k) < pW f t c sp g k then k else pBstK f t c sp g k := az_FS _ _ h
theorem az_upup (m : aM) (a : Nat) (i v w : Int) : az_up (az_up m a i v) a i w = az_up m a i w := by
  funext b j
  simp only [az_up]
  split <;> rfl
/-- told is as it was, but one place -/
def rT (m m' : aM) (g n : Int) : Prop := fr2 m m' ∧ m' 290 = up1 (m 290) g n
theorem rT_u {m m' : aM} {g n : Int} (h : rT m m' g n) (k : Int) : rT m (az_up m' 290 g k) g k := by
  refine ⟨fr2_t h.1 (fr2_u m' g k), ?_⟩
  funext j
  have := congrFun h.2 j
  unfold az_up up1 at *
  by_cases e : j = g
  · rw [if_pos ⟨rfl, e⟩, if_pos e]
  · rw [if_neg (fun q => e q.2), if_neg e, this, if_neg e]
theorem rT_f {m m1 m2 : aM} {g n : Int} (h : rT m m1 g n) (hf : fr2 m1 m2) (ht : m2 290 = m1 290) : rT m m2 g n := ⟨fr2_t h.1 hf, ht.trans h.2⟩
theorem rT_0 (m : aM) (g : Int) : rT m m g (m 290 g) := ⟨fr2_r m, (up1_id _ _).symm⟩
theorem rT_D {m m' : aM} {g n : Int} (hD : rD m f t c sp) (h : rT m m' g n) (hn : 0 ≤ n ∧ n ≤ 6) : rD m' f (up1 t g n) c sp := by
  refine rD_fr hD h.1 (fun j h0 h1 => ?_) (tOK_up hD.2.2.2.2.2.1 hn)
  rw [h.2]
  unfold up1
  split
  · rfl
  · exact hD.2.1 j h0 h1
theorem rT_back {m m' : aM} {g : Int} (h : rT m m' g (m 290 g)) : m' 290 = m 290 := h.2.trans (up1_id _ _)
theorem c_X8_bestOf {g : Int} (hD : rD m f t c sp) (h0 : 0 ≤ g) (h1 : g < f 2) : az_C sc az_G 139 [.inr (.inr 280), .inl g] m (fun v m' => v = some (.inl (pBst f t c sp g)) ∧ fr2 m m' ∧ m' 290 = m 290) := by
  have hD0 := hD
  obtain ⟨hf, ht, hc, hs, hN, hT, hC, hsp⟩ := hD
  have hn := nOK_2 hN
  have htg := hT g h0 h1
  have htm := ht g h0 h1
  refine r_aload_n rfl ?_
  refine r_getR g_279 rfl ?_
  refine r_iload_n rfl ?_
  refine r_ialdx g_290 rfl (by omega) (by omega) (by omega) (ht _ (by omega) (by omega)) ?_
  refine r_istore_n (Nat.le_of_ble_eq_true rfl) rfl ?_
  refine r_iconst ?_
  refine r_istore_n (Nat.le_of_ble_eq_true rfl) rfl ?_
  refine r_iconst ?_
  refine r_istore (Nat.le_of_ble_eq_true rfl) rfl ?_
  refine r_iconst ?_
  refine r_istore (Nat.le_of_ble_eq_true rfl) rfl ?_
  skip
  refine az_lop (α := aM × Int × Int × Int × Option aV) (fun n a => [some (.inr (.inr 280)), some (.inl (g)), some (.inl (t g)), some (.inl (a.2.1)), some (.inl (a.2.2.1)), some (.inl (n)), a.2.2.2.2]) (fun a => a.1) (fun n a => rT m a.1 g a.2.2.2.1 ∧ a.2.1 = pBstK f t c sp g n ∧ (n = 0 ∨ a.2.2.1 = pW f t c sp g a.2.1) ∧ (0 ≤ a.2.1 ∧ a.2.1 ≤ 6)) 0 7 (m, 0, 0, m 290 g, none) (by decide) ⟨rT_0 m g, rfl, Or.inl rfl, by dsimp only; omega⟩ (fun n a h2 h3 hp hK => ?_) (fun a hp => ?_)
  · obtain ⟨m1, b, w, x, o⟩ := a
    obtain ⟨hp1, hp2, hp3, hp4⟩ := hp
    dsimp only at hp1 hp2 hp3 hp4 ⊢
    have hS := pBstK_S f t c sp g h2
    rw [← hp2] at hS
    have hT1 := rT_u hp1 n
    have hD1 := rT_D hD0 hT1 (by omega)
    have hwb := pWor_b (sp := sp) hN (tOK_up hT (g := g) (n := n) (by omega)) hC h0 h1
    have hwb2 := pWor_b (sp := sp) hN (tOK_up hT (g := g) (n := b) hp4) hC h0 h1
    refine r_iload rfl ?_
    refine r_bipush ?_
    refine r_icmp_gt kX8_bestOf_62 (fun c1 => absurd c1 (by omega)) (fun c1 => ?_)
    refine r_aload_n rfl ?_
    refine r_getR g_279 rfl ?_
    refine r_iload_n rfl ?_
    refine r_iload rfl ?_
    refine r_iast g_290 (by decide) (by omega) (by omega) ?_
    refine r_aload_n rfl ?_
    refine r_iload_n rfl ?_
    refine r_cV2 g_279 rfl (Nat.le_of_ble_eq_true rfl) (Nat.le_of_ble_eq_true rfl) (c_X8_worthOf2 hD1 h0 h1) (fun v_ m_ hq_ => ?_)
    obtain ⟨rfl, hfr, hD2, hto⟩ := hq_
    refine r_istore (Nat.le_of_ble_eq_true rfl) rfl ?_
    refine r_iload rfl ?_
    refine r_if_eq kX8_bestOf_49 (fun c2 => ?_) (fun c2 => ?_)
    · refine r_iload rfl ?_
      refine r_istore_n (Nat.le_of_ble_eq_true rfl) rfl ?_
      refine r_iload rfl ?_
      refine r_istore (Nat.le_of_ble_eq_true rfl) rfl ?_
      refine r_iinc rfl (az_wid (by omega) (by omega)) rfl ?_
      refine r_goto kX8_bestOf_15 ?_
      exact hK (m_, _, _, n, _) ⟨rT_f hT1 hfr hto, by dsimp only; rw [hS]; unfold pW; unfold pW at hp3; first | rw [if_pos (by omega)] | rw [if_neg (by omega)], by dsimp only; unfold pW; unfold pW at hp3; first | exact Or.inr rfl | exact Or.inr (by omega), by dsimp only; omega⟩
    · refine r_iload rfl ?_
      refine r_iload rfl ?_
      refine r_icmp_le kX8_bestOf_56 (fun c3 => ?_) (fun c3 => ?_)
      · refine r_iinc rfl (az_wid (by omega) (by omega)) rfl ?_
        refine r_goto kX8_bestOf_15 ?_
        exact hK (m_, _, _, n, _) ⟨rT_f hT1 hfr hto, by dsimp only; rw [hS]; unfold pW; unfold pW at hp3; first | rw [if_pos (by omega)] | rw [if_neg (by omega)], by dsimp only; unfold pW; unfold pW at hp3; first | exact Or.inr rfl | exact Or.inr (by omega), by dsimp only; omega⟩
      · refine r_iload rfl ?_
        refine r_istore_n (Nat.le_of_ble_eq_true rfl) rfl ?_
        refine r_iload rfl ?_
        refine r_istore (Nat.le_of_ble_eq_true rfl) rfl ?_
        refine r_iinc rfl (az_wid (by omega) (by omega)) rfl ?_
        refine r_goto kX8_bestOf_15 ?_
        exact hK (m_, _, _, n, _) ⟨rT_f hT1 hfr hto, by dsimp only; rw [hS]; unfold pW; unfold pW at hp3; first | rw [if_pos (by omega)] | rw [if_neg (by omega)], by dsimp only; unfold pW; unfold pW at hp3; first | exact Or.inr rfl | exact Or.inr (by omega), by dsimp only; omega⟩
  · obtain ⟨m1, b, w, x, o⟩ := a
    obtain ⟨hp1, hp2, hp3, hp4⟩ := hp
    dsimp only at hp1 hp2 hp3 hp4 ⊢
    have hT1 := rT_u hp1 (t g)
    rw [← htm] at hT1
    refine r_iload rfl ?_
    refine r_bipush ?_
    refine r_icmp_gt kX8_bestOf_62 (fun c1 => ?_) (fun c1 => absurd c1 (by omega))
    refine r_aload_n rfl ?_
    refine r_getR g_279 rfl ?_
    refine r_iload_n rfl ?_
    refine r_iload_n rfl ?_
    refine r_iast g_290 (by decide) (by omega) (by omega) ?_
    refine r_iload_n rfl ?_
    refine r_iret rfl ?_
    exact ⟨az_oI hp2, by rw [← htm]; exact hT1.1, by rw [← htm]; exact rT_back hT1⟩
end RC
