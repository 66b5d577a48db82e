/-! THE REFERENCE: share, worth, best -/
section RB
variable {sc : aX} {m : aM} {f t c : Int → Int} {sp : Int} {Q : Option aV → aM → Prop}
theorem pByH_e {f t c : Int → Int} {g k : Int} (h0 : 0 ≤ t g) (hk : t g ≤ k) : pByH f t c g k = pByH f t c g (t g) := by
  have H : ∀ n : Nat, pByH f t c g (t g + n) = pByH f t c g (t g) := by
    intro n
    induction n with
    | zero => simp
    | succ n ih =>
      have e : t g + ((n + 1 : Nat) : Int) = (t g + n) + 1 := by omega
      rw [e, pByH_S f t c g (by omega), ih, pAlk_e, if_neg (by omega)]
      omega
  have := H (k - t g).toNat
  have e : t g + ((k - t g).toNat : Int) = k := by omega
  rwa [e] at this
theorem pFst_S (t : Int → Int) (L : Int) {k : Int} (h : 0 ≤ k) : pFst t L (k + 1) = if pFst t L k = -1000000 ∧ t k = L then k else pFst t L k := az_FS _ _ h
theorem pFst_b (t : Int → Int) (L : Int) {k : Int} (h : 0 ≤ k) : (pFst t L k = -1000000 ∧ ∀ g, 0 ≤ g → g < k → t g ≠ L) ∨ (0 ≤ pFst t L k ∧ pFst t L k < k) := by
  refine az_Finv (s := fun g a => if a = -1000000 ∧ t g = L then g else a) (fun k a => (a = -1000000 ∧ ∀ g, 0 ≤ g → g < k → t g ≠ L) ∨ (0 ≤ a ∧ a < k)) h (Or.inl ⟨rfl, fun g _ _ => by omega⟩) (fun g a h0 h1 hp => ?_)
  split
  · exact Or.inr (by omega)
  · next hh =>
    rcases hp with ⟨hp1, hp2⟩ | hp
    · refine Or.inl ⟨hp1, fun j hj0 hj1 => ?_⟩
      by_cases e : j = g
      · subst e
        exact fun q => hh ⟨hp1, q⟩
      · exact hp2 j hj0 (by omega)
    · exact Or.inr (by omega)
theorem pLft_S (f t : Int → Int) (S : Int) {k : Int} (h : 0 ≤ k) : pLft f t S (k + 1) = pLft f t S k - S * t k * pHeads f k / pWgt f t (f 2) := az_FS _ _ h
/-- share -/
theorem c_X8_share (hf : m 284 = f) (ht : ∀ g, 0 ≤ g → g < f 2 → m 290 g = t g) (hc : ∀ h, 0 ≤ h → h < 6 → m 291 h = c h) (hs : m 279 23 = sp) (hn : 0 ≤ f 2 ∧ f 2 ≤ 4) (hT : tOK f t) (hC : cOK c) (hsp : 0 ≤ sp ∧ sp ≤ 2) : az_C sc az_G 117 [.inr (.inr 280)] m (fun v m' => v = none ∧ ∃ s', m' = az_set m 292 s' ∧ ∀ g, 0 ≤ g → g < f 2 → s' g = pShr f t c sp g) := by
  have hL := pLong_b hn.1 hT
  have hB := pBill_b hC hL.1 hL.2
  refine r_iconst ?_
  refine r_istore_n (Nat.le_of_ble_eq_true rfl) rfl ?_
  skip
  refine az_Em (az_s0 m 292).symm ?_
  refine az_lop (α := Int → Int) (fun g _ => [some (.inr (.inr 280)), some (.inl (g)), none, none, none, none, none]) (fun a => az_set m 292 a) (fun g a => ∀ j, 0 ≤ j → j < g → a j = 0) 0 4 (m 292) (by decide) (fun j h0 h1 => by omega) (fun g a h0 h1 hp hK => ?_) (fun s0 hp => ?_)
  · refine r_iload_n rfl ?_
    refine r_iconst ?_
    refine r_icmp_ge kX8_share_20 (fun c1 => absurd c1 (by omega)) (fun c1 => ?_)
    refine r_aload_n rfl ?_
    refine r_getR g_279 rfl ?_
    refine r_iload_n rfl ?_
    refine r_iconst ?_
    refine r_iast g_292 (by decide) (by omega) (by omega) ?_
    refine r_iinc rfl (az_wid (by omega) (by omega)) rfl ?_
    refine r_goto kX8_share_2 ?_
    refine az_Em (az_us _ _ _ _ _) (hK (up1 a g 0) (fun j hj0 hj1 => up1_eq (fun e => rfl) (fun e => hp j hj0 (by omega))))
  · by_cases hL0 : pLong f t = 0
    · refine r_iload_n rfl ?_
      refine r_iconst ?_
      refine r_icmp_ge kX8_share_20 (fun c1 => ?_) (fun c1 => absurd c1 (by omega))
      refine r_aload_n rfl ?_
      refine r_cV1I g_279 rfl (Nat.le_of_ble_eq_true rfl) (Nat.le_of_ble_eq_true rfl) (c_X8_longest hf ht hn) ?_
      refine r_istore_n (Nat.le_of_ble_eq_true rfl) rfl ?_
      refine r_aload_n rfl ?_
      refine r_cV1I g_279 rfl (Nat.le_of_ble_eq_true rfl) (Nat.le_of_ble_eq_true rfl) (c_X8_sum hf ht hc hn hT hC) ?_
      refine r_istore_n (Nat.le_of_ble_eq_true rfl) rfl ?_
      refine r_iload_n rfl ?_
      refine r_if_ne kX8_share_35 (fun c2 => absurd c2 (by omega)) (fun c2 => ?_)
      refine r_vret rfl ?_
      exact ⟨rfl, s0, rfl, fun g h0 h1 => by rw [pShr_0 hn hT hL0 h0 h1]; exact hp g h0 (by omega)⟩
    · rcases (show sp = 0 ∨ sp = 1 ∨ sp = 2 by omega) with h | h | h
      · subst h
        refine r_iload_n rfl ?_
        refine r_iconst ?_
        refine r_icmp_ge kX8_share_20 (fun c1 => ?_) (fun c1 => absurd c1 (by omega))
        refine r_aload_n rfl ?_
        refine r_cV1I g_279 rfl (Nat.le_of_ble_eq_true rfl) (Nat.le_of_ble_eq_true rfl) (c_X8_longest hf ht hn) ?_
        refine r_istore_n (Nat.le_of_ble_eq_true rfl) rfl ?_
        refine r_aload_n rfl ?_
        refine r_cV1I g_279 rfl (Nat.le_of_ble_eq_true rfl) (Nat.le_of_ble_eq_true rfl) (c_X8_sum hf ht hc hn hT hC) ?_
        refine r_istore_n (Nat.le_of_ble_eq_true rfl) rfl ?_
        refine r_iload_n rfl ?_
        refine r_if_ne kX8_share_35 (fun c2 => ?_) (fun c2 => absurd c2 (by omega))
        refine r_aload_n rfl ?_
        refine r_getIx g_279 (hs) ?_
        refine r_if_ne kX8_share_50 (fun c3 => absurd c3 (by omega)) (fun c3 => ?_)
        refine r_aload_n rfl ?_
        refine r_iload_n rfl ?_
        refine r_iload_n rfl ?_
        refine r_iconst ?_
        first | refine r_isub (az_wid (by omega) (by omega)) ?_ | refine r_isubw ?_
        refine r_cV3 g_279 rfl (Nat.le_of_ble_eq_true rfl) (Nat.le_of_ble_eq_true rfl) (c_X8_parts hf ht hn (by omega) (fun g h0 h1 => by rw [hp g h0 (by omega)]; omega)) (fun v_ m_ hq_ => ?_)
        obtain ⟨rfl, s2, rfl, hs2⟩ := hq_
        refine r_iconst ?_
        refine r_istore_n (Nat.le_of_ble_eq_true rfl) rfl ?_
        refine r_iload_n rfl ?_
        refine r_iload_n rfl ?_
        refine r_icmp_ge kX8_share_82 (fun c4 => absurd c4 (by omega)) (fun c4 => ?_)
        refine r_aload_n rfl ?_
        refine r_getIx g_279 (hs) ?_
        refine r_iconst ?_
        refine r_icmp_ne kX8_share_82 (fun c5 => ?_) (fun c5 => absurd c5 (by decide))
        refine r_aload_n rfl ?_
        refine r_getIx g_279 (hs) ?_
        refine r_iconst ?_
        refine r_icmp_ne kX8_share_232 (fun c6 => ?_) (fun c6 => absurd c6 (by decide))
        refine r_vret rfl ?_
        exact ⟨rfl, s2, rfl, fun g h0 h1 => by rw [hs2 g h0 h1, hp g h0 (by omega)]; unfold pShr; rw [if_pos rfl]; omega⟩
      · subst h
        have hd := pWgt_pos hn.1 hT (by omega)
        refine r_iload_n rfl ?_
        refine r_iconst ?_
        refine r_icmp_ge kX8_share_20 (fun c1 => ?_) (fun c1 => absurd c1 (by omega))
        refine r_aload_n rfl ?_
        refine r_cV1I g_279 rfl (Nat.le_of_ble_eq_true rfl) (Nat.le_of_ble_eq_true rfl) (c_X8_longest hf ht hn) ?_
        refine r_istore_n (Nat.le_of_ble_eq_true rfl) rfl ?_
        refine r_aload_n rfl ?_
        refine r_cV1I g_279 rfl (Nat.le_of_ble_eq_true rfl) (Nat.le_of_ble_eq_true rfl) (c_X8_sum hf ht hc hn hT hC) ?_
        refine r_istore_n (Nat.le_of_ble_eq_true rfl) rfl ?_
        refine r_iload_n rfl ?_
        refine r_if_ne kX8_share_35 (fun c2 => ?_) (fun c2 => absurd c2 (by omega))
        refine r_aload_n rfl ?_
        refine r_getIx g_279 (hs) ?_
        refine r_if_ne kX8_share_50 (fun c3 => ?_) (fun c3 => absurd c3 (by decide))
        refine r_iconst ?_
        refine r_istore_n (Nat.le_of_ble_eq_true rfl) rfl ?_
        refine r_iload_n rfl ?_
        refine r_iload_n rfl ?_
        refine r_icmp_ge kX8_share_82 (fun c4 => absurd c4 (by omega)) (fun c4 => ?_)
        refine r_aload_n rfl ?_
        refine r_getIx g_279 (hs) ?_
        refine r_iconst ?_
        refine r_icmp_ne kX8_share_82 (fun c5 => ?_) (fun c5 => absurd c5 (by decide))
        refine r_aload_n rfl ?_
        refine r_getIx g_279 (hs) ?_
        refine r_iconst ?_
        refine r_icmp_ne kX8_share_232 (fun c6 => absurd c6 (by decide)) (fun c6 => ?_)
        refine r_iconst ?_
        refine r_istore_n (Nat.le_of_ble_eq_true rfl) rfl ?_
        refine r_ldcI ?_
        refine r_istore (Nat.le_of_ble_eq_true rfl) rfl ?_
        refine r_iconst ?_
        refine r_istore (Nat.le_of_ble_eq_true rfl) rfl ?_
        skip
        refine az_lop (α := Int × Int) (fun g a => [some (.inr (.inr 280)), some (.inl (pLong f t)), some (.inl (pBill c (pLong f t))), some (.inl (a.1)), some (.inl (a.2)), some (.inl (g)), none]) (fun _ => az_set m 292 s0) (fun g a => a.1 = pWgt f t g ∧ a.2 = pFst t (pLong f t) g) 0 (f 2) (0, -1000000) hn.1 ⟨rfl, rfl⟩ (fun g a h0 h1 hq hK => ?_) (fun a hq => ?_)
        · obtain ⟨a1, a2⟩ := a
          obtain ⟨hq1, hq2⟩ := hq
          dsimp only at hq1 hq2 ⊢
          subst hq1 hq2
          have hh := pHeads_b f g
          have htg := hT g h0 h1
          have hWS := pWgt_S f t h0
          have hWb := pWgt_b hn.2 hT h0 (by omega)
          have hFS := pFst_S t (pLong f t) h0
          have hmb := az_mulb htg.1 htg.2 (show 0 ≤ pHeads f g by omega) hh.2
          refine r_iload rfl ?_
          refine r_aload_n rfl ?_
          refine r_getR g_279 rfl ?_
          refine r_iconst ?_
          refine r_ialdx g_284 rfl (by omega) (by omega) (by omega) (congrFun hf _) ?_
          refine r_icmp_ge kX8_share_160 (fun c1 => absurd c1 (by omega)) (fun c1 => ?_)
          refine r_iload_n rfl ?_
          refine r_aload_n rfl ?_
          refine r_getR g_279 rfl ?_
          refine r_iload rfl ?_
          refine r_ialdx g_290 rfl (by omega) (by omega) (by omega) (ht _ (by omega) (by omega)) ?_
          refine r_aload_n rfl ?_
          refine r_iload rfl ?_
          refine r_cV2I g_279 rfl (Nat.le_of_ble_eq_true rfl) (Nat.le_of_ble_eq_true rfl) (c_X8_heads hf (by omega) (by omega)) ?_
          refine r_imul (az_wid (by omega) (by omega)) ?_
          first | refine r_iadd (az_wid (by omega) (by omega)) ?_ | refine r_iaddw ?_
          refine r_istore_n (Nat.le_of_ble_eq_true rfl) rfl ?_
          refine r_iload rfl ?_
          refine r_ldcI ?_
          refine r_icmp_ne kX8_share_150 (fun c2 => ?_) (fun c2 => ?_)
          · refine r_iload rfl ?_
            refine r_istore (Nat.le_of_ble_eq_true rfl) rfl ?_
            refine r_iinc rfl (az_wid (by omega) (by omega)) rfl ?_
            refine r_goto kX8_share_99 ?_
            refine hK (_, _) ⟨by dsimp only; omega, ?_⟩; dsimp only; rw [hFS]; first | rw [if_pos ⟨by assumption, by assumption⟩] | (rw [if_neg (by omega)]; rfl) | rw [if_neg (by omega)]
          · refine r_aload_n rfl ?_
            refine r_getR g_279 rfl ?_
            refine r_iload rfl ?_
            refine r_ialdx g_290 rfl (by omega) (by omega) (by omega) (ht _ (by omega) (by omega)) ?_
            refine r_iload_n rfl ?_
            refine r_icmp_ne kX8_share_150 (fun c3 => ?_) (fun c3 => ?_)
            · refine r_iload rfl ?_
              refine r_istore (Nat.le_of_ble_eq_true rfl) rfl ?_
              refine r_iinc rfl (az_wid (by omega) (by omega)) rfl ?_
              refine r_goto kX8_share_99 ?_
              refine hK (_, _) ⟨by dsimp only; omega, ?_⟩; dsimp only; rw [hFS]; first | rw [if_pos ⟨by assumption, by assumption⟩] | (rw [if_neg (by omega)]; rfl) | rw [if_neg (by omega)]
            · refine r_iload rfl ?_
              refine r_goto kX8_share_152 ?_
              refine r_istore (Nat.le_of_ble_eq_true rfl) rfl ?_
              refine r_iinc rfl (az_wid (by omega) (by omega)) rfl ?_
              refine r_goto kX8_share_99 ?_
              refine hK (_, _) ⟨by dsimp only; omega, ?_⟩; dsimp only; rw [hFS]; first | rw [if_pos ⟨by assumption, by assumption⟩] | (rw [if_neg (by omega)]; rfl) | rw [if_neg (by omega)]
        · obtain ⟨a1, a2⟩ := a
          obtain ⟨hq1, hq2⟩ := hq
          dsimp only at hq1 hq2 ⊢
          subst hq1 hq2
          have hF := pFst_b t (pLong f t) hn.1
          have hF2 : 0 ≤ pFst t (pLong f t) (f 2) ∧ pFst t (pLong f t) (f 2) < f 2 := by
            rcases hF with hF | hF
            · rcases pLong_e hn.1 hT with h | ⟨g, h1, h2, h3⟩
              · exact absurd h hL0
              · exact absurd h3 (hF.2 g h1 h2)
            · exact hF
          refine r_iload rfl ?_
          refine r_aload_n rfl ?_
          refine r_getR g_279 rfl ?_
          refine r_iconst ?_
          refine r_ialdx g_284 rfl (by omega) (by omega) (by omega) (congrFun hf _) ?_
          refine r_icmp_ge kX8_share_160 (fun c1 => ?_) (fun c1 => absurd c1 (by omega))
          refine r_iload_n rfl ?_
          refine r_istore (Nat.le_of_ble_eq_true rfl) rfl ?_
          refine r_iconst ?_
          refine r_istore (Nat.le_of_ble_eq_true rfl) rfl ?_
          skip
          refine az_lop (α := (Int → Int) × Int) (fun g a => [some (.inr (.inr 280)), some (.inl (pLong f t)), some (.inl (pBill c (pLong f t))), some (.inl (pWgt f t (f 2))), some (.inl (pFst t (pLong f t) (f 2))), some (.inl (a.2)), some (.inl (g))]) (fun a => az_set m 292 a.1) (fun g a => (∀ j, 0 ≤ j → j < g → a.1 j = pBill c (pLong f t) * t j * pHeads f j / pWgt f t (f 2)) ∧ a.2 = pLft f t (pBill c (pLong f t)) g) 0 (f 2) (s0, _) hn.1 ⟨fun j h0 h1 => by omega, rfl⟩ (fun g a h0 h1 hq hK => ?_) (fun a hq => ?_)
          · obtain ⟨s1, lf⟩ := a
            obtain ⟨hq1, hq2⟩ := hq
            dsimp only at hq1 hq2 ⊢
            subst hq2
            have hw := pW1_b hT (S := pBill c (pLong f t)) (by omega) h0 h1
            have hLS := pLft_S f t (pBill c (pLong f t)) h0
            have hLb := pLft_b hn hT (S := pBill c (pLong f t)) hB.1 hd h0 (by omega)
            have hv : ∀ F : Int → Int, ∀ v, az_up (az_set m 292 F) 292 g v 292 g = v := fun F v => az_up_at _ _ _ _
            have hq0 : 0 ≤ pBill c (pLong f t) * t g * pHeads f g / pWgt f t (f 2) := Int.ediv_nonneg hw.2.1 (by omega)
            have hq3 : pBill c (pLong f t) * t g * pHeads f g / pWgt f t (f 2) ≤ pBill c (pLong f t) * t g * pHeads f g := Int.ediv_le_self _ hw.2.1
            refine r_iload rfl ?_
            refine r_aload_n rfl ?_
            refine r_getR g_279 rfl ?_
            refine r_iconst ?_
            refine r_ialdx g_284 rfl (by omega) (by omega) (by omega) (congrFun hf _) ?_
            refine r_icmp_ge kX8_share_220 (fun c1 => absurd c1 (by omega)) (fun c1 => ?_)
            refine r_aload_n rfl ?_
            refine r_getR g_279 rfl ?_
            refine r_iload rfl ?_
            refine r_iload_n rfl ?_
            refine r_aload_n rfl ?_
            refine r_getR g_279 rfl ?_
            refine r_iload rfl ?_
            refine r_ialdx g_290 rfl (by omega) (by omega) (by omega) (ht _ (by omega) (by omega)) ?_
            refine r_imul (az_wid (by omega) (by omega)) ?_
            refine r_aload_n rfl ?_
            refine r_iload rfl ?_
            refine r_cV2I g_279 rfl (Nat.le_of_ble_eq_true rfl) (Nat.le_of_ble_eq_true rfl) (c_X8_heads hf (by omega) (by omega)) ?_
            refine r_imul (az_wid (by omega) (by omega)) ?_
            refine r_iload_n rfl ?_
            first | refine r_idiv (by omega) (az_divn (by omega) (by omega) (by omega)) ?_ | refine r_idiv (by omega) rfl ?_
            refine r_iast g_292 (by decide) (by omega) (by omega) ?_
            refine r_iload rfl ?_
            refine r_aload_n rfl ?_
            refine r_getR g_279 rfl ?_
            refine r_iload rfl ?_
            refine r_ialdx g_292 rfl (by omega) (by omega) (by omega) (hv _ _) ?_
            first | refine r_isub (az_wid (by omega) (by omega)) ?_ | refine r_isubw ?_
            refine r_istore (Nat.le_of_ble_eq_true rfl) rfl ?_
            refine r_iinc rfl (az_wid (by omega) (by omega)) rfl ?_
            refine r_goto kX8_share_166 ?_
            refine az_Em (az_us _ _ _ _ _) (hK (up1 s1 g (pBill c (pLong f t) * t g * pHeads f g / pWgt f t (f 2)), _) ⟨fun j hj0 hj1 => up1_eq (fun e => by rw [e]) (fun e => hq1 j hj0 (by omega)), by dsimp only; omega⟩)
          · obtain ⟨s1, lf⟩ := a
            obtain ⟨hq1, hq2⟩ := hq
            dsimp only at hq1 hq2 ⊢
            subst hq2
            have hw := pW1_b hT (S := pBill c (pLong f t)) (by omega) hF2.1 hF2.2
            have hLb := pLft_b hn hT (S := pBill c (pLong f t)) hB.1 hd hn.1 (by omega)
            have hq1F := hq1 _ hF2.1 hF2.2
            have hq0 : 0 ≤ pBill c (pLong f t) * t (pFst t (pLong f t) (f 2)) * pHeads f (pFst t (pLong f t) (f 2)) / pWgt f t (f 2) := Int.ediv_nonneg hw.2.1 (by omega)
            have hq3 : pBill c (pLong f t) * t (pFst t (pLong f t) (f 2)) * pHeads f (pFst t (pLong f t) (f 2)) / pWgt f t (f 2) ≤ pBill c (pLong f t) * t (pFst t (pLong f t) (f 2)) * pHeads f (pFst t (pLong f t) (f 2)) := Int.ediv_le_self _ hw.2.1
            refine r_iload rfl ?_
            refine r_aload_n rfl ?_
            refine r_getR g_279 rfl ?_
            refine r_iconst ?_
            refine r_ialdx g_284 rfl (by omega) (by omega) (by omega) (congrFun hf _) ?_
            refine r_icmp_ge kX8_share_220 (fun c1 => ?_) (fun c1 => absurd c1 (by omega))
            refine r_aload_n rfl ?_
            refine r_getR g_279 rfl ?_
            refine r_iload rfl ?_
            refine r_dup2 ?_
            refine r_ialdx g_292 rfl (by omega) (by omega) (by omega) (congrFun (rfl : s1 = s1) _) ?_
            refine r_iload rfl ?_
            first | refine r_iadd (az_wid (by omega) (by omega)) ?_ | refine r_iaddw ?_
            refine r_iast g_292 (by decide) (by omega) (by omega) ?_
            refine r_vret rfl ?_
            refine ⟨rfl, _, az_us _ _ _ _ _, fun g h0 h1 => ?_⟩; unfold pShr pByW; rw [if_neg (by decide), if_pos rfl, if_neg (by omega)]; refine up1_eq (fun e => by rw [if_pos e, e, hq1F]) (fun e => by rw [if_neg e, hq1 g h0 h1]; omega)
      · subst h
        refine r_iload_n rfl ?_
        refine r_iconst ?_
        refine r_icmp_ge kX8_share_20 (fun c1 => ?_) (fun c1 => absurd c1 (by omega))
        refine r_aload_n rfl ?_
        refine r_cV1I g_279 rfl (Nat.le_of_ble_eq_true rfl) (Nat.le_of_ble_eq_true rfl) (c_X8_longest hf ht hn) ?_
        refine r_istore_n (Nat.le_of_ble_eq_true rfl) rfl ?_
        refine r_aload_n rfl ?_
        refine r_cV1I g_279 rfl (Nat.le_of_ble_eq_true rfl) (Nat.le_of_ble_eq_true rfl) (c_X8_sum hf ht hc hn hT hC) ?_
        refine r_istore_n (Nat.le_of_ble_eq_true rfl) rfl ?_
        refine r_iload_n rfl ?_
        refine r_if_ne kX8_share_35 (fun c2 => ?_) (fun c2 => absurd c2 (by omega))
        refine r_aload_n rfl ?_
        refine r_getIx g_279 (hs) ?_
        refine r_if_ne kX8_share_50 (fun c3 => ?_) (fun c3 => absurd c3 (by decide))
        refine r_iconst ?_
        refine r_istore_n (Nat.le_of_ble_eq_true rfl) rfl ?_
        skip
        refine az_lop (α := Int → Int) (fun h _ => [some (.inr (.inr 280)), some (.inl (pLong f t)), some (.inl (pBill c (pLong f t))), some (.inl (h)), none, none, none]) (fun a => az_set m 292 a) (fun h a => ∀ j, 0 ≤ j → j < f 2 → a j = pByH f t c j h) 0 (pLong f t) s0 hL.1 (fun j h0 h1 => by rw [hp j h0 (by omega)]; rfl) (fun h a h0 h1 hq hK => ?_) (fun a hq => ?_)
        · have hch := hC h h0 (by omega)
          refine r_iload_n rfl ?_
          refine r_iload_n rfl ?_
          refine r_icmp_ge kX8_share_82 (fun c1 => absurd c1 (by omega)) (fun c1 => ?_)
          refine r_aload_n rfl ?_
          refine r_getIx g_279 (hs) ?_
          refine r_iconst ?_
          refine r_icmp_ne kX8_share_82 (fun c2 => absurd c2 (by decide)) (fun c2 => ?_)
          refine r_aload_n rfl ?_
          refine r_aload_n rfl ?_
          refine r_getR g_279 rfl ?_
          refine r_iload_n rfl ?_
          refine r_ialdx g_291 rfl (by omega) (by omega) (by omega) (hc _ (by omega) (by omega)) ?_
          refine r_iload_n rfl ?_
          refine r_cV3 g_279 rfl (Nat.le_of_ble_eq_true rfl) (Nat.le_of_ble_eq_true rfl) (c_X8_parts hf ht hn (by omega) (fun g g0 g1 => by rw [hq g g0 g1]; have := pByH_b (f := f) (t := t) hC g0 g1 h0 (by omega); omega)) (fun v_ m_ hq_ => ?_)
          obtain ⟨rfl, s2, rfl, hs2⟩ := hq_
          refine r_iinc rfl (az_wid (by omega) (by omega)) rfl ?_
          refine r_goto kX8_share_52 ?_
          exact hK s2 (fun j j0 j1 => by rw [hs2 j j0 j1, hq j j0 j1, pByH_S f t c j h0])
        · refine r_iload_n rfl ?_
          refine r_iload_n rfl ?_
          refine r_icmp_ge kX8_share_82 (fun c1 => ?_) (fun c1 => absurd c1 (by omega))
          refine r_aload_n rfl ?_
          refine r_getIx g_279 (hs) ?_
          refine r_iconst ?_
          refine r_icmp_ne kX8_share_232 (fun c2 => ?_) (fun c2 => absurd c2 (by decide))
          refine r_vret rfl ?_
          exact ⟨rfl, a, rfl, fun g h0 h1 => by rw [hq g h0 h1]; unfold pShr; rw [if_neg (by decide), if_neg (by decide)]; exact pByH_e (hT g h0 h1).1 (pLong_m hn.1 hT g h0 h1)⟩
end RB
