/-! THE CLASS: a day -/
section CD
variable {sc : aX} {m : aM} {f t c : Int → Int} {sp : Int} {Q : Option aV → aM → Prop}
def pFe (f : Int → Int) (g : Int) : Int := if f (40 + g) = 1 then f 1 else 0
theorem pPay_e (f t c : Int → Int) (sp g : Int) : pPay f t c sp g = pShr f t c sp g + pFe f g * t g := by
  unfold pPay pFe
  split
  · rfl
  · rw [Int.zero_mul]
/-- the day that the class has before it -/
def dD (m : aM) (f t c : Int → Int) (sp : Int) : Prop := m 235 6 = f 2 ∧ m 235 7 = sp ∧ (∀ h, 0 ≤ h → h < 6 → m 236 h = c h) ∧ (∀ g, 0 ≤ g → g < f 2 → m 237 g = pHeads f g ∧ m 238 g = pFe f g ∧ m 239 g = pComp f g ∧ m 241 g = t g) ∧ (∀ g h, 0 ≤ g → g < f 2 → 0 ≤ h → h < 6 → m 240 (g * 6 + h) = pJoyA f g h) ∧ nOK f ∧ tOK f t ∧ cOK c ∧ (0 ≤ sp ∧ sp ≤ 2)
theorem dD_fr {m m' : aM} (h : dD m f t c sp) (hf : ∀ x, 235 ≤ x → x ≤ 241 → m' x = m x) : dD m' f t c sp := by
  unfold dD at *
  rw [hf 235 (by decide) (by decide), hf 236 (by decide) (by decide), hf 237 (by decide) (by decide), hf 238 (by decide) (by decide), hf 239 (by decide) (by decide), hf 240 (by decide) (by decide), hf 241 (by decide) (by decide)]
  exact h
/-- other hours -/
theorem dD_t {m m' : aM} {t' : Int → Int} (h : dD m f t c sp) (hf : ∀ x, 235 ≤ x → x ≤ 240 → m' x = m x) (ht : ∀ g, 0 ≤ g → g < f 2 → m' 241 g = t' g) (hT : tOK f t') : dD m' f t' c sp := by
  obtain ⟨h1, h2, h3, h4, h5, h6, h7, h8, h9⟩ := h
  unfold dD
  rw [hf 235 (by decide) (by decide), hf 236 (by decide) (by decide), hf 237 (by decide) (by decide), hf 238 (by decide) (by decide), hf 239 (by decide) (by decide), hf 240 (by decide) (by decide)]
  exact ⟨h1, h2, h3, fun g g0 g1 => ⟨(h4 g g0 g1).1, (h4 g g0 g1).2.1, (h4 g g0 g1).2.2.1, ht g g0 g1⟩, h5, h6, hT, h8, h9⟩
theorem dD_u {m : aM} {g n : Int} (h : dD m f t c sp) (hn : 0 ≤ n ∧ n ≤ 6) : dD (az_up m 241 g n) f (up1 t g n) c sp := by
  refine dD_t h (fun x a b => az_up_b _ _ _ (by omega)) (fun j h0 h1 => ?_) (tOK_up h.2.2.2.2.2.2.1 hn)
  unfold az_up up1
  by_cases e : j = g
  · rw [if_pos ⟨rfl, e⟩, if_pos e]
  · rw [if_neg (fun q => e q.2), if_neg e]
    exact (h.2.2.2.1 j h0 h1).2.2.2
theorem c_X2_longest (hD : dD m f t c sp) : az_CI sc 101 [.inr (.inr 236)] m (pLong f t) m := by
  have hn := nOK_2 hD.2.2.2.2.2.1
  refine r_iconst ?_
  refine r_istore_n (Nat.le_of_ble_eq_true rfl) rfl ?_
  refine r_iconst ?_
  refine r_istore_n (Nat.le_of_ble_eq_true rfl) rfl ?_
  skip
  refine az_lop (α := Int) (fun g a => [some (.inr (.inr (236))), some (.inl (a)), some (.inl (g))]) (fun _ => m) (fun g a => a = az_F (fun g a => if a < t g then t g else a) 0 g) 0 (f 2) _ hn.1 rfl (fun g a h0 h1 hp hK => ?_) (fun a hp => ?_)
  · have hS := az_FS (fun g a => if a < t g then t g else a) (0 : Int) h0
    rw [← hp] at hS
    refine r_iload_n rfl ?_
    refine r_aload_n rfl ?_
    refine r_getIx g_235 (hD.1) ?_
    refine r_icmp_ge kX2_longest_39 (fun c1 => absurd c1 (by omega)) (fun c1 => ?_)
    refine r_aload_n rfl ?_
    refine r_getR g_235 rfl ?_
    refine r_iload_n rfl ?_
    refine r_ialdx g_241 rfl (by omega) (by omega) (by omega) ((hD.2.2.2.1 _ (by omega) (by omega)).2.2.2) ?_
    refine r_iload_n rfl ?_
    refine r_icmp_le kX2_longest_31 (fun c2 => ?_) (fun c2 => ?_)
    · refine r_iload_n rfl ?_
      refine r_istore_n (Nat.le_of_ble_eq_true rfl) rfl ?_
      refine r_iinc rfl (az_wid (by omega) (by omega)) rfl ?_
      refine r_goto kX2_longest_4 ?_
      exact hK _ (by rw [hS]; first | rw [if_pos (by omega)] | rw [if_neg (by omega)])
    · refine r_aload_n rfl ?_
      refine r_getR g_235 rfl ?_
      refine r_iload_n rfl ?_
      refine r_ialdx g_241 rfl (by omega) (by omega) (by omega) ((hD.2.2.2.1 _ (by omega) (by omega)).2.2.2) ?_
      refine r_goto kX2_longest_32 ?_
      refine r_istore_n (Nat.le_of_ble_eq_true rfl) rfl ?_
      refine r_iinc rfl (az_wid (by omega) (by omega)) rfl ?_
      refine r_goto kX2_longest_4 ?_
      exact hK _ (by rw [hS]; first | rw [if_pos (by omega)] | rw [if_neg (by omega)])
  · refine r_iload_n rfl ?_
    refine r_aload_n rfl ?_
    refine r_getIx g_235 (hD.1) ?_
    refine r_icmp_ge kX2_longest_39 (fun c1 => ?_) (fun c1 => absurd c1 (by omega))
    refine r_iload_n rfl ?_
    refine r_iret rfl ?_
    exact ⟨by rw [hp]; rfl, rfl⟩
theorem c_X2_bill {L : Int} (hD : dD m f t c sp) (h0 : 0 ≤ L) (h1 : L ≤ 6) : az_CI sc 102 [.inr (.inr 236), .inl L] m (pBill c L) m := by
  have hC := hD.2.2.2.2.2.2.2.1
  refine r_iconst ?_
  refine r_istore_n (Nat.le_of_ble_eq_true rfl) rfl ?_
  refine r_iconst ?_
  refine r_istore_n (Nat.le_of_ble_eq_true rfl) rfl ?_
  skip
  refine az_lop (α := Int) (fun h a => [some (.inr (.inr (236))), some (.inl (L)), some (.inl (a)), some (.inl (h))]) (fun _ => m) (fun h a => a = pBill c h) 0 L 0 h0 rfl (fun h a h2 h3 hp hK => ?_) (fun a hp => ?_)
  · have hS := pBill_S c h2
    have hB := pBill_b hC h2 (by omega)
    have hB2 := hC h h2 (by omega)
    rw [← hp] at hS hB
    refine r_iload_n rfl ?_
    refine r_iload_n rfl ?_
    refine r_icmp_ge kX2_bill_24 (fun c1 => absurd c1 (by omega)) (fun c1 => ?_)
    refine r_iload_n rfl ?_
    refine r_aload_n rfl ?_
    refine r_getR g_235 rfl ?_
    refine r_iload_n rfl ?_
    refine r_ialdx g_236 rfl (by omega) (by omega) (by omega) (hD.2.2.1 _ (by omega) (by omega)) ?_
    first | refine r_iadd (az_wid (by omega) (by omega)) ?_ | refine r_iaddw ?_
    refine r_istore_n (Nat.le_of_ble_eq_true rfl) rfl ?_
    refine r_iinc rfl (az_wid (by omega) (by omega)) rfl ?_
    refine r_goto kX2_bill_4 ?_
    exact hK _ (by omega)
  · refine r_iload_n rfl ?_
    refine r_iload_n rfl ?_
    refine r_icmp_ge kX2_bill_24 (fun c1 => ?_) (fun c1 => absurd c1 (by omega))
    refine r_iload_n rfl ?_
    refine r_iret rfl ?_
    exact ⟨by rw [hp], rfl⟩
theorem c_X2_alike {S le l g : Int} (hD : dD m f t c sp) (hl : le = l + 1) (hS : 0 ≤ S ∧ S ≤ 1000) (h0 : 0 ≤ g) (h1 : g < f 2) : az_CI sc 103 [.inr (.inr 236), .inl S, .inl le, .inl g] m (pAlk f t S l g) m := by
  have hn := nOK_2 hD.2.2.2.2.2.1
  refine r_iconst ?_
  refine r_istore (Nat.le_of_ble_eq_true rfl) rfl ?_
  refine r_iconst ?_
  refine r_istore (Nat.le_of_ble_eq_true rfl) rfl ?_
  refine r_iconst ?_
  refine r_istore (Nat.le_of_ble_eq_true rfl) rfl ?_
  skip
  refine az_lop (α := Int × Int) (fun i a => [some (.inr (.inr (236))), some (.inl (S)), some (.inl (le)), some (.inl (g)), some (.inl (a.1)), some (.inl (a.2)), some (.inl (i)), none, none]) (fun _ => m) (fun i a => a.1 = pCnt f t l i ∧ a.2 = pCnt f t l (if i ≤ g then i else g)) 0 (f 2) (0, 0) hn.1 ⟨rfl, by rw [if_pos h0]; rfl⟩ (fun i a h2 h3 hp hK => ?_) (fun a hp => ?_)
  · obtain ⟨a1, a2⟩ := a
    obtain ⟨hp1, hp2⟩ := hp
    dsimp only at hp1 hp2 ⊢
    have hC := pCnt_S f t l h2
    have hb1 := pCnt_b f t l h2
    have hb2 : 0 ≤ a2 ∧ a2 ≤ 10 := by
      rw [hp2]
      split
      · have := pCnt_b f t l h2
        omega
      · have := pCnt_b f t l h0
        omega
    have hh := pHeads_b f i
    rw [← hp1] at hC hb1
    have hA1 : i < g → a2 = pCnt f t l i := fun h => by rw [hp2, if_pos (by omega)]
    have hA2 : ¬ i < g → a2 = pCnt f t l g := fun h => by
      rw [hp2]
      split
      · rw [show i = g by omega]
      · rfl
    have hN3 : ¬ i < g → pCnt f t l (if i + 1 ≤ g then i + 1 else g) = a2 := fun h => by rw [if_neg (by omega), hA2 h]
    have hN1 : le ≤ t i → i < g → pCnt f t l (if i + 1 ≤ g then i + 1 else g) = a2 + pHeads f i := fun h1 h => by rw [if_pos (by omega), pCnt_S f t l h2, if_pos (by omega), ← hA1 h]
    have hN2 : t i < le → pCnt f t l (if i + 1 ≤ g then i + 1 else g) = a2 := fun h1 => by
      by_cases h : i < g
      · rw [if_pos (by omega), pCnt_S f t l h2, if_neg (by omega), ← hA1 h]
      · exact hN3 h
    have hC1 : le ≤ t i → pCnt f t l (i + 1) = a1 + pHeads f i := fun h => by rw [hC, if_pos (by omega)]
    have hC2 : t i < le → pCnt f t l (i + 1) = a1 := fun h => by rw [hC, if_neg (by omega)]
    refine r_iload rfl ?_
    refine r_aload_n rfl ?_
    refine r_getIx g_235 (hD.1) ?_
    refine r_icmp_ge kX2_alike_69 (fun c1 => absurd c1 (by omega)) (fun c1 => ?_)
    refine r_aload_n rfl ?_
    refine r_getR g_235 rfl ?_
    refine r_iload rfl ?_
    refine r_ialdx g_241 rfl (by omega) (by omega) (by omega) ((hD.2.2.2.1 _ (by omega) (by omega)).2.2.2) ?_
    refine r_iload_n rfl ?_
    refine r_icmp_lt kX2_alike_63 (fun c2 => ?_) (fun c2 => ?_)
    · refine r_iinc rfl (az_wid (by omega) (by omega)) rfl ?_
      refine r_goto kX2_alike_9 ?_
      first | exact hK (_, _) ⟨(hC1 (by omega)).symm, (hN1 (by omega) (by omega)).symm⟩ | exact hK (_, _) ⟨(hC2 (by omega)).symm, (hN2 (by omega)).symm⟩ | exact hK (_, _) ⟨(hC1 (by omega)).symm, by dsimp only; rw [hN3 (by omega)]; omega⟩
    · refine r_iload rfl ?_
      refine r_aload_n rfl ?_
      refine r_getR g_235 rfl ?_
      refine r_iload rfl ?_
      refine r_ialdx g_237 rfl (by omega) (by omega) (by omega) ((hD.2.2.2.1 _ (by omega) (by omega)).1) ?_
      first | refine r_iadd (az_wid (by omega) (by omega)) ?_ | refine r_iaddw ?_
      refine r_istore (Nat.le_of_ble_eq_true rfl) rfl ?_
      refine r_iload rfl ?_
      refine r_iload rfl ?_
      refine r_iload_n rfl ?_
      refine r_icmp_ge kX2_alike_59 (fun c3 => ?_) (fun c3 => ?_)
      · refine r_iconst ?_
        first | refine r_iadd (az_wid (by omega) (by omega)) ?_ | refine r_iaddw ?_
        refine r_istore (Nat.le_of_ble_eq_true rfl) rfl ?_
        refine r_iinc rfl (az_wid (by omega) (by omega)) rfl ?_
        refine r_goto kX2_alike_9 ?_
        first | exact hK (_, _) ⟨(hC1 (by omega)).symm, (hN1 (by omega) (by omega)).symm⟩ | exact hK (_, _) ⟨(hC2 (by omega)).symm, (hN2 (by omega)).symm⟩ | exact hK (_, _) ⟨(hC1 (by omega)).symm, by dsimp only; rw [hN3 (by omega)]; omega⟩
      · refine r_aload_n rfl ?_
        refine r_getR g_235 rfl ?_
        refine r_iload rfl ?_
        refine r_ialdx g_237 rfl (by omega) (by omega) (by omega) ((hD.2.2.2.1 _ (by omega) (by omega)).1) ?_
        refine r_goto kX2_alike_60 ?_
        first | refine r_iadd (az_wid (by omega) (by omega)) ?_ | refine r_iaddw ?_
        refine r_istore (Nat.le_of_ble_eq_true rfl) rfl ?_
        refine r_iinc rfl (az_wid (by omega) (by omega)) rfl ?_
        refine r_goto kX2_alike_9 ?_
        first | exact hK (_, _) ⟨(hC1 (by omega)).symm, (hN1 (by omega) (by omega)).symm⟩ | exact hK (_, _) ⟨(hC2 (by omega)).symm, (hN2 (by omega)).symm⟩ | exact hK (_, _) ⟨(hC1 (by omega)).symm, by dsimp only; rw [hN3 (by omega)]; omega⟩
  · obtain ⟨a1, a2⟩ := a
    obtain ⟨hp1, hp2⟩ := hp
    dsimp only at hp1 hp2 ⊢
    rw [if_neg (by omega)] at hp2
    have hh := pHeads_b f g
    have hcg := pCnt_b f t l h0
    unfold pAlk
    rw [← hp1, ← hp2]
    rw [← hp2] at hcg
    by_cases hlt : l < t g
    · rw [if_pos hlt]
      have hin := pCnt_in f t l h0 h1 hlt
      rw [← hp1, ← hp2] at hin
      have hq : 0 ≤ S / a1 := Int.ediv_nonneg hS.1 (by omega)
      have hq2 : S / a1 ≤ S := Int.ediv_le_self _ hS.1
      have hr : 0 ≤ S % a1 := Int.emod_nonneg _ (by omega)
      have hr2 : S % a1 < a1 := Int.emod_lt_of_pos _ (by omega)
      have hcf := pCnt_b f t l hn.1
      rw [← hp1] at hcf
      have hm := az_mulb hq hq2 (show 0 ≤ pHeads f g by omega) hh.2
      have hmo := pMore_b (S := S) (all := a1) (ahead := a2) (k := pHeads f g) (by omega)
      have H : ∀ x, x = pMore S a1 a2 (pHeads f g) → az_E sc az_G 103 zX2_alike_126 [some (.inr (.inr (236))), some (.inl (S)), some (.inl (le)), some (.inl (g)), some (.inl (a1)), some (.inl (a2)), some (.inl (pHeads f g)), some (.inl (S % a1 - a2)), none] [.inl x] m (fun v m' => v = some (.inl (S / a1 * pHeads f g + pMore S a1 a2 (pHeads f g))) ∧ m' = m) := by
        intro x hx
        subst hx
        refine r_istore (Nat.le_of_ble_eq_true rfl) rfl ?_
        refine r_iload_n rfl ?_
        refine r_iload rfl ?_
        first | refine r_idiv (by omega) (az_divn (by omega) (by omega) (by omega)) ?_ | refine r_idiv (by omega) rfl ?_
        refine r_iload rfl ?_
        refine r_imul (az_wid (by omega) (by omega)) ?_
        refine r_iload rfl ?_
        first | refine r_iadd (az_wid (by omega) (by omega)) ?_ | refine r_iaddw ?_
        refine r_iret rfl ?_
        exact ⟨rfl, rfl⟩
      refine r_iload rfl ?_
      refine r_aload_n rfl ?_
      refine r_getIx g_235 (hD.1) ?_
      refine r_icmp_ge kX2_alike_69 (fun c1 => ?_) (fun c1 => absurd c1 (by omega))
      refine r_iload rfl ?_
      refine r_if_eq kX2_alike_84 (fun c2 => absurd c2 (by omega)) (fun c2 => ?_)
      refine r_aload_n rfl ?_
      refine r_getR g_235 rfl ?_
      refine r_iload_n rfl ?_
      refine r_ialdx g_241 rfl (by omega) (by omega) (by omega) ((hD.2.2.2.1 _ (by omega) (by omega)).2.2.2) ?_
      refine r_iload_n rfl ?_
      refine r_icmp_ge kX2_alike_86 (fun c3 => ?_) (fun c3 => absurd c3 (by omega))
      refine r_aload_n rfl ?_
      refine r_getR g_235 rfl ?_
      refine r_iload_n rfl ?_
      refine r_ialdx g_237 rfl (by omega) (by omega) (by omega) ((hD.2.2.2.1 _ (by omega) (by omega)).1) ?_
      refine r_istore (Nat.le_of_ble_eq_true rfl) rfl ?_
      refine r_iload_n rfl ?_
      refine r_iload rfl ?_
      first | refine r_irem (by omega) (az_modn (by omega)) ?_ | refine r_irem (by omega) rfl ?_
      refine r_iload rfl ?_
      first | refine r_isub (az_wid (by omega) (by omega)) ?_ | refine r_isubw ?_
      refine r_istore (Nat.le_of_ble_eq_true rfl) rfl ?_
      refine r_iload rfl ?_
      refine r_if_ge kX2_alike_112 (fun c4 => ?_) (fun c4 => ?_)
      · refine r_iload rfl ?_
        refine r_iload rfl ?_
        refine r_icmp_le kX2_alike_124 (fun c5 => ?_) (fun c5 => ?_)
        · refine r_iload rfl ?_
          exact H _ (by unfold pMore; first | rw [if_pos (by omega)] | rw [if_neg (by omega), if_pos (by omega)] | rw [if_neg (by omega), if_neg (by omega)])
        · refine r_iload rfl ?_
          refine r_goto kX2_alike_126 ?_
          exact H _ (by unfold pMore; first | rw [if_pos (by omega)] | rw [if_neg (by omega), if_pos (by omega)] | rw [if_neg (by omega), if_neg (by omega)])
      · refine r_iconst ?_
        refine r_goto kX2_alike_126 ?_
        exact H _ (by unfold pMore; first | rw [if_pos (by omega)] | rw [if_neg (by omega), if_pos (by omega)] | rw [if_neg (by omega), if_neg (by omega)])
    · rw [if_neg hlt]
      refine r_iload rfl ?_
      refine r_aload_n rfl ?_
      refine r_getIx g_235 (hD.1) ?_
      refine r_icmp_ge kX2_alike_69 (fun c1 => ?_) (fun c1 => absurd c1 (by omega))
      refine r_iload rfl ?_
      refine r_if_eq kX2_alike_84 (fun c2 => ?_) (fun c2 => ?_)
      · refine r_iconst ?_
        refine r_iret rfl ?_
        exact ⟨rfl, rfl⟩
      · refine r_aload_n rfl ?_
        refine r_getR g_235 rfl ?_
        refine r_iload_n rfl ?_
        refine r_ialdx g_241 rfl (by omega) (by omega) (by omega) ((hD.2.2.2.1 _ (by omega) (by omega)).2.2.2) ?_
        refine r_iload_n rfl ?_
        refine r_icmp_ge kX2_alike_86 (fun c3 => absurd c3 (by omega)) (fun c3 => ?_)
        refine r_iconst ?_
        refine r_iret rfl ?_
        exact ⟨rfl, rfl⟩
theorem c_X2_byWeight {S L g : Int} (hD : dD m f t c sp) (hS : 0 ≤ S ∧ S ≤ 180) (h0 : 0 ≤ g) (h1 : g < f 2) : az_CI sc 104 [.inr (.inr 236), .inl S, .inl L, .inl g] m (pByW f t S L g) m := by
  have hn := nOK_2 hD.2.2.2.2.2.1
  have hT := hD.2.2.2.2.2.2.1
  refine r_iconst ?_
  refine r_istore (Nat.le_of_ble_eq_true rfl) rfl ?_
  refine r_iconst ?_
  refine r_istore (Nat.le_of_ble_eq_true rfl) rfl ?_
  skip
  refine az_lop (α := Int) (fun i a => [some (.inr (.inr (236))), some (.inl (S)), some (.inl (L)), some (.inl (g)), some (.inl (a)), some (.inl (i)), none, none]) (fun _ => m) (fun i a => a = pWgt f t i) 0 (f 2) 0 hn.1 rfl (fun i a h2 h3 hp hK => ?_) (fun a hp => ?_)
  · have hW := pWgt_S f t h2
    have hWb := pWgt_b hn.2 hT h2 (by omega)
    have hh := pHeads_b f i
    have ht := hT i h2 h3
    have hm := az_mulb ht.1 ht.2 (show 0 ≤ pHeads f i by omega) hh.2
    rw [← hp] at hW hWb
    refine r_iload rfl ?_
    refine r_aload_n rfl ?_
    refine r_getIx g_235 (hD.1) ?_
    refine r_icmp_ge kX2_byWeight_41 (fun c1 => absurd c1 (by omega)) (fun c1 => ?_)
    refine r_iload rfl ?_
    refine r_aload_n rfl ?_
    refine r_getR g_235 rfl ?_
    refine r_iload rfl ?_
    refine r_ialdx g_241 rfl (by omega) (by omega) (by omega) ((hD.2.2.2.1 _ (by omega) (by omega)).2.2.2) ?_
    refine r_aload_n rfl ?_
    refine r_getR g_235 rfl ?_
    refine r_iload rfl ?_
    refine r_ialdx g_237 rfl (by omega) (by omega) (by omega) ((hD.2.2.2.1 _ (by omega) (by omega)).1) ?_
    refine r_imul (az_wid (by omega) (by omega)) ?_
    first | refine r_iadd (az_wid (by omega) (by omega)) ?_ | refine r_iaddw ?_
    refine r_istore (Nat.le_of_ble_eq_true rfl) rfl ?_
    refine r_iinc rfl (az_wid (by omega) (by omega)) rfl ?_
    refine r_goto kX2_byWeight_6 ?_
    exact hK _ (by omega)
  · subst hp
    unfold pByW
    by_cases hz : pWgt f t (f 2) = 0
    · rw [if_pos hz]
      refine r_iload rfl ?_
      refine r_aload_n rfl ?_
      refine r_getIx g_235 (hD.1) ?_
      refine r_icmp_ge kX2_byWeight_41 (fun c1 => ?_) (fun c1 => absurd c1 (by omega))
      refine r_iload rfl ?_
      refine r_if_ne kX2_byWeight_48 (fun c2 => absurd c2 (by omega)) (fun c2 => ?_)
      refine r_iconst ?_
      refine r_iret rfl ?_
      exact ⟨rfl, rfl⟩
    · rw [if_neg hz]
      have hWb := pWgt_b hn.2 hT hn.1 (Int.le_refl _)
      refine r_iload rfl ?_
      refine r_aload_n rfl ?_
      refine r_getIx g_235 (hD.1) ?_
      refine r_icmp_ge kX2_byWeight_41 (fun c1 => ?_) (fun c1 => absurd c1 (by omega))
      refine r_iload rfl ?_
      refine r_if_ne kX2_byWeight_48 (fun c2 => ?_) (fun c2 => absurd c2 (by omega))
      refine r_ldcI ?_
      refine r_istore (Nat.le_of_ble_eq_true rfl) rfl ?_
      refine r_iload_n rfl ?_
      refine r_istore (Nat.le_of_ble_eq_true rfl) rfl ?_
      refine r_iconst ?_
      refine r_istore (Nat.le_of_ble_eq_true rfl) rfl ?_
      skip
      refine az_lop (α := Int × Int) (fun i a => [some (.inr (.inr (236))), some (.inl (S)), some (.inl (L)), some (.inl (g)), some (.inl (pWgt f t (f 2))), some (.inl (a.1)), some (.inl (a.2)), some (.inl (i))]) (fun _ => m) (fun i a => a.1 = pFst t L i ∧ a.2 = pLft f t S i) 0 (f 2) (-1000000, S) hn.1 ⟨rfl, rfl⟩ (fun i a h2 h3 hp hK => ?_) (fun a hp => ?_)
      · obtain ⟨a1, a2⟩ := a
        obtain ⟨hp1, hp2⟩ := hp
        dsimp only at hp1 hp2 ⊢
        have hw := pW1_b hT hS h2 h3
        have hLS := pLft_S f t S h2
        have hLb := pLft_b hn hT hS.1 (by omega) h2 (by omega)
        have hq0 : 0 ≤ S * t i * pHeads f i / pWgt f t (f 2) := Int.ediv_nonneg hw.2.1 (by omega)
        have hq3 : S * t i * pHeads f i / pWgt f t (f 2) ≤ S * t i * pHeads f i := Int.ediv_le_self _ hw.2.1
        have hFS := pFst_S t L h2
        rw [← hp1] at hFS
        rw [← hp2] at hLS hLb
        refine r_iload rfl ?_
        refine r_aload_n rfl ?_
        refine r_getIx g_235 (hD.1) ?_
        refine r_icmp_ge kX2_byWeight_120 (fun c1 => absurd c1 (by omega)) (fun c1 => ?_)
        refine r_iload rfl ?_
        refine r_iload_n rfl ?_
        refine r_aload_n rfl ?_
        refine r_getR g_235 rfl ?_
        refine r_iload rfl ?_
        refine r_ialdx g_241 rfl (by omega) (by omega) (by omega) ((hD.2.2.2.1 _ (by omega) (by omega)).2.2.2) ?_
        refine r_imul (az_wid (by omega) (by omega)) ?_
        refine r_aload_n rfl ?_
        refine r_getR g_235 rfl ?_
        refine r_iload rfl ?_
        refine r_ialdx g_237 rfl (by omega) (by omega) (by omega) ((hD.2.2.2.1 _ (by omega) (by omega)).1) ?_
        refine r_imul (az_wid (by omega) (by omega)) ?_
        refine r_iload rfl ?_
        first | refine r_idiv (by omega) (az_divn (by omega) (by omega) (by omega)) ?_ | refine r_idiv (by omega) rfl ?_
        first | refine r_isub (az_wid (by omega) (by omega)) ?_ | refine r_isubw ?_
        refine r_istore (Nat.le_of_ble_eq_true rfl) rfl ?_
        refine r_iload rfl ?_
        refine r_ldcI ?_
        refine r_icmp_ne kX2_byWeight_114 (fun c2 => ?_) (fun c2 => ?_)
        · refine r_iinc rfl (az_wid (by omega) (by omega)) rfl ?_
          refine r_goto kX2_byWeight_58 ?_
          refine hK (_, _) ⟨?_, ?_⟩ <;> dsimp only <;> first | (rw [hFS, if_pos (by omega)]) | (rw [hFS, if_neg (by omega)]) | (rw [hLS])
        · refine r_aload_n rfl ?_
          refine r_getR g_235 rfl ?_
          refine r_iload rfl ?_
          refine r_ialdx g_241 rfl (by omega) (by omega) (by omega) ((hD.2.2.2.1 _ (by omega) (by omega)).2.2.2) ?_
          refine r_iload_n rfl ?_
          refine r_icmp_ne kX2_byWeight_114 (fun c3 => ?_) (fun c3 => ?_)
          · refine r_iinc rfl (az_wid (by omega) (by omega)) rfl ?_
            refine r_goto kX2_byWeight_58 ?_
            refine hK (_, _) ⟨?_, ?_⟩ <;> dsimp only <;> first | (rw [hFS, if_pos (by omega)]) | (rw [hFS, if_neg (by omega)]) | (rw [hLS])
          · refine r_iload rfl ?_
            refine r_istore (Nat.le_of_ble_eq_true rfl) rfl ?_
            refine r_iinc rfl (az_wid (by omega) (by omega)) rfl ?_
            refine r_goto kX2_byWeight_58 ?_
            refine hK (_, _) ⟨?_, ?_⟩ <;> dsimp only <;> first | (rw [hFS, if_pos (by omega)]) | (rw [hFS, if_neg (by omega)]) | (rw [hLS])
      · obtain ⟨a1, a2⟩ := a
        obtain ⟨hp1, hp2⟩ := hp
        dsimp only at hp1 hp2 ⊢
        have hw := pW1_b hT hS h0 h1
        have hLb := pLft_b hn hT hS.1 (by omega) hn.1 (Int.le_refl _)
        have hq0 : 0 ≤ S * t g * pHeads f g / pWgt f t (f 2) := Int.ediv_nonneg hw.2.1 (by omega)
        have hq3 : S * t g * pHeads f g / pWgt f t (f 2) ≤ S * t g * pHeads f g := Int.ediv_le_self _ hw.2.1
        subst hp1 hp2
        refine r_iload rfl ?_
        refine r_aload_n rfl ?_
        refine r_getIx g_235 (hD.1) ?_
        refine r_icmp_ge kX2_byWeight_120 (fun c1 => ?_) (fun c1 => absurd c1 (by omega))
        refine r_iload_n rfl ?_
        refine r_aload_n rfl ?_
        refine r_getR g_235 rfl ?_
        refine r_iload_n rfl ?_
        refine r_ialdx g_241 rfl (by omega) (by omega) (by omega) ((hD.2.2.2.1 _ (by omega) (by omega)).2.2.2) ?_
        refine r_imul (az_wid (by omega) (by omega)) ?_
        refine r_aload_n rfl ?_
        refine r_getR g_235 rfl ?_
        refine r_iload_n rfl ?_
        refine r_ialdx g_237 rfl (by omega) (by omega) (by omega) ((hD.2.2.2.1 _ (by omega) (by omega)).1) ?_
        refine r_imul (az_wid (by omega) (by omega)) ?_
        refine r_iload rfl ?_
        first | refine r_idiv (by omega) (az_divn (by omega) (by omega) (by omega)) ?_ | refine r_idiv (by omega) rfl ?_
        refine r_iload_n rfl ?_
        refine r_iload rfl ?_
        refine r_icmp_ne kX2_byWeight_149 (fun c2 => ?_) (fun c2 => ?_)
        · refine r_iconst ?_
          first | refine r_iadd (az_wid (by omega) (by omega)) ?_ | refine r_iaddw ?_
          refine r_iret rfl ?_
          refine ⟨az_oI ?_, rfl⟩; first | (rw [if_pos (by omega)]) | (rw [if_neg (by omega)])
        · refine r_iload rfl ?_
          refine r_goto kX2_byWeight_150 ?_
          first | refine r_iadd (az_wid (by omega) (by omega)) ?_ | refine r_iaddw ?_
          refine r_iret rfl ?_
          refine ⟨az_oI ?_, rfl⟩; first | (rw [if_pos (by omega)]) | (rw [if_neg (by omega)])
theorem c_X2_byHours {g : Int} (hD : dD m f t c sp) (h0 : 0 ≤ g) (h1 : g < f 2) : az_CI sc 105 [.inr (.inr 236), .inl g] m (pByH f t c g (t g)) m := by
  have hn := nOK_2 hD.2.2.2.2.2.1
  have hT := hD.2.2.2.2.2.2.1
  have hC := hD.2.2.2.2.2.2.2.1
  have htg := hT g h0 h1
  refine r_iconst ?_
  refine r_istore_n (Nat.le_of_ble_eq_true rfl) rfl ?_
  refine r_iconst ?_
  refine r_istore_n (Nat.le_of_ble_eq_true rfl) rfl ?_
  skip
  refine az_lop (α := Int) (fun h a => [some (.inr (.inr (236))), some (.inl (g)), some (.inl (a)), some (.inl (h))]) (fun _ => m) (fun h a => a = pByH f t c g h) 0 (t g) 0 htg.1 rfl (fun h a h2 h3 hp hK => ?_) (fun a hp => ?_)
  · have hS := pByH_S f t c g h2
    have hB := pByH_b (f := f) (t := t) hC h0 h1 h2 (by omega)
    have hch := hC h h2 (by omega)
    have hA := pAlk_b f t (S := c h) (l := h) hch.1 h0 h1
    rw [← hp] at hS hB
    refine r_iload_n rfl ?_
    refine r_aload_n rfl ?_
    refine r_getR g_235 rfl ?_
    refine r_iload_n rfl ?_
    refine r_ialdx g_241 rfl (by omega) (by omega) (by omega) ((hD.2.2.2.1 _ (by omega) (by omega)).2.2.2) ?_
    refine r_icmp_ge kX2_byHours_37 (fun c1 => absurd c1 (by omega)) (fun c1 => ?_)
    refine r_iload_n rfl ?_
    refine r_aload_n rfl ?_
    refine r_aload_n rfl ?_
    refine r_getR g_235 rfl ?_
    refine r_iload_n rfl ?_
    refine r_ialdx g_236 rfl (by omega) (by omega) (by omega) (hD.2.2.1 _ (by omega) (by omega)) ?_
    refine r_iload_n rfl ?_
    refine r_iconst ?_
    first | refine r_iadd (az_wid (by omega) (by omega)) ?_ | refine r_iaddw ?_
    refine r_iload_n rfl ?_
    refine r_cV4I g_235 rfl (Nat.le_of_ble_eq_true rfl) (Nat.le_of_ble_eq_true rfl) (c_X2_alike hD rfl (by omega) h0 h1) ?_
    first | refine r_iadd (az_wid (by omega) (by omega)) ?_ | refine r_iaddw ?_
    refine r_istore_n (Nat.le_of_ble_eq_true rfl) rfl ?_
    refine r_iinc rfl (az_wid (by omega) (by omega)) rfl ?_
    refine r_goto kX2_byHours_4 ?_
    exact hK _ (by omega)
  · refine r_iload_n rfl ?_
    refine r_aload_n rfl ?_
    refine r_getR g_235 rfl ?_
    refine r_iload_n rfl ?_
    refine r_ialdx g_241 rfl (by omega) (by omega) (by omega) ((hD.2.2.2.1 _ (by omega) (by omega)).2.2.2) ?_
    refine r_icmp_ge kX2_byHours_37 (fun c1 => ?_) (fun c1 => absurd c1 (by omega))
    refine r_iload_n rfl ?_
    refine r_iret rfl ?_
    exact ⟨az_oI hp, rfl⟩
theorem c_X2_share {g : Int} (hD : dD m f t c sp) (h0 : 0 ≤ g) (h1 : g < f 2) : az_CI sc 106 [.inr (.inr 236), .inl g] m (pShr f t c sp g) m := by
  have hn := nOK_2 hD.2.2.2.2.2.1
  have hT := hD.2.2.2.2.2.2.1
  have hC := hD.2.2.2.2.2.2.2.1
  have hL := pLong_b hn.1 hT
  have hB := pBill_b hC hL.1 hL.2
  have hsp := hD.2.2.2.2.2.2.2.2
  unfold pShr
  rcases (show sp = 0 ∨ sp = 1 ∨ sp = 2 by omega) with h | h | h
  · subst h
    rw [if_pos rfl]
    refine r_aload_n rfl ?_
    refine r_cV1I g_235 rfl (Nat.le_of_ble_eq_true rfl) (Nat.le_of_ble_eq_true rfl) (c_X2_longest hD) ?_
    refine r_istore_n (Nat.le_of_ble_eq_true rfl) rfl ?_
    refine r_aload_n rfl ?_
    refine r_getIx g_235 (hD.2.1) ?_
    refine r_lsw rfl kX2_share_36 ?_
    refine r_aload_n rfl ?_
    refine r_aload_n rfl ?_
    refine r_iload_n rfl ?_
    refine r_cV2I g_235 rfl (Nat.le_of_ble_eq_true rfl) (Nat.le_of_ble_eq_true rfl) (c_X2_bill hD hL.1 hL.2) ?_
    refine r_iload_n rfl ?_
    refine r_iload_n rfl ?_
    refine r_cV4I g_235 rfl (Nat.le_of_ble_eq_true rfl) (Nat.le_of_ble_eq_true rfl) (c_X2_alike (l := pLong f t - 1) hD (by omega) (by omega) h0 h1) ?_
    refine r_iret rfl ?_
    exact ⟨rfl, rfl⟩
  · subst h
    rw [if_neg (by decide), if_pos rfl]
    refine r_aload_n rfl ?_
    refine r_cV1I g_235 rfl (Nat.le_of_ble_eq_true rfl) (Nat.le_of_ble_eq_true rfl) (c_X2_longest hD) ?_
    refine r_istore_n (Nat.le_of_ble_eq_true rfl) rfl ?_
    refine r_aload_n rfl ?_
    refine r_getIx g_235 (hD.2.1) ?_
    refine r_lsw rfl kX2_share_48 ?_
    refine r_aload_n rfl ?_
    refine r_aload_n rfl ?_
    refine r_iload_n rfl ?_
    refine r_cV2I g_235 rfl (Nat.le_of_ble_eq_true rfl) (Nat.le_of_ble_eq_true rfl) (c_X2_bill hD hL.1 hL.2) ?_
    refine r_iload_n rfl ?_
    refine r_iload_n rfl ?_
    refine r_cV4I g_235 rfl (Nat.le_of_ble_eq_true rfl) (Nat.le_of_ble_eq_true rfl) (c_X2_byWeight hD (by omega) h0 h1) ?_
    refine r_iret rfl ?_
    exact ⟨rfl, rfl⟩
  · subst h
    rw [if_neg (by decide), if_neg (by decide)]
    refine r_aload_n rfl ?_
    refine r_cV1I g_235 rfl (Nat.le_of_ble_eq_true rfl) (Nat.le_of_ble_eq_true rfl) (c_X2_longest hD) ?_
    refine r_istore_n (Nat.le_of_ble_eq_true rfl) rfl ?_
    refine r_aload_n rfl ?_
    refine r_getIx g_235 (hD.2.1) ?_
    refine r_lsw rfl kX2_share_60 ?_
    refine r_aload_n rfl ?_
    refine r_iload_n rfl ?_
    refine r_cV2I g_235 rfl (Nat.le_of_ble_eq_true rfl) (Nat.le_of_ble_eq_true rfl) (c_X2_byHours hD h0 h1) ?_
    refine r_iret rfl ?_
    exact ⟨rfl, rfl⟩
theorem pFe_b {f : Int → Int} (hN : nOK f) (g : Int) : 0 ≤ pFe f g ∧ pFe f g ≤ 9 := by
  have := nOK_1 hN
  unfold pFe
  split <;> omega
theorem c_X2_pay {g : Int} (hD : dD m f t c sp) (h0 : 0 ≤ g) (h1 : g < f 2) : az_CI sc 107 [.inr (.inr 236), .inl g] m (pPay f t c sp g) m := by
  have hN := hD.2.2.2.2.2.1
  have hn := nOK_2 hN
  have hT := hD.2.2.2.2.2.2.1
  have hC := hD.2.2.2.2.2.2.2.1
  have hb := pShr_b (sp := sp) hn hT hC h0 h1
  have htg := hT g h0 h1
  have hfe := pFe_b hN g
  have hm := az_mulb hfe.1 hfe.2 htg.1 htg.2
  rw [pPay_e]
  refine r_aload_n rfl ?_
  refine r_iload_n rfl ?_
  refine r_cV2I g_235 rfl (Nat.le_of_ble_eq_true rfl) (Nat.le_of_ble_eq_true rfl) (c_X2_share hD h0 h1) ?_
  refine r_aload_n rfl ?_
  refine r_getR g_235 rfl ?_
  refine r_iload_n rfl ?_
  refine r_ialdx g_238 rfl (by omega) (by omega) (by omega) ((hD.2.2.2.1 _ (by omega) (by omega)).2.1) ?_
  refine r_aload_n rfl ?_
  refine r_getR g_235 rfl ?_
  refine r_iload_n rfl ?_
  refine r_ialdx g_241 rfl (by omega) (by omega) (by omega) ((hD.2.2.2.1 _ (by omega) (by omega)).2.2.2) ?_
  refine r_imul (az_wid (by omega) (by omega)) ?_
  first | refine r_iadd (az_wid (by omega) (by omega)) ?_ | refine r_iaddw ?_
  refine r_iret rfl ?_
  exact ⟨rfl, rfl⟩
theorem c_X2_sum (hD : dD m f t c sp) : az_CI sc 110 [.inr (.inr 236)] m (pBill c (pLong f t)) m := by
  have hn := nOK_2 hD.2.2.2.2.2.1
  have hT := hD.2.2.2.2.2.2.1
  have hL := pLong_b hn.1 hT
  refine r_aload_n rfl ?_
  refine r_aload_n rfl ?_
  refine r_cV1I g_235 rfl (Nat.le_of_ble_eq_true rfl) (Nat.le_of_ble_eq_true rfl) (c_X2_longest hD) ?_
  refine r_cV2I g_235 rfl (Nat.le_of_ble_eq_true rfl) (Nat.le_of_ble_eq_true rfl) (c_X2_bill hD hL.1 hL.2) ?_
  refine r_iret rfl ?_
  exact ⟨rfl, rfl⟩
theorem c_X2_joyIn {g h : Int} (hD : dD m f t c sp) (h0 : 0 ≤ g) (h1 : g < f 2) (h2 : 0 ≤ h) (h3 : h < 6) : az_CI sc 130 [.inr (.inr 236), .inl g, .inl h] m (pJoy f t g h) m := by
  have hN := hD.2.2.2.2.2.1
  have hn := nOK_2 hN
  have hG := nOK_g hN g h0 h1
  have hJA := pJoyA_b (h := h) hG.2.1
  refine r_iconst ?_
  refine r_istore_n (Nat.le_of_ble_eq_true rfl) rfl ?_
  refine r_iconst ?_
  refine r_istore (Nat.le_of_ble_eq_true rfl) rfl ?_
  skip
  refine az_lop (α := Int) (fun o a => [some (.inr (.inr (236))), some (.inl (g)), some (.inl (h)), some (.inl (a)), some (.inl (o))]) (fun _ => m) (fun o a => a = pOth f t g h o) 0 (f 2) 0 hn.1 rfl (fun o a h4 h5 hp hK => ?_) (fun a hp => ?_)
  · have hS := pOth_S f t g h h4
    have hB := pOth_b f t g h h4
    rw [← hp] at hS hB
    refine r_iload rfl ?_
    refine r_aload_n rfl ?_
    refine r_getIx g_235 (hD.1) ?_
    refine r_icmp_ge kX2_joyIn_40 (fun c1 => absurd c1 (by omega)) (fun c1 => ?_)
    refine r_iload rfl ?_
    refine r_iload_n rfl ?_
    refine r_icmp_eq kX2_joyIn_34 (fun c2 => ?_) (fun c2 => ?_)
    · refine r_iinc rfl (az_wid (by omega) (by omega)) rfl ?_
      refine r_goto kX2_joyIn_5 ?_
      refine hK _ (by rw [hS]; first | rw [if_pos (by omega)] | (rw [if_neg (by omega)]))
    · refine r_aload_n rfl ?_
      refine r_getR g_235 rfl ?_
      refine r_iload rfl ?_
      refine r_ialdx g_241 rfl (by omega) (by omega) (by omega) ((hD.2.2.2.1 _ (by omega) (by omega)).2.2.2) ?_
      refine r_iload_n rfl ?_
      refine r_icmp_le kX2_joyIn_34 (fun c3 => ?_) (fun c3 => ?_)
      · refine r_iinc rfl (az_wid (by omega) (by omega)) rfl ?_
        refine r_goto kX2_joyIn_5 ?_
        refine hK _ (by rw [hS]; first | rw [if_pos (by omega)] | (rw [if_neg (by omega)]))
      · refine r_iinc rfl (az_wid (by omega) (by omega)) rfl ?_
        refine r_iinc rfl (az_wid (by omega) (by omega)) rfl ?_
        refine r_goto kX2_joyIn_5 ?_
        refine hK _ (by rw [hS]; first | rw [if_pos (by omega)] | (rw [if_neg (by omega)]))
  · have hB := pOth_b f t g h hn.1
    rw [← hp] at hB
    have hc3 : pComp f g = 1 ∨ pComp f g = -1 ∨ pComp f g = 0 := by
      unfold pComp
      (repeat' split) <;> omega
    have hmb : -4 ≤ a * pComp f g ∧ a * pComp f g ≤ 4 := by
      rcases hc3 with e | e | e <;> rw [e] <;> omega
    refine r_iload rfl ?_
    refine r_aload_n rfl ?_
    refine r_getIx g_235 (hD.1) ?_
    refine r_icmp_ge kX2_joyIn_40 (fun c1 => ?_) (fun c1 => absurd c1 (by omega))
    refine r_aload_n rfl ?_
    refine r_getR g_235 rfl ?_
    refine r_iload_n rfl ?_
    refine r_bipush ?_
    first | refine r_imul (az_wid (by omega) (by omega)) ?_ | refine r_imulw ?_
    refine r_iload_n rfl ?_
    first | refine r_iadd (az_wid (by omega) (by omega)) ?_ | refine r_iaddw ?_
    refine r_ialdx g_240 rfl (by omega) (by omega) (by omega) (hD.2.2.2.2.1 _ _ (by omega) (by omega) (by omega) (by omega)) ?_
    refine r_iload_n rfl ?_
    refine r_aload_n rfl ?_
    refine r_getR g_235 rfl ?_
    refine r_iload_n rfl ?_
    refine r_ialdx g_239 rfl (by omega) (by omega) (by omega) ((hD.2.2.2.1 _ (by omega) (by omega)).2.2.1) ?_
    refine r_imul (az_wid (by omega) (by omega)) ?_
    first | refine r_iadd (az_wid (by omega) (by omega)) ?_ | refine r_iaddw ?_
    refine r_iret rfl ?_
    refine ⟨az_oI ?_, rfl⟩; unfold pJoy; rw [← hp]
theorem c_X2_worthOf {g : Int} (hD : dD m f t c sp) (h0 : 0 ≤ g) (h1 : g < f 2) : az_CI sc 131 [.inr (.inr 236), .inl g] m (pWor f t c sp g) m := by
  have hN := hD.2.2.2.2.2.1
  have hn := nOK_2 hN
  have hG := nOK_g hN g h0 h1
  have hT := hD.2.2.2.2.2.2.1
  have hC := hD.2.2.2.2.2.2.2.1
  have htg := hT g h0 h1
  have hpb := pPay_b (sp := sp) hn (nOK_1 hN) hT hC h0 h1
  refine r_iconst ?_
  refine r_istore_n (Nat.le_of_ble_eq_true rfl) rfl ?_
  refine r_iconst ?_
  refine r_istore_n (Nat.le_of_ble_eq_true rfl) rfl ?_
  skip
  refine az_lop (α := Int) (fun h a => [some (.inr (.inr (236))), some (.inl (g)), some (.inl (a)), some (.inl (h))]) (fun _ => m) (fun h a => a = pJoys f t g h) 0 (t g) 0 htg.1 rfl (fun h a h2 h3 hp hK => ?_) (fun a hp => ?_)
  · have hS := pJoys_S f t g h2
    have hB := pJoys_b (t := t) hn hG.2.1 h2
    have hB2 := pJoy_b (t := t) (h := h) hn hG.2.1
    rw [← hp] at hS hB
    refine r_iload_n rfl ?_
    refine r_aload_n rfl ?_
    refine r_getR g_235 rfl ?_
    refine r_iload_n rfl ?_
    refine r_ialdx g_241 rfl (by omega) (by omega) (by omega) ((hD.2.2.2.1 _ (by omega) (by omega)).2.2.2) ?_
    refine r_icmp_ge kX2_worthOf_29 (fun c1 => absurd c1 (by omega)) (fun c1 => ?_)
    refine r_iload_n rfl ?_
    refine r_aload_n rfl ?_
    refine r_iload_n rfl ?_
    refine r_iload_n rfl ?_
    refine r_cV3I g_235 rfl (Nat.le_of_ble_eq_true rfl) (Nat.le_of_ble_eq_true rfl) (c_X2_joyIn hD h0 h1 h2 (by omega)) ?_
    first | refine r_iadd (az_wid (by omega) (by omega)) ?_ | refine r_iaddw ?_
    refine r_istore_n (Nat.le_of_ble_eq_true rfl) rfl ?_
    refine r_iinc rfl (az_wid (by omega) (by omega)) rfl ?_
    refine r_goto kX2_worthOf_4 ?_
    exact hK _ (by omega)
  · have hB := pJoys_b (t := t) hn hG.2.1 htg.1
    rw [← hp] at hB
    refine r_iload_n rfl ?_
    refine r_aload_n rfl ?_
    refine r_getR g_235 rfl ?_
    refine r_iload_n rfl ?_
    refine r_ialdx g_241 rfl (by omega) (by omega) (by omega) ((hD.2.2.2.1 _ (by omega) (by omega)).2.2.2) ?_
    refine r_icmp_ge kX2_worthOf_29 (fun c1 => ?_) (fun c1 => absurd c1 (by omega))
    refine r_iload_n rfl ?_
    refine r_aload_n rfl ?_
    refine r_iload_n rfl ?_
    refine r_cV2I g_235 rfl (Nat.le_of_ble_eq_true rfl) (Nat.le_of_ble_eq_true rfl) (c_X2_pay hD h0 h1) ?_
    first | refine r_isub (az_wid (by omega) (by omega)) ?_ | refine r_isubw ?_
    refine r_iret rfl ?_
    exact ⟨az_oI (by unfold pWor; rw [hp]), rfl⟩
/-- so far a day is open -/
def oP (m a : aM) (f : Int → Int) (g : Int) : Prop := (∀ x, (x < 235 ∨ 241 < x) → a x = m x) ∧ a 235 6 = f 2 ∧ a 235 7 = f 0 ∧ (∀ h, 0 ≤ h → h < 6 → a 236 h = pPrice f h) ∧ (∀ j, 0 ≤ j → j < g → a 237 j = pHeads f j ∧ a 238 j = pFe f j ∧ a 239 j = pComp f j ∧ a 241 j = f (36 + j)) ∧ (∀ j h, 0 ≤ j → j < g → 0 ≤ h → h < 6 → a 240 (j * 6 + h) = pJoyA f j h)
theorem l_X2_open {g : Int} {a : aM} {o3 o4 : Option aV} (hB : bR m 22 f) (hN : nOK f) (hO : oP m a f g) (h0 : 0 ≤ g) (h1 : g < f 2) (K : ∀ a' o3 o4, oP m a' f (g + 1) → az_E sc az_G 100 zX2_open_43 [some (.inr (.inr (236))), some (.inr (.inr (23))), some (.inl (g + 1)), o3, o4] [] a' Q) : az_E sc az_G 100 zX2_open_43 [some (.inr (.inr (236))), some (.inr (.inr (23))), some (.inl (g)), o3, o4] [] a Q := by
  have hn := nOK_2 hN
  obtain ⟨k1, k2, k3, k4, k5, k6⟩ := hO
  have hBa : bR a 22 f := bR_fr hB (fun x _ _ => k1 x (by omega))
  obtain ⟨e1, e2, e3, e4, e5, e6⟩ := hBa.2.2 g h0 h1
  have hb := mask_bit (q01_sh hN) hn.2 h0 h1
  have e14 : m 22 14 = pMask (fun g => f (40 + g)) (f 2) := hB.1.2.2.2.2.2.2.2
  have e9 : m 22 9 = f 1 := hB.1.2.1
  try dsimp only at hb
  have hG := nOK_g hN g h0 h1
  obtain ⟨a1, ha1⟩ : ∃ x, x = az_up a 237 g (pHeads f g) := ⟨_, rfl⟩
  obtain ⟨a2, ha2⟩ : ∃ x, x = az_up a1 238 g (pFe f g) := ⟨_, rfl⟩
  obtain ⟨a3, ha3⟩ : ∃ x, x = az_up a2 239 g (pComp f g) := ⟨_, rfl⟩
  obtain ⟨a4, ha4⟩ : ∃ x, x = az_up a3 241 g (f (36 + g)) := ⟨_, rfl⟩
  have l1 : ∀ x, x < 235 → a1 x = m x := fun x hx => by rw [ha1, az_up_b _ _ _ (by omega)]; exact k1 x (by omega)
  have l2 : ∀ x, x < 235 → a2 x = m x := fun x hx => by rw [ha2, az_up_b _ _ _ (by omega)]; exact l1 x hx
  have l3 : ∀ x, x < 235 → a3 x = m x := fun x hx => by rw [ha3, az_up_b _ _ _ (by omega)]; exact l2 x hx
  have l4 : ∀ x, x < 235 → a4 x = m x := fun x hx => by rw [ha4, az_up_b _ _ _ (by omega)]; exact l3 x hx
  have q4 : ∀ x, x ≠ 237 → x ≠ 238 → x ≠ 239 → x ≠ 241 → a4 x = a x := fun x x1 x2 x3 x4 => by rw [ha4, ha3, ha2, ha1, az_up_b _ _ _ x4, az_up_b _ _ _ x3, az_up_b _ _ _ x2, az_up_b _ _ _ x1]
  have H4 : ∀ kd, az_E sc az_G 100 zX2_open_143 [some (.inr (.inr (236))), some (.inr (.inr (23))), some (.inl (g)), some (.inl (kd)), some (.inl (0))] [] a4 Q := by
    intro kd
    refine az_lop (α := aM) (fun h _ => [some (.inr (.inr (236))), some (.inr (.inr (23))), some (.inl (g)), some (.inl (kd)), some (.inl (h))]) (fun b => b) (fun h b => (∀ x, x ≠ 240 → b x = a4 x) ∧ (∀ j h', 0 ≤ j → j < g → 0 ≤ h' → h' < 6 → b 240 (j * 6 + h') = pJoyA f j h') ∧ (∀ h', 0 ≤ h' → h' < h → b 240 (g * 6 + h') = pJoyA f g h')) 0 6 a4 (by decide) ⟨fun _ _ => rfl, fun j h' j0 j1 x0 x1 => by rw [q4 240 (by decide) (by decide) (by decide) (by decide)]; exact k6 j h' j0 j1 x0 x1, fun h' x0 x1 => by omega⟩ (fun h b x0 x1 hp hK => ?_) (fun b hp => ?_)
    · obtain ⟨p1, p2, p3⟩ := hp
      have hBb : bR b 22 f := bR_fr hB (fun x _ _ => (p1 x (by omega)).trans (l4 x (by omega)))
      refine r_iload rfl ?_
      refine r_bipush ?_
      refine r_icmp_ge kX2_open_175 (fun c1 => absurd c1 (by omega)) (fun c1 => ?_)
      refine r_aload_n rfl ?_
      refine r_getR g_235 rfl ?_
      refine r_iload_n rfl ?_
      refine r_bipush ?_
      first | refine r_imul (az_wid (by omega) (by omega)) ?_ | refine r_imulw ?_
      refine r_iload rfl ?_
      first | refine r_iadd (az_wid (by omega) (by omega)) ?_ | refine r_iaddw ?_
      refine r_aload_n rfl ?_
      refine r_iload_n rfl ?_
      refine r_iload rfl ?_
      refine r_cV3I g_22 rfl (Nat.le_of_ble_eq_true rfl) (Nat.le_of_ble_eq_true rfl) (c_X1_joyAlone hBb hN h0 h1) ?_
      refine r_iast g_240 (by decide) (by omega) (by omega) ?_
      refine r_iinc rfl (az_wid (by omega) (by omega)) rfl ?_
      refine r_goto kX2_open_143 ?_
      refine hK _ ⟨fun x hx => (az_up_b _ _ _ hx).trans (p1 x hx), fun j h' j0 j1 y0 y1 => (az_up_k _ _ (by omega)).trans (p2 j h' j0 j1 y0 y1), fun h' y0 y1 => az_up_eq (fun e => by rw [show h' = h by omega]) (fun e => p3 h' y0 (by omega))⟩
    · obtain ⟨p1, p2, p3⟩ := hp
      refine r_iload rfl ?_
      refine r_bipush ?_
      refine r_icmp_ge kX2_open_175 (fun c1 => ?_) (fun c1 => absurd c1 (by decide))
      refine r_iinc rfl (az_wid (by omega) (by omega)) rfl ?_
      refine r_goto kX2_open_43 ?_
      skip
      refine K _ _ _ ⟨fun x hx => ?_, ?_, ?_, fun h x0 x1 => ?_, fun j j0 j1 => ?_, fun j h j0 j1 x0 x1 => ?_⟩
      · rw [p1 x (by omega), q4 x (by omega) (by omega) (by omega) (by omega)]
        exact k1 x hx
      · rw [p1 235 (by decide), q4 235 (by decide) (by decide) (by decide) (by decide)]
        exact k2
      · rw [p1 235 (by decide), q4 235 (by decide) (by decide) (by decide) (by decide)]
        exact k3
      · rw [p1 236 (by decide), q4 236 (by decide) (by decide) (by decide) (by decide)]
        exact k4 h x0 x1
      · rw [p1 237 (by decide), p1 238 (by decide), p1 239 (by decide), p1 241 (by decide), ha4, ha3, ha2, ha1]
        refine ⟨?_, ?_, ?_, ?_⟩
        · rw [az_up_b _ _ _ (by decide), az_up_b _ _ _ (by decide), az_up_b _ _ _ (by decide)]
          exact az_up_eq (fun e => by rw [e]) (fun e => (k5 j j0 (by omega)).1)
        · rw [az_up_b _ _ _ (by decide), az_up_b _ _ _ (by decide)]
          exact az_up_eq (fun e => by rw [e]) (fun e => by rw [az_up_b _ _ _ (by decide)]; exact (k5 j j0 (by omega)).2.1)
        · rw [az_up_b _ _ _ (by decide)]
          exact az_up_eq (fun e => by rw [e]) (fun e => by rw [az_up_b _ _ _ (by decide), az_up_b _ _ _ (by decide)]; exact (k5 j j0 (by omega)).2.2.1)
        · exact az_up_eq (fun e => by rw [e]) (fun e => by rw [az_up_b _ _ _ (by decide), az_up_b _ _ _ (by decide), az_up_b _ _ _ (by decide)]; exact (k5 j j0 (by omega)).2.2.2)
      · by_cases e : j = g
        · subst e
          exact p3 h x0 x1
        · exact p2 j h j0 (by omega) x0 x1
  have H3 : ∀ x kd o4, x = pComp f g → az_E sc az_G 100 zX2_open_128 [some (.inr (.inr (236))), some (.inr (.inr (23))), some (.inl (g)), some (.inl (kd)), o4] [.inl x, .inl g, .inr (.inr 240)] a2 Q := by
    intro x kd o4 hx
    subst hx
    have hB3 : bR a3 22 f := bR_fr hB (fun x _ _ => l3 x (by omega))
    have hB3' : bR (az_up a2 239 g (pComp f g)) 22 f := by rw [← ha3]; exact hB3
    refine r_iast g_239 (by decide) (by omega) (by omega) ?_
    refine r_aload_n rfl ?_
    refine r_getR g_235 rfl ?_
    refine r_iload_n rfl ?_
    refine r_aload_n rfl ?_
    refine r_iload_n rfl ?_
    refine r_cV2I g_22 rfl (Nat.le_of_ble_eq_true rfl) (Nat.le_of_ble_eq_true rfl) (c_X1_hoursOf hB3' hN h0 h1) ?_
    refine r_iast g_241 (by decide) (by omega) (by omega) ?_
    refine r_iconst ?_
    refine r_istore (Nat.le_of_ble_eq_true rfl) rfl ?_
    rw [← ha3, ← ha4]; exact H4 _
  have H2 : ∀ x o4, x = pFe f g → az_E sc az_G 100 zX2_open_98 [some (.inr (.inr (236))), some (.inr (.inr (23))), some (.inl (g)), some (.inl (f (12 + g))), o4] [.inl x, .inl g, .inr (.inr 239)] a1 Q := by
    intro x o4 hx
    subst hx
    refine r_iast g_238 (by decide) (by omega) (by omega) ?_
    refine r_aload_n rfl ?_
    refine r_getR g_235 rfl ?_
    refine r_iload_n rfl ?_
    refine r_iload_n rfl ?_
    refine r_iconst ?_
    refine r_icmp_ne kX2_open_113 (fun c1 => ?_) (fun c1 => ?_)
    · refine r_iload_n rfl ?_
      refine r_iconst ?_
      refine r_icmp_eq kX2_open_123 (fun c2 => ?_) (fun c2 => ?_)
      · refine r_iconst ?_
        refine r_goto kX2_open_128 ?_
        rw [← ha2]; exact H3 _ _ _ (by unfold pComp; first | rw [if_pos (by omega)] | rw [if_neg (by omega), if_pos (by omega)] | rw [if_neg (by omega), if_neg (by omega)])
      · refine r_iload_n rfl ?_
        refine r_iconst ?_
        refine r_icmp_ne kX2_open_127 (fun c3 => ?_) (fun c3 => ?_)
        · refine r_iconst ?_
          rw [← ha2]; exact H3 _ _ _ (by unfold pComp; first | rw [if_pos (by omega)] | rw [if_neg (by omega), if_pos (by omega)] | rw [if_neg (by omega), if_neg (by omega)])
        · refine r_iconst ?_
          refine r_goto kX2_open_128 ?_
          rw [← ha2]; exact H3 _ _ _ (by unfold pComp; first | rw [if_pos (by omega)] | rw [if_neg (by omega), if_pos (by omega)] | rw [if_neg (by omega), if_neg (by omega)])
    · refine r_iconst ?_
      refine r_goto kX2_open_128 ?_
      rw [← ha2]; exact H3 _ _ _ (by unfold pComp; first | rw [if_pos (by omega)] | rw [if_neg (by omega), if_pos (by omega)] | rw [if_neg (by omega), if_neg (by omega)])
  have H1 : ∀ x o4, x = pHeads f g → az_E sc az_G 100 zX2_open_73 [some (.inr (.inr (236))), some (.inr (.inr (23))), some (.inl (g)), some (.inl (f (12 + g))), o4] [.inl x, .inl g, .inr (.inr 238)] a Q := by
    intro x o4 hx
    subst hx
    have z14 : az_up a 237 g (pHeads f g) 22 14 = pMask (fun g => f (40 + g)) (f 2) := by rw [← ha1, l1 22 (by decide)]; exact e14
    have z9 : az_up a 237 g (pHeads f g) 22 9 = f 1 := by rw [← ha1, l1 22 (by decide)]; exact e9
    refine r_iast g_237 (by decide) (by omega) (by omega) ?_
    refine r_aload_n rfl ?_
    refine r_getR g_235 rfl ?_
    refine r_iload_n rfl ?_
    refine r_iload_n rfl ?_
    refine r_aload_n rfl ?_
    refine r_getIx g_22 (z14) ?_
    refine r_cS2I (by decide) (Nat.le_of_ble_eq_true rfl) (Nat.le_of_ble_eq_true rfl) (c_X7_isIn _ _) ?_
    refine r_if_eq kX2_open_97 (fun c1 => ?_) (fun c1 => ?_)
    · refine r_iconst ?_
      rw [← ha1]; exact H2 _ _ (by unfold pFe; first | rw [if_pos (by omega)] | rw [if_neg (by omega)])
    · refine r_aload_n rfl ?_
      refine r_getIx g_22 (z9) ?_
      refine r_goto kX2_open_98 ?_
      rw [← ha1]; exact H2 _ _ (by unfold pFe; first | rw [if_pos (by omega)] | rw [if_neg (by omega)])
  refine r_iload_n rfl ?_
  refine r_aload_n rfl ?_
  refine r_getIx g_235 (k2) ?_
  refine r_icmp_ge kX2_open_181 (fun c1 => absurd c1 (by omega)) (fun c1 => ?_)
  refine r_aload_n rfl ?_
  refine r_getR g_22 rfl ?_
  refine r_iload_n rfl ?_
  refine r_ialdx g_24 rfl (by omega) (by omega) (by omega) (e1) ?_
  refine r_istore_n (Nat.le_of_ble_eq_true rfl) rfl ?_
  refine r_aload_n rfl ?_
  refine r_getR g_235 rfl ?_
  refine r_iload_n rfl ?_
  refine r_iload_n rfl ?_
  refine r_iconst ?_
  refine r_icmp_ne kX2_open_72 (fun c2 => ?_) (fun c2 => ?_)
  · refine r_iconst ?_
    exact H1 _ _ (by unfold pHeads; first | rw [if_pos (by omega)] | rw [if_neg (by omega)])
  · refine r_iconst ?_
    refine r_goto kX2_open_73 ?_
    exact H1 _ _ (by unfold pHeads; first | rw [if_pos (by omega)] | rw [if_neg (by omega)])
theorem c_X2_open (hB : bR m 22 f) (hN : nOK f) : az_C sc az_G 100 [.inr (.inr 236), .inr (.inr 23)] m (fun v m' => v = none ∧ (∀ x, (x < 235 ∨ 241 < x) → m' x = m x) ∧ dD m' f (pThr f) (pPrice f) (f 0)) := by
  have hn := nOK_2 hN
  refine r_aload_n rfl ?_
  refine r_aload_n rfl ?_
  refine r_getIx g_22 (hB.1.2.2.1) ?_
  refine r_putI g_235 (by decide) ?_
  refine r_aload_n rfl ?_
  refine r_aload_n rfl ?_
  refine r_getIx g_22 ((congrFun (az_up_b _ _ _ (by decide)) _).trans hB.1.1) ?_
  refine r_putI g_235 (by decide) ?_
  refine r_iconst ?_
  refine r_istore_n (Nat.le_of_ble_eq_true rfl) rfl ?_
  skip
  refine az_lop (α := aM) (fun h _ => [some (.inr (.inr (236))), some (.inr (.inr (23))), some (.inl (h)), none, none]) (fun a => a) (fun h a => (∀ x, (x < 235 ∨ 241 < x) → a x = m x) ∧ a 235 6 = f 2 ∧ a 235 7 = f 0 ∧ (∀ j, 0 ≤ j → j < h → a 236 j = pPrice f j)) 0 6 _ (by decide) ⟨fun x hx => by rw [az_up_b _ _ _ (by omega), az_up_b _ _ _ (by omega)], by rw [az_up_k _ _ (by decide), az_upx], az_upx _ _ _ _, fun j j0 j1 => by omega⟩ (fun h a h0 h1 hp hK => ?_) (fun a hp => ?_)
  · obtain ⟨p1, p2, p3, p4⟩ := hp
    have hBa : bR a 22 f := bR_fr hB (fun x _ _ => p1 x (by omega))
    refine r_iload_n rfl ?_
    refine r_bipush ?_
    refine r_icmp_ge kX2_open_41 (fun c1 => absurd c1 (by omega)) (fun c1 => ?_)
    refine r_aload_n rfl ?_
    refine r_getR g_235 rfl ?_
    refine r_iload_n rfl ?_
    refine r_aload_n rfl ?_
    refine r_iload_n rfl ?_
    refine r_cV2I g_22 rfl (Nat.le_of_ble_eq_true rfl) (Nat.le_of_ble_eq_true rfl) (c_X1_priceOf2 hBa hN h0 h1) ?_
    refine r_iast g_236 (by decide) (by omega) (by omega) ?_
    refine r_iinc rfl (az_wid (by omega) (by omega)) rfl ?_
    refine r_goto kX2_open_18 ?_
    refine hK _ ⟨fun x hx => (az_up_b _ _ _ (by omega)).trans (p1 x hx), by rw [az_up_b _ _ _ (by decide)]; exact p2, by rw [az_up_b _ _ _ (by decide)]; exact p3, fun j j0 j1 => az_up_eq (fun e => by rw [e]) (fun e => p4 j j0 (by omega))⟩
  · obtain ⟨p1, p2, p3, p4⟩ := hp
    refine r_iload_n rfl ?_
    refine r_bipush ?_
    refine r_icmp_ge kX2_open_41 (fun c1 => ?_) (fun c1 => absurd c1 (by decide))
    refine r_iconst ?_
    refine r_istore_n (Nat.le_of_ble_eq_true rfl) rfl ?_
    skip
    refine az_lop (α := aM × Option aV × Option aV) (fun g a => [some (.inr (.inr (236))), some (.inr (.inr (23))), some (.inl (g)), a.2.1, a.2.2]) (fun a => a.1) (fun g a => oP m a.1 f g) 0 (f 2) (a, none, none) hn.1 ⟨p1, p2, p3, p4, fun j j0 j1 => by omega, fun j h j0 j1 => by omega⟩ (fun g a h0 h1 hp hK => ?_) (fun a hp => ?_)
    · obtain ⟨b, o3, o4⟩ := a
      exact l_X2_open hB hN hp h0 h1 (fun a' o3 o4 hO => hK (a', o3, o4) hO)
    · obtain ⟨b, o3, o4⟩ := a
      dsimp only at hp ⊢
      obtain ⟨q1, q2, q3, q4, q5, q6⟩ := hp
      refine r_iload_n rfl ?_
      refine r_aload_n rfl ?_
      refine r_getIx g_235 (q2) ?_
      refine r_icmp_ge kX2_open_181 (fun c1 => ?_) (fun c1 => absurd c1 (by omega))
      refine r_vret rfl ?_
      exact ⟨rfl, q1, q2, q3, q4, q5, q6, hN, pThr_ok hN, fun h h0 h1 => pPrice_b (nOK_p hN) h0 h1, nOK_0 hN⟩
end CD
