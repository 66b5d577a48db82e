/-! THE REFERENCE: what a day costs -/
section RA
variable {sc : aX} {m : aM} {f t c : Int → Int} {sp : Int} {Q : Option aV → aM → Prop}
def pCosts (f c : Int → Int) (k : Int) : Int → Int := fun j => if 0 ≤ j ∧ j < k then pPrice f j else c j
theorem pCosts_S (f c : Int → Int) {k : Int} (h : 0 ≤ k) : up1 (pCosts f c k) k (pPrice f k) = pCosts f c (k + 1) := by
  funext j
  unfold up1 pCosts
  by_cases e : j = k
  · subst e
    rw [if_pos rfl, if_pos (by omega)]
  · rw [if_neg e]
    by_cases h1 : 0 ≤ j ∧ j < k
    · rw [if_pos h1, if_pos (by omega)]
    · rw [if_neg h1, if_neg (by omega)]
theorem pCosts_0 (f c : Int → Int) : pCosts f c 0 = c := by
  funext j
  unfold pCosts
  rw [if_neg (by omega)]
theorem pPrice_b {f : Int → Int} (hp : ∀ h, 0 ≤ h → h < 6 → 0 ≤ f (6 + h) ∧ f (6 + h) ≤ 30) {h : Int} (h0 : 0 ≤ h) (h1 : h < 6) : 0 ≤ pPrice f h ∧ pPrice f h ≤ 30 := by
  have := hp h h0 h1
  unfold pPrice
  split
  · rw [td2 this.1]; omega
  · exact this
theorem cOK_costs {f : Int → Int} (c : Int → Int) (hN : nOK f) : cOK (pCosts f c 6) := by
  intro h h0 h1
  unfold pCosts
  rw [if_pos ⟨h0, h1⟩]
  exact pPrice_b (nOK_p hN) h0 h1
theorem c_X8_priceOf2 {h : Int} (hf : m 284 = f) (hN : nOK f) (h0 : 0 ≤ h) (h1 : h < 6) : az_CI sc 85 [.inr (.inr 280), .inl h] m (pPrice f h) m := by
  subst hf
  exact c_X8_priceOf h h0 h1 (nOK_p hN h h0 h1)
theorem c_X8_isGuest2 {g : Int} (hf : m 284 = f) (hn : 0 ≤ f 2 ∧ f 2 ≤ 4) : az_CI sc 89 [.inr (.inr 280), .inl g] m (if 0 ≤ g ∧ g ≤ f 2 - 1 then 1 else 0) m := by
  subst hf
  exact c_X8_isGuest g hn
theorem c_X8_layNow (hf : m 284 = f) (hN : nOK f) : az_CV sc 112 [.inr (.inr 280)] m (az_up (az_set m 291 (pCosts f (m 291) 6)) 279 23 (f 0)) := by
  refine r_iconst ?_
  refine r_istore_n (Nat.le_of_ble_eq_true rfl) rfl ?_
  refine az_lop (α := aM) (fun h _ => [some (.inr (.inr 280)), some (.inl (h))]) (fun a => a) (fun h a => a = az_set m 291 (pCosts f (m 291) h)) 0 6 _ (by decide) (by rw [pCosts_0, az_s0]) (fun h a h0 h1 hp hK => ?_) (fun a hp => ?_)
  · subst hp
    refine r_iload_n rfl ?_
    refine r_bipush ?_
    refine r_icmp_ge kX8_layNow_25 (fun c1 => absurd c1 (by omega)) (fun c1 => ?_)
    refine r_aload_n rfl ?_
    refine r_getR g_279 rfl ?_
    refine r_iload_n rfl ?_
    refine r_aload_n rfl ?_
    refine r_iload_n rfl ?_
    refine r_cV2I g_279 rfl (Nat.le_of_ble_eq_true rfl) (Nat.le_of_ble_eq_true rfl) (c_X8_priceOf2 hf hN h0 h1) ?_
    refine r_iast g_291 (by decide) (by omega) (by omega) ?_
    refine r_iinc rfl (az_wid (by omega) (by omega)) rfl ?_
    refine r_goto kX8_layNow_2 ?_
    exact hK _ (by rw [az_us, pCosts_S f _ h0])
  · subst hp
    refine r_iload_n rfl ?_
    refine r_bipush ?_
    refine r_icmp_ge kX8_layNow_25 (fun c1 => ?_) (fun c1 => absurd c1 (by omega))
    refine r_aload_n rfl ?_
    refine r_aload_n rfl ?_
    refine r_getR g_279 rfl ?_
    refine r_iconst ?_
    refine r_ialdx g_284 rfl (by omega) (by omega) (by omega) (congrFun hf _) ?_
    refine r_putI g_279 (by decide) ?_
    refine r_vret rfl ?_
    exact ⟨rfl, rfl⟩
theorem c_X8_heads {g : Int} (hf : m 284 = f) (h0 : 0 ≤ g) (h1 : g < 4) : az_CI sc 115 [.inr (.inr 280), .inl g] m (pHeads f g) m := by
  refine r_aload_n rfl ?_
  refine r_getR g_279 rfl ?_
  refine r_bipush ?_
  refine r_iload_n rfl ?_
  first | refine r_iadd (az_wid (by omega) (by omega)) ?_ | refine r_iaddw ?_
  refine r_ialdx g_284 rfl (by omega) (by omega) (by omega) (congrFun hf _) ?_
  refine r_iconst ?_
  refine r_icmp_ne kX8_heads_17 (fun c1 => ?_) (fun c1 => ?_)
  · refine r_iconst ?_
    refine r_iret rfl ?_
    unfold pHeads; (repeat' split) <;> first | exact ⟨rfl, rfl⟩ | (exfalso; omega)
  · refine r_iconst ?_
    refine r_goto kX8_heads_18 ?_
    refine r_iret rfl ?_
    unfold pHeads; (repeat' split) <;> first | exact ⟨rfl, rfl⟩ | (exfalso; omega)
theorem c_X8_longest (hf : m 284 = f) (ht : ∀ g, 0 ≤ g → g < f 2 → m 290 g = t g) (hn : 0 ≤ f 2 ∧ f 2 ≤ 4) : az_CI sc 113 [.inr (.inr 280)] m (pLong f t) m := by
  refine r_iconst ?_
  refine r_istore_n (Nat.le_of_ble_eq_true rfl) rfl ?_
  refine r_iconst ?_
  refine r_istore_n (Nat.le_of_ble_eq_true rfl) rfl ?_
  refine az_lop (α := Int) (fun g a => [some (.inr (.inr 280)), some (.inl (a)), some (.inl (g))]) (fun _ => m) (fun g a => a = az_F (fun g a => if a < t g then t g else a) 0 g) 0 (f 2) _ hn.1 rfl (fun g a h0 h1 hp hK => ?_) (fun a hp => ?_)
  · have hS := az_FS (fun g a => if a < t g then t g else a) (0 : Int) h0
    rw [← hp] at hS
    refine r_iload_n rfl ?_
    refine r_aload_n rfl ?_
    refine r_getR g_279 rfl ?_
    refine r_iconst ?_
    refine r_ialdx g_284 rfl (by omega) (by omega) (by omega) (congrFun hf _) ?_
    refine r_icmp_ge kX8_longest_41 (fun c1 => absurd c1 (by omega)) (fun c1 => ?_)
    refine r_aload_n rfl ?_
    refine r_getR g_279 rfl ?_
    refine r_iload_n rfl ?_
    refine r_ialdx g_290 rfl (by omega) (by omega) (by omega) (ht _ (by omega) (by omega)) ?_
    refine r_iload_n rfl ?_
    refine r_icmp_le kX8_longest_33 (fun c2 => ?_) (fun c2 => ?_)
    · refine r_iload_n rfl ?_
      refine r_istore_n (Nat.le_of_ble_eq_true rfl) rfl ?_
      refine r_iinc rfl (az_wid (by omega) (by omega)) rfl ?_
      refine r_goto kX8_longest_4 ?_
      exact hK _ (by rw [hS]; first | rw [if_pos (by omega)] | rw [if_neg (by omega)])
    · refine r_aload_n rfl ?_
      refine r_getR g_279 rfl ?_
      refine r_iload_n rfl ?_
      refine r_ialdx g_290 rfl (by omega) (by omega) (by omega) (ht _ (by omega) (by omega)) ?_
      refine r_goto kX8_longest_34 ?_
      refine r_istore_n (Nat.le_of_ble_eq_true rfl) rfl ?_
      refine r_iinc rfl (az_wid (by omega) (by omega)) rfl ?_
      refine r_goto kX8_longest_4 ?_
      exact hK _ (by rw [hS]; first | rw [if_pos (by omega)] | rw [if_neg (by omega)])
  · refine r_iload_n rfl ?_
    refine r_aload_n rfl ?_
    refine r_getR g_279 rfl ?_
    refine r_iconst ?_
    refine r_ialdx g_284 rfl (by omega) (by omega) (by omega) (congrFun hf _) ?_
    refine r_icmp_ge kX8_longest_41 (fun c1 => ?_) (fun c1 => absurd c1 (by omega))
    refine r_iload_n rfl ?_
    refine r_iret rfl ?_
    exact ⟨by rw [hp]; rfl, rfl⟩
theorem c_X8_sum (hf : m 284 = f) (ht : ∀ g, 0 ≤ g → g < f 2 → m 290 g = t g) (hc : ∀ h, 0 ≤ h → h < 6 → m 291 h = c h) (hn : 0 ≤ f 2 ∧ f 2 ≤ 4) (hT : tOK f t) (hC : cOK c) : az_CI sc 114 [.inr (.inr 280)] m (pBill c (pLong f t)) m := by
  have hL := pLong_b hn.1 hT
  refine r_iconst ?_
  refine r_istore_n (Nat.le_of_ble_eq_true rfl) rfl ?_
  refine r_iconst ?_
  refine r_istore_n (Nat.le_of_ble_eq_true rfl) rfl ?_
  refine az_lop (α := Int) (fun h a => [some (.inr (.inr 280)), some (.inl (a)), some (.inl (h))]) (fun _ => m) (fun h a => a = pBill c h) 0 (pLong f t) _ hL.1 rfl (fun h a h0 h1 hp hK => ?_) (fun a hp => ?_)
  · have hS := pBill_S c h0
    have hB := pBill_b hC h0 (by omega)
    have hB2 := hC h h0 (by omega)
    rw [← hp] at hS hB
    refine r_iload_n rfl ?_
    refine r_aload_n rfl ?_
    refine r_cV1I g_279 rfl (Nat.le_of_ble_eq_true rfl) (Nat.le_of_ble_eq_true rfl) (c_X8_longest hf ht hn) ?_
    refine r_icmp_ge kX8_sum_27 (fun c1 => absurd c1 (by omega)) (fun c1 => ?_)
    refine r_iload_n rfl ?_
    refine r_aload_n rfl ?_
    refine r_getR g_279 rfl ?_
    refine r_iload_n rfl ?_
    refine r_ialdx g_291 rfl (by omega) (by omega) (by omega) (hc _ (by omega) (by omega)) ?_
    first | refine r_iadd (az_wid (by omega) (by omega)) ?_ | refine r_iaddw ?_
    refine r_istore_n (Nat.le_of_ble_eq_true rfl) rfl ?_
    refine r_iinc rfl (az_wid (by omega) (by omega)) rfl ?_
    refine r_goto kX8_sum_4 ?_
    exact hK _ (by omega)
  · refine r_iload_n rfl ?_
    refine r_aload_n rfl ?_
    refine r_cV1I g_279 rfl (Nat.le_of_ble_eq_true rfl) (Nat.le_of_ble_eq_true rfl) (c_X8_longest hf ht hn) ?_
    refine r_icmp_ge kX8_sum_27 (fun c1 => ?_) (fun c1 => absurd c1 (by omega))
    refine r_iload_n rfl ?_
    refine r_iret rfl ?_
    exact ⟨by rw [hp], rfl⟩
/-- what the first k heads of one who has so many ahead bear -/
def pPart (S all ahead k : Int) : Int := S / all * k + pMore S all ahead k
theorem pPart_0 (S all ahead : Int) : pPart S all ahead 0 = 0 := by
  unfold pPart pMore
  simp
  omega
theorem pPart_S {S all ahead k : Int} (hk : k = 0 ∨ k = 1) : pPart S all ahead (k + 1) = pPart S all ahead k + (S / all + (if ahead + k < S % all then 1 else 0)) := by
  unfold pPart pMore
  rcases hk with rfl | rfl
  · simp only [Int.mul_zero, Int.zero_add, Int.mul_one]
    (repeat' split) <;> omega
  · simp only [Int.mul_one]
    have e : (1 : Int) + 1 = 2 := rfl
    rw [e]
    have e2 : S / all * 2 = S / all + S / all := by omega
    rw [e2]
    (repeat' split) <;> omega
/-- parts, the heads of one guest -/
theorem l_X8_parts1 {s : Int → Int} {S lg all hd g : Int} (hf : m 284 = f) (ht : ∀ g, 0 ≤ g → g < f 2 → m 290 g = t g) (hn : 0 ≤ f 2 ∧ f 2 ≤ 4) (hS : 0 ≤ S ∧ S ≤ 1000) (hall : all = pCnt f t lg (f 2)) (h0 : 0 ≤ g) (h1 : g < f 2) (hhd : 0 ≤ hd ∧ hd ≤ 100) (hs : 0 ≤ s g ∧ s g ≤ 100000) (K : ∀ o', az_E sc az_G 116 zX8_parts_52 [some (.inr (.inr 280)), some (.inl (S)), some (.inl (lg)), some (.inl (all)), some (.inl (hd + (if lg < t g then pHeads f g else 0))), some (.inl (g + 1)), o'] [] (az_set m 292 (up1 s g (s g + (if lg < t g then pPart S all hd (pHeads f g) else 0)))) Q) : az_E sc az_G 116 zX8_parts_66 [some (.inr (.inr 280)), some (.inl (S)), some (.inl (lg)), some (.inl (all)), some (.inl (hd)), some (.inl (g)), some (.inl (0))] [] (az_set m 292 s) Q := by
  have hh := pHeads_b f g
  by_cases hl : lg < t g
  · rw [if_pos hl, if_pos hl] at K
    have hin := pCnt_in f t lg h0 h1 hl
    have hcb := pCnt_b f t lg h0
    rw [← hall] at hin
    have hq : 0 ≤ S / all := Int.ediv_nonneg hS.1 (by omega)
    have hq2 : S / all ≤ S := Int.ediv_le_self _ hS.1
    refine az_lop (α := (Int → Int) × Int) (fun k a => [some (.inr (.inr 280)), some (.inl (S)), some (.inl (lg)), some (.inl (all)), some (.inl (a.2)), some (.inl (g)), some (.inl (k))]) (fun a => az_set m 292 a.1) (fun k a => a.1 = up1 s g (s g + pPart S all hd k) ∧ a.2 = hd + k) 0 (pHeads f g) (s, hd) (by omega) ⟨by rw [pPart_0, Int.add_zero, up1_id], by simp⟩ (fun k a h2 h3 hp hK => ?_) (fun a hp => ?_)
    · obtain ⟨s1, hd1⟩ := a
      obtain ⟨hp1, hp2⟩ := hp
      simp only [] at hp1 hp2
      have hk : k = 0 ∨ k = 1 := by omega
      have hPS := pPart_S (S := S) (all := all) (ahead := hd) hk
      have hPb : 0 ≤ pPart S all hd k ∧ pPart S all hd k ≤ 5000 := by
        have := pMore_b (S := S) (all := all) (ahead := hd) h2
        unfold pPart
        rcases hk with rfl | rfl <;> omega
      have hv : s1 g = s g + pPart S all hd k := by rw [hp1, up1_at]
      subst hp2
      refine r_iload rfl ?_
      refine r_aload_n rfl ?_
      refine r_iload rfl ?_
      refine r_cV2I g_279 rfl (Nat.le_of_ble_eq_true rfl) (Nat.le_of_ble_eq_true rfl) (c_X8_heads hf (by omega) (by omega)) ?_
      refine r_icmp_ge kX8_parts_124 (fun c1 => absurd c1 (by omega)) (fun c1 => ?_)
      refine r_aload_n rfl ?_
      refine r_getR g_279 rfl ?_
      refine r_iload rfl ?_
      refine r_ialdx g_290 rfl (by omega) (by omega) (by omega) (ht _ (by omega) (by omega)) ?_
      refine r_iload_n rfl ?_
      refine r_icmp_le kX8_parts_124 (fun c2 => absurd c2 (by omega)) (fun c2 => ?_)
      refine r_aload_n rfl ?_
      refine r_getR g_279 rfl ?_
      refine r_iload rfl ?_
      refine r_dup2 ?_
      refine r_ialdx g_292 rfl (by omega) (by omega) (by omega) (congrFun (rfl : s1 = s1) _) ?_
      refine r_iload_n rfl ?_
      refine r_iload_n rfl ?_
      first | refine r_idiv (by omega) (az_divn (by omega) (by omega) (by omega)) ?_ | refine r_idiv (by omega) rfl ?_
      refine r_iload rfl ?_
      refine r_iload_n rfl ?_
      refine r_iload_n rfl ?_
      first | refine r_irem (by omega) (az_modn (by omega)) ?_ | refine r_irem (by omega) rfl ?_
      refine r_icmp_ge kX8_parts_111 (fun c3 => ?_) (fun c3 => ?_)
      · refine r_iconst ?_
        first | refine r_iadd (az_wid (by omega) (by omega)) ?_ | refine r_iaddw ?_
        first | refine r_iadd (az_wid (by omega) (by omega)) ?_ | refine r_iaddw ?_
        refine r_iast g_292 (by decide) (by omega) (by omega) ?_
        refine r_iinc rfl (az_wid (by omega) (by omega)) rfl ?_
        refine r_iinc rfl (az_wid (by omega) (by omega)) rfl ?_
        refine r_goto kX8_parts_66 ?_
        refine az_Em ?_ (hK (up1 s g (s g + pPart S all hd (k + 1)), _) ⟨rfl, by simp only []; omega⟩); rw [az_us]; refine congrArg (az_set m 292) ?_; simp only []; rw [hv, hp1, up1_up]; refine congrArg (up1 s g) ?_; rw [hPS]; first | rw [if_pos (by assumption)]; omega | rw [if_neg (by omega)]; omega
      · refine r_iconst ?_
        refine r_goto kX8_parts_112 ?_
        first | refine r_iadd (az_wid (by omega) (by omega)) ?_ | refine r_iaddw ?_
        first | refine r_iadd (az_wid (by omega) (by omega)) ?_ | refine r_iaddw ?_
        refine r_iast g_292 (by decide) (by omega) (by omega) ?_
        refine r_iinc rfl (az_wid (by omega) (by omega)) rfl ?_
        refine r_iinc rfl (az_wid (by omega) (by omega)) rfl ?_
        refine r_goto kX8_parts_66 ?_
        refine az_Em ?_ (hK (up1 s g (s g + pPart S all hd (k + 1)), _) ⟨rfl, by simp only []; omega⟩); rw [az_us]; refine congrArg (az_set m 292) ?_; simp only []; rw [hv, hp1, up1_up]; refine congrArg (up1 s g) ?_; rw [hPS]; first | rw [if_pos (by assumption)]; omega | rw [if_neg (by omega)]; omega
    · obtain ⟨s1, hd1⟩ := a
      obtain ⟨hp1, hp2⟩ := hp
      simp only [] at hp1 hp2
      subst hp1 hp2
      refine r_iload rfl ?_
      refine r_aload_n rfl ?_
      refine r_iload rfl ?_
      refine r_cV2I g_279 rfl (Nat.le_of_ble_eq_true rfl) (Nat.le_of_ble_eq_true rfl) (c_X8_heads hf (by omega) (by omega)) ?_
      refine r_icmp_ge kX8_parts_124 (fun c1 => ?_) (fun c1 => absurd c1 (by omega))
      refine r_iinc rfl (az_wid (by omega) (by omega)) rfl ?_
      refine r_goto kX8_parts_52 ?_
      exact K _
  · rw [if_neg hl, if_neg hl, Int.add_zero, Int.add_zero, up1_id] at K
    refine r_iload rfl ?_
    refine r_aload_n rfl ?_
    refine r_iload rfl ?_
    refine r_cV2I g_279 rfl (Nat.le_of_ble_eq_true rfl) (Nat.le_of_ble_eq_true rfl) (c_X8_heads hf (by omega) (by omega)) ?_
    refine r_icmp_ge kX8_parts_124 (fun c1 => absurd c1 (by omega)) (fun c1 => ?_)
    refine r_aload_n rfl ?_
    refine r_getR g_279 rfl ?_
    refine r_iload rfl ?_
    refine r_ialdx g_290 rfl (by omega) (by omega) (by omega) (ht _ (by omega) (by omega)) ?_
    refine r_iload_n rfl ?_
    refine r_icmp_le kX8_parts_124 (fun c2 => ?_) (fun c2 => absurd c2 (by omega))
    refine r_iinc rfl (az_wid (by omega) (by omega)) rfl ?_
    refine r_goto kX8_parts_52 ?_
    exact K _
theorem az_FSif {P : Prop} [Decidable P] {a x : Int} : a + (if P then x else 0) = if P then a + x else a := by
  split <;> omega
theorem pAlk_e (f t : Int → Int) (S l g : Int) : pAlk f t S l g = if l < t g then pPart S (pCnt f t l (f 2)) (pCnt f t l g) (pHeads f g) else 0 := rfl
/-- parts: what each bears is added -/
theorem c_X8_parts {s : Int → Int} {S lg : Int} (hf : m 284 = f) (ht : ∀ g, 0 ≤ g → g < f 2 → m 290 g = t g) (hn : 0 ≤ f 2 ∧ f 2 ≤ 4) (hS : 0 ≤ S ∧ S ≤ 1000) (hs : ∀ g, 0 ≤ g → g < f 2 → 0 ≤ s g ∧ s g ≤ 50000) : az_C sc az_G 116 [.inr (.inr 280), .inl S, .inl lg] (az_set m 292 s) (fun v m' => v = none ∧ ∃ s', m' = az_set m 292 s' ∧ ∀ g, 0 ≤ g → g < f 2 → s' g = s g + pAlk f t S lg g) := by
  refine r_iconst ?_
  refine r_istore_n (Nat.le_of_ble_eq_true rfl) rfl ?_
  refine r_iconst ?_
  refine r_istore (Nat.le_of_ble_eq_true rfl) rfl ?_
  refine az_lop (α := Int) (fun g a => [some (.inr (.inr 280)), some (.inl (S)), some (.inl (lg)), some (.inl (a)), some (.inl (g)), none, none]) (fun _ => az_set m 292 s) (fun g a => a = pCnt f t lg g) 0 (f 2) _ hn.1 rfl (fun g a h0 h1 hp hK => ?_) (fun a hp => ?_)
  · have hC := pCnt_S f t lg h0
    have hCb := pCnt_b f t lg h0
    have hh := pHeads_b f g
    rw [← hp] at hC hCb
    refine r_iload rfl ?_
    refine r_aload_n rfl ?_
    refine r_getR g_279 rfl ?_
    refine r_iconst ?_
    refine r_ialdx g_284 rfl (by omega) (by omega) (by omega) (congrFun hf _) ?_
    refine r_icmp_ge kX8_parts_46 (fun c1 => absurd c1 (by omega)) (fun c1 => ?_)
    refine r_iload_n rfl ?_
    refine r_aload_n rfl ?_
    refine r_getR g_279 rfl ?_
    refine r_iload rfl ?_
    refine r_ialdx g_290 rfl (by omega) (by omega) (by omega) (ht _ (by omega) (by omega)) ?_
    refine r_iload_n rfl ?_
    refine r_icmp_le kX8_parts_37 (fun c2 => ?_) (fun c2 => ?_)
    · refine r_iconst ?_
      first | refine r_iadd (az_wid (by omega) (by omega)) ?_ | refine r_iaddw ?_
      refine r_istore_n (Nat.le_of_ble_eq_true rfl) rfl ?_
      refine r_iinc rfl (az_wid (by omega) (by omega)) rfl ?_
      refine r_goto kX8_parts_5 ?_
      exact hK _ (by rw [hC]; first | rw [if_pos (by omega)] | (rw [if_neg (by omega)]; omega))
    · refine r_aload_n rfl ?_
      refine r_iload rfl ?_
      refine r_cV2I g_279 rfl (Nat.le_of_ble_eq_true rfl) (Nat.le_of_ble_eq_true rfl) (c_X8_heads hf (by omega) (by omega)) ?_
      refine r_goto kX8_parts_38 ?_
      first | refine r_iadd (az_wid (by omega) (by omega)) ?_ | refine r_iaddw ?_
      refine r_istore_n (Nat.le_of_ble_eq_true rfl) rfl ?_
      refine r_iinc rfl (az_wid (by omega) (by omega)) rfl ?_
      refine r_goto kX8_parts_5 ?_
      exact hK _ (by rw [hC]; first | rw [if_pos (by omega)] | (rw [if_neg (by omega)]; omega))
  · subst hp
    refine r_iload rfl ?_
    refine r_aload_n rfl ?_
    refine r_getR g_279 rfl ?_
    refine r_iconst ?_
    refine r_ialdx g_284 rfl (by omega) (by omega) (by omega) (congrFun hf _) ?_
    refine r_icmp_ge kX8_parts_46 (fun c1 => ?_) (fun c1 => absurd c1 (by omega))
    refine r_iconst ?_
    refine r_istore (Nat.le_of_ble_eq_true rfl) rfl ?_
    refine r_iconst ?_
    refine r_istore (Nat.le_of_ble_eq_true rfl) rfl ?_
    refine az_lop (α := (Int → Int) × Int × Option aV) (fun g a => [some (.inr (.inr 280)), some (.inl (S)), some (.inl (lg)), some (.inl (pCnt f t lg (f 2))), some (.inl (a.2.1)), some (.inl (g)), a.2.2]) (fun a => az_set m 292 a.1) (fun g a => (∀ j, 0 ≤ j → j < f 2 → a.1 j = s j + (if j < g then pAlk f t S lg j else 0)) ∧ a.2.1 = pCnt f t lg g) 0 (f 2) (s, 0, none) hn.1 ⟨fun j h0 _ => by rw [if_neg (by omega)]; exact (Int.add_zero _).symm, rfl⟩ (fun g a h0 h1 hp hK => ?_) (fun a hp => ?_)
    · obtain ⟨s1, hd1, o⟩ := a
      obtain ⟨hp1, hp2⟩ := hp
      simp only [] at hp1 hp2
      subst hp2
      have hCb := pCnt_b f t lg h0
      have hs0 := hs g h0 h1
      have hs1 := hp1 g h0 h1
      rw [if_neg (by omega)] at hs1
      have hC := pCnt_S f t lg h0
      dsimp only
      refine r_iload rfl ?_
      refine r_aload_n rfl ?_
      refine r_getR g_279 rfl ?_
      refine r_iconst ?_
      refine r_ialdx g_284 rfl (by omega) (by omega) (by omega) (congrFun hf _) ?_
      refine r_icmp_ge kX8_parts_130 (fun c1 => absurd c1 (by omega)) (fun c1 => ?_)
      refine r_iconst ?_
      refine r_istore (Nat.le_of_ble_eq_true rfl) rfl ?_
      refine l_X8_parts1 hf ht hn hS rfl h0 h1 (by omega) (by omega) (fun o' => ?_)
      refine hK (up1 s1 g (s1 g + (if lg < t g then pPart S (pCnt f t lg (f 2)) (pCnt f t lg g) (pHeads f g) else 0)), _, _) ⟨fun j hj0 hj1 => ?_, ?_⟩
      · simp only []
        by_cases e : j = g
        · subst e
          rw [up1_at, if_pos (show j < j + 1 by omega), hs1, pAlk_e]
          omega
        · rw [up1_ne _ _ e, hp1 j hj0 hj1]
          by_cases e2 : j < g
          · rw [if_pos e2, if_pos (by omega)]
          · rw [if_neg e2, if_neg (by omega)]
      · simp only []
        rw [hC, az_FSif]
    · obtain ⟨s1, hd1, o⟩ := a
      obtain ⟨hp1, hp2⟩ := hp
      simp only [] at hp1 hp2
      refine r_iload rfl ?_
      refine r_aload_n rfl ?_
      refine r_getR g_279 rfl ?_
      refine r_iconst ?_
      refine r_ialdx g_284 rfl (by omega) (by omega) (by omega) (congrFun hf _) ?_
      refine r_icmp_ge kX8_parts_130 (fun c1 => ?_) (fun c1 => absurd c1 (by omega))
      refine r_vret rfl ?_
      exact ⟨rfl, s1, rfl, fun j hj0 hj1 => by rw [hp1 j hj0 hj1, if_pos hj1]⟩
end RA
