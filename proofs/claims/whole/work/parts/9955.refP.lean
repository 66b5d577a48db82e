/-! THE REFERENCE: a text is read -/
section RP
variable {sc : aX} {m : aM} {T : Int → Int} {n : Int} {Q : Option aV → aM → Prop}
theorem kX8_next_0 : az_seek 0 (az_cd 67) = zX8_next_0 := rfl
theorem c_X8_sort (v : Int) : az_CI sc 66 [.inl v] m (pSort v) m := by
  refine r_iload_n rfl ?_
  refine r_i2l ?_
  refine r_ldc2 ?_
  refine r_ldc2 ?_
  refine r_cS3I (by decide) (Nat.le_of_ble_eq_true rfl) (Nat.le_of_ble_eq_true rfl) (c_X8_in _ _ _) ?_
  refine r_if_eq kX8_sort_18 (fun c1 => ?_) (fun c1 => ?_)
  · refine r_iload_n rfl ?_
    refine r_i2l ?_
    refine r_ldc2 ?_
    refine r_ldc2 ?_
    refine r_cS3I (by decide) (Nat.le_of_ble_eq_true rfl) (Nat.le_of_ble_eq_true rfl) (c_X8_in _ _ _) ?_
    refine r_if_eq kX8_sort_36 (fun c2 => ?_) (fun c2 => ?_)
    · refine r_iload_n rfl ?_
      refine r_bipush ?_
      refine r_icmp_ne kX8_sort_46 (fun c3 => ?_) (fun c3 => ?_)
      · refine r_iconst ?_
        refine r_iret rfl ?_
        refine ⟨az_oI ?_, rfl⟩; unfold pSort; (repeat' split) <;> first | rfl | (exfalso; omega)
      · refine r_iconst ?_
        refine r_goto kX8_sort_47 ?_
        refine r_iret rfl ?_
        refine ⟨az_oI ?_, rfl⟩; unfold pSort; (repeat' split) <;> first | rfl | (exfalso; omega)
    · refine r_iconst ?_
      refine r_goto kX8_sort_47 ?_
      refine r_iret rfl ?_
      refine ⟨az_oI ?_, rfl⟩; unfold pSort; (repeat' split) <;> first | rfl | (exfalso; omega)
  · refine r_iconst ?_
    refine r_goto kX8_sort_47 ?_
    refine r_iret rfl ?_
    refine ⟨az_oI ?_, rfl⟩; unfold pSort; (repeat' split) <;> first | rfl | (exfalso; omega)
/-- so far a token is read -/
def nP (m a : aM) (b k v e : Int) : Prop := (∀ y, y ≠ 279 → a y = m y) ∧ (∀ k, k ≠ 15 → k ≠ 16 → k ≠ 17 → k ≠ 18 → a 279 k = m 279 k) ∧ a 279 15 = e ∧ a 279 16 = b ∧ a 279 17 = k ∧ a 279 18 = v
theorem nP_15 {m a : aM} {b k v e : Int} (h : nP m a b k v e) (x : Int) : nP m (az_up a 279 15 x) b k v x := by
  obtain ⟨h1, h2, h3, h4, h5, h6⟩ := h
  exact ⟨fun y hy => (az_up_b _ _ _ hy).trans (h1 y hy), fun k a b c d => (az_up_k _ _ a).trans (h2 k a b c d), az_upx _ _ _ _, (az_up_k _ _ (by decide)).trans h4, (az_up_k _ _ (by decide)).trans h5, (az_up_k _ _ (by decide)).trans h6⟩
theorem nP_17 {m a : aM} {b k v e : Int} (h : nP m a b k v e) (x : Int) : nP m (az_up a 279 17 x) b x v e := by
  obtain ⟨h1, h2, h3, h4, h5, h6⟩ := h
  exact ⟨fun y hy => (az_up_b _ _ _ hy).trans (h1 y hy), fun k a b c d => (az_up_k _ _ c).trans (h2 k a b c d), (az_up_k _ _ (by decide)).trans h3, (az_up_k _ _ (by decide)).trans h4, az_upx _ _ _ _, (az_up_k _ _ (by decide)).trans h6⟩
theorem nP_18 {m a : aM} {b k v e : Int} (h : nP m a b k v e) (x : Int) : nP m (az_up a 279 18 x) b k x e := by
  obtain ⟨h1, h2, h3, h4, h5, h6⟩ := h
  exact ⟨fun y hy => (az_up_b _ _ _ hy).trans (h1 y hy), fun k a b c d => (az_up_k _ _ d).trans (h2 k a b c d), (az_up_k _ _ (by decide)).trans h3, (az_up_k _ _ (by decide)).trans h4, (az_up_k _ _ (by decide)).trans h5, az_upx _ _ _ _⟩
def qN (m : aM) (T : Int → Int) (n a : Int) : Option aV → aM → Prop := fun v m' => v = none ∧ ∃ vv, nP m m' (pB T n a) (pK T n (pB T n a)) vv (pE T n (pB T n a)) ∧ (pK0 T n (pB T n a) = 1 ∨ pK0 T n (pB T n a) = 2 → vv = pV T (pB T n a) (pK0 T n (pB T n a)) (pE T n (pB T n a)))
theorem l_X8_next3 {a b v e : Int} {a1 : aM} {o : Option aV} (hb : b = pB T n a) (he : e = pE T n b) (hbe : 0 ≤ b ∧ b ≤ e ∧ e ≤ 400) (hv : pK0 T n b = 1 ∨ pK0 T n b = 2 → v = pV T b (pK0 T n b) e) (hP : nP m a1 b (pK0 T n b) v e) : az_E sc az_G 67 zX8_next_251 [some (.inr (.inr 280)), o] [] a1 (qN m T n a) := by
  obtain ⟨h1, h2, h3, h4, h5, h6⟩ := hP
  have hP : nP m a1 b (pK0 T n b) v e := ⟨h1, h2, h3, h4, h5, h6⟩
  have H : ∀ x, x = pK T n b → az_E sc az_G 67 zX8_next_281 [some (.inr (.inr 280)), o] [.inl x, .inr (.inr 280)] a1 (qN m T n a) := by
    intro x hx
    subst hx
    refine r_putI g_279 (by decide) ?_
    refine r_vret rfl ?_
    skip
    subst hb
    subst he
    exact ⟨rfl, v, nP_17 hP _, hv⟩
  have hk : pK T n b = if pK0 T n b = 2 ∧ 3 < e - b then 4 else pK0 T n b := by rw [he]; rfl
  refine r_aload_n rfl ?_
  refine r_aload_n rfl ?_
  refine r_getIx g_279 (h5) ?_
  refine r_iconst ?_
  refine r_icmp_ne kX8_next_277 (fun c1 => ?_) (fun c1 => ?_)
  · refine r_aload_n rfl ?_
    refine r_getIx g_279 (h5) ?_
    exact H _ (by rw [hk]; first | rw [if_pos (by omega)] | rw [if_neg (by omega)])
  · refine r_aload_n rfl ?_
    refine r_getIx g_279 (h3) ?_
    refine r_aload_n rfl ?_
    refine r_getIx g_279 (h4) ?_
    first | refine r_isub (az_wid (by omega) (by omega)) ?_ | refine r_isubw ?_
    refine r_iconst ?_
    refine r_icmp_le kX8_next_277 (fun c2 => ?_) (fun c2 => ?_)
    · refine r_aload_n rfl ?_
      refine r_getIx g_279 (h5) ?_
      exact H _ (by rw [hk]; first | rw [if_pos (by omega)] | rw [if_neg (by omega)])
    · refine r_iconst ?_
      refine r_goto kX8_next_281 ?_
      exact H _ (by rw [hk]; first | rw [if_pos (by omega)] | rw [if_neg (by omega)])
theorem l_X8_next2 {a b : Int} {a1 : aM} {o : Option aV} (hT : m 283 = T) (hn : m 279 19 = n) (hn4 : n ≤ 400) (hb0 : 0 ≤ b ∧ b ≤ n) (hT2 : ∀ x, 0 ≤ x → x < n → 0 ≤ T x ∧ T x ≤ 255) (hb : b = pB T n a) (hk : pK0 T n b = 1 ∨ pK0 T n b = 2) (hP : nP m a1 b (pK0 T n b) 0 b) : az_E sc az_G 67 zX8_next_118 [some (.inr (.inr 280)), o] [] a1 (qN m T n a) := by
  have hEb := pE_b (T := T) (n := n) hb0.2
  have hEe : pE T n b = pRun (pIs T (pK0 T n b)) n b := by
    unfold pE
    rw [if_pos hk]
  obtain ⟨k0, hk0⟩ : ∃ x, x = pK0 T n b := ⟨_, rfl⟩
  have h0 : pV T b k0 b = 0 := by
    unfold pV
    rw [Int.sub_self]
    rfl
  rw [← hk0] at hk hP hEe
  refine az_whl (α := aM × Option aV) (fun e x => [some (.inr (.inr 280)), x.2]) (fun e x => x.1) (fun e x => b ≤ e ∧ pRun (pIs T k0) n e = pE T n b ∧ nP m x.1 b k0 (pV T b k0 e) e) n (fun e x hen hp hK => ?_) b (a1, o) hb0.2 ⟨Int.le_refl _, hEe.symm, by rw [h0]; exact hP⟩
  obtain ⟨a2, o2⟩ := x
  obtain ⟨p1, p2, p3⟩ := hp
  dsimp only at p3 ⊢
  obtain ⟨q1, q2, q3, q4, q5, q6⟩ := p3
  have p3 : nP m a2 b k0 (pV T b k0 e) e := ⟨q1, q2, q3, q4, q5, q6⟩
  have e83 : a2 283 = T := (q1 283 (by decide)).trans hT
  have e19 : a2 279 19 = n := (q2 19 (by decide) (by decide) (by decide) (by decide)).trans hn
  by_cases hc : e < n ∧ pSort (T e) = k0
  · have hr := pRun_1 (C := pIs T k0) hc.1 (by unfold pIs; exact decide_eq_true hc.2)
    rw [p2] at hr
    have hVS := pV_S (T := T) (s := k0) p1
    have hTe := hT2 e (by omega) hc.1
    have H : ∀ x c, x = pVs T b k0 e (pV T b k0 e) → az_E sc az_G 67 zX8_next_235 [some (.inr (.inr 280)), some (.inl (c))] [.inr (.inl x), .inr (.inr 280)] a2 (qN m T n a) := by
      intro x c hx
      have h15 : az_up a2 279 18 x 279 15 = e := (az_up_k _ _ (by decide)).trans q3
      refine r_putL g_279 (by decide) ?_
      refine r_aload_n rfl ?_
      refine r_dupR ?_
      refine r_getIx g_279 (h15) ?_
      refine r_iconst ?_
      first | refine r_iadd (az_wid (by omega) (by omega)) ?_ | refine r_iaddw ?_
      refine r_putI g_279 (by decide) ?_
      refine r_goto kX8_next_118 ?_
      refine hK (_, _) hc.1 ⟨by omega, hr.symm, ?_⟩
      rw [hVS, ← hx]
      exact nP_15 (nP_18 p3 x) _
    have hb7 := fun h7 : e - b ≤ 7 => pV_b7 (T := T) (s := k0) p1 h7 (fun x x1 x2 => hT2 x (by omega) (by omega))
    by_cases h7 : 7 < e - b
    · refine r_aload_n rfl ?_
      refine r_getIx g_279 (q5) ?_
      refine r_if_le kX8_next_251 (fun c1 => absurd c1 (by omega)) (fun c1 => ?_)
      refine r_aload_n rfl ?_
      refine r_getIx g_279 (q5) ?_
      refine r_iconst ?_
      refine r_icmp_ge kX8_next_251 (fun c2 => absurd c2 (by omega)) (fun c2 => ?_)
      refine r_aload_n rfl ?_
      refine r_getIx g_279 (q3) ?_
      refine r_aload_n rfl ?_
      refine r_getIx g_279 (e19) ?_
      refine r_icmp_ge kX8_next_251 (fun c3 => absurd c3 (by omega)) (fun c3 => ?_)
      refine r_aload_n rfl ?_
      refine r_getR g_279 rfl ?_
      refine r_aload_n rfl ?_
      refine r_getIx g_279 (q3) ?_
      refine r_ialdx g_283 rfl (by omega) (by omega) (by omega) (congrFun e83 _) ?_
      refine r_cS1I (by decide) (Nat.le_of_ble_eq_true rfl) (Nat.le_of_ble_eq_true rfl) (c_X8_sort _) ?_
      refine r_aload_n rfl ?_
      refine r_getIx g_279 (q5) ?_
      refine r_icmp_ne kX8_next_251 (fun c4 => absurd c4 (by omega)) (fun c4 => ?_)
      refine r_aload_n rfl ?_
      refine r_getR g_279 rfl ?_
      refine r_aload_n rfl ?_
      refine r_getIx g_279 (q3) ?_
      refine r_ialdx g_283 rfl (by omega) (by omega) (by omega) (congrFun e83 _) ?_
      refine r_istore_n (Nat.le_of_ble_eq_true rfl) rfl ?_
      refine r_aload_n rfl ?_
      refine r_aload_n rfl ?_
      refine r_getIx g_279 (q3) ?_
      refine r_aload_n rfl ?_
      refine r_getIx g_279 (q4) ?_
      first | refine r_isub (az_wid (by omega) (by omega)) ?_ | refine r_isubw ?_
      refine r_bipush ?_
      refine r_icmp_le kX8_next_194 (fun c5 => absurd c5 (by omega)) (fun c5 => ?_)
      refine r_ldc2 ?_
      refine r_goto kX8_next_235 ?_
      exact H _ _ (by unfold pVs; rw [if_pos h7])
    · have hb8 := hb7 (by omega)
      refine r_aload_n rfl ?_
      refine r_getIx g_279 (q5) ?_
      refine r_if_le kX8_next_251 (fun c1 => absurd c1 (by omega)) (fun c1 => ?_)
      refine r_aload_n rfl ?_
      refine r_getIx g_279 (q5) ?_
      refine r_iconst ?_
      refine r_icmp_ge kX8_next_251 (fun c2 => absurd c2 (by omega)) (fun c2 => ?_)
      refine r_aload_n rfl ?_
      refine r_getIx g_279 (q3) ?_
      refine r_aload_n rfl ?_
      refine r_getIx g_279 (e19) ?_
      refine r_icmp_ge kX8_next_251 (fun c3 => absurd c3 (by omega)) (fun c3 => ?_)
      refine r_aload_n rfl ?_
      refine r_getR g_279 rfl ?_
      refine r_aload_n rfl ?_
      refine r_getIx g_279 (q3) ?_
      refine r_ialdx g_283 rfl (by omega) (by omega) (by omega) (congrFun e83 _) ?_
      refine r_cS1I (by decide) (Nat.le_of_ble_eq_true rfl) (Nat.le_of_ble_eq_true rfl) (c_X8_sort _) ?_
      refine r_aload_n rfl ?_
      refine r_getIx g_279 (q5) ?_
      refine r_icmp_ne kX8_next_251 (fun c4 => absurd c4 (by omega)) (fun c4 => ?_)
      refine r_aload_n rfl ?_
      refine r_getR g_279 rfl ?_
      refine r_aload_n rfl ?_
      refine r_getIx g_279 (q3) ?_
      refine r_ialdx g_283 rfl (by omega) (by omega) (by omega) (congrFun e83 _) ?_
      refine r_istore_n (Nat.le_of_ble_eq_true rfl) rfl ?_
      refine r_aload_n rfl ?_
      refine r_aload_n rfl ?_
      refine r_getIx g_279 (q3) ?_
      refine r_aload_n rfl ?_
      refine r_getIx g_279 (q4) ?_
      first | refine r_isub (az_wid (by omega) (by omega)) ?_ | refine r_isubw ?_
      refine r_bipush ?_
      refine r_icmp_le kX8_next_194 (fun c5 => ?_) (fun c5 => absurd c5 (by omega))
      refine r_aload_n rfl ?_
      refine r_getIx g_279 (q5) ?_
      refine r_iconst ?_
      refine r_icmp_ne kX8_next_220 (fun c6 => ?_) (fun c6 => ?_)
      · refine r_ldc2 ?_
        refine r_aload_n rfl ?_
        refine r_getLx g_279 (q6) ?_
        first | refine r_lmul (az_wlid (by omega) (by omega)) ?_ | refine r_lmul rfl ?_
        refine r_iload_n rfl ?_
        refine r_i2l ?_
        first | refine r_ladd (az_wlid (by omega) (by omega)) ?_ | refine r_ladd rfl ?_
        refine r_ldc2 ?_
        first | refine r_lsub (az_wlid (by omega) (by omega)) ?_ | refine r_lsub rfl ?_
        exact H _ _ (by unfold pVs; rw [if_neg h7]; first | rw [if_pos (by omega)] | rw [if_neg (by omega)])
      · refine r_ldc2 ?_
        refine r_aload_n rfl ?_
        refine r_getLx g_279 (q6) ?_
        first | refine r_lmul (az_wlid (by omega) (by omega)) ?_ | refine r_lmul rfl ?_
        refine r_iload_n rfl ?_
        refine r_i2l ?_
        first | refine r_ladd (az_wlid (by omega) (by omega)) ?_ | refine r_ladd rfl ?_
        refine r_ldc2 ?_
        first | refine r_lsub (az_wlid (by omega) (by omega)) ?_ | refine r_lsub rfl ?_
        refine r_goto kX8_next_235 ?_
        exact H _ _ (by unfold pVs; rw [if_neg h7]; first | rw [if_pos (by omega)] | rw [if_neg (by omega)])
  · have hr := pRun_0 (C := pIs T k0) (n := n) (a := e) (fun q => hc ⟨q.1, by have := q.2; unfold pIs at this; simpa using this⟩)
    rw [p2] at hr
    have hX : az_E sc az_G 67 zX8_next_251 [some (.inr (.inr 280)), o2] [] a2 (qN m T n a) := l_X8_next3 hb hr.symm ⟨by omega, p1, by omega⟩ (fun _ => by rw [← hk0]) (by rw [← hk0]; exact p3)
    have hs := pSort_b (T e)
    refine r_aload_n rfl ?_
    refine r_getIx g_279 (q5) ?_
    refine r_if_le kX8_next_251 (fun c1 => absurd c1 (by omega)) (fun c1 => ?_)
    refine r_aload_n rfl ?_
    refine r_getIx g_279 (q5) ?_
    refine r_iconst ?_
    refine r_icmp_ge kX8_next_251 (fun c2 => absurd c2 (by omega)) (fun c2 => ?_)
    refine r_aload_n rfl ?_
    refine r_getIx g_279 (q3) ?_
    refine r_aload_n rfl ?_
    refine r_getIx g_279 (e19) ?_
    refine r_icmp_ge kX8_next_251 (fun c3 => ?_) (fun c3 => ?_)
    · exact hX
    · refine r_aload_n rfl ?_
      refine r_getR g_279 rfl ?_
      refine r_aload_n rfl ?_
      refine r_getIx g_279 (q3) ?_
      refine r_ialdx g_283 rfl (by omega) (by omega) (by omega) (congrFun e83 _) ?_
      refine r_cS1I (by decide) (Nat.le_of_ble_eq_true rfl) (Nat.le_of_ble_eq_true rfl) (c_X8_sort _) ?_
      refine r_aload_n rfl ?_
      refine r_getIx g_279 (q5) ?_
      refine r_icmp_ne kX8_next_251 (fun c4 => ?_) (fun c4 => absurd c4 (by omega))
      exact hX
theorem c_X8_next {a : Int} (hT : m 283 = T) (hn : m 279 19 = n) (ha : m 279 15 = a) (hn4 : n ≤ 400) (ha0 : 0 ≤ a ∧ a ≤ n) (hT2 : ∀ x, 0 ≤ x → x < n → 0 ≤ T x ∧ T x ≤ 255) : az_C sc az_G 67 [.inr (.inr 280)] m (qN m T n a) := by
  show az_E sc az_G 67 zX8_next_0 [some (.inr (.inr 280)), none] [] m (qN m T n a)
  refine az_Em (az_up_same ha).symm ?_
  refine az_whl (α := Unit) (fun _ _ => [some (.inr (.inr 280)), none]) (fun g _ => az_up m 279 15 g) (fun g _ => a ≤ g ∧ pB T n g = pB T n a) n (fun g x hgn hp hK => ?_) a () ha0.2 ⟨Int.le_refl _, rfl⟩
  obtain ⟨p1, p2⟩ := hp
  have e83 : az_up m 279 15 g 283 = T := (az_up_b _ _ _ (by decide)).trans hT
  have e19 : az_up m 279 15 g 279 19 = n := (az_up_k _ _ (by decide)).trans hn
  have e15 : az_up m 279 15 g 279 15 = g := az_upx _ _ _ _
  by_cases hc : g < n ∧ (T g = 32 ∨ T g = 10)
  · have hr : pB T n g = pB T n (g + 1) := pRun_1 hc.1 (by unfold pBlk; exact decide_eq_true hc.2)
    have hK2 := hK () hc.1 ⟨by omega, hr.symm.trans p2⟩
    refine r_aload_n rfl ?_
    refine r_getIx g_279 (e15) ?_
    refine r_aload_n rfl ?_
    refine r_getIx g_279 (e19) ?_
    refine r_icmp_ge kX8_next_52 (fun c1 => absurd c1 (by omega)) (fun c1 => ?_)
    refine r_aload_n rfl ?_
    refine r_getR g_279 rfl ?_
    refine r_aload_n rfl ?_
    refine r_getIx g_279 (e15) ?_
    refine r_ialdx g_283 rfl (by omega) (by omega) (by omega) (congrFun e83 _) ?_
    refine r_bipush ?_
    refine r_icmp_eq kX8_next_39 (fun c2 => ?_) (fun c2 => ?_)
    · refine r_aload_n rfl ?_
      refine r_dupR ?_
      refine r_getIx g_279 (e15) ?_
      refine r_iconst ?_
      first | refine r_iadd (az_wid (by omega) (by omega)) ?_ | refine r_iaddw ?_
      refine r_putI g_279 (by decide) ?_
      refine r_goto kX8_next_0 ?_
      rw [az_upup]; exact hK2
    · refine r_aload_n rfl ?_
      refine r_getR g_279 rfl ?_
      refine r_aload_n rfl ?_
      refine r_getIx g_279 (e15) ?_
      refine r_ialdx g_283 rfl (by omega) (by omega) (by omega) (congrFun e83 _) ?_
      refine r_bipush ?_
      refine r_icmp_ne kX8_next_52 (fun c3 => absurd c3 (by omega)) (fun c3 => ?_)
      refine r_aload_n rfl ?_
      refine r_dupR ?_
      refine r_getIx g_279 (e15) ?_
      refine r_iconst ?_
      first | refine r_iadd (az_wid (by omega) (by omega)) ?_ | refine r_iaddw ?_
      refine r_putI g_279 (by decide) ?_
      refine r_goto kX8_next_0 ?_
      rw [az_upup]; exact hK2
  · have hr : pB T n g = g := pRun_0 (fun q => hc ⟨q.1, by have := q.2; unfold pBlk at this; simpa using this⟩)
    have hb : g = pB T n a := hr.symm.trans p2
    have hk0 := pK0_b T n g
    have hP : ∀ k0, nP m (az_up (az_up (az_up (az_up m 279 15 g) 279 16 g) 279 17 k0) 279 18 0) g k0 0 g := fun k0 => by
      refine ⟨fun y hy => ?_, fun k a b c d => ?_, ?_, ?_, ?_, az_upx _ _ _ _⟩
      · rw [az_up_b _ _ _ hy, az_up_b _ _ _ hy, az_up_b _ _ _ hy, az_up_b _ _ _ hy]
      · rw [az_up_k _ _ d, az_up_k _ _ c, az_up_k _ _ b, az_up_k _ _ a]
      · rw [az_up_k _ _ (by decide), az_up_k _ _ (by decide), az_up_k _ _ (by decide), az_upx]
      · rw [az_up_k _ _ (by decide), az_up_k _ _ (by decide), az_upx]
      · rw [az_up_k _ _ (by decide), az_upx]
    have H : ∀ k0, k0 = pK0 T n g → az_E sc az_G 67 zX8_next_88 [some (.inr (.inr 280)), none] [.inl k0, .inr (.inr 280)] (az_up (az_up m 279 15 g) 279 16 g) (qN m T n a) := by
      intro k0 hk
      have hP0 := hP k0
      obtain ⟨q1, q2, q3, q4, q5, q6⟩ := hP0
      have hP0 := hP k0
      rw [← hk] at hk0
      by_cases hk12 : k0 = 1 ∨ k0 = 2
      · refine r_putI g_279 (by decide) ?_
        refine r_aload_n rfl ?_
        refine r_lconst0 ?_
        refine r_putL g_279 (by decide) ?_
        refine r_aload_n rfl ?_
        refine r_dupR ?_
        refine r_getIx g_279 (q3) ?_
        refine r_aload_n rfl ?_
        refine r_getIx g_279 (q5) ?_
        refine r_iconst ?_
        refine r_icmp_le kX8_next_113 (fun c1 => ?_) (fun c1 => absurd c1 (by omega))
        refine r_iconst ?_
        refine r_iadd ((az_wid (by omega) (by omega)).trans (Int.add_zero g)) ?_
        refine r_putI g_279 (by decide) ?_
        refine l_X8_next2 hT hn hn4 (by omega) hT2 hb (by rw [← hk]; exact hk12) (by rw [← hk]; exact nP_15 hP0 g)
      · by_cases h0 : k0 = 0
        · have hE : g = pE T n g := by
            unfold pE
            rw [← hk, if_neg hk12, if_neg (by omega)]
          have hP1 := nP_15 hP0 g
          refine r_putI g_279 (by decide) ?_
          refine r_aload_n rfl ?_
          refine r_lconst0 ?_
          refine r_putL g_279 (by decide) ?_
          refine r_aload_n rfl ?_
          refine r_dupR ?_
          refine r_getIx g_279 (q3) ?_
          refine r_aload_n rfl ?_
          refine r_getIx g_279 (q5) ?_
          refine r_iconst ?_
          refine r_icmp_le kX8_next_113 (fun c1 => ?_) (fun c1 => absurd c1 (by omega))
          refine r_iconst ?_
          refine r_iadd ((az_wid (by omega) (by omega)).trans (Int.add_zero g)) ?_
          refine r_putI g_279 (by decide) ?_
          refine r_aload_n rfl ?_
          refine r_getIx g_279 (hP1.2.2.2.2.1) ?_
          refine r_if_le kX8_next_251 (fun c2 => ?_) (fun c2 => absurd c2 (by omega))
          exact l_X8_next3 hb hE (by omega) (fun q => absurd q (by rw [← hk]; exact hk12)) (by rw [← hk]; exact hP1)
        · have hE : g + 1 = pE T n g := by
            unfold pE
            rw [← hk, if_neg hk12, if_pos (by omega)]
          have hP1 := nP_15 hP0 (g + 1)
          refine r_putI g_279 (by decide) ?_
          refine r_aload_n rfl ?_
          refine r_lconst0 ?_
          refine r_putL g_279 (by decide) ?_
          refine r_aload_n rfl ?_
          refine r_dupR ?_
          refine r_getIx g_279 (q3) ?_
          refine r_aload_n rfl ?_
          refine r_getIx g_279 (q5) ?_
          refine r_iconst ?_
          refine r_icmp_le kX8_next_113 (fun c1 => absurd c1 (by omega)) (fun c1 => ?_)
          refine r_iconst ?_
          refine r_goto kX8_next_114 ?_
          first | refine r_iadd (az_wid (by omega) (by omega)) ?_ | refine r_iaddw ?_
          refine r_putI g_279 (by decide) ?_
          refine r_aload_n rfl ?_
          refine r_getIx g_279 (hP1.2.2.2.2.1) ?_
          refine r_if_le kX8_next_251 (fun c2 => absurd c2 (by omega)) (fun c2 => ?_)
          refine r_aload_n rfl ?_
          refine r_getIx g_279 (hP1.2.2.2.2.1) ?_
          refine r_iconst ?_
          refine r_icmp_ge kX8_next_251 (fun c3 => ?_) (fun c3 => absurd c3 (by omega))
          exact l_X8_next3 hb hE (by omega) (fun q => absurd q (by rw [← hk]; exact hk12)) (by rw [← hk]; exact hP1)
    refine r_aload_n rfl ?_
    refine r_getIx g_279 (e15) ?_
    refine r_aload_n rfl ?_
    refine r_getIx g_279 (e19) ?_
    refine r_icmp_ge kX8_next_52 (fun c1 => ?_) (fun c1 => ?_)
    · refine r_aload_n rfl ?_
      refine r_aload_n rfl ?_
      refine r_getIx g_279 (e15) ?_
      refine r_putI g_279 (by decide) ?_
      refine r_aload_n rfl ?_
      refine r_aload_n rfl ?_
      refine r_getIx g_279 ((az_up_k _ _ (by decide)).trans e15) ?_
      refine r_aload_n rfl ?_
      refine r_getIx g_279 ((az_up_k _ _ (by decide)).trans e19) ?_
      refine r_icmp_ge kX8_next_87 (fun c2 => ?_) (fun c2 => ?_)
      · refine r_iconst ?_
        first | (exfalso; omega) | exact H _ (by unfold pK0; first | rw [if_pos (by omega)] | rw [if_neg (by omega)])
      · refine r_aload_n rfl ?_
        refine r_getR g_279 rfl ?_
        refine r_aload_n rfl ?_
        refine r_getIx g_279 ((az_up_k _ _ (by decide)).trans e15) ?_
        refine r_ialdx g_283 rfl (by omega) (by omega) (by omega) (congrFun ((az_up_b _ _ _ (by decide)).trans e83) _) ?_
        refine r_cS1I (by decide) (Nat.le_of_ble_eq_true rfl) (Nat.le_of_ble_eq_true rfl) (c_X8_sort _) ?_
        refine r_goto kX8_next_88 ?_
        first | (exfalso; omega) | exact H _ (by unfold pK0; first | rw [if_pos (by omega)] | rw [if_neg (by omega)])
    · refine r_aload_n rfl ?_
      refine r_getR g_279 rfl ?_
      refine r_aload_n rfl ?_
      refine r_getIx g_279 (e15) ?_
      refine r_ialdx g_283 rfl (by omega) (by omega) (by omega) (congrFun e83 _) ?_
      refine r_bipush ?_
      refine r_icmp_eq kX8_next_39 (fun c3 => absurd c3 (by omega)) (fun c3 => ?_)
      refine r_aload_n rfl ?_
      refine r_getR g_279 rfl ?_
      refine r_aload_n rfl ?_
      refine r_getIx g_279 (e15) ?_
      refine r_ialdx g_283 rfl (by omega) (by omega) (by omega) (congrFun e83 _) ?_
      refine r_bipush ?_
      refine r_icmp_ne kX8_next_52 (fun c4 => ?_) (fun c4 => absurd c4 (by omega))
      refine r_aload_n rfl ?_
      refine r_aload_n rfl ?_
      refine r_getIx g_279 (e15) ?_
      refine r_putI g_279 (by decide) ?_
      refine r_aload_n rfl ?_
      refine r_aload_n rfl ?_
      refine r_getIx g_279 ((az_up_k _ _ (by decide)).trans e15) ?_
      refine r_aload_n rfl ?_
      refine r_getIx g_279 ((az_up_k _ _ (by decide)).trans e19) ?_
      refine r_icmp_ge kX8_next_87 (fun c5 => ?_) (fun c5 => ?_)
      · refine r_iconst ?_
        first | (exfalso; omega) | exact H _ (by unfold pK0; first | rw [if_pos (by omega)] | rw [if_neg (by omega)])
      · refine r_aload_n rfl ?_
        refine r_getR g_279 rfl ?_
        refine r_aload_n rfl ?_
        refine r_getIx g_279 ((az_up_k _ _ (by decide)).trans e15) ?_
        refine r_ialdx g_283 rfl (by omega) (by omega) (by omega) (congrFun ((az_up_b _ _ _ (by decide)).trans e83) _) ?_
        refine r_cS1I (by decide) (Nat.le_of_ble_eq_true rfl) (Nat.le_of_ble_eq_true rfl) (c_X8_sort _) ?_
        refine r_goto kX8_next_88 ?_
        first | (exfalso; omega) | exact H _ (by unfold pK0; first | rw [if_pos (by omega)] | rw [if_neg (by omega)])
end RP
