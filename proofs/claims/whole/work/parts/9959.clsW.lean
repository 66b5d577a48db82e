/-! THE CLASS: the words -/
section CW
variable {sc : aX} {m : aM} {T : Int → Int} {n : Int} {Q : Option aV → aM → Prop}
theorem c_coder_0 (hX : iTx m) : az_CI sc 38 [.inr (.inr 4)] m 0 m := by
  have h1 : m 3 1 = 0 := hX 3 (by decide) (by decide) 1 (by decide +kernel)
  refine r_gst1 ?_
  refine r_if_eq kJ0_coder_7d493_13 (fun c1 => absurd c1 (by decide)) (fun c1 => ?_)
  refine r_aload_n rfl ?_
  refine r_getIx g_3 (h1) ?_
  refine r_goto kJ0_coder_7d493_14 ?_
  refine r_bret rfl (by omega) ?_
  exact ⟨rfl, rfl⟩
theorem c_length_0 (hX : iTx m) : az_CI sc 39 [.inr (.inr 4)] m 3 m := by
  refine r_aload_n rfl ?_
  refine r_getR g_3 rfl ?_
  refine r_alen g_11 rfl (by omega) (by decide) ?_
  refine r_aload_n rfl ?_
  refine r_cV1I g_3 rfl (Nat.le_of_ble_eq_true rfl) (Nat.le_of_ble_eq_true rfl) (c_coder_0 hX) ?_
  refine r_ishr ((by decide +kernel : az_shr ((3 : Nat) : Int) 0 = 3)) ?_
  refine r_iret rfl ?_
  exact ⟨rfl, rfl⟩
theorem c_latin_0 (hX : iTx m) : az_CI sc 40 [.inr (.inr 4)] m 1 m := by
  have h1 : m 3 1 = 0 := hX 3 (by decide) (by decide) 1 (by decide +kernel)
  refine r_gst1 ?_
  refine r_if_eq kJ0_isLatin1_aae02_17 (fun c1 => absurd c1 (by decide)) (fun c1 => ?_)
  refine r_aload_n rfl ?_
  refine r_getIx g_3 (h1) ?_
  refine r_if_ne kJ0_isLatin1_aae02_17 (fun c2 => absurd c2 (by decide)) (fun c2 => ?_)
  refine r_iconst ?_
  refine r_goto kJ0_isLatin1_aae02_18 ?_
  refine r_zret rfl (by omega) ?_
  exact ⟨rfl, rfl⟩
theorem c_char1_0 {x c : Int} (h0 : 0 ≤ x) (h1 : x < 3) (hc : m 11 x = c) (hb : 0 ≤ c ∧ c < 128) : az_CI sc 43 [.inr (.inr 12), .inl x] m c m := by
  have h2 := by_255i hb.1 hb.2
  refine r_iload_n rfl ?_
  refine r_aload_n rfl ?_
  refine r_alen g_11 rfl (by omega) (by decide) ?_
  refine r_cS2V (by decide) (Nat.le_of_ble_eq_true rfl) (Nat.le_of_ble_eq_true rfl) (c_checkIndex0 h0 h1) ?_
  refine r_aload_n rfl ?_
  refine r_iload_n rfl ?_
  refine r_baldx g_11 rfl (by omega) (by decide) (by omega) (by omega) (hc) ?_
  refine r_sipush ?_
  refine r_iand (h2.1) ?_
  refine r_i2c (h2.2) ?_
  refine r_cret rfl (by omega) ?_
  exact ⟨rfl, rfl⟩
theorem c_char_0 {x c : Int} (hX : iTx m) (h0 : 0 ≤ x) (h1 : x < 3) (hc : m 11 x = c) (hb : 0 ≤ c ∧ c < 128) : az_CI sc 48 [.inr (.inr 4), .inl x] m c m := by
  refine r_aload_n rfl ?_
  refine r_cV1I g_3 rfl (Nat.le_of_ble_eq_true rfl) (Nat.le_of_ble_eq_true rfl) (c_latin_0 hX) ?_
  refine r_if_eq kJ0_charAt_5068e_16 (fun c1 => absurd c1 (by decide)) (fun c1 => ?_)
  refine r_aload_n rfl ?_
  refine r_getR g_3 rfl ?_
  refine r_iload_n rfl ?_
  refine r_cS2I (by decide) (Nat.le_of_ble_eq_true rfl) (Nat.le_of_ble_eq_true rfl) (c_char1_0 h0 h1 hc hb) ?_
  refine r_cret rfl (by omega) ?_
  exact ⟨rfl, rfl⟩
theorem rl_0 (b : Int) : rl T b 3 = wLaw ↔ (T (b + 0) = 108 ∧ T (b + 1) = 97 ∧ T (b + 2) = 119) := by
  show ([T (b + 2) - 96, T (b + 1) - 96, T (b + 0) - 96] : List Int) = [23, 1, 12] ↔ _
  simp only [List.cons.injEq, and_true]
  omega
def ltr_0 (y : Int) : Int := if y = 0 then 108 else if y = 1 then 97 else 119
theorem rw_0 {b k : Int} (hk : 0 ≤ k) : rl T b k.toNat = wLaw ↔ (k = 3 ∧ ∀ y, 0 ≤ y → y < 3 → T (b + y) = ltr_0 y) := by
  constructor
  · intro h
    have h5 := rl_len T b k.toNat
    rw [h] at h5
    have h6 : wLaw.length = 3 := rfl
    have h7 : k = 3 := by omega
    subst h7
    have h8 := (rl_0 b).mp h
    refine ⟨rfl, fun y y0 y1 => ?_⟩
    rcases (show y = 0 ∨ y = 1 ∨ y = 2 by omega) with rfl | rfl | rfl
    · exact h8.1
    · exact h8.2.1
    · exact h8.2.2
  · intro h
    obtain ⟨h7, h8⟩ := h
    subst h7
    exact (rl_0 b).mpr ⟨h8 0 (by decide) (by decide), h8 1 (by decide) (by decide), h8 2 (by decide) (by decide)⟩
theorem ltr_0_b (y : Int) : 0 ≤ ltr_0 y ∧ ltr_0 y < 128 := by
  unfold ltr_0
  (repeat' split) <;> decide
theorem c_isWord_0 {i : Nat} (hX : iTx m) (hP : cP m T n i) : az_CI sc 49 [.inr (.inr 39), .inr (.inr 4)] m (1 - kW T n wLaw i) m := by
  refine c_isWordG (s := 3) (L := 3) (lt := ltr_0) g_3 (c_length_0 hX) (fun x x0 x1 => ?_) (by decide) (fun b k hk => rw_0 hk) ltr_0_b hP
  have hx : m 11 x = ltr_0 x := by
    rcases (show x = 0 ∨ x = 1 ∨ x = 2 by omega) with rfl | rfl | rfl
    · exact hX 11 (by decide) (by decide) 0 (by decide +kernel)
    · exact hX 11 (by decide) (by decide) 1 (by decide +kernel)
    · exact hX 11 (by decide) (by decide) 2 (by decide +kernel)
  exact c_char_0 hX x0 x1 hx (ltr_0_b x)
theorem c_coder_1 (hX : iTx m) : az_CI sc 38 [.inr (.inr 5)] m 0 m := by
  have h1 : m 4 1 = 0 := hX 4 (by decide) (by decide) 1 (by decide +kernel)
  refine r_gst1 ?_
  refine r_if_eq kJ0_coder_7d493_13 (fun c1 => absurd c1 (by decide)) (fun c1 => ?_)
  refine r_aload_n rfl ?_
  refine r_getIx g_4 (h1) ?_
  refine r_goto kJ0_coder_7d493_14 ?_
  refine r_bret rfl (by omega) ?_
  exact ⟨rfl, rfl⟩
theorem c_length_1 (hX : iTx m) : az_CI sc 39 [.inr (.inr 5)] m 3 m := by
  refine r_aload_n rfl ?_
  refine r_getR g_4 rfl ?_
  refine r_alen g_12 rfl (by omega) (by decide) ?_
  refine r_aload_n rfl ?_
  refine r_cV1I g_4 rfl (Nat.le_of_ble_eq_true rfl) (Nat.le_of_ble_eq_true rfl) (c_coder_1 hX) ?_
  refine r_ishr ((by decide +kernel : az_shr ((3 : Nat) : Int) 0 = 3)) ?_
  refine r_iret rfl ?_
  exact ⟨rfl, rfl⟩
theorem c_latin_1 (hX : iTx m) : az_CI sc 40 [.inr (.inr 5)] m 1 m := by
  have h1 : m 4 1 = 0 := hX 4 (by decide) (by decide) 1 (by decide +kernel)
  refine r_gst1 ?_
  refine r_if_eq kJ0_isLatin1_aae02_17 (fun c1 => absurd c1 (by decide)) (fun c1 => ?_)
  refine r_aload_n rfl ?_
  refine r_getIx g_4 (h1) ?_
  refine r_if_ne kJ0_isLatin1_aae02_17 (fun c2 => absurd c2 (by decide)) (fun c2 => ?_)
  refine r_iconst ?_
  refine r_goto kJ0_isLatin1_aae02_18 ?_
  refine r_zret rfl (by omega) ?_
  exact ⟨rfl, rfl⟩
theorem c_char1_1 {x c : Int} (h0 : 0 ≤ x) (h1 : x < 3) (hc : m 12 x = c) (hb : 0 ≤ c ∧ c < 128) : az_CI sc 43 [.inr (.inr 13), .inl x] m c m := by
  have h2 := by_255i hb.1 hb.2
  refine r_iload_n rfl ?_
  refine r_aload_n rfl ?_
  refine r_alen g_12 rfl (by omega) (by decide) ?_
  refine r_cS2V (by decide) (Nat.le_of_ble_eq_true rfl) (Nat.le_of_ble_eq_true rfl) (c_checkIndex0 h0 h1) ?_
  refine r_aload_n rfl ?_
  refine r_iload_n rfl ?_
  refine r_baldx g_12 rfl (by omega) (by decide) (by omega) (by omega) (hc) ?_
  refine r_sipush ?_
  refine r_iand (h2.1) ?_
  refine r_i2c (h2.2) ?_
  refine r_cret rfl (by omega) ?_
  exact ⟨rfl, rfl⟩
theorem c_char_1 {x c : Int} (hX : iTx m) (h0 : 0 ≤ x) (h1 : x < 3) (hc : m 12 x = c) (hb : 0 ≤ c ∧ c < 128) : az_CI sc 48 [.inr (.inr 5), .inl x] m c m := by
  refine r_aload_n rfl ?_
  refine r_cV1I g_4 rfl (Nat.le_of_ble_eq_true rfl) (Nat.le_of_ble_eq_true rfl) (c_latin_1 hX) ?_
  refine r_if_eq kJ0_charAt_5068e_16 (fun c1 => absurd c1 (by decide)) (fun c1 => ?_)
  refine r_aload_n rfl ?_
  refine r_getR g_4 rfl ?_
  refine r_iload_n rfl ?_
  refine r_cS2I (by decide) (Nat.le_of_ble_eq_true rfl) (Nat.le_of_ble_eq_true rfl) (c_char1_1 h0 h1 hc hb) ?_
  refine r_cret rfl (by omega) ?_
  exact ⟨rfl, rfl⟩
theorem rl_1 (b : Int) : rl T b 3 = wSun ↔ (T (b + 0) = 115 ∧ T (b + 1) = 117 ∧ T (b + 2) = 110) := by
  show ([T (b + 2) - 96, T (b + 1) - 96, T (b + 0) - 96] : List Int) = [14, 21, 19] ↔ _
  simp only [List.cons.injEq, and_true]
  omega
def ltr_1 (y : Int) : Int := if y = 0 then 115 else if y = 1 then 117 else 110
theorem rw_1 {b k : Int} (hk : 0 ≤ k) : rl T b k.toNat = wSun ↔ (k = 3 ∧ ∀ y, 0 ≤ y → y < 3 → T (b + y) = ltr_1 y) := by
  constructor
  · intro h
    have h5 := rl_len T b k.toNat
    rw [h] at h5
    have h6 : wSun.length = 3 := rfl
    have h7 : k = 3 := by omega
    subst h7
    have h8 := (rl_1 b).mp h
    refine ⟨rfl, fun y y0 y1 => ?_⟩
    rcases (show y = 0 ∨ y = 1 ∨ y = 2 by omega) with rfl | rfl | rfl
    · exact h8.1
    · exact h8.2.1
    · exact h8.2.2
  · intro h
    obtain ⟨h7, h8⟩ := h
    subst h7
    exact (rl_1 b).mpr ⟨h8 0 (by decide) (by decide), h8 1 (by decide) (by decide), h8 2 (by decide) (by decide)⟩
theorem ltr_1_b (y : Int) : 0 ≤ ltr_1 y ∧ ltr_1 y < 128 := by
  unfold ltr_1
  (repeat' split) <;> decide
theorem c_isWord_1 {i : Nat} (hX : iTx m) (hP : cP m T n i) : az_CI sc 49 [.inr (.inr 39), .inr (.inr 5)] m (1 - kW T n wSun i) m := by
  refine c_isWordG (s := 4) (L := 3) (lt := ltr_1) g_4 (c_length_1 hX) (fun x x0 x1 => ?_) (by decide) (fun b k hk => rw_1 hk) ltr_1_b hP
  have hx : m 12 x = ltr_1 x := by
    rcases (show x = 0 ∨ x = 1 ∨ x = 2 by omega) with rfl | rfl | rfl
    · exact hX 12 (by decide) (by decide) 0 (by decide +kernel)
    · exact hX 12 (by decide) (by decide) 1 (by decide +kernel)
    · exact hX 12 (by decide) (by decide) 2 (by decide +kernel)
  exact c_char_1 hX x0 x1 hx (ltr_1_b x)
theorem c_coder_2 (hX : iTx m) : az_CI sc 38 [.inr (.inr 6)] m 0 m := by
  have h1 : m 5 1 = 0 := hX 5 (by decide) (by decide) 1 (by decide +kernel)
  refine r_gst1 ?_
  refine r_if_eq kJ0_coder_7d493_13 (fun c1 => absurd c1 (by decide)) (fun c1 => ?_)
  refine r_aload_n rfl ?_
  refine r_getIx g_5 (h1) ?_
  refine r_goto kJ0_coder_7d493_14 ?_
  refine r_bret rfl (by omega) ?_
  exact ⟨rfl, rfl⟩
theorem c_length_2 (hX : iTx m) : az_CI sc 39 [.inr (.inr 6)] m 5 m := by
  refine r_aload_n rfl ?_
  refine r_getR g_5 rfl ?_
  refine r_alen g_13 rfl (by omega) (by decide) ?_
  refine r_aload_n rfl ?_
  refine r_cV1I g_5 rfl (Nat.le_of_ble_eq_true rfl) (Nat.le_of_ble_eq_true rfl) (c_coder_2 hX) ?_
  refine r_ishr ((by decide +kernel : az_shr ((5 : Nat) : Int) 0 = 5)) ?_
  refine r_iret rfl ?_
  exact ⟨rfl, rfl⟩
theorem c_latin_2 (hX : iTx m) : az_CI sc 40 [.inr (.inr 6)] m 1 m := by
  have h1 : m 5 1 = 0 := hX 5 (by decide) (by decide) 1 (by decide +kernel)
  refine r_gst1 ?_
  refine r_if_eq kJ0_isLatin1_aae02_17 (fun c1 => absurd c1 (by decide)) (fun c1 => ?_)
  refine r_aload_n rfl ?_
  refine r_getIx g_5 (h1) ?_
  refine r_if_ne kJ0_isLatin1_aae02_17 (fun c2 => absurd c2 (by decide)) (fun c2 => ?_)
  refine r_iconst ?_
  refine r_goto kJ0_isLatin1_aae02_18 ?_
  refine r_zret rfl (by omega) ?_
  exact ⟨rfl, rfl⟩
theorem c_char1_2 {x c : Int} (h0 : 0 ≤ x) (h1 : x < 5) (hc : m 13 x = c) (hb : 0 ≤ c ∧ c < 128) : az_CI sc 43 [.inr (.inr 14), .inl x] m c m := by
  have h2 := by_255i hb.1 hb.2
  refine r_iload_n rfl ?_
  refine r_aload_n rfl ?_
  refine r_alen g_13 rfl (by omega) (by decide) ?_
  refine r_cS2V (by decide) (Nat.le_of_ble_eq_true rfl) (Nat.le_of_ble_eq_true rfl) (c_checkIndex0 h0 h1) ?_
  refine r_aload_n rfl ?_
  refine r_iload_n rfl ?_
  refine r_baldx g_13 rfl (by omega) (by decide) (by omega) (by omega) (hc) ?_
  refine r_sipush ?_
  refine r_iand (h2.1) ?_
  refine r_i2c (h2.2) ?_
  refine r_cret rfl (by omega) ?_
  exact ⟨rfl, rfl⟩
theorem c_char_2 {x c : Int} (hX : iTx m) (h0 : 0 ≤ x) (h1 : x < 5) (hc : m 13 x = c) (hb : 0 ≤ c ∧ c < 128) : az_CI sc 48 [.inr (.inr 6), .inl x] m c m := by
  refine r_aload_n rfl ?_
  refine r_cV1I g_5 rfl (Nat.le_of_ble_eq_true rfl) (Nat.le_of_ble_eq_true rfl) (c_latin_2 hX) ?_
  refine r_if_eq kJ0_charAt_5068e_16 (fun c1 => absurd c1 (by decide)) (fun c1 => ?_)
  refine r_aload_n rfl ?_
  refine r_getR g_5 rfl ?_
  refine r_iload_n rfl ?_
  refine r_cS2I (by decide) (Nat.le_of_ble_eq_true rfl) (Nat.le_of_ble_eq_true rfl) (c_char1_2 h0 h1 hc hb) ?_
  refine r_cret rfl (by omega) ?_
  exact ⟨rfl, rfl⟩
theorem rl_2 (b : Int) : rl T b 5 = wGuest ↔ (T (b + 0) = 103 ∧ T (b + 1) = 117 ∧ T (b + 2) = 101 ∧ T (b + 3) = 115 ∧ T (b + 4) = 116) := by
  show ([T (b + 4) - 96, T (b + 3) - 96, T (b + 2) - 96, T (b + 1) - 96, T (b + 0) - 96] : List Int) = [20, 19, 5, 21, 7] ↔ _
  simp only [List.cons.injEq, and_true]
  omega
def ltr_2 (y : Int) : Int := if y = 0 then 103 else if y = 1 then 117 else if y = 2 then 101 else if y = 3 then 115 else 116
theorem rw_2 {b k : Int} (hk : 0 ≤ k) : rl T b k.toNat = wGuest ↔ (k = 5 ∧ ∀ y, 0 ≤ y → y < 5 → T (b + y) = ltr_2 y) := by
  constructor
  · intro h
    have h5 := rl_len T b k.toNat
    rw [h] at h5
    have h6 : wGuest.length = 5 := rfl
    have h7 : k = 5 := by omega
    subst h7
    have h8 := (rl_2 b).mp h
    refine ⟨rfl, fun y y0 y1 => ?_⟩
    rcases (show y = 0 ∨ y = 1 ∨ y = 2 ∨ y = 3 ∨ y = 4 by omega) with rfl | rfl | rfl | rfl | rfl
    · exact h8.1
    · exact h8.2.1
    · exact h8.2.2.1
    · exact h8.2.2.2.1
    · exact h8.2.2.2.2
  · intro h
    obtain ⟨h7, h8⟩ := h
    subst h7
    exact (rl_2 b).mpr ⟨h8 0 (by decide) (by decide), h8 1 (by decide) (by decide), h8 2 (by decide) (by decide), h8 3 (by decide) (by decide), h8 4 (by decide) (by decide)⟩
theorem ltr_2_b (y : Int) : 0 ≤ ltr_2 y ∧ ltr_2 y < 128 := by
  unfold ltr_2
  (repeat' split) <;> decide
theorem c_isWord_2 {i : Nat} (hX : iTx m) (hP : cP m T n i) : az_CI sc 49 [.inr (.inr 39), .inr (.inr 6)] m (1 - kW T n wGuest i) m := by
  refine c_isWordG (s := 5) (L := 5) (lt := ltr_2) g_5 (c_length_2 hX) (fun x x0 x1 => ?_) (by decide) (fun b k hk => rw_2 hk) ltr_2_b hP
  have hx : m 13 x = ltr_2 x := by
    rcases (show x = 0 ∨ x = 1 ∨ x = 2 ∨ x = 3 ∨ x = 4 by omega) with rfl | rfl | rfl | rfl | rfl
    · exact hX 13 (by decide) (by decide) 0 (by decide +kernel)
    · exact hX 13 (by decide) (by decide) 1 (by decide +kernel)
    · exact hX 13 (by decide) (by decide) 2 (by decide +kernel)
    · exact hX 13 (by decide) (by decide) 3 (by decide +kernel)
    · exact hX 13 (by decide) (by decide) 4 (by decide +kernel)
  exact c_char_2 hX x0 x1 hx (ltr_2_b x)
theorem c_coder_3 (hX : iTx m) : az_CI sc 38 [.inr (.inr 7)] m 0 m := by
  have h1 : m 6 1 = 0 := hX 6 (by decide) (by decide) 1 (by decide +kernel)
  refine r_gst1 ?_
  refine r_if_eq kJ0_coder_7d493_13 (fun c1 => absurd c1 (by decide)) (fun c1 => ?_)
  refine r_aload_n rfl ?_
  refine r_getIx g_6 (h1) ?_
  refine r_goto kJ0_coder_7d493_14 ?_
  refine r_bret rfl (by omega) ?_
  exact ⟨rfl, rfl⟩
theorem c_length_3 (hX : iTx m) : az_CI sc 39 [.inr (.inr 7)] m 4 m := by
  refine r_aload_n rfl ?_
  refine r_getR g_6 rfl ?_
  refine r_alen g_14 rfl (by omega) (by decide) ?_
  refine r_aload_n rfl ?_
  refine r_cV1I g_6 rfl (Nat.le_of_ble_eq_true rfl) (Nat.le_of_ble_eq_true rfl) (c_coder_3 hX) ?_
  refine r_ishr ((by decide +kernel : az_shr ((4 : Nat) : Int) 0 = 4)) ?_
  refine r_iret rfl ?_
  exact ⟨rfl, rfl⟩
theorem c_latin_3 (hX : iTx m) : az_CI sc 40 [.inr (.inr 7)] m 1 m := by
  have h1 : m 6 1 = 0 := hX 6 (by decide) (by decide) 1 (by decide +kernel)
  refine r_gst1 ?_
  refine r_if_eq kJ0_isLatin1_aae02_17 (fun c1 => absurd c1 (by decide)) (fun c1 => ?_)
  refine r_aload_n rfl ?_
  refine r_getIx g_6 (h1) ?_
  refine r_if_ne kJ0_isLatin1_aae02_17 (fun c2 => absurd c2 (by decide)) (fun c2 => ?_)
  refine r_iconst ?_
  refine r_goto kJ0_isLatin1_aae02_18 ?_
  refine r_zret rfl (by omega) ?_
  exact ⟨rfl, rfl⟩
theorem c_char1_3 {x c : Int} (h0 : 0 ≤ x) (h1 : x < 4) (hc : m 14 x = c) (hb : 0 ≤ c ∧ c < 128) : az_CI sc 43 [.inr (.inr 15), .inl x] m c m := by
  have h2 := by_255i hb.1 hb.2
  refine r_iload_n rfl ?_
  refine r_aload_n rfl ?_
  refine r_alen g_14 rfl (by omega) (by decide) ?_
  refine r_cS2V (by decide) (Nat.le_of_ble_eq_true rfl) (Nat.le_of_ble_eq_true rfl) (c_checkIndex0 h0 h1) ?_
  refine r_aload_n rfl ?_
  refine r_iload_n rfl ?_
  refine r_baldx g_14 rfl (by omega) (by decide) (by omega) (by omega) (hc) ?_
  refine r_sipush ?_
  refine r_iand (h2.1) ?_
  refine r_i2c (h2.2) ?_
  refine r_cret rfl (by omega) ?_
  exact ⟨rfl, rfl⟩
theorem c_char_3 {x c : Int} (hX : iTx m) (h0 : 0 ≤ x) (h1 : x < 4) (hc : m 14 x = c) (hb : 0 ≤ c ∧ c < 128) : az_CI sc 48 [.inr (.inr 7), .inl x] m c m := by
  refine r_aload_n rfl ?_
  refine r_cV1I g_6 rfl (Nat.le_of_ble_eq_true rfl) (Nat.le_of_ble_eq_true rfl) (c_latin_3 hX) ?_
  refine r_if_eq kJ0_charAt_5068e_16 (fun c1 => absurd c1 (by decide)) (fun c1 => ?_)
  refine r_aload_n rfl ?_
  refine r_getR g_6 rfl ?_
  refine r_iload_n rfl ?_
  refine r_cS2I (by decide) (Nat.le_of_ble_eq_true rfl) (Nat.le_of_ble_eq_true rfl) (c_char1_3 h0 h1 hc hb) ?_
  refine r_cret rfl (by omega) ?_
  exact ⟨rfl, rfl⟩
theorem rl_3 (b : Int) : rl T b 4 = wLone ↔ (T (b + 0) = 108 ∧ T (b + 1) = 111 ∧ T (b + 2) = 110 ∧ T (b + 3) = 101) := by
  show ([T (b + 3) - 96, T (b + 2) - 96, T (b + 1) - 96, T (b + 0) - 96] : List Int) = [5, 14, 15, 12] ↔ _
  simp only [List.cons.injEq, and_true]
  omega
def ltr_3 (y : Int) : Int := if y = 0 then 108 else if y = 1 then 111 else if y = 2 then 110 else 101
theorem rw_3 {b k : Int} (hk : 0 ≤ k) : rl T b k.toNat = wLone ↔ (k = 4 ∧ ∀ y, 0 ≤ y → y < 4 → T (b + y) = ltr_3 y) := by
  constructor
  · intro h
    have h5 := rl_len T b k.toNat
    rw [h] at h5
    have h6 : wLone.length = 4 := rfl
    have h7 : k = 4 := by omega
    subst h7
    have h8 := (rl_3 b).mp h
    refine ⟨rfl, fun y y0 y1 => ?_⟩
    rcases (show y = 0 ∨ y = 1 ∨ y = 2 ∨ y = 3 by omega) with rfl | rfl | rfl | rfl
    · exact h8.1
    · exact h8.2.1
    · exact h8.2.2.1
    · exact h8.2.2.2
  · intro h
    obtain ⟨h7, h8⟩ := h
    subst h7
    exact (rl_3 b).mpr ⟨h8 0 (by decide) (by decide), h8 1 (by decide) (by decide), h8 2 (by decide) (by decide), h8 3 (by decide) (by decide)⟩
theorem ltr_3_b (y : Int) : 0 ≤ ltr_3 y ∧ ltr_3 y < 128 := by
  unfold ltr_3
  (repeat' split) <;> decide
theorem c_isWord_3 {i : Nat} (hX : iTx m) (hP : cP m T n i) : az_CI sc 49 [.inr (.inr 39), .inr (.inr 7)] m (1 - kW T n wLone i) m := by
  refine c_isWordG (s := 6) (L := 4) (lt := ltr_3) g_6 (c_length_3 hX) (fun x x0 x1 => ?_) (by decide) (fun b k hk => rw_3 hk) ltr_3_b hP
  have hx : m 14 x = ltr_3 x := by
    rcases (show x = 0 ∨ x = 1 ∨ x = 2 ∨ x = 3 by omega) with rfl | rfl | rfl | rfl
    · exact hX 14 (by decide) (by decide) 0 (by decide +kernel)
    · exact hX 14 (by decide) (by decide) 1 (by decide +kernel)
    · exact hX 14 (by decide) (by decide) 2 (by decide +kernel)
    · exact hX 14 (by decide) (by decide) 3 (by decide +kernel)
  exact c_char_3 hX x0 x1 hx (ltr_3_b x)
theorem c_coder_4 (hX : iTx m) : az_CI sc 38 [.inr (.inr 8)] m 0 m := by
  have h1 : m 7 1 = 0 := hX 7 (by decide) (by decide) 1 (by decide +kernel)
  refine r_gst1 ?_
  refine r_if_eq kJ0_coder_7d493_13 (fun c1 => absurd c1 (by decide)) (fun c1 => ?_)
  refine r_aload_n rfl ?_
  refine r_getIx g_7 (h1) ?_
  refine r_goto kJ0_coder_7d493_14 ?_
  refine r_bret rfl (by omega) ?_
  exact ⟨rfl, rfl⟩
theorem c_length_4 (hX : iTx m) : az_CI sc 39 [.inr (.inr 8)] m 4 m := by
  refine r_aload_n rfl ?_
  refine r_getR g_7 rfl ?_
  refine r_alen g_15 rfl (by omega) (by decide) ?_
  refine r_aload_n rfl ?_
  refine r_cV1I g_7 rfl (Nat.le_of_ble_eq_true rfl) (Nat.le_of_ble_eq_true rfl) (c_coder_4 hX) ?_
  refine r_ishr ((by decide +kernel : az_shr ((4 : Nat) : Int) 0 = 4)) ?_
  refine r_iret rfl ?_
  exact ⟨rfl, rfl⟩
theorem c_latin_4 (hX : iTx m) : az_CI sc 40 [.inr (.inr 8)] m 1 m := by
  have h1 : m 7 1 = 0 := hX 7 (by decide) (by decide) 1 (by decide +kernel)
  refine r_gst1 ?_
  refine r_if_eq kJ0_isLatin1_aae02_17 (fun c1 => absurd c1 (by decide)) (fun c1 => ?_)
  refine r_aload_n rfl ?_
  refine r_getIx g_7 (h1) ?_
  refine r_if_ne kJ0_isLatin1_aae02_17 (fun c2 => absurd c2 (by decide)) (fun c2 => ?_)
  refine r_iconst ?_
  refine r_goto kJ0_isLatin1_aae02_18 ?_
  refine r_zret rfl (by omega) ?_
  exact ⟨rfl, rfl⟩
theorem c_char1_4 {x c : Int} (h0 : 0 ≤ x) (h1 : x < 4) (hc : m 15 x = c) (hb : 0 ≤ c ∧ c < 128) : az_CI sc 43 [.inr (.inr 16), .inl x] m c m := by
  have h2 := by_255i hb.1 hb.2
  refine r_iload_n rfl ?_
  refine r_aload_n rfl ?_
  refine r_alen g_15 rfl (by omega) (by decide) ?_
  refine r_cS2V (by decide) (Nat.le_of_ble_eq_true rfl) (Nat.le_of_ble_eq_true rfl) (c_checkIndex0 h0 h1) ?_
  refine r_aload_n rfl ?_
  refine r_iload_n rfl ?_
  refine r_baldx g_15 rfl (by omega) (by decide) (by omega) (by omega) (hc) ?_
  refine r_sipush ?_
  refine r_iand (h2.1) ?_
  refine r_i2c (h2.2) ?_
  refine r_cret rfl (by omega) ?_
  exact ⟨rfl, rfl⟩
theorem c_char_4 {x c : Int} (hX : iTx m) (h0 : 0 ≤ x) (h1 : x < 4) (hc : m 15 x = c) (hb : 0 ≤ c ∧ c < 128) : az_CI sc 48 [.inr (.inr 8), .inl x] m c m := by
  refine r_aload_n rfl ?_
  refine r_cV1I g_7 rfl (Nat.le_of_ble_eq_true rfl) (Nat.le_of_ble_eq_true rfl) (c_latin_4 hX) ?_
  refine r_if_eq kJ0_charAt_5068e_16 (fun c1 => absurd c1 (by decide)) (fun c1 => ?_)
  refine r_aload_n rfl ?_
  refine r_getR g_7 rfl ?_
  refine r_iload_n rfl ?_
  refine r_cS2I (by decide) (Nat.le_of_ble_eq_true rfl) (Nat.le_of_ble_eq_true rfl) (c_char1_4 h0 h1 hc hb) ?_
  refine r_cret rfl (by omega) ?_
  exact ⟨rfl, rfl⟩
theorem rl_4 (b : Int) : rl T b 4 = wAunt ↔ (T (b + 0) = 97 ∧ T (b + 1) = 117 ∧ T (b + 2) = 110 ∧ T (b + 3) = 116) := by
  show ([T (b + 3) - 96, T (b + 2) - 96, T (b + 1) - 96, T (b + 0) - 96] : List Int) = [20, 14, 21, 1] ↔ _
  simp only [List.cons.injEq, and_true]
  omega
def ltr_4 (y : Int) : Int := if y = 0 then 97 else if y = 1 then 117 else if y = 2 then 110 else 116
theorem rw_4 {b k : Int} (hk : 0 ≤ k) : rl T b k.toNat = wAunt ↔ (k = 4 ∧ ∀ y, 0 ≤ y → y < 4 → T (b + y) = ltr_4 y) := by
  constructor
  · intro h
    have h5 := rl_len T b k.toNat
    rw [h] at h5
    have h6 : wAunt.length = 4 := rfl
    have h7 : k = 4 := by omega
    subst h7
    have h8 := (rl_4 b).mp h
    refine ⟨rfl, fun y y0 y1 => ?_⟩
    rcases (show y = 0 ∨ y = 1 ∨ y = 2 ∨ y = 3 by omega) with rfl | rfl | rfl | rfl
    · exact h8.1
    · exact h8.2.1
    · exact h8.2.2.1
    · exact h8.2.2.2
  · intro h
    obtain ⟨h7, h8⟩ := h
    subst h7
    exact (rl_4 b).mpr ⟨h8 0 (by decide) (by decide), h8 1 (by decide) (by decide), h8 2 (by decide) (by decide), h8 3 (by decide) (by decide)⟩
theorem ltr_4_b (y : Int) : 0 ≤ ltr_4 y ∧ ltr_4 y < 128 := by
  unfold ltr_4
  (repeat' split) <;> decide
theorem c_isWord_4 {i : Nat} (hX : iTx m) (hP : cP m T n i) : az_CI sc 49 [.inr (.inr 39), .inr (.inr 8)] m (1 - kW T n wAunt i) m := by
  refine c_isWordG (s := 7) (L := 4) (lt := ltr_4) g_7 (c_length_4 hX) (fun x x0 x1 => ?_) (by decide) (fun b k hk => rw_4 hk) ltr_4_b hP
  have hx : m 15 x = ltr_4 x := by
    rcases (show x = 0 ∨ x = 1 ∨ x = 2 ∨ x = 3 by omega) with rfl | rfl | rfl | rfl
    · exact hX 15 (by decide) (by decide) 0 (by decide +kernel)
    · exact hX 15 (by decide) (by decide) 1 (by decide +kernel)
    · exact hX 15 (by decide) (by decide) 2 (by decide +kernel)
    · exact hX 15 (by decide) (by decide) 3 (by decide +kernel)
  exact c_char_4 hX x0 x1 hx (ltr_4_b x)
theorem c_coder_5 (hX : iTx m) : az_CI sc 38 [.inr (.inr 9)] m 0 m := by
  have h1 : m 8 1 = 0 := hX 8 (by decide) (by decide) 1 (by decide +kernel)
  refine r_gst1 ?_
  refine r_if_eq kJ0_coder_7d493_13 (fun c1 => absurd c1 (by decide)) (fun c1 => ?_)
  refine r_aload_n rfl ?_
  refine r_getIx g_8 (h1) ?_
  refine r_goto kJ0_coder_7d493_14 ?_
  refine r_bret rfl (by omega) ?_
  exact ⟨rfl, rfl⟩
theorem c_length_5 (hX : iTx m) : az_CI sc 39 [.inr (.inr 9)] m 5 m := by
  refine r_aload_n rfl ?_
  refine r_getR g_8 rfl ?_
  refine r_alen g_16 rfl (by omega) (by decide) ?_
  refine r_aload_n rfl ?_
  refine r_cV1I g_8 rfl (Nat.le_of_ble_eq_true rfl) (Nat.le_of_ble_eq_true rfl) (c_coder_5 hX) ?_
  refine r_ishr ((by decide +kernel : az_shr ((5 : Nat) : Int) 0 = 5)) ?_
  refine r_iret rfl ?_
  exact ⟨rfl, rfl⟩
theorem c_latin_5 (hX : iTx m) : az_CI sc 40 [.inr (.inr 9)] m 1 m := by
  have h1 : m 8 1 = 0 := hX 8 (by decide) (by decide) 1 (by decide +kernel)
  refine r_gst1 ?_
  refine r_if_eq kJ0_isLatin1_aae02_17 (fun c1 => absurd c1 (by decide)) (fun c1 => ?_)
  refine r_aload_n rfl ?_
  refine r_getIx g_8 (h1) ?_
  refine r_if_ne kJ0_isLatin1_aae02_17 (fun c2 => absurd c2 (by decide)) (fun c2 => ?_)
  refine r_iconst ?_
  refine r_goto kJ0_isLatin1_aae02_18 ?_
  refine r_zret rfl (by omega) ?_
  exact ⟨rfl, rfl⟩
theorem c_char1_5 {x c : Int} (h0 : 0 ≤ x) (h1 : x < 5) (hc : m 16 x = c) (hb : 0 ≤ c ∧ c < 128) : az_CI sc 43 [.inr (.inr 17), .inl x] m c m := by
  have h2 := by_255i hb.1 hb.2
  refine r_iload_n rfl ?_
  refine r_aload_n rfl ?_
  refine r_alen g_16 rfl (by omega) (by decide) ?_
  refine r_cS2V (by decide) (Nat.le_of_ble_eq_true rfl) (Nat.le_of_ble_eq_true rfl) (c_checkIndex0 h0 h1) ?_
  refine r_aload_n rfl ?_
  refine r_iload_n rfl ?_
  refine r_baldx g_16 rfl (by omega) (by decide) (by omega) (by omega) (hc) ?_
  refine r_sipush ?_
  refine r_iand (h2.1) ?_
  refine r_i2c (h2.2) ?_
  refine r_cret rfl (by omega) ?_
  exact ⟨rfl, rfl⟩
theorem c_char_5 {x c : Int} (hX : iTx m) (h0 : 0 ≤ x) (h1 : x < 5) (hc : m 16 x = c) (hb : 0 ≤ c ∧ c < 128) : az_CI sc 48 [.inr (.inr 9), .inl x] m c m := by
  refine r_aload_n rfl ?_
  refine r_cV1I g_8 rfl (Nat.le_of_ble_eq_true rfl) (Nat.le_of_ble_eq_true rfl) (c_latin_5 hX) ?_
  refine r_if_eq kJ0_charAt_5068e_16 (fun c1 => absurd c1 (by decide)) (fun c1 => ?_)
  refine r_aload_n rfl ?_
  refine r_getR g_8 rfl ?_
  refine r_iload_n rfl ?_
  refine r_cS2I (by decide) (Nat.le_of_ble_eq_true rfl) (Nat.le_of_ble_eq_true rfl) (c_char1_5 h0 h1 hc hb) ?_
  refine r_cret rfl (by omega) ?_
  exact ⟨rfl, rfl⟩
theorem rl_5 (b : Int) : rl T b 5 = wChild ↔ (T (b + 0) = 99 ∧ T (b + 1) = 104 ∧ T (b + 2) = 105 ∧ T (b + 3) = 108 ∧ T (b + 4) = 100) := by
  show ([T (b + 4) - 96, T (b + 3) - 96, T (b + 2) - 96, T (b + 1) - 96, T (b + 0) - 96] : List Int) = [4, 12, 9, 8, 3] ↔ _
  simp only [List.cons.injEq, and_true]
  omega
def ltr_5 (y : Int) : Int := if y = 0 then 99 else if y = 1 then 104 else if y = 2 then 105 else if y = 3 then 108 else 100
theorem rw_5 {b k : Int} (hk : 0 ≤ k) : rl T b k.toNat = wChild ↔ (k = 5 ∧ ∀ y, 0 ≤ y → y < 5 → T (b + y) = ltr_5 y) := by
  constructor
  · intro h
    have h5 := rl_len T b k.toNat
    rw [h] at h5
    have h6 : wChild.length = 5 := rfl
    have h7 : k = 5 := by omega
    subst h7
    have h8 := (rl_5 b).mp h
    refine ⟨rfl, fun y y0 y1 => ?_⟩
    rcases (show y = 0 ∨ y = 1 ∨ y = 2 ∨ y = 3 ∨ y = 4 by omega) with rfl | rfl | rfl | rfl | rfl
    · exact h8.1
    · exact h8.2.1
    · exact h8.2.2.1
    · exact h8.2.2.2.1
    · exact h8.2.2.2.2
  · intro h
    obtain ⟨h7, h8⟩ := h
    subst h7
    exact (rl_5 b).mpr ⟨h8 0 (by decide) (by decide), h8 1 (by decide) (by decide), h8 2 (by decide) (by decide), h8 3 (by decide) (by decide), h8 4 (by decide) (by decide)⟩
theorem ltr_5_b (y : Int) : 0 ≤ ltr_5 y ∧ ltr_5 y < 128 := by
  unfold ltr_5
  (repeat' split) <;> decide
theorem c_isWord_5 {i : Nat} (hX : iTx m) (hP : cP m T n i) : az_CI sc 49 [.inr (.inr 39), .inr (.inr 9)] m (1 - kW T n wChild i) m := by
  refine c_isWordG (s := 8) (L := 5) (lt := ltr_5) g_8 (c_length_5 hX) (fun x x0 x1 => ?_) (by decide) (fun b k hk => rw_5 hk) ltr_5_b hP
  have hx : m 16 x = ltr_5 x := by
    rcases (show x = 0 ∨ x = 1 ∨ x = 2 ∨ x = 3 ∨ x = 4 by omega) with rfl | rfl | rfl | rfl | rfl
    · exact hX 16 (by decide) (by decide) 0 (by decide +kernel)
    · exact hX 16 (by decide) (by decide) 1 (by decide +kernel)
    · exact hX 16 (by decide) (by decide) 2 (by decide +kernel)
    · exact hX 16 (by decide) (by decide) 3 (by decide +kernel)
    · exact hX 16 (by decide) (by decide) 4 (by decide +kernel)
  exact c_char_5 hX x0 x1 hx (ltr_5_b x)
theorem c_coder_6 (hX : iTx m) : az_CI sc 38 [.inr (.inr 10)] m 0 m := by
  have h1 : m 9 1 = 0 := hX 9 (by decide) (by decide) 1 (by decide +kernel)
  refine r_gst1 ?_
  refine r_if_eq kJ0_coder_7d493_13 (fun c1 => absurd c1 (by decide)) (fun c1 => ?_)
  refine r_aload_n rfl ?_
  refine r_getIx g_9 (h1) ?_
  refine r_goto kJ0_coder_7d493_14 ?_
  refine r_bret rfl (by omega) ?_
  exact ⟨rfl, rfl⟩
theorem c_length_6 (hX : iTx m) : az_CI sc 39 [.inr (.inr 10)] m 4 m := by
  refine r_aload_n rfl ?_
  refine r_getR g_9 rfl ?_
  refine r_alen g_17 rfl (by omega) (by decide) ?_
  refine r_aload_n rfl ?_
  refine r_cV1I g_9 rfl (Nat.le_of_ble_eq_true rfl) (Nat.le_of_ble_eq_true rfl) (c_coder_6 hX) ?_
  refine r_ishr ((by decide +kernel : az_shr ((4 : Nat) : Int) 0 = 4)) ?_
  refine r_iret rfl ?_
  exact ⟨rfl, rfl⟩
theorem c_latin_6 (hX : iTx m) : az_CI sc 40 [.inr (.inr 10)] m 1 m := by
  have h1 : m 9 1 = 0 := hX 9 (by decide) (by decide) 1 (by decide +kernel)
  refine r_gst1 ?_
  refine r_if_eq kJ0_isLatin1_aae02_17 (fun c1 => absurd c1 (by decide)) (fun c1 => ?_)
  refine r_aload_n rfl ?_
  refine r_getIx g_9 (h1) ?_
  refine r_if_ne kJ0_isLatin1_aae02_17 (fun c2 => absurd c2 (by decide)) (fun c2 => ?_)
  refine r_iconst ?_
  refine r_goto kJ0_isLatin1_aae02_18 ?_
  refine r_zret rfl (by omega) ?_
  exact ⟨rfl, rfl⟩
theorem c_char1_6 {x c : Int} (h0 : 0 ≤ x) (h1 : x < 4) (hc : m 17 x = c) (hb : 0 ≤ c ∧ c < 128) : az_CI sc 43 [.inr (.inr 18), .inl x] m c m := by
  have h2 := by_255i hb.1 hb.2
  refine r_iload_n rfl ?_
  refine r_aload_n rfl ?_
  refine r_alen g_17 rfl (by omega) (by decide) ?_
  refine r_cS2V (by decide) (Nat.le_of_ble_eq_true rfl) (Nat.le_of_ble_eq_true rfl) (c_checkIndex0 h0 h1) ?_
  refine r_aload_n rfl ?_
  refine r_iload_n rfl ?_
  refine r_baldx g_17 rfl (by omega) (by decide) (by omega) (by omega) (hc) ?_
  refine r_sipush ?_
  refine r_iand (h2.1) ?_
  refine r_i2c (h2.2) ?_
  refine r_cret rfl (by omega) ?_
  exact ⟨rfl, rfl⟩
theorem c_char_6 {x c : Int} (hX : iTx m) (h0 : 0 ≤ x) (h1 : x < 4) (hc : m 17 x = c) (hb : 0 ≤ c ∧ c < 128) : az_CI sc 48 [.inr (.inr 10), .inl x] m c m := by
  refine r_aload_n rfl ?_
  refine r_cV1I g_9 rfl (Nat.le_of_ble_eq_true rfl) (Nat.le_of_ble_eq_true rfl) (c_latin_6 hX) ?_
  refine r_if_eq kJ0_charAt_5068e_16 (fun c1 => absurd c1 (by decide)) (fun c1 => ?_)
  refine r_aload_n rfl ?_
  refine r_getR g_9 rfl ?_
  refine r_iload_n rfl ?_
  refine r_cS2I (by decide) (Nat.le_of_ble_eq_true rfl) (Nat.le_of_ble_eq_true rfl) (c_char1_6 h0 h1 hc hb) ?_
  refine r_cret rfl (by omega) ?_
  exact ⟨rfl, rfl⟩
theorem rl_6 (b : Int) : rl T b 4 = wBand ↔ (T (b + 0) = 98 ∧ T (b + 1) = 97 ∧ T (b + 2) = 110 ∧ T (b + 3) = 100) := by
  show ([T (b + 3) - 96, T (b + 2) - 96, T (b + 1) - 96, T (b + 0) - 96] : List Int) = [4, 14, 1, 2] ↔ _
  simp only [List.cons.injEq, and_true]
  omega
def ltr_6 (y : Int) : Int := if y = 0 then 98 else if y = 1 then 97 else if y = 2 then 110 else 100
theorem rw_6 {b k : Int} (hk : 0 ≤ k) : rl T b k.toNat = wBand ↔ (k = 4 ∧ ∀ y, 0 ≤ y → y < 4 → T (b + y) = ltr_6 y) := by
  constructor
  · intro h
    have h5 := rl_len T b k.toNat
    rw [h] at h5
    have h6 : wBand.length = 4 := rfl
    have h7 : k = 4 := by omega
    subst h7
    have h8 := (rl_6 b).mp h
    refine ⟨rfl, fun y y0 y1 => ?_⟩
    rcases (show y = 0 ∨ y = 1 ∨ y = 2 ∨ y = 3 by omega) with rfl | rfl | rfl | rfl
    · exact h8.1
    · exact h8.2.1
    · exact h8.2.2.1
    · exact h8.2.2.2
  · intro h
    obtain ⟨h7, h8⟩ := h
    subst h7
    exact (rl_6 b).mpr ⟨h8 0 (by decide) (by decide), h8 1 (by decide) (by decide), h8 2 (by decide) (by decide), h8 3 (by decide) (by decide)⟩
theorem ltr_6_b (y : Int) : 0 ≤ ltr_6 y ∧ ltr_6 y < 128 := by
  unfold ltr_6
  (repeat' split) <;> decide
theorem c_isWord_6 {i : Nat} (hX : iTx m) (hP : cP m T n i) : az_CI sc 49 [.inr (.inr 39), .inr (.inr 10)] m (1 - kW T n wBand i) m := by
  refine c_isWordG (s := 9) (L := 4) (lt := ltr_6) g_9 (c_length_6 hX) (fun x x0 x1 => ?_) (by decide) (fun b k hk => rw_6 hk) ltr_6_b hP
  have hx : m 17 x = ltr_6 x := by
    rcases (show x = 0 ∨ x = 1 ∨ x = 2 ∨ x = 3 by omega) with rfl | rfl | rfl | rfl
    · exact hX 17 (by decide) (by decide) 0 (by decide +kernel)
    · exact hX 17 (by decide) (by decide) 1 (by decide +kernel)
    · exact hX 17 (by decide) (by decide) 2 (by decide +kernel)
    · exact hX 17 (by decide) (by decide) 3 (by decide +kernel)
  exact c_char_6 hX x0 x1 hx (ltr_6_b x)
theorem c_coder_7 (hX : iTx m) : az_CI sc 38 [.inr (.inr 11)] m 0 m := by
  have h1 : m 10 1 = 0 := hX 10 (by decide) (by decide) 1 (by decide +kernel)
  refine r_gst1 ?_
  refine r_if_eq kJ0_coder_7d493_13 (fun c1 => absurd c1 (by decide)) (fun c1 => ?_)
  refine r_aload_n rfl ?_
  refine r_getIx g_10 (h1) ?_
  refine r_goto kJ0_coder_7d493_14 ?_
  refine r_bret rfl (by omega) ?_
  exact ⟨rfl, rfl⟩
theorem c_length_7 (hX : iTx m) : az_CI sc 39 [.inr (.inr 11)] m 4 m := by
  refine r_aload_n rfl ?_
  refine r_getR g_10 rfl ?_
  refine r_alen g_18 rfl (by omega) (by decide) ?_
  refine r_aload_n rfl ?_
  refine r_cV1I g_10 rfl (Nat.le_of_ble_eq_true rfl) (Nat.le_of_ble_eq_true rfl) (c_coder_7 hX) ?_
  refine r_ishr ((by decide +kernel : az_shr ((4 : Nat) : Int) 0 = 4)) ?_
  refine r_iret rfl ?_
  exact ⟨rfl, rfl⟩
theorem c_latin_7 (hX : iTx m) : az_CI sc 40 [.inr (.inr 11)] m 1 m := by
  have h1 : m 10 1 = 0 := hX 10 (by decide) (by decide) 1 (by decide +kernel)
  refine r_gst1 ?_
  refine r_if_eq kJ0_isLatin1_aae02_17 (fun c1 => absurd c1 (by decide)) (fun c1 => ?_)
  refine r_aload_n rfl ?_
  refine r_getIx g_10 (h1) ?_
  refine r_if_ne kJ0_isLatin1_aae02_17 (fun c2 => absurd c2 (by decide)) (fun c2 => ?_)
  refine r_iconst ?_
  refine r_goto kJ0_isLatin1_aae02_18 ?_
  refine r_zret rfl (by omega) ?_
  exact ⟨rfl, rfl⟩
theorem c_char1_7 {x c : Int} (h0 : 0 ≤ x) (h1 : x < 4) (hc : m 18 x = c) (hb : 0 ≤ c ∧ c < 128) : az_CI sc 43 [.inr (.inr 19), .inl x] m c m := by
  have h2 := by_255i hb.1 hb.2
  refine r_iload_n rfl ?_
  refine r_aload_n rfl ?_
  refine r_alen g_18 rfl (by omega) (by decide) ?_
  refine r_cS2V (by decide) (Nat.le_of_ble_eq_true rfl) (Nat.le_of_ble_eq_true rfl) (c_checkIndex0 h0 h1) ?_
  refine r_aload_n rfl ?_
  refine r_iload_n rfl ?_
  refine r_baldx g_18 rfl (by omega) (by decide) (by omega) (by omega) (hc) ?_
  refine r_sipush ?_
  refine r_iand (h2.1) ?_
  refine r_i2c (h2.2) ?_
  refine r_cret rfl (by omega) ?_
  exact ⟨rfl, rfl⟩
theorem c_char_7 {x c : Int} (hX : iTx m) (h0 : 0 ≤ x) (h1 : x < 4) (hc : m 18 x = c) (hb : 0 ≤ c ∧ c < 128) : az_CI sc 48 [.inr (.inr 11), .inl x] m c m := by
  refine r_aload_n rfl ?_
  refine r_cV1I g_10 rfl (Nat.le_of_ble_eq_true rfl) (Nat.le_of_ble_eq_true rfl) (c_latin_7 hX) ?_
  refine r_if_eq kJ0_charAt_5068e_16 (fun c1 => absurd c1 (by decide)) (fun c1 => ?_)
  refine r_aload_n rfl ?_
  refine r_getR g_10 rfl ?_
  refine r_iload_n rfl ?_
  refine r_cS2I (by decide) (Nat.le_of_ble_eq_true rfl) (Nat.le_of_ble_eq_true rfl) (c_char1_7 h0 h1 hc hb) ?_
  refine r_cret rfl (by omega) ?_
  exact ⟨rfl, rfl⟩
theorem rl_7 (b : Int) : rl T b 4 = wClan ↔ (T (b + 0) = 99 ∧ T (b + 1) = 108 ∧ T (b + 2) = 97 ∧ T (b + 3) = 110) := by
  show ([T (b + 3) - 96, T (b + 2) - 96, T (b + 1) - 96, T (b + 0) - 96] : List Int) = [14, 1, 12, 3] ↔ _
  simp only [List.cons.injEq, and_true]
  omega
def ltr_7 (y : Int) : Int := if y = 0 then 99 else if y = 1 then 108 else if y = 2 then 97 else 110
theorem rw_7 {b k : Int} (hk : 0 ≤ k) : rl T b k.toNat = wClan ↔ (k = 4 ∧ ∀ y, 0 ≤ y → y < 4 → T (b + y) = ltr_7 y) := by
  constructor
  · intro h
    have h5 := rl_len T b k.toNat
    rw [h] at h5
    have h6 : wClan.length = 4 := rfl
    have h7 : k = 4 := by omega
    subst h7
    have h8 := (rl_7 b).mp h
    refine ⟨rfl, fun y y0 y1 => ?_⟩
    rcases (show y = 0 ∨ y = 1 ∨ y = 2 ∨ y = 3 by omega) with rfl | rfl | rfl | rfl
    · exact h8.1
    · exact h8.2.1
    · exact h8.2.2.1
    · exact h8.2.2.2
  · intro h
    obtain ⟨h7, h8⟩ := h
    subst h7
    exact (rl_7 b).mpr ⟨h8 0 (by decide) (by decide), h8 1 (by decide) (by decide), h8 2 (by decide) (by decide), h8 3 (by decide) (by decide)⟩
theorem ltr_7_b (y : Int) : 0 ≤ ltr_7 y ∧ ltr_7 y < 128 := by
  unfold ltr_7
  (repeat' split) <;> decide
theorem c_isWord_7 {i : Nat} (hX : iTx m) (hP : cP m T n i) : az_CI sc 49 [.inr (.inr 39), .inr (.inr 11)] m (1 - kW T n wClan i) m := by
  refine c_isWordG (s := 10) (L := 4) (lt := ltr_7) g_10 (c_length_7 hX) (fun x x0 x1 => ?_) (by decide) (fun b k hk => rw_7 hk) ltr_7_b hP
  have hx : m 18 x = ltr_7 x := by
    rcases (show x = 0 ∨ x = 1 ∨ x = 2 ∨ x = 3 by omega) with rfl | rfl | rfl | rfl
    · exact hX 18 (by decide) (by decide) 0 (by decide +kernel)
    · exact hX 18 (by decide) (by decide) 1 (by decide +kernel)
    · exact hX 18 (by decide) (by decide) 2 (by decide +kernel)
    · exact hX 18 (by decide) (by decide) 3 (by decide +kernel)
  exact c_char_7 hX x0 x1 hx (ltr_7_b x)
end CW
