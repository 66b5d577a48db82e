/-! what a step's success says of its start -/
theorem az_i_nx {l l' : aL} {s s' : aS} {g g' : aG} {m m' : aM} (h : az_nx l s g m = some (.inl (l', s', g', m'))) : l' = l ∧ s' = s ∧ g' = g ∧ m' = m := by
  simp only [az_nx, Option.some.injEq, Sum.inl.injEq, Prod.mk.injEq] at h
  exact ⟨h.1.symm, h.2.1.symm, h.2.2.1.symm, h.2.2.2.symm⟩
section INV
variable {sc : aX} {M k : Nat} {l l' : aL} {s s' : aS} {g g' : aG} {m m' : aM} {f : List Int} {F : Int → Int → Int}
theorem az_i_ldI (h : az_ldI l s g m k = some (.inl (l', s', g', m'))) : ∃ x, l[k]? = some (some (.inl x)) ∧ l' = l ∧ s' = .inl x :: s ∧ g' = g ∧ m' = m := by
  unfold az_ldI at h
  split at h
  · next x hx => exact ⟨x, hx, az_i_nx h⟩
  · cases h
theorem az_i_ldL (h : az_ldL l s g m k = some (.inl (l', s', g', m'))) : ∃ x, l[k]? = some (some (.inr (.inl x))) ∧ l' = l ∧ s' = .inr (.inl x) :: s ∧ g' = g ∧ m' = m := by
  unfold az_ldL at h
  split at h
  · next x hx => exact ⟨x, hx, az_i_nx h⟩
  · cases h
theorem az_i_ldA (h : az_ldA l s g m k = some (.inl (l', s', g', m'))) : ∃ x, l[k]? = some (some (.inr (.inr x))) ∧ l' = l ∧ s' = .inr (.inr x) :: s ∧ g' = g ∧ m' = m := by
  unfold az_ldA at h
  split at h
  · next x hx => exact ⟨x, hx, az_i_nx h⟩
  · cases h
theorem az_i_stI (h : az_stI l s g m k = some (.inl (l', s', g', m'))) : ∃ x, s = .inl x :: s' ∧ k < l.length ∧ l' = az_st1 l k (.inl x) ∧ g' = g ∧ m' = m := by
  unfold az_stI at h
  split at h
  · next x s1 =>
    split at h
    · next hk =>
      obtain ⟨h1, h2, h3, h4⟩ := az_i_nx h
      exact ⟨x, by rw [h2], hk, h1, h3, h4⟩
    · cases h
  · cases h
theorem az_i_stA (h : az_stA l s g m k = some (.inl (l', s', g', m'))) : ∃ x, s = .inr (.inr x) :: s' ∧ k < l.length ∧ l' = az_st1 l k (.inr (.inr x)) ∧ g' = g ∧ m' = m := by
  unfold az_stA at h
  split at h
  · next x s1 =>
    split at h
    · next hk =>
      obtain ⟨h1, h2, h3, h4⟩ := az_i_nx h
      exact ⟨x, by rw [h2], hk, h1, h3, h4⟩
    · cases h
  · cases h
theorem az_i_stL (h : az_stL l s g m k = some (.inl (l', s', g', m'))) : ∃ x, s = .inr (.inl x) :: s' ∧ k + 1 < l.length ∧ l' = az_st2 l k (.inr (.inl x)) ∧ g' = g ∧ m' = m := by
  unfold az_stL at h
  split at h
  · next x s1 =>
    split at h
    · next hk =>
      obtain ⟨h1, h2, h3, h4⟩ := az_i_nx h
      exact ⟨x, by rw [h2], hk, h1, h3, h4⟩
    · cases h
  · cases h
theorem az_i_b2 (h : az_b2 l s g m F = some (.inl (l', s', g', m'))) : ∃ y x s1, s = .inl y :: .inl x :: s1 ∧ l' = l ∧ s' = .inl (F x y) :: s1 ∧ g' = g ∧ m' = m := by
  unfold az_b2 at h
  split at h
  · next y x s1 => exact ⟨y, x, s1, rfl, az_i_nx h⟩
  · cases h
theorem az_i_l2 (h : az_l2 l s g m F = some (.inl (l', s', g', m'))) : ∃ y x s1, s = .inr (.inl y) :: .inr (.inl x) :: s1 ∧ l' = l ∧ s' = .inr (.inl (F x y)) :: s1 ∧ g' = g ∧ m' = m := by
  unfold az_l2 at h
  split at h
  · next y x s1 => exact ⟨y, x, s1, rfl, az_i_nx h⟩
  · cases h
theorem az_i_li (h : az_li l s g m F = some (.inl (l', s', g', m'))) : ∃ y x s1, s = .inl y :: .inr (.inl x) :: s1 ∧ l' = l ∧ s' = .inr (.inl (F x y)) :: s1 ∧ g' = g ∧ m' = m := by
  unfold az_li at h
  split at h
  · next y x s1 => exact ⟨y, x, s1, rfl, az_i_nx h⟩
  · cases h
theorem az_i_u1 {G : Int → Int} (h : az_u1 l s g m G = some (.inl (l', s', g', m'))) : ∃ x s1, s = .inl x :: s1 ∧ l' = l ∧ s' = .inl (G x) :: s1 ∧ g' = g ∧ m' = m := by
  unfold az_u1 at h
  split at h
  · next x s1 => exact ⟨x, s1, rfl, az_i_nx h⟩
  · cases h
theorem az_i_d2 (h : az_d2 l s g m F = some (.inl (l', s', g', m'))) : ∃ y x s1, s = .inl y :: .inl x :: s1 ∧ ¬ y = 0 ∧ l' = l ∧ s' = .inl (F x y) :: s1 ∧ g' = g ∧ m' = m := by
  unfold az_d2 at h
  split at h
  · next y x s1 =>
    split at h
    · cases h
    · next hy => exact ⟨y, x, s1, rfl, hy, az_i_nx h⟩
  · cases h
theorem az_i_dl2 (h : az_dl2 l s g m F = some (.inl (l', s', g', m'))) : ∃ y x s1, s = .inr (.inl y) :: .inr (.inl x) :: s1 ∧ ¬ y = 0 ∧ l' = l ∧ s' = .inr (.inl (F x y)) :: s1 ∧ g' = g ∧ m' = m := by
  unfold az_dl2 at h
  split at h
  · next y x s1 =>
    split at h
    · cases h
    · next hy => exact ⟨y, x, s1, rfl, hy, az_i_nx h⟩
  · cases h
theorem az_i_if2 {c : ClassFile.Cond} (h : az_if2 l s g m f c = some (.inl (l', s', g', m'))) : ∃ y x, s = .inl y :: .inl x :: s' ∧ az_cnd c x y = false ∧ l' = l ∧ g' = g ∧ m' = m := by
  unfold az_if2 at h
  split at h
  · next y x s1 =>
    split at h
    · simp [az_jmp] at h
    · next hc =>
      obtain ⟨h1, h2, h3, h4⟩ := az_i_nx h
      exact ⟨y, x, by rw [h2], by simpa using hc, h1, h3, h4⟩
  · cases h
theorem az_i_if1 {c : ClassFile.Cond} (h : az_if1 l s g m f c = some (.inl (l', s', g', m'))) : ∃ x, s = .inl x :: s' ∧ az_cnd c x 0 = false ∧ l' = l ∧ g' = g ∧ m' = m := by
  unfold az_if1 at h
  split at h
  · next x s1 =>
    split at h
    · simp [az_jmp] at h
    · next hc =>
      obtain ⟨h1, h2, h3, h4⟩ := az_i_nx h
      exact ⟨x, by rw [h2], by simpa using hc, h1, h3, h4⟩
  · cases h
theorem az_i_ald {ts : List Nat} (h : az_ald sc l s g m ts = some (.inl (l', s', g', m'))) : ∃ j a s1, s = .inl j :: .inr (.inr (a + 1)) :: s1 ∧ l' = l ∧ g' = g ∧ m' = m ∧
    ((a = 0 ∧ ∃ L xs, sc = some (L, xs) ∧ ts = [20] ∧ 0 ≤ j ∧ j < (L : Int) ∧ s' = .inl (xs j) :: s1) ∨ (a ≠ 0 ∧ ∃ t n rs, g[a]? = some (t, n, rs) ∧ t ∈ ts ∧ 0 ≤ j ∧ j < (n : Int) ∧ s' = .inl (m a j) :: s1)) := by
  unfold az_ald at h
  split at h
  · next j a s1 =>
    split at h
    · next ha =>
      split at h
      · next L xs =>
        split at h
        · next hc =>
          obtain ⟨h1, h2, h3, h4⟩ := az_i_nx h
          exact ⟨j, a, s1, rfl, h1, h3, h4, Or.inl ⟨ha, L, xs, rfl, hc.1, hc.2.1, hc.2.2, h2⟩⟩
        · cases h
      · cases h
    · next ha =>
      split at h
      · next t n rs hg =>
        split at h
        · next hc =>
          obtain ⟨h1, h2, h3, h4⟩ := az_i_nx h
          exact ⟨j, a, s1, rfl, h1, h3, h4, Or.inr ⟨ha, t, n, rs, hg, hc.1, hc.2.1, hc.2.2, h2⟩⟩
        · cases h
      · cases h
  · cases h
theorem az_i_aald (h : az_aald l s g m = some (.inl (l', s', g', m'))) : ∃ j a s1 t n rs, s = .inl j :: .inr (.inr (a + 1)) :: s1 ∧ g[a]? = some (t, n, rs) ∧ 23 ≤ t ∧ t ≤ 24 ∧ 0 ≤ j ∧ j < (n : Int) ∧ l' = l ∧ s' = .inr (.inr (rs.getD j.toNat 0)) :: s1 ∧ g' = g ∧ m' = m := by
  unfold az_aald at h
  split at h
  · next j a s1 =>
    split at h
    · next t n rs hg =>
      split at h
      · next hc => exact ⟨j, a, s1, t, n, rs, rfl, hg, hc.1, hc.2.1, hc.2.2.1, hc.2.2.2, az_i_nx h⟩
      · cases h
    · cases h
  · cases h
theorem az_i_aln (h : az_aln sc l s g m = some (.inl (l', s', g', m'))) : ∃ a s1, s = .inr (.inr (a + 1)) :: s1 ∧ l' = l ∧ g' = g ∧ m' = m ∧
    ((a = 0 ∧ ∃ L xs, sc = some (L, xs) ∧ s' = .inl (L : Int) :: s1) ∨ (a ≠ 0 ∧ ∃ t n rs, g[a]? = some (t, n, rs) ∧ 20 ≤ t ∧ t ≤ 24 ∧ s' = .inl (n : Int) :: s1)) := by
  unfold az_aln at h
  split at h
  · next a s1 =>
    split at h
    · next ha =>
      split at h
      · next L xs =>
        obtain ⟨h1, h2, h3, h4⟩ := az_i_nx h
        exact ⟨a, s1, rfl, h1, h3, h4, Or.inl ⟨ha, L, xs, rfl, h2⟩⟩
      · cases h
    · next ha =>
      split at h
      · next t n rs hg =>
        split at h
        · next hc =>
          obtain ⟨h1, h2, h3, h4⟩ := az_i_nx h
          exact ⟨a, s1, rfl, h1, h3, h4, Or.inr ⟨ha, t, n, rs, hg, hc.1, hc.2, h2⟩⟩
        · cases h
      · cases h
  · cases h
theorem az_i_iast (h : az_iast l s g m = some (.inl (l', s', g', m'))) : ∃ v j a t n rs, s = .inl v :: .inl j :: .inr (.inr (a + 1)) :: s' ∧ g[a]? = some (t, n, rs) ∧ 19 ≤ a ∧ t = 20 ∧ 0 ≤ j ∧ j < (n : Int) ∧ l' = l ∧ g' = g ∧ m' = az_up m a j v := by
  unfold az_iast at h
  split at h
  · next v j a s1 =>
    split at h
    · next t n rs hg =>
      split at h
      · next hc =>
        obtain ⟨h1, h2, h3, h4⟩ := az_i_nx h
        exact ⟨v, j, a, t, n, rs, by rw [h2], hg, hc.1, hc.2.1, hc.2.2.1, hc.2.2.2, h1, h3, h4⟩
      · cases h
    · cases h
  · cases h
theorem az_i_bast (h : az_bast l s g m = some (.inl (l', s', g', m'))) : ∃ v j a t n rs, s = .inl v :: .inl j :: .inr (.inr (a + 1)) :: s' ∧ g[a]? = some (t, n, rs) ∧ 19 ≤ a ∧ ((t = 21 ∧ -128 ≤ v ∧ v < 128) ∨ (t = 22 ∧ 0 ≤ v ∧ v < 2)) ∧ 0 ≤ j ∧ j < (n : Int) ∧ l' = l ∧ g' = g ∧ m' = az_up m a j v := by
  unfold az_bast at h
  split at h
  · next v j a s1 =>
    split at h
    · next t n rs hg =>
      split at h
      · next hc =>
        obtain ⟨h1, h2, h3, h4⟩ := az_i_nx h
        exact ⟨v, j, a, t, n, rs, by rw [h2], hg, hc.1, hc.2.1, hc.2.2.1, hc.2.2.2, h1, h3, h4⟩
      · cases h
    · cases h
  · cases h
theorem az_i_aast (h : az_aast l s g m = some (.inl (l', s', g', m'))) : ∃ b j a t n rs t2 n2 rs2, s = .inr (.inr (b + 1)) :: .inl j :: .inr (.inr (a + 1)) :: s' ∧ g[a]? = some (t, n, rs) ∧ g[b]? = some (t2, n2, rs2) ∧ 19 ≤ a ∧ 19 ≤ b ∧ ((t = 23 ∧ t2 = 5) ∨ (t = 24 ∧ t2 = 1)) ∧ 0 ≤ j ∧ j < (n : Int) ∧ l' = l ∧ g' = g.set a (t, n, rs.set j.toNat (b + 1)) ∧ m' = m := by
  unfold az_aast at h
  split at h
  · next b j a s1 =>
    split at h
    · next t n rs t2 n2 rs2 hg hg2 =>
      split at h
      · next hc =>
        obtain ⟨h1, h2, h3, h4⟩ := az_i_nx h
        exact ⟨b, j, a, t, n, rs, t2, n2, rs2, by rw [h2], hg, hg2, hc.1, hc.2.1, hc.2.2.1, hc.2.2.2.1, hc.2.2.2.2, h1, h3, h4⟩
      · cases h
    · cases h
  · cases h
theorem az_i_get (h : az_get l s g m f = some (.inl (l', s', g', m'))) : ∃ a s1 c k t q tg n rs, s = .inr (.inr (a + 1)) :: s1 ∧ f = c :: k :: t :: q ∧ g[a]? = some (tg, n, rs) ∧ (tg : Int) = c ∧ l' = l ∧ g' = g ∧ m' = m ∧
    ((t = 1 ∧ s' = .inr (.inl (m a k)) :: s1) ∨ (t = 2 ∧ s' = .inr (.inr (rs.getD k.toNat 0)) :: s1) ∨ (t ≠ 1 ∧ t ≠ 2 ∧ s' = .inl (m a k) :: s1)) := by
  unfold az_get at h
  split at h
  · next a s1 c k t q =>
    split at h
    · next tg n rs hg =>
      split at h
      · next hc =>
        refine ⟨a, s1, c, k, t, q, tg, n, rs, rfl, rfl, hg, hc, ?_⟩
        split at h
        · next ht =>
          obtain ⟨h1, h2, h3, h4⟩ := az_i_nx h
          exact ⟨h1, h3, h4, Or.inl ⟨ht, h2⟩⟩
        · next ht =>
          split at h
          · next ht2 =>
            obtain ⟨h1, h2, h3, h4⟩ := az_i_nx h
            exact ⟨h1, h3, h4, Or.inr (Or.inl ⟨ht2, h2⟩)⟩
          · next ht2 =>
            obtain ⟨h1, h2, h3, h4⟩ := az_i_nx h
            exact ⟨h1, h3, h4, Or.inr (Or.inr ⟨ht, ht2, h2⟩)⟩
      · cases h
    · cases h
  · cases h
theorem az_i_put (h : az_put l s g m f = some (.inl (l', s', g', m'))) : ∃ (a : Nat) (c k t : Int) (q : List Int) (tg n : Nat) (rs : List Nat), f = c :: k :: t :: q ∧ g[a]? = some (tg, n, rs) ∧ 19 ≤ a ∧ (tg : Int) = c ∧ l' = l ∧
    ((∃ v, s = .inl v :: .inr (.inr (a + 1)) :: s' ∧ (t = 0 ∨ (t = 3 ∧ 0 ≤ v ∧ v < 2)) ∧ g' = g ∧ m' = az_up m a k v) ∨ (∃ v, s = .inr (.inl v) :: .inr (.inr (a + 1)) :: s' ∧ t = 1 ∧ g' = g ∧ m' = az_up m a k v) ∨ (∃ r, s = .inr (.inr r) :: .inr (.inr (a + 1)) :: s' ∧ t = 2 ∧ r ≤ g.length ∧ g' = g.set a (tg, n, rs.set k.toNat r) ∧ m' = m)) := by
  unfold az_put at h
  split at h
  · next v a s1 c k t q =>
    split at h
    · next tg n rs hg =>
      split at h
      · next hc =>
        obtain ⟨h1, h2, h3, h4⟩ := az_i_nx h
        exact ⟨a, c, k, t, q, tg, n, rs, rfl, hg, hc.1, hc.2.1, h1, Or.inl ⟨v, by rw [h2], hc.2.2, h3, h4⟩⟩
      · cases h
    · cases h
  · next v a s1 c k t q =>
    split at h
    · next tg n rs hg =>
      split at h
      · next hc =>
        obtain ⟨h1, h2, h3, h4⟩ := az_i_nx h
        exact ⟨a, c, k, t, q, tg, n, rs, rfl, hg, hc.1, hc.2.1, h1, Or.inr (Or.inl ⟨v, by rw [h2], hc.2.2, h3, h4⟩)⟩
      · cases h
    · cases h
  · next r a s1 c k t q =>
    split at h
    · next tg n rs hg =>
      split at h
      · next hc =>
        obtain ⟨h1, h2, h3, h4⟩ := az_i_nx h
        exact ⟨a, c, k, t, q, tg, n, rs, rfl, hg, hc.1, hc.2.1, h1, Or.inr (Or.inr ⟨r, by rw [h2], hc.2.2.1, hc.2.2.2, h3, h4⟩)⟩
      · cases h
    · cases h
  · cases h
theorem az_i_gst (h : az_gst l s g m f = some (.inl (l', s', g', m'))) : ∃ q, l' = l ∧ g' = g ∧ m' = m ∧ ((f = 0 :: q ∧ s' = .inr (.inr 3) :: s) ∨ (f = 1 :: q ∧ s' = .inl 1 :: s) ∨ (f = 2 :: q ∧ s' = .inr (.inr 2) :: s)) := by
  unfold az_gst at h
  split at h
  · next q =>
    obtain ⟨h1, h2, h3, h4⟩ := az_i_nx h
    exact ⟨q, h1, h3, h4, Or.inl ⟨rfl, h2⟩⟩
  · next q =>
    obtain ⟨h1, h2, h3, h4⟩ := az_i_nx h
    exact ⟨q, h1, h3, h4, Or.inr (Or.inl ⟨rfl, h2⟩)⟩
  · next q =>
    obtain ⟨h1, h2, h3, h4⟩ := az_i_nx h
    exact ⟨q, h1, h3, h4, Or.inr (Or.inr ⟨rfl, h2⟩)⟩
  · cases h
theorem az_i_new (h : az_new l s g m f = some (.inl (l', s', g', m'))) : ∃ c n q, f = c :: n :: q ∧ 19 ≤ g.length ∧ l' = l ∧ s' = .inr (.inr (g.length + 1)) :: s ∧ g' = g ++ [(c.toNat, n.toNat, List.replicate n.toNat 0)] ∧ m' = az_bl m g.length := by
  unfold az_new at h
  split at h
  · next c n q =>
    split at h
    · next hc => exact ⟨c, n, q, rfl, hc, az_i_nx h⟩
    · cases h
  · cases h
theorem az_i_nwa (h : az_nwa l s g m f = some (.inl (l', s', g', m'))) : ∃ n s1 t q, s = .inl n :: s1 ∧ f = t :: q ∧ 0 ≤ n ∧ n ≤ 2000 ∧ 19 ≤ g.length ∧ l' = l ∧ s' = .inr (.inr (g.length + 1)) :: s1 ∧ g' = g ++ [(t.toNat, n.toNat, if 23 ≤ t then List.replicate n.toNat 0 else [])] ∧ m' = az_bl m g.length := by
  unfold az_nwa at h
  split at h
  · next n s1 t q =>
    split at h
    · next hc => exact ⟨n, s1, t, q, rfl, rfl, hc.1, hc.2.1, hc.2.2, az_i_nx h⟩
    · cases h
  · cases h
theorem az_i_cpy (h : az_cpy l s g m = some (.inl (l', s', g', m'))) : ∃ n dp d sp a t n0 rs t2 n1 rs2, s = .inl n :: .inl dp :: .inr (.inr (d + 1)) :: .inl sp :: .inr (.inr (a + 1)) :: s' ∧ g[a]? = some (t, n0, rs) ∧ g[d]? = some (t2, n1, rs2) ∧ 19 ≤ a ∧ 19 ≤ d ∧ t = 20 ∧ t2 = 20 ∧ 0 ≤ n ∧ 0 ≤ sp ∧ 0 ≤ dp ∧ sp + n ≤ (n0 : Int) ∧ dp + n ≤ (n1 : Int) ∧ s'.length ≤ 4 ∧ l' = l ∧ g' = g ∧ m' = az_cp m a sp d dp n := by
  unfold az_cpy at h
  split at h
  · next n dp d sp a s1 =>
    split at h
    · next t n0 rs t2 n1 rs2 hg hg2 =>
      split at h
      · next hc =>
        obtain ⟨c1, c2, c3, c4, c5, c6, c7, c8, c9, c10⟩ := hc
        obtain ⟨h1, h2, h3, h4⟩ := az_i_nx h
        subst h2
        exact ⟨n, dp, d, sp, a, t, n0, rs, t2, n1, rs2, rfl, hg, hg2, c1, c2, c3, c4, c5, c6, c7, c8, c9, c10, h1, h3, h4⟩
      · cases h
    · cases h
  · cases h
theorem az_i_ldc (h : az_ldc l s g m f = some (.inl (l', s', g', m'))) : ∃ v q, l' = l ∧ g' = g ∧ m' = m ∧ ((f = 0 :: v :: q ∧ s' = .inl v :: s) ∨ (f = 1 :: v :: q ∧ s' = .inr (.inr (v.toNat + 1)) :: s)) := by
  unfold az_ldc at h
  split at h
  · next v q =>
    obtain ⟨h1, h2, h3, h4⟩ := az_i_nx h
    exact ⟨v, q, h1, h3, h4, Or.inl ⟨rfl, h2⟩⟩
  · next v q =>
    obtain ⟨h1, h2, h3, h4⟩ := az_i_nx h
    exact ⟨v, q, h1, h3, h4, Or.inr ⟨rfl, h2⟩⟩
  · cases h
theorem az_i_ldc2 (h : az_ldc2 l s g m f = some (.inl (l', s', g', m'))) : ∃ v q, f = 0 :: v :: q ∧ l' = l ∧ s' = .inr (.inl v) :: s ∧ g' = g ∧ m' = m := by
  unfold az_ldc2 at h
  split at h
  · next v q => exact ⟨v, q, rfl, az_i_nx h⟩
  · cases h
theorem az_i_iinc {c : Int} (h : az_iinc l s g m k c = some (.inl (l', s', g', m'))) : ∃ x, l[k]? = some (some (.inl x)) ∧ l' = az_st1 l k (.inl (az_w (x + c))) ∧ s' = s ∧ g' = g ∧ m' = m := by
  unfold az_iinc at h
  split at h
  · next x hx => exact ⟨x, hx, az_i_nx h⟩
  · cases h
end INV
