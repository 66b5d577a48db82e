/-! the whole run, by its fuel -/
theorem az_step_grow {sc : aX} {M : Nat} {i : Instr} {f : List Int} {l l' : aL} {st st' : aS} {g g' : aG} {m m' : aM} (h : az_step sc M i f l st g m = some (.inl (l', st', g', m'))) : g.length ≤ g'.length ∧ az_sl g ≤ az_sl g' := by
  have key : (g' = g) ∨ (∃ q, g' = g ++ [q]) ∨ (∃ a t n rs rs', g[a]? = some (t, n, rs) ∧ g' = g.set a (t, n, rs')) := by
    cases i with
    | ldc x => obtain ⟨v, q, -, rfl, -⟩ := az_i_ldc h; exact Or.inl rfl
    | ldc_w x => obtain ⟨v, q, -, rfl, -⟩ := az_i_ldc h; exact Or.inl rfl
    | ldc2_w x => obtain ⟨v, q, -, -, -, rfl, -⟩ := az_i_ldc2 h; exact Or.inl rfl
    | iconst n => exact Or.inl (az_i_nx h).2.2.1
    | bipush n => exact Or.inl (az_i_nx h).2.2.1
    | sipush n => exact Or.inl (az_i_nx h).2.2.1
    | lconst n => exact Or.inl (az_i_nx h).2.2.1
    | iload_n k => obtain ⟨x, -, -, -, h, -⟩ := az_i_ldI h; exact Or.inl h
    | iload k => obtain ⟨x, -, -, -, h, -⟩ := az_i_ldI h; exact Or.inl h
    | lload_n k => obtain ⟨x, -, -, -, h, -⟩ := az_i_ldL h; exact Or.inl h
    | lload k => obtain ⟨x, -, -, -, h, -⟩ := az_i_ldL h; exact Or.inl h
    | aload_n k => obtain ⟨x, -, -, -, h, -⟩ := az_i_ldA h; exact Or.inl h
    | aload k => obtain ⟨x, -, -, -, h, -⟩ := az_i_ldA h; exact Or.inl h
    | istore_n k => obtain ⟨x, -, -, -, h, -⟩ := az_i_stI h; exact Or.inl h
    | istore k => obtain ⟨x, -, -, -, h, -⟩ := az_i_stI h; exact Or.inl h
    | lstore_n k => obtain ⟨x, -, -, -, h, -⟩ := az_i_stL h; exact Or.inl h
    | lstore k => obtain ⟨x, -, -, -, h, -⟩ := az_i_stL h; exact Or.inl h
    | astore_n k => obtain ⟨x, -, -, -, h, -⟩ := az_i_stA h; exact Or.inl h
    | astore k => obtain ⟨x, -, -, -, h, -⟩ := az_i_stA h; exact Or.inl h
    | iinc k c => obtain ⟨x, -, -, -, h, -⟩ := az_i_iinc h; exact Or.inl h
    | iadd => obtain ⟨y, x, s1, -, -, -, h, -⟩ := az_i_b2 h; exact Or.inl h
    | isub => obtain ⟨y, x, s1, -, -, -, h, -⟩ := az_i_b2 h; exact Or.inl h
    | imul => obtain ⟨y, x, s1, -, -, -, h, -⟩ := az_i_b2 h; exact Or.inl h
    | iand => obtain ⟨y, x, s1, -, -, -, h, -⟩ := az_i_b2 h; exact Or.inl h
    | ior => obtain ⟨y, x, s1, -, -, -, h, -⟩ := az_i_b2 h; exact Or.inl h
    | ixor => obtain ⟨y, x, s1, -, -, -, h, -⟩ := az_i_b2 h; exact Or.inl h
    | ishl => obtain ⟨y, x, s1, -, -, -, h, -⟩ := az_i_b2 h; exact Or.inl h
    | ishr => obtain ⟨y, x, s1, -, -, -, h, -⟩ := az_i_b2 h; exact Or.inl h
    | iushr => obtain ⟨y, x, s1, -, -, -, h, -⟩ := az_i_b2 h; exact Or.inl h
    | idiv => obtain ⟨y, x, s1, -, -, -, -, h, -⟩ := az_i_d2 h; exact Or.inl h
    | irem => obtain ⟨y, x, s1, -, -, -, -, h, -⟩ := az_i_d2 h; exact Or.inl h
    | ldiv => obtain ⟨y, x, s1, -, -, -, -, h, -⟩ := az_i_dl2 h; exact Or.inl h
    | lrem => obtain ⟨y, x, s1, -, -, -, -, h, -⟩ := az_i_dl2 h; exact Or.inl h
    | ineg => obtain ⟨x, s1, -, -, -, h, -⟩ := az_i_u1 h; exact Or.inl h
    | i2b => obtain ⟨x, s1, -, -, -, h, -⟩ := az_i_u1 h; exact Or.inl h
    | i2s => obtain ⟨x, s1, -, -, -, h, -⟩ := az_i_u1 h; exact Or.inl h
    | i2c => obtain ⟨x, s1, -, -, -, h, -⟩ := az_i_u1 h; exact Or.inl h
    | ladd => obtain ⟨y, x, s1, -, -, -, h, -⟩ := az_i_l2 h; exact Or.inl h
    | lsub => obtain ⟨y, x, s1, -, -, -, h, -⟩ := az_i_l2 h; exact Or.inl h
    | lmul => obtain ⟨y, x, s1, -, -, -, h, -⟩ := az_i_l2 h; exact Or.inl h
    | land => obtain ⟨y, x, s1, -, -, -, h, -⟩ := az_i_l2 h; exact Or.inl h
    | lor => obtain ⟨y, x, s1, -, -, -, h, -⟩ := az_i_l2 h; exact Or.inl h
    | lshl => obtain ⟨y, x, s1, -, -, -, h, -⟩ := az_i_li h; exact Or.inl h
    | lshr => obtain ⟨y, x, s1, -, -, -, h, -⟩ := az_i_li h; exact Or.inl h
    | if_icmp c o => obtain ⟨y, x, -, -, -, h, -⟩ := az_i_if2 h; exact Or.inl h
    | ifCond c o => obtain ⟨x, -, -, -, h, -⟩ := az_i_if1 h; exact Or.inl h
    | iaload => obtain ⟨j, a, s1, -, -, h, -⟩ := az_i_ald h; exact Or.inl h
    | baload => obtain ⟨j, a, s1, -, -, h, -⟩ := az_i_ald h; exact Or.inl h
    | aaload => obtain ⟨j, a, s1, t, n, rs, -, -, -, -, -, -, -, -, h, -⟩ := az_i_aald h; exact Or.inl h
    | arraylength => obtain ⟨a, s1, -, -, h, -⟩ := az_i_aln h; exact Or.inl h
    | iastore => obtain ⟨v, j, a, t, n, rs, -, -, -, -, -, -, -, h, -⟩ := az_i_iast h; exact Or.inl h
    | bastore => obtain ⟨v, j, a, t, n, rs, -, -, -, -, -, -, -, h, -⟩ := az_i_bast h; exact Or.inl h
    | aastore => obtain ⟨b, j, a, t, n, rs, t2, n2, rs2, -, hg, -, -, -, -, -, -, -, h, -⟩ := az_i_aast h; exact Or.inr (Or.inr ⟨a, t, n, rs, _, hg, h⟩)
    | getfield x => obtain ⟨a, s1, c, k, t, q, tg, n, rs, -, -, -, -, -, h, -⟩ := az_i_get h; exact Or.inl h
    | putfield x =>
      obtain ⟨a, c, k, t, q, tg, n, rs, -, hg, -, -, -, ⟨v, -, -, h, -⟩ | ⟨v, -, -, h, -⟩ | ⟨r, -, -, -, h, -⟩⟩ := az_i_put h
      · exact Or.inl h
      · exact Or.inl h
      · exact Or.inr (Or.inr ⟨a, tg, n, rs, _, hg, h⟩)
    | getstatic x => obtain ⟨q, -, h, -⟩ := az_i_gst h; exact Or.inl h
    | new x => obtain ⟨c, n, q, -, -, -, -, h, -⟩ := az_i_new h; exact Or.inr (Or.inl ⟨_, h⟩)
    | newarray x => obtain ⟨n, s1, t, q, -, -, -, -, -, -, -, h, -⟩ := az_i_nwa h; exact Or.inr (Or.inl ⟨_, h⟩)
    | anewarray x => obtain ⟨n, s1, t, q, -, -, -, -, -, -, -, h, -⟩ := az_i_nwa h; exact Or.inr (Or.inl ⟨_, h⟩)
    | invokevirtual x =>
      rcases az_i_inv h with ⟨q1, q2, a, -, -, -, -, -, h, -⟩ | ⟨q, -, h⟩ | ⟨k, q, -, -, h, -⟩
      · exact Or.inl h
      · obtain ⟨n, dp, d, sp, a, t, n0, rs, t2, n1, rs2, -, -, -, -, -, -, -, -, -, -, -, -, -, -, h, -⟩ := az_i_cpy h; exact Or.inl h
      · exact Or.inl h
    | invokestatic x =>
      rcases az_i_inv h with ⟨q1, q2, a, -, -, -, -, -, h, -⟩ | ⟨q, -, h⟩ | ⟨k, q, -, -, h, -⟩
      · exact Or.inl h
      · obtain ⟨n, dp, d, sp, a, t, n0, rs, t2, n1, rs2, -, -, -, -, -, -, -, -, -, -, -, -, -, -, h, -⟩ := az_i_cpy h; exact Or.inl h
      · exact Or.inl h
    | invokespecial x =>
      rcases az_i_inv h with ⟨q1, q2, a, -, -, -, -, -, h, -⟩ | ⟨q, -, h⟩ | ⟨k, q, -, -, h, -⟩
      · exact Or.inl h
      · obtain ⟨n, dp, d, sp, a, t, n0, rs, t2, n1, rs2, -, -, -, -, -, -, -, -, -, -, -, -, -, -, h, -⟩ := az_i_cpy h; exact Or.inl h
      · exact Or.inl h
    | _ =>
      revert h
      simp only [az_step, az_jmp, az_tsw, az_lsw, az_irt]
      intro h
      repeat' split at h
      all_goals first | exact Or.inl (az_i_nx h).2.2.1 | simp at h
  rcases key with rfl | ⟨q, rfl⟩ | ⟨a, t, n, rs, rs', h1, rfl⟩
  · exact ⟨Nat.le_refl _, Nat.le_refl _⟩
  · exact ⟨by simp, by rw [az_sl_push]; omega⟩
  · exact ⟨by simp, by rw [az_sl_set h1]; exact Nat.le_refl _⟩
theorem az_run_grow (sc : aX) : ∀ (n M : Nat) (c : aC) (l : aL) (st : aS) (g : aG) (m : aM) (r : Option aV × aG × aM), az_run sc n M c l st g m = some r → g.length ≤ r.2.1.length ∧ az_sl g ≤ az_sl r.2.1
  | 0, M, c, l, st, g, m, r, h => by simp [az_run] at h
  | n + 1, M, [], l, st, g, m, r, h => by simp [az_run] at h
  | n + 1, M, e :: c, l, st, g, m, r, h => by
    simp only [az_run] at h
    split at h
    · cases h
    · next o ho =>
      have h1 := az_step_grow (l' := o.1) (st' := o.2.1) (g' := o.2.2.1) (m' := o.2.2.2) ho
      have h2 := az_run_grow sc n _ _ _ _ _ _ _ h
      omega
    · exact az_run_grow sc n _ _ _ _ _ _ _ h
    · cases h
      exact ⟨Nat.le_refl _, Nat.le_refl _⟩
    · split at h
      · split at h
        · cases h
        · next r2 hr2 =>
          have h1 := az_run_grow sc n _ _ _ _ _ _ _ hr2
          have h2 := az_run_grow sc n _ _ _ _ _ _ _ h
          omega
      · cases h
