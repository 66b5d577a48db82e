/-! RULES FOR WALKS: a method over fixed shapes, from a state to its answer and its memory -/
theorem az_run_up (sc : aX) : ∀ (n M : Nat) (c : aC) (l : aL) (s : aS) (g : aG) (m : aM) (r : Option aV × aG × aM), az_run sc n M c l s g m = some r → ∀ k, az_run sc (n + k) M c l s g m = some r
  | 0, M, c, l, s, g, m, r, h, k => by simp [az_run] at h
  | n + 1, M, [], l, s, g, m, r, h, k => by simp [az_run] at h
  | n + 1, M, e :: c, l, s, g, m, r, h, k => by
    rw [show n + 1 + k = (n + k) + 1 by omega]
    unfold az_run at h ⊢
    split at h
    · cases h
    · next o ho =>
      exact az_run_up sc n _ _ _ _ _ _ _ h k
    · next o ho =>
      exact az_run_up sc n _ _ _ _ _ _ _ h k
    · next v hv =>
      exact h
    · next o ho =>
      split at h
      · next hf =>
        rw [if_pos hf]
        split at h
        · cases h
        · next r2 hr2 =>
          rw [az_run_up sc n _ _ _ _ _ _ _ hr2 k]
          exact az_run_up sc n _ _ _ _ _ _ _ h k
      · cases h
def az_E (sc : aX) (g : aG) (M : Nat) (c : aC) (l : aL) (s : aS) (m : aM) (Q : Option aV → aM → Prop) : Prop := ∃ (n : Nat) (v : Option aV) (m' : aM), az_run sc n M c l s g m = some (v, g, m') ∧ Q v m'
/-- a method's contract at its arguments and memory -/
def az_C (sc : aX) (g : aG) (M : Nat) (as : List aV) (m : aM) (Q : Option aV → aM → Prop) : Prop := az_E sc g M (az_cd M) (az_ent as (az_ml M)) [] m Q
theorem az_C_mono {sc : aX} {g : aG} {M : Nat} {as : List aV} {m : aM} {Q Q' : Option aV → aM → Prop} (h : az_C sc g M as m Q) (hq : ∀ v m', Q v m' → Q' v m') : az_C sc g M as m Q' := by
  obtain ⟨n, v, m', h1, h2⟩ := h
  exact ⟨n, v, m', h1, hq v m' h2⟩
section RU
variable {sc : aX} {g : aG} {M pc : Nat} {f : List Int} {c c' : aC} {l l' : aL} {s s' : aS} {m m' : aM} {Q : Option aV → aM → Prop} {i : Instr}
theorem az_nxt (h : az_step sc M i f l s g m = some (.inl (l', s', g, m'))) (K : az_E sc g M c l' s' m' Q) : az_E sc g M ((pc, i, f) :: c) l s m Q := by
  obtain ⟨n, v, m2, h1, h2⟩ := K
  refine ⟨n + 1, v, m2, ?_, h2⟩
  simp only [az_run, h]
  exact h1
theorem az_jmpr {t : Nat} (h : az_step sc M i f l s g m = some (.inr (.inl (t, s')))) (hk : az_seek t (az_cd M) = c') (K : az_E sc g M c' l s' m Q) : az_E sc g M ((pc, i, f) :: c) l s m Q := by
  obtain ⟨n, v, m2, h1, h2⟩ := K
  refine ⟨n + 1, v, m2, ?_, h2⟩
  simp only [az_run, h, hk]
  exact h1
theorem az_rtn {v : Option aV} (h : az_step sc M i f l s g m = some (.inr (.inr (.inl v)))) (q : Q v m) : az_E sc g M ((pc, i, f) :: c) l s m Q := by
  refine ⟨1, v, m, ?_, q⟩
  simp only [az_run, h]
theorem az_cal {M' k : Nat} {Qc : Option aV → aM → Prop} (h : az_step sc M i f l s g m = some (.inr (.inr (.inr (M', k))))) (hf : (az_args ((s.take k).reverse)).length ≤ az_ml M') (hc : az_C sc g M' ((s.take k).reverse) m Qc) (K : ∀ v m', Qc v m' → az_E sc g M c l (v.toList ++ s.drop k) m' Q) : az_E sc g M ((pc, i, f) :: c) l s m Q := by
  obtain ⟨n1, v1, m1, h1, q1⟩ := hc
  obtain ⟨n2, v2, m2, h2, q2⟩ := K v1 m1 q1
  refine ⟨(n1 + n2) + 1, v2, m2, ?_, q2⟩
  simp only [az_run, h, if_pos hf]
  rw [az_run_up sc n1 _ _ _ _ _ _ _ h1 n2]
  simp only []
  rw [Nat.add_comm n1 n2]
  exact az_run_up sc n2 _ _ _ _ _ _ _ h2 n1

theorem r_iconst {n : Int} (K : az_E sc g M c l (.inl n :: s) m Q) : az_E sc g M ((pc, .iconst n, f) :: c) l (s) m Q := az_nxt rfl K
theorem r_bipush {n : Int} (K : az_E sc g M c l (.inl n :: s) m Q) : az_E sc g M ((pc, .bipush n, f) :: c) l (s) m Q := az_nxt rfl K
theorem r_sipush {n : Int} (K : az_E sc g M c l (.inl n :: s) m Q) : az_E sc g M ((pc, .sipush n, f) :: c) l (s) m Q := az_nxt rfl K
theorem r_lconst0  (K : az_E sc g M c l (.inr (.inl 0) :: s) m Q) : az_E sc g M ((pc, .lconst 0, f) :: c) l (s) m Q := az_nxt rfl K
theorem r_lconst1  (K : az_E sc g M c l (.inr (.inl 1) :: s) m Q) : az_E sc g M ((pc, .lconst 1, f) :: c) l (s) m Q := az_nxt rfl K
theorem r_iload {k : Nat} {x : Int} (h : l[k]? = some (some (.inl x))) (K : az_E sc g M c l (.inl x :: s) m Q) : az_E sc g M ((pc, .iload k, f) :: c) l (s) m Q := az_nxt (by show az_ldI l s g m k = _; unfold az_ldI; rw [h]; rfl) K
theorem r_iload_n {k : Fin 4} {x : Int} (h : l[k.val]? = some (some (.inl x))) (K : az_E sc g M c l (.inl x :: s) m Q) : az_E sc g M ((pc, .iload_n k, f) :: c) l (s) m Q := az_nxt (by show az_ldI l s g m k.val = _; unfold az_ldI; rw [h]; rfl) K
theorem r_lload {k : Nat} {x : Int} (h : l[k]? = some (some (.inr (.inl x)))) (K : az_E sc g M c l (.inr (.inl x) :: s) m Q) : az_E sc g M ((pc, .lload k, f) :: c) l (s) m Q := az_nxt (by show az_ldL l s g m k = _; unfold az_ldL; rw [h]; rfl) K
theorem r_lload_n {k : Fin 4} {x : Int} (h : l[k.val]? = some (some (.inr (.inl x)))) (K : az_E sc g M c l (.inr (.inl x) :: s) m Q) : az_E sc g M ((pc, .lload_n k, f) :: c) l (s) m Q := az_nxt (by show az_ldL l s g m k.val = _; unfold az_ldL; rw [h]; rfl) K
theorem r_aload {k x : Nat} (h : l[k]? = some (some (.inr (.inr x)))) (K : az_E sc g M c l (.inr (.inr x) :: s) m Q) : az_E sc g M ((pc, .aload k, f) :: c) l (s) m Q := az_nxt (by show az_ldA l s g m k = _; unfold az_ldA; rw [h]; rfl) K
theorem r_aload_n {k : Fin 4} {x : Nat} (h : l[k.val]? = some (some (.inr (.inr x)))) (K : az_E sc g M c l (.inr (.inr x) :: s) m Q) : az_E sc g M ((pc, .aload_n k, f) :: c) l (s) m Q := az_nxt (by show az_ldA l s g m k.val = _; unfold az_ldA; rw [h]; rfl) K
theorem r_istore {k : Nat} {x : Int} (h : k < l.length) (hl : az_st1 l k (.inl x) = l') (K : az_E sc g M c l' (s) m Q) : az_E sc g M ((pc, .istore k, f) :: c) l (.inl x :: s) m Q := az_nxt (by simp only [az_step, az_stI]; rw [if_pos h, hl]; rfl) K
theorem r_istore_n {k : Fin 4} {x : Int} (h : k.val < l.length) (hl : az_st1 l k.val (.inl x) = l') (K : az_E sc g M c l' (s) m Q) : az_E sc g M ((pc, .istore_n k, f) :: c) l (.inl x :: s) m Q := az_nxt (by simp only [az_step, az_stI]; rw [if_pos h, hl]; rfl) K
theorem r_astore {k : Nat} {x : Nat} (h : k < l.length) (hl : az_st1 l k (.inr (.inr x)) = l') (K : az_E sc g M c l' (s) m Q) : az_E sc g M ((pc, .astore k, f) :: c) l (.inr (.inr x) :: s) m Q := az_nxt (by simp only [az_step, az_stA]; rw [if_pos h, hl]; rfl) K
theorem r_astore_n {k : Fin 4} {x : Nat} (h : k.val < l.length) (hl : az_st1 l k.val (.inr (.inr x)) = l') (K : az_E sc g M c l' (s) m Q) : az_E sc g M ((pc, .astore_n k, f) :: c) l (.inr (.inr x) :: s) m Q := az_nxt (by simp only [az_step, az_stA]; rw [if_pos h, hl]; rfl) K
theorem r_lstore {k : Nat} {x : Int} (h : k + 1 < l.length) (hl : az_st2 l k (.inr (.inl x)) = l') (K : az_E sc g M c l' (s) m Q) : az_E sc g M ((pc, .lstore k, f) :: c) l (.inr (.inl x) :: s) m Q := az_nxt (by simp only [az_step, az_stL]; rw [if_pos h, hl]; rfl) K
theorem r_lstore_n {k : Fin 4} {x : Int} (h : k.val + 1 < l.length) (hl : az_st2 l k.val (.inr (.inl x)) = l') (K : az_E sc g M c l' (s) m Q) : az_E sc g M ((pc, .lstore_n k, f) :: c) l (.inr (.inl x) :: s) m Q := az_nxt (by simp only [az_step, az_stL]; rw [if_pos h, hl]; rfl) K
theorem r_iinc {k : Nat} {n x y : Int} (h : l[k]? = some (some (.inl x))) (hy : az_w (x + n) = y) (hl : az_st1 l k (.inl y) = l') (K : az_E sc g M c l' (s) m Q) : az_E sc g M ((pc, .iinc k n, f) :: c) l (s) m Q := az_nxt (by show az_iinc l s g m k n = _; unfold az_iinc; rw [h]; simp only []; rw [hy, hl]; rfl) K
theorem r_iaddw {x y : Int} (K : az_E sc g M c l (.inl (az_w (x + y)) :: s) m Q) : az_E sc g M ((pc, .iadd, f) :: c) l (.inl y :: .inl x :: s) m Q := az_nxt rfl K
theorem r_iadd {x y z : Int} (h : az_w (x + y) = z) (K : az_E sc g M c l (.inl z :: s) m Q) : az_E sc g M ((pc, .iadd, f) :: c) l (.inl y :: .inl x :: s) m Q := az_nxt (by simp only [az_step, az_b2, az_u1, az_l2, az_li, az_nx, h]) K
theorem r_isubw {x y : Int} (K : az_E sc g M c l (.inl (az_w (x - y)) :: s) m Q) : az_E sc g M ((pc, .isub, f) :: c) l (.inl y :: .inl x :: s) m Q := az_nxt rfl K
theorem r_isub {x y z : Int} (h : az_w (x - y) = z) (K : az_E sc g M c l (.inl z :: s) m Q) : az_E sc g M ((pc, .isub, f) :: c) l (.inl y :: .inl x :: s) m Q := az_nxt (by simp only [az_step, az_b2, az_u1, az_l2, az_li, az_nx, h]) K
theorem r_imulw {x y : Int} (K : az_E sc g M c l (.inl (az_w (x * y)) :: s) m Q) : az_E sc g M ((pc, .imul, f) :: c) l (.inl y :: .inl x :: s) m Q := az_nxt rfl K
theorem r_imul {x y z : Int} (h : az_w (x * y) = z) (K : az_E sc g M c l (.inl z :: s) m Q) : az_E sc g M ((pc, .imul, f) :: c) l (.inl y :: .inl x :: s) m Q := az_nxt (by simp only [az_step, az_b2, az_u1, az_l2, az_li, az_nx, h]) K
theorem r_iand {x y z : Int} (h : az_and x y = z) (K : az_E sc g M c l (.inl z :: s) m Q) : az_E sc g M ((pc, .iand, f) :: c) l (.inl y :: .inl x :: s) m Q := az_nxt (by simp only [az_step, az_b2, az_u1, az_l2, az_li, az_nx, h]) K
theorem r_ior {x y z : Int} (h : az_or x y = z) (K : az_E sc g M c l (.inl z :: s) m Q) : az_E sc g M ((pc, .ior, f) :: c) l (.inl y :: .inl x :: s) m Q := az_nxt (by simp only [az_step, az_b2, az_u1, az_l2, az_li, az_nx, h]) K
theorem r_ixor {x y z : Int} (h : az_xor x y = z) (K : az_E sc g M c l (.inl z :: s) m Q) : az_E sc g M ((pc, .ixor, f) :: c) l (.inl y :: .inl x :: s) m Q := az_nxt (by simp only [az_step, az_b2, az_u1, az_l2, az_li, az_nx, h]) K
theorem r_ishl {x y z : Int} (h : az_shl x y = z) (K : az_E sc g M c l (.inl z :: s) m Q) : az_E sc g M ((pc, .ishl, f) :: c) l (.inl y :: .inl x :: s) m Q := az_nxt (by simp only [az_step, az_b2, az_u1, az_l2, az_li, az_nx, h]) K
theorem r_ishr {x y z : Int} (h : az_shr x y = z) (K : az_E sc g M c l (.inl z :: s) m Q) : az_E sc g M ((pc, .ishr, f) :: c) l (.inl y :: .inl x :: s) m Q := az_nxt (by simp only [az_step, az_b2, az_u1, az_l2, az_li, az_nx, h]) K
theorem r_iushr {x y z : Int} (h : az_ush x y = z) (K : az_E sc g M c l (.inl z :: s) m Q) : az_E sc g M ((pc, .iushr, f) :: c) l (.inl y :: .inl x :: s) m Q := az_nxt (by simp only [az_step, az_b2, az_u1, az_l2, az_li, az_nx, h]) K
theorem r_idiv {x y z : Int} (h0 : y ≠ 0) (h : az_w (x.tdiv y) = z) (K : az_E sc g M c l (.inl z :: s) m Q) : az_E sc g M ((pc, .idiv, f) :: c) l (.inl y :: .inl x :: s) m Q := az_nxt (by simp only [az_step, az_d2, az_dl2, az_nx]; rw [if_neg h0, h]) K
theorem r_irem {x y z : Int} (h0 : y ≠ 0) (h : x.tmod y = z) (K : az_E sc g M c l (.inl z :: s) m Q) : az_E sc g M ((pc, .irem, f) :: c) l (.inl y :: .inl x :: s) m Q := az_nxt (by simp only [az_step, az_d2, az_dl2, az_nx]; rw [if_neg h0, h]) K
theorem r_ineg {x z : Int} (h : az_w (-x) = z) (K : az_E sc g M c l (.inl z :: s) m Q) : az_E sc g M ((pc, .ineg, f) :: c) l (.inl x :: s) m Q := az_nxt (by simp only [az_step, az_b2, az_u1, az_l2, az_li, az_nx, h]) K
theorem r_i2b {x z : Int} (h : az_i2b x = z) (K : az_E sc g M c l (.inl z :: s) m Q) : az_E sc g M ((pc, .i2b, f) :: c) l (.inl x :: s) m Q := az_nxt (by simp only [az_step, az_b2, az_u1, az_l2, az_li, az_nx, h]) K
theorem r_i2s {x z : Int} (h : az_i2s x = z) (K : az_E sc g M c l (.inl z :: s) m Q) : az_E sc g M ((pc, .i2s, f) :: c) l (.inl x :: s) m Q := az_nxt (by simp only [az_step, az_b2, az_u1, az_l2, az_li, az_nx, h]) K
theorem r_i2c {x z : Int} (h : az_i2c x = z) (K : az_E sc g M c l (.inl z :: s) m Q) : az_E sc g M ((pc, .i2c, f) :: c) l (.inl x :: s) m Q := az_nxt (by simp only [az_step, az_b2, az_u1, az_l2, az_li, az_nx, h]) K
theorem r_i2l {x : Int} (K : az_E sc g M c l (.inr (.inl x) :: s) m Q) : az_E sc g M ((pc, .i2l, f) :: c) l (.inl x :: s) m Q := az_nxt rfl K
theorem r_l2i {x z : Int} (h : az_w x = z) (K : az_E sc g M c l (.inl z :: s) m Q) : az_E sc g M ((pc, .l2i, f) :: c) l (.inr (.inl x) :: s) m Q := az_nxt (by simp only [az_step, az_b2, az_u1, az_l2, az_li, az_nx, h]) K
theorem r_ladd {x y z : Int} (h : az_wl (x + y) = z) (K : az_E sc g M c l (.inr (.inl z) :: s) m Q) : az_E sc g M ((pc, .ladd, f) :: c) l (.inr (.inl y) :: .inr (.inl x) :: s) m Q := az_nxt (by simp only [az_step, az_b2, az_u1, az_l2, az_li, az_nx, h]) K
theorem r_lsub {x y z : Int} (h : az_wl (x - y) = z) (K : az_E sc g M c l (.inr (.inl z) :: s) m Q) : az_E sc g M ((pc, .lsub, f) :: c) l (.inr (.inl y) :: .inr (.inl x) :: s) m Q := az_nxt (by simp only [az_step, az_b2, az_u1, az_l2, az_li, az_nx, h]) K
theorem r_lmul {x y z : Int} (h : az_wl (x * y) = z) (K : az_E sc g M c l (.inr (.inl z) :: s) m Q) : az_E sc g M ((pc, .lmul, f) :: c) l (.inr (.inl y) :: .inr (.inl x) :: s) m Q := az_nxt (by simp only [az_step, az_b2, az_u1, az_l2, az_li, az_nx, h]) K
theorem r_land {x y z : Int} (h : az_land x y = z) (K : az_E sc g M c l (.inr (.inl z) :: s) m Q) : az_E sc g M ((pc, .land, f) :: c) l (.inr (.inl y) :: .inr (.inl x) :: s) m Q := az_nxt (by simp only [az_step, az_b2, az_u1, az_l2, az_li, az_nx, h]) K
theorem r_lor {x y z : Int} (h : az_lor x y = z) (K : az_E sc g M c l (.inr (.inl z) :: s) m Q) : az_E sc g M ((pc, .lor, f) :: c) l (.inr (.inl y) :: .inr (.inl x) :: s) m Q := az_nxt (by simp only [az_step, az_b2, az_u1, az_l2, az_li, az_nx, h]) K
theorem r_lshl {x y z : Int} (h : az_lshl x y = z) (K : az_E sc g M c l (.inr (.inl z) :: s) m Q) : az_E sc g M ((pc, .lshl, f) :: c) l (.inl y :: .inr (.inl x) :: s) m Q := az_nxt (by simp only [az_step, az_b2, az_u1, az_l2, az_li, az_nx, h]) K
theorem r_lshr {x y z : Int} (h : az_lshr x y = z) (K : az_E sc g M c l (.inr (.inl z) :: s) m Q) : az_E sc g M ((pc, .lshr, f) :: c) l (.inl y :: .inr (.inl x) :: s) m Q := az_nxt (by simp only [az_step, az_b2, az_u1, az_l2, az_li, az_nx, h]) K
theorem r_ldiv {x y z : Int} (h0 : y ≠ 0) (h : az_wl (x.tdiv y) = z) (K : az_E sc g M c l (.inr (.inl z) :: s) m Q) : az_E sc g M ((pc, .ldiv, f) :: c) l (.inr (.inl y) :: .inr (.inl x) :: s) m Q := az_nxt (by simp only [az_step, az_d2, az_dl2, az_nx]; rw [if_neg h0, h]) K
theorem r_lrem {x y z : Int} (h0 : y ≠ 0) (h : x.tmod y = z) (K : az_E sc g M c l (.inr (.inl z) :: s) m Q) : az_E sc g M ((pc, .lrem, f) :: c) l (.inr (.inl y) :: .inr (.inl x) :: s) m Q := az_nxt (by simp only [az_step, az_d2, az_dl2, az_nx]; rw [if_neg h0, h]) K
theorem r_lcmp {x y : Int} (K : az_E sc g M c l (.inl (az_cmp x y) :: s) m Q) : az_E sc g M ((pc, .lcmp, f) :: c) l (.inr (.inl y) :: .inr (.inl x) :: s) m Q := az_nxt rfl K
theorem r_dupI {x : Int} (K : az_E sc g M c l (.inl x :: .inl x :: s) m Q) : az_E sc g M ((pc, .dup, f) :: c) l (.inl x :: s) m Q := az_nxt rfl K
theorem r_dupR {x : Nat} (K : az_E sc g M c l (.inr (.inr x) :: .inr (.inr x) :: s) m Q) : az_E sc g M ((pc, .dup, f) :: c) l (.inr (.inr x) :: s) m Q := az_nxt rfl K
theorem r_dup2 {x : Int} {r : Nat} (K : az_E sc g M c l (.inl x :: .inr (.inr r) :: .inl x :: .inr (.inr r) :: s) m Q) : az_E sc g M ((pc, .dup2, f) :: c) l (.inl x :: .inr (.inr r) :: s) m Q := az_nxt rfl K
theorem r_pop {x : Int} (K : az_E sc g M c l (s) m Q) : az_E sc g M ((pc, .pop, f) :: c) l (.inl x :: s) m Q := az_nxt rfl K
theorem r_ldcI {v : Int} {q : List Int} {k : Nat} (K : az_E sc g M c l (.inl v :: s) m Q) : az_E sc g M ((pc, .ldc k, 0 :: v :: q) :: c) l (s) m Q := az_nxt rfl K
theorem r_ldcS {v : Int} {q : List Int} {k : Nat} (K : az_E sc g M c l (.inr (.inr (v.toNat + 1)) :: s) m Q) : az_E sc g M ((pc, .ldc k, 1 :: v :: q) :: c) l (s) m Q := az_nxt rfl K
theorem r_ldcw {v : Int} {q : List Int} {k : Nat} (K : az_E sc g M c l (.inl v :: s) m Q) : az_E sc g M ((pc, .ldc_w k, 0 :: v :: q) :: c) l (s) m Q := az_nxt rfl K
theorem r_ldc2 {v : Int} {q : List Int} {k : Nat} (K : az_E sc g M c l (.inr (.inl v) :: s) m Q) : az_E sc g M ((pc, .ldc2_w k, 0 :: v :: q) :: c) l (s) m Q := az_nxt rfl K
theorem r_icmp_eq {x y : Int} {off : Int} {t : Int} (hk : az_seek t.toNat (az_cd M) = c') (kt : x = y → az_E sc g M c' l s m Q) (kf : x ≠ y → az_E sc g M c l s m Q) : az_E sc g M ((pc, .if_icmp .eq off, [t]) :: c) l (.inl y :: .inl x :: s) m Q := by
  by_cases h : x = y
  · exact az_jmpr (t := t.toNat) (s' := s) (by show (if az_cnd .eq x y = true then az_jmp [t] s else az_nx l s g m) = _; rw [if_pos (by simp only [az_cnd, decide_eq_true_eq]; exact h)]; rfl) hk (kt h)
  · exact az_nxt (l' := l) (s' := s) (m' := m) (by show (if az_cnd .eq x y = true then az_jmp [t] s else az_nx l s g m) = _; rw [if_neg (by simp only [az_cnd, decide_eq_true_eq]; exact h)]; rfl) (kf (by omega))
theorem r_if_eq {x : Int} {off : Int} {t : Int} (hk : az_seek t.toNat (az_cd M) = c') (kt : x = 0 → az_E sc g M c' l s m Q) (kf : x ≠ 0 → az_E sc g M c l s m Q) : az_E sc g M ((pc, .ifCond .eq off, [t]) :: c) l (.inl x :: s) m Q := by
  by_cases h : x = 0
  · exact az_jmpr (t := t.toNat) (s' := s) (by show (if az_cnd .eq x 0 = true then az_jmp [t] s else az_nx l s g m) = _; rw [if_pos (by simp only [az_cnd, decide_eq_true_eq]; exact h)]; rfl) hk (kt h)
  · exact az_nxt (l' := l) (s' := s) (m' := m) (by show (if az_cnd .eq x 0 = true then az_jmp [t] s else az_nx l s g m) = _; rw [if_neg (by simp only [az_cnd, decide_eq_true_eq]; exact h)]; rfl) (kf (by omega))
theorem r_icmp_ne {x y : Int} {off : Int} {t : Int} (hk : az_seek t.toNat (az_cd M) = c') (kt : x ≠ y → az_E sc g M c' l s m Q) (kf : x = y → az_E sc g M c l s m Q) : az_E sc g M ((pc, .if_icmp .ne off, [t]) :: c) l (.inl y :: .inl x :: s) m Q := by
  by_cases h : x ≠ y
  · exact az_jmpr (t := t.toNat) (s' := s) (by show (if az_cnd .ne x y = true then az_jmp [t] s else az_nx l s g m) = _; rw [if_pos (by simp only [az_cnd, decide_eq_true_eq]; exact h)]; rfl) hk (kt h)
  · exact az_nxt (l' := l) (s' := s) (m' := m) (by show (if az_cnd .ne x y = true then az_jmp [t] s else az_nx l s g m) = _; rw [if_neg (by simp only [az_cnd, decide_eq_true_eq]; exact h)]; rfl) (kf (by omega))
theorem r_if_ne {x : Int} {off : Int} {t : Int} (hk : az_seek t.toNat (az_cd M) = c') (kt : x ≠ 0 → az_E sc g M c' l s m Q) (kf : x = 0 → az_E sc g M c l s m Q) : az_E sc g M ((pc, .ifCond .ne off, [t]) :: c) l (.inl x :: s) m Q := by
  by_cases h : x ≠ 0
  · exact az_jmpr (t := t.toNat) (s' := s) (by show (if az_cnd .ne x 0 = true then az_jmp [t] s else az_nx l s g m) = _; rw [if_pos (by simp only [az_cnd, decide_eq_true_eq]; exact h)]; rfl) hk (kt h)
  · exact az_nxt (l' := l) (s' := s) (m' := m) (by show (if az_cnd .ne x 0 = true then az_jmp [t] s else az_nx l s g m) = _; rw [if_neg (by simp only [az_cnd, decide_eq_true_eq]; exact h)]; rfl) (kf (by omega))
theorem r_icmp_lt {x y : Int} {off : Int} {t : Int} (hk : az_seek t.toNat (az_cd M) = c') (kt : x < y → az_E sc g M c' l s m Q) (kf : y ≤ x → az_E sc g M c l s m Q) : az_E sc g M ((pc, .if_icmp .lt off, [t]) :: c) l (.inl y :: .inl x :: s) m Q := by
  by_cases h : x < y
  · exact az_jmpr (t := t.toNat) (s' := s) (by show (if az_cnd .lt x y = true then az_jmp [t] s else az_nx l s g m) = _; rw [if_pos (by simp only [az_cnd, decide_eq_true_eq]; exact h)]; rfl) hk (kt h)
  · exact az_nxt (l' := l) (s' := s) (m' := m) (by show (if az_cnd .lt x y = true then az_jmp [t] s else az_nx l s g m) = _; rw [if_neg (by simp only [az_cnd, decide_eq_true_eq]; exact h)]; rfl) (kf (by omega))
theorem r_if_lt {x : Int} {off : Int} {t : Int} (hk : az_seek t.toNat (az_cd M) = c') (kt : x < 0 → az_E sc g M c' l s m Q) (kf : 0 ≤ x → az_E sc g M c l s m Q) : az_E sc g M ((pc, .ifCond .lt off, [t]) :: c) l (.inl x :: s) m Q := by
  by_cases h : x < 0
  · exact az_jmpr (t := t.toNat) (s' := s) (by show (if az_cnd .lt x 0 = true then az_jmp [t] s else az_nx l s g m) = _; rw [if_pos (by simp only [az_cnd, decide_eq_true_eq]; exact h)]; rfl) hk (kt h)
  · exact az_nxt (l' := l) (s' := s) (m' := m) (by show (if az_cnd .lt x 0 = true then az_jmp [t] s else az_nx l s g m) = _; rw [if_neg (by simp only [az_cnd, decide_eq_true_eq]; exact h)]; rfl) (kf (by omega))
theorem r_icmp_ge {x y : Int} {off : Int} {t : Int} (hk : az_seek t.toNat (az_cd M) = c') (kt : y ≤ x → az_E sc g M c' l s m Q) (kf : x < y → az_E sc g M c l s m Q) : az_E sc g M ((pc, .if_icmp .ge off, [t]) :: c) l (.inl y :: .inl x :: s) m Q := by
  by_cases h : y ≤ x
  · exact az_jmpr (t := t.toNat) (s' := s) (by show (if az_cnd .ge x y = true then az_jmp [t] s else az_nx l s g m) = _; rw [if_pos (by simp only [az_cnd, decide_eq_true_eq]; exact h)]; rfl) hk (kt h)
  · exact az_nxt (l' := l) (s' := s) (m' := m) (by show (if az_cnd .ge x y = true then az_jmp [t] s else az_nx l s g m) = _; rw [if_neg (by simp only [az_cnd, decide_eq_true_eq]; exact h)]; rfl) (kf (by omega))
theorem r_if_ge {x : Int} {off : Int} {t : Int} (hk : az_seek t.toNat (az_cd M) = c') (kt : 0 ≤ x → az_E sc g M c' l s m Q) (kf : x < 0 → az_E sc g M c l s m Q) : az_E sc g M ((pc, .ifCond .ge off, [t]) :: c) l (.inl x :: s) m Q := by
  by_cases h : 0 ≤ x
  · exact az_jmpr (t := t.toNat) (s' := s) (by show (if az_cnd .ge x 0 = true then az_jmp [t] s else az_nx l s g m) = _; rw [if_pos (by simp only [az_cnd, decide_eq_true_eq]; exact h)]; rfl) hk (kt h)
  · exact az_nxt (l' := l) (s' := s) (m' := m) (by show (if az_cnd .ge x 0 = true then az_jmp [t] s else az_nx l s g m) = _; rw [if_neg (by simp only [az_cnd, decide_eq_true_eq]; exact h)]; rfl) (kf (by omega))
theorem r_icmp_gt {x y : Int} {off : Int} {t : Int} (hk : az_seek t.toNat (az_cd M) = c') (kt : y < x → az_E sc g M c' l s m Q) (kf : x ≤ y → az_E sc g M c l s m Q) : az_E sc g M ((pc, .if_icmp .gt off, [t]) :: c) l (.inl y :: .inl x :: s) m Q := by
  by_cases h : y < x
  · exact az_jmpr (t := t.toNat) (s' := s) (by show (if az_cnd .gt x y = true then az_jmp [t] s else az_nx l s g m) = _; rw [if_pos (by simp only [az_cnd, decide_eq_true_eq]; exact h)]; rfl) hk (kt h)
  · exact az_nxt (l' := l) (s' := s) (m' := m) (by show (if az_cnd .gt x y = true then az_jmp [t] s else az_nx l s g m) = _; rw [if_neg (by simp only [az_cnd, decide_eq_true_eq]; exact h)]; rfl) (kf (by omega))
theorem r_if_gt {x : Int} {off : Int} {t : Int} (hk : az_seek t.toNat (az_cd M) = c') (kt : 0 < x → az_E sc g M c' l s m Q) (kf : x ≤ 0 → az_E sc g M c l s m Q) : az_E sc g M ((pc, .ifCond .gt off, [t]) :: c) l (.inl x :: s) m Q := by
  by_cases h : 0 < x
  · exact az_jmpr (t := t.toNat) (s' := s) (by show (if az_cnd .gt x 0 = true then az_jmp [t] s else az_nx l s g m) = _; rw [if_pos (by simp only [az_cnd, decide_eq_true_eq]; exact h)]; rfl) hk (kt h)
  · exact az_nxt (l' := l) (s' := s) (m' := m) (by show (if az_cnd .gt x 0 = true then az_jmp [t] s else az_nx l s g m) = _; rw [if_neg (by simp only [az_cnd, decide_eq_true_eq]; exact h)]; rfl) (kf (by omega))
theorem r_icmp_le {x y : Int} {off : Int} {t : Int} (hk : az_seek t.toNat (az_cd M) = c') (kt : x ≤ y → az_E sc g M c' l s m Q) (kf : y < x → az_E sc g M c l s m Q) : az_E sc g M ((pc, .if_icmp .le off, [t]) :: c) l (.inl y :: .inl x :: s) m Q := by
  by_cases h : x ≤ y
  · exact az_jmpr (t := t.toNat) (s' := s) (by show (if az_cnd .le x y = true then az_jmp [t] s else az_nx l s g m) = _; rw [if_pos (by simp only [az_cnd, decide_eq_true_eq]; exact h)]; rfl) hk (kt h)
  · exact az_nxt (l' := l) (s' := s) (m' := m) (by show (if az_cnd .le x y = true then az_jmp [t] s else az_nx l s g m) = _; rw [if_neg (by simp only [az_cnd, decide_eq_true_eq]; exact h)]; rfl) (kf (by omega))
theorem r_if_le {x : Int} {off : Int} {t : Int} (hk : az_seek t.toNat (az_cd M) = c') (kt : x ≤ 0 → az_E sc g M c' l s m Q) (kf : 0 < x → az_E sc g M c l s m Q) : az_E sc g M ((pc, .ifCond .le off, [t]) :: c) l (.inl x :: s) m Q := by
  by_cases h : x ≤ 0
  · exact az_jmpr (t := t.toNat) (s' := s) (by show (if az_cnd .le x 0 = true then az_jmp [t] s else az_nx l s g m) = _; rw [if_pos (by simp only [az_cnd, decide_eq_true_eq]; exact h)]; rfl) hk (kt h)
  · exact az_nxt (l' := l) (s' := s) (m' := m) (by show (if az_cnd .le x 0 = true then az_jmp [t] s else az_nx l s g m) = _; rw [if_neg (by simp only [az_cnd, decide_eq_true_eq]; exact h)]; rfl) (kf (by omega))
theorem r_goto {off : Int} {t : Int} (hk : az_seek t.toNat (az_cd M) = c') (K : az_E sc g M c' l s m Q) : az_E sc g M ((pc, .goto off, [t]) :: c) l s m Q := az_jmpr (t := t.toNat) rfl hk K
theorem r_tswO {d lo hi x t : Int} {os : Array Int} {q : List Int} (h : x < lo ∨ hi < x) (hk : az_seek t.toNat (az_cd M) = c') (K : az_E sc g M c' l s m Q) : az_E sc g M ((pc, .tableswitch d lo hi os, t :: q) :: c) l (.inl x :: s) m Q := az_jmpr (t := t.toNat) (s' := s) (by show (if x < lo ∨ hi < x then some _ else some _) = _; rw [if_pos h]; rfl) hk K
theorem r_tswI {d lo hi x : Int} {os : Array Int} {t : Nat} (h : ¬ (x < lo ∨ hi < x)) (ht : (f.getD ((x - lo).toNat + 1) 0).toNat = t) (hk : az_seek t (az_cd M) = c') (K : az_E sc g M c' l s m Q) : az_E sc g M ((pc, .tableswitch d lo hi os, f) :: c) l (.inl x :: s) m Q := az_jmpr (t := t) (s' := s) (by show (if x < lo ∨ hi < x then some _ else some _) = _; rw [if_neg h, ht]) hk K
theorem r_lsw {d x : Int} {ps : Array (Int × Int)} {t : Nat} (ht : az_lk (f.drop 1) x (f.headD 0).toNat = t) (hk : az_seek t (az_cd M) = c') (K : az_E sc g M c' l s m Q) : az_E sc g M ((pc, .lookupswitch d ps, f) :: c) l (.inl x :: s) m Q := az_jmpr (t := t) (s' := s) (by show some _ = some _; rw [ht]) hk K
theorem r_iald {a n r : Nat} {rs : List Nat} {j : Int} (hg : g[a]? = some (20, n, rs)) (hr : a + 1 = r) (ha : a ≠ 0) (h0 : 0 ≤ j) (h1 : j < (n : Int)) (K : az_E sc g M c l (.inl (m a j) :: s) m Q) : az_E sc g M ((pc, .iaload, f) :: c) l (.inl j :: .inr (.inr r) :: s) m Q := az_nxt (by subst hr; simp only [az_step, az_ald, az_aln]; rw [if_neg (by omega), hg]; simp only []; rw [if_pos ⟨List.mem_singleton.mpr rfl, h0, h1⟩]; rfl) K
theorem r_sld {L : Nat} {xs : Int → Int} {j : Int} (hs : sc = some (L, xs)) (h0 : 0 ≤ j) (h1 : j < (L : Int)) (K : az_E sc g M c l (.inl (xs j) :: s) m Q) : az_E sc g M ((pc, .iaload, f) :: c) l (.inl j :: .inr (.inr 1) :: s) m Q := az_nxt (by subst hs; simp only [az_step, az_ald]; rw [if_pos trivial, if_pos ⟨trivial, h0, h1⟩]; rfl) K
theorem r_slen {L : Nat} {xs : Int → Int} (hs : sc = some (L, xs)) (K : az_E sc g M c l (.inl (L : Int) :: s) m Q) : az_E sc g M ((pc, .arraylength, f) :: c) l (.inr (.inr 1) :: s) m Q := az_nxt (by subst hs; rfl) K
theorem r_bald {a t n r : Nat} {rs : List Nat} {j : Int} (hg : g[a]? = some (t, n, rs)) (hr : a + 1 = r) (ha : a ≠ 0) (ht : t = 21 ∨ t = 22) (h0 : 0 ≤ j) (h1 : j < (n : Int)) (K : az_E sc g M c l (.inl (m a j) :: s) m Q) : az_E sc g M ((pc, .baload, f) :: c) l (.inl j :: .inr (.inr r) :: s) m Q := az_nxt (by subst hr; simp only [az_step, az_ald, az_aln]; rw [if_neg (by omega), hg]; simp only []; rw [if_pos ⟨by rcases ht with h | h <;> simp [h], h0, h1⟩]; rfl) K
theorem r_aald {a t n r : Nat} {rs : List Nat} {j : Int} (hg : g[a]? = some (t, n, rs)) (ht : 23 ≤ t ∧ t ≤ 24) (h0 : 0 ≤ j) (h1 : j < (n : Int)) (hr : rs.getD j.toNat 0 = r) (K : az_E sc g M c l (.inr (.inr r) :: s) m Q) : az_E sc g M ((pc, .aaload, f) :: c) l (.inl j :: .inr (.inr (a + 1)) :: s) m Q := az_nxt (by simp only [az_step, az_aald, az_iast, az_bast, az_get, az_put]; rw [hg]; simp only []; rw [if_pos ⟨ht.1, ht.2, h0, h1⟩, hr]; rfl) K
theorem r_alen {a t n r : Nat} {rs : List Nat} (hg : g[a]? = some (t, n, rs)) (hr : a + 1 = r) (ha : a ≠ 0) (ht : 20 ≤ t ∧ t ≤ 24) (K : az_E sc g M c l (.inl (n : Int) :: s) m Q) : az_E sc g M ((pc, .arraylength, f) :: c) l (.inr (.inr r) :: s) m Q := az_nxt (by subst hr; simp only [az_step, az_ald, az_aln]; rw [if_neg (by omega), hg]; simp only []; rw [if_pos ht]; rfl) K
theorem r_iast {a n : Nat} {rs : List Nat} {j v : Int} (hg : g[a]? = some (20, n, rs)) (ha : 19 ≤ a) (h0 : 0 ≤ j) (h1 : j < (n : Int)) (K : az_E sc g M c l s (az_up m a j v) Q) : az_E sc g M ((pc, .iastore, f) :: c) l (.inl v :: .inl j :: .inr (.inr (a + 1)) :: s) m Q := az_nxt (by simp only [az_step, az_aald, az_iast, az_bast, az_get, az_put]; rw [hg]; simp only []; rw [if_pos ⟨ha, trivial, h0, h1⟩]; rfl) K
theorem r_bast {a t n : Nat} {rs : List Nat} {j v : Int} (hg : g[a]? = some (t, n, rs)) (ha : 19 ≤ a) (ht : (t = 21 ∧ -128 ≤ v ∧ v < 128) ∨ (t = 22 ∧ 0 ≤ v ∧ v < 2)) (h0 : 0 ≤ j) (h1 : j < (n : Int)) (K : az_E sc g M c l s (az_up m a j v) Q) : az_E sc g M ((pc, .bastore, f) :: c) l (.inl v :: .inl j :: .inr (.inr (a + 1)) :: s) m Q := az_nxt (by simp only [az_step, az_aald, az_iast, az_bast, az_get, az_put]; rw [hg]; simp only []; rw [if_pos ⟨ha, ht, h0, h1⟩]; rfl) K
theorem r_getI {a tg n x : Nat} {rs : List Nat} {k : Int} {q : List Int} (hg : g[a]? = some (tg, n, rs)) (K : az_E sc g M c l (.inl (m a k) :: s) m Q) : az_E sc g M ((pc, .getfield x, (tg : Int) :: k :: 0 :: q) :: c) l (.inr (.inr (a + 1)) :: s) m Q := az_nxt (by simp only [az_step, az_aald, az_iast, az_bast, az_get, az_put]; rw [hg]; simp only []; rw [if_pos trivial]; rfl) K
theorem r_getZ {a tg n x : Nat} {rs : List Nat} {k : Int} {q : List Int} (hg : g[a]? = some (tg, n, rs)) (K : az_E sc g M c l (.inl (m a k) :: s) m Q) : az_E sc g M ((pc, .getfield x, (tg : Int) :: k :: 3 :: q) :: c) l (.inr (.inr (a + 1)) :: s) m Q := az_nxt (by simp only [az_step, az_aald, az_iast, az_bast, az_get, az_put]; rw [hg]; simp only []; rw [if_pos trivial]; rfl) K
theorem r_getL {a tg n x : Nat} {rs : List Nat} {k : Int} {q : List Int} (hg : g[a]? = some (tg, n, rs)) (K : az_E sc g M c l (.inr (.inl (m a k)) :: s) m Q) : az_E sc g M ((pc, .getfield x, (tg : Int) :: k :: 1 :: q) :: c) l (.inr (.inr (a + 1)) :: s) m Q := az_nxt (by simp only [az_step, az_aald, az_iast, az_bast, az_get, az_put]; rw [hg]; simp only []; rw [if_pos trivial]; rfl) K
theorem r_getR {a tg n x r : Nat} {rs : List Nat} {k : Int} {q : List Int} (hg : g[a]? = some (tg, n, rs)) (hr : rs.getD k.toNat 0 = r) (K : az_E sc g M c l (.inr (.inr r) :: s) m Q) : az_E sc g M ((pc, .getfield x, (tg : Int) :: k :: 2 :: q) :: c) l (.inr (.inr (a + 1)) :: s) m Q := az_nxt (by simp only [az_step, az_aald, az_iast, az_bast, az_get, az_put]; rw [hg]; simp only []; rw [if_pos trivial, hr]; rfl) K
theorem r_putI {a tg n x : Nat} {rs : List Nat} {k v : Int} {q : List Int} (hg : g[a]? = some (tg, n, rs)) (ha : 19 ≤ a) (K : az_E sc g M c l s (az_up m a k v) Q) : az_E sc g M ((pc, .putfield x, (tg : Int) :: k :: 0 :: q) :: c) l (.inl v :: .inr (.inr (a + 1)) :: s) m Q := az_nxt (by simp only [az_step, az_aald, az_iast, az_bast, az_get, az_put]; rw [hg]; simp only []; rw [if_pos ⟨ha, trivial, Or.inl trivial⟩]; rfl) K
theorem r_putZ {a tg n x : Nat} {rs : List Nat} {k v : Int} {q : List Int} (hg : g[a]? = some (tg, n, rs)) (ha : 19 ≤ a) (hv : 0 ≤ v ∧ v < 2) (K : az_E sc g M c l s (az_up m a k v) Q) : az_E sc g M ((pc, .putfield x, (tg : Int) :: k :: 3 :: q) :: c) l (.inl v :: .inr (.inr (a + 1)) :: s) m Q := az_nxt (by simp only [az_step, az_aald, az_iast, az_bast, az_get, az_put]; rw [hg]; simp only []; rw [if_pos ⟨ha, trivial, Or.inr ⟨trivial, hv.1, hv.2⟩⟩]; rfl) K
theorem r_putL {a tg n x : Nat} {rs : List Nat} {k v : Int} {q : List Int} (hg : g[a]? = some (tg, n, rs)) (ha : 19 ≤ a) (K : az_E sc g M c l s (az_up m a k v) Q) : az_E sc g M ((pc, .putfield x, (tg : Int) :: k :: 1 :: q) :: c) l (.inr (.inl v) :: .inr (.inr (a + 1)) :: s) m Q := az_nxt (by simp only [az_step, az_aald, az_iast, az_bast, az_get, az_put]; rw [hg]; simp only []; rw [if_pos ⟨ha, trivial, trivial⟩]; rfl) K
theorem r_gst0 {x : Nat} {q : List Int} (K : az_E sc g M c l (.inr (.inr 3) :: s) m Q) : az_E sc g M ((pc, .getstatic x, 0 :: q) :: c) l s m Q := az_nxt rfl K
theorem r_gst1 {x : Nat} {q : List Int} (K : az_E sc g M c l (.inl 1 :: s) m Q) : az_E sc g M ((pc, .getstatic x, 1 :: q) :: c) l s m Q := az_nxt rfl K
theorem r_gst2 {x : Nat} {q : List Int} (K : az_E sc g M c l (.inr (.inr 2) :: s) m Q) : az_E sc g M ((pc, .getstatic x, 2 :: q) :: c) l s m Q := az_nxt rfl K
theorem r_cpy {x a d n0 n1 : Nat} {rs rs2 : List Nat} {n dp sp : Int} {q : List Int} (hg : g[a]? = some (20, n0, rs)) (hg2 : g[d]? = some (20, n1, rs2)) (ha : 19 ≤ a) (hd : 19 ≤ d) (h1 : 0 ≤ n) (h2 : 0 ≤ sp) (h3 : 0 ≤ dp) (h4 : sp + n ≤ (n0 : Int)) (h5 : dp + n ≤ (n1 : Int)) (hs : s.length ≤ 4) (K : az_E sc g M c l s (az_cp m a sp d dp n) Q) : az_E sc g M ((pc, .invokestatic x, 9 :: q) :: c) l (.inl n :: .inl dp :: .inr (.inr (d + 1)) :: .inl sp :: .inr (.inr (a + 1)) :: s) m Q := az_nxt (by simp only [az_step, az_inv, az_cpy]; rw [hg, hg2]; simp only []; rw [if_pos ⟨ha, hd, trivial, trivial, h1, h2, h3, h4, h5, hs⟩]; rfl) K
theorem r_max {x : Nat} {a b z : Int} {q : List Int} (hs : s.length ≤ 4) (h : (if a < b then b else a) = z) (K : az_E sc g M c l (.inl z :: s) m Q) : az_E sc g M ((pc, .invokestatic x, 7 :: 0 :: q) :: c) l (.inl b :: .inl a :: s) m Q := az_nxt (by simp only [az_step, az_inv]; rw [if_pos hs, if_pos trivial, h]; rfl) K
theorem r_min {x : Nat} {a b z : Int} {q : List Int} (hs : s.length ≤ 4) (h : (if b < a then b else a) = z) (K : az_E sc g M c l (.inl z :: s) m Q) : az_E sc g M ((pc, .invokestatic x, 7 :: 1 :: q) :: c) l (.inl b :: .inl a :: s) m Q := az_nxt (by simp only [az_step, az_inv]; rw [if_pos hs, if_neg (by decide), if_pos trivial, h]; rfl) K
theorem r_maxL {x : Nat} {a b z : Int} {q : List Int} (hs : s.length ≤ 4) (h : (if a < b then b else a) = z) (K : az_E sc g M c l (.inr (.inl z) :: s) m Q) : az_E sc g M ((pc, .invokestatic x, 7 :: 2 :: q) :: c) l (.inr (.inl b) :: .inr (.inl a) :: s) m Q := az_nxt (by simp only [az_step, az_inv]; rw [if_pos ⟨hs, trivial⟩, h]; rfl) K
theorem r_callS {x k : Nat} {kd Mi n c0 : Int} {q : List Int} {Qc : Option aV → aM → Prop} (as : List aV) (hk : kd = 2 ∨ kd = 5) (hn : n.toNat = k) (hl : k ≤ s.length ∧ (s.length : Int) ≤ n + 4) (ha : (s.take k).reverse = as) (hf : (az_args as).length ≤ az_ml Mi.toNat) (hc : az_C sc g Mi.toNat as m Qc) (K : ∀ v m', Qc v m' → az_E sc g M c l (v.toList ++ s.drop k) m' Q) : az_E sc g M ((pc, .invokestatic x, kd :: Mi :: n :: c0 :: q) :: c) l s m Q := by
  subst hn; subst ha
  refine az_cal (M' := Mi.toNat) (k := n.toNat) ?_ hf hc K
  rcases hk with rfl | rfl
  · show (if n.toNat ≤ s.length ∧ (s.length : Int) ≤ n + 4 then _ else none) = _
    rw [if_pos hl, if_pos (Or.inl rfl)]
  · show (if n.toNat ≤ s.length ∧ (s.length : Int) ≤ n + 4 then _ else none) = _
    rw [if_pos hl, if_pos (Or.inr rfl)]
theorem r_callV {x k a n2 tg : Nat} {Mi n : Int} {q : List Int} {rs : List Nat} {Qc : Option aV → aM → Prop} (as : List aV) (hn : n.toNat = k) (hl : k ≤ s.length ∧ (s.length : Int) ≤ n + 4) (hr : s[k - 1]? = some (.inr (.inr (a + 1)))) (hg : g[a]? = some (tg, n2, rs)) (ha : (s.take k).reverse = as) (hf : (az_args as).length ≤ az_ml Mi.toNat) (hc : az_C sc g Mi.toNat as m Qc) (K : ∀ v m', Qc v m' → az_E sc g M c l (v.toList ++ s.drop k) m' Q) : az_E sc g M ((pc, .invokevirtual x, 1 :: Mi :: n :: (tg : Int) :: q) :: c) l s m Q := by
  subst hn; subst ha
  refine az_cal (M' := Mi.toNat) (k := n.toNat) ?_ hf hc K
  show (if n.toNat ≤ s.length ∧ (s.length : Int) ≤ n + 4 then _ else none) = _
  rw [if_pos hl, if_neg (by decide), hr]
  simp only []
  rw [hg]
  simp only []
  rw [if_pos trivial]
theorem r_iret {v : Int} (h : az_rt M = 1) (q : Q (some (.inl v)) m) : az_E sc g M ((pc, .ireturn, f) :: c) l [.inl v] m Q := az_rtn (v := some (.inl v)) (by show (if _ then _ else none) = _; rw [if_pos (Or.inl h)]) q
theorem r_zret {v : Int} (h : az_rt M = 2) (hv : 0 ≤ v ∧ v < 2) (q : Q (some (.inl v)) m) : az_E sc g M ((pc, .ireturn, f) :: c) l [.inl v] m Q := az_rtn (v := some (.inl v)) (by show (if _ then _ else none) = _; rw [if_pos (Or.inr (Or.inl ⟨h, hv.1, hv.2⟩))]) q
theorem r_cret {v : Int} (h : az_rt M = 5) (hv : 0 ≤ v ∧ v < 65536) (q : Q (some (.inl v)) m) : az_E sc g M ((pc, .ireturn, f) :: c) l [.inl v] m Q := az_rtn (v := some (.inl v)) (by show (if _ then _ else none) = _; rw [if_pos (Or.inr (Or.inr (Or.inl ⟨h, hv.1, hv.2⟩)))]) q
theorem r_bret {v : Int} (h : az_rt M = 6) (hv : -128 ≤ v ∧ v < 128) (q : Q (some (.inl v)) m) : az_E sc g M ((pc, .ireturn, f) :: c) l [.inl v] m Q := az_rtn (v := some (.inl v)) (by show (if _ then _ else none) = _; rw [if_pos (Or.inr (Or.inr (Or.inr ⟨h, hv.1, hv.2⟩)))]) q
theorem r_lret {v : Int} (h : az_rt M = 3) (q : Q (some (.inr (.inl v))) m) : az_E sc g M ((pc, .lreturn, f) :: c) l [.inr (.inl v)] m Q := az_rtn (v := some (.inr (.inl v))) (by show (if _ then _ else none) = _; rw [if_pos h]) q
theorem r_aret {r : Nat} (h : az_rt M = 4) (q : Q (some (.inr (.inr r))) m) : az_E sc g M ((pc, .areturn, f) :: c) l [.inr (.inr r)] m Q := az_rtn (v := some (.inr (.inr r))) (by show (if _ then _ else none) = _; rw [if_pos h]) q
theorem r_vret (h : az_rt M = 0) (q : Q none m) : az_E sc g M ((pc, .return_, f) :: c) l [] m Q := az_rtn (v := none) (by show (if _ then _ else none) = _; rw [if_pos h]) q
/-- the numbers without wrap -/
theorem az_wid {x : Int} (h1 : -2147483648 ≤ x) (h2 : x < 2147483648) : az_w x = x := az_bm32 h1 h2
theorem az_wlid {x : Int} (h1 : -9223372036854775808 ≤ x) (h2 : x < 9223372036854775808) : az_wl x = x := az_bm64 h1 h2
end RU
