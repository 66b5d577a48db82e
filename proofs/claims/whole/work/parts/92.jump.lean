/-! jumps, ends, the start of a method -/
section JP
variable {p : Program} {la : Launch} {e : Env} {R : Room} {s : State} {mid : MethodId} {args : Array Value} {below : List Frame} {meth : Method} {cd : Code} {H : Heap} {locs : List Loc} {cells slots : Nat} {Q : State → Prop}
variable {w : aW} {sc : aX} {M pc : Nat} {ls : Array Slot} {xs rest : List Value} {l l' : aL} {st st' : aS} {g g' : aG} {m m' : aM} {cc : ByteArray} {c0 s0 : Nat} {f : List Int}
theorem az_lk_ok (pc : Nat) (x : Int) (d : Int) : ∀ ps : List (Int × Int), ps.all (fun q => decide (0 ≤ (pc : Int) + q.2)) = true → 0 ≤ (pc : Int) + d → ((az_lk (az_flat pc ps) x ((pc : Int) + d).toNat : Nat) : Int) = (pc : Int) + Op.lookupswitch.offset ps d x
  | [], _, hd => by
    show ((((pc : Int) + d).toNat : Nat) : Int) = _
    rw [Int.toNat_of_nonneg hd]
    rfl
  | (a, o) :: ps, h, hd => by
    simp only [List.all_cons, Bool.and_eq_true, decide_eq_true_eq] at h
    rw [Op.lookupswitch.offset_cons]
    show ((if x = a then ((pc : Int) + o).toNat else az_lk (az_flat pc ps) x ((pc : Int) + d).toNat : Nat) : Int) = _
    by_cases hx : x = a
    · rw [if_pos hx, if_pos hx.symm, Int.toNat_of_nonneg h.1]
    · rw [if_neg hx, if_neg (fun q => hx q.symm)]
      exact az_lk_ok pc x d ps h.2 hd
theorem az_jump {i : Instr} {t : Nat} (X : az_Cx M p s mid args meth cd) (hdec : az_dec (az_by M) pc i = true) (hres : az_res M pc i f = true) (hst : az_step sc M i f l st g m = some (.inr (.inl (t, st')))) (hSt : az_SR w xs st)
    (K : ∀ xs', az_SR w xs' st' → W p la e R s mid args below meth cd H locs cells slots Q (F0 mid t ls xs')) : W p la e R s mid args below meth cd H locs cells slots Q (F0 mid pc ls xs) := by
  obtain ⟨hx, hb, hml, hown, hts, hnm⟩ := X
  cases i with
  | if_icmp c off =>
    have hd := az_dec_ok hdec (by simp [az_len])
    simp only [az_res, decide_eq_true_eq] at hres
    simp only [az_step, az_if2] at hst
    split at hst
    · next y x s1 =>
      split at hst
      · next hc =>
        simp only [az_jmp, Option.some.injEq, Sum.inr.injEq, Sum.inl.injEq, Prod.mk.injEq] at hst
        obtain ⟨rfl, rfl⟩ := hst
        obtain ⟨zy, xs1, rfl, rfl, h1⟩ := az_SR_I hSt
        obtain ⟨zx, xs2, rfl, rfl, h2⟩ := az_SR_I h1
        refine az_c_if2 hx hb hd ?_ (fun _ => K _ h2) (fun h => absurd hc (by rw [h]; decide))
        rw [hres.1]
        exact (Int.toNat_of_nonneg hres.2).symm
      · simp [az_nx] at hst
    · cases hst
  | ifCond c off =>
    have hd := az_dec_ok hdec (by simp [az_len])
    simp only [az_res, decide_eq_true_eq] at hres
    simp only [az_step, az_if1] at hst
    split at hst
    · next x s1 =>
      split at hst
      · next hc =>
        simp only [az_jmp, Option.some.injEq, Sum.inr.injEq, Sum.inl.injEq, Prod.mk.injEq] at hst
        obtain ⟨rfl, rfl⟩ := hst
        obtain ⟨zx, xs1, rfl, rfl, h1⟩ := az_SR_I hSt
        refine az_c_if1 hx hb hd ?_ (fun _ => K _ h1) (fun h => absurd hc (by rw [h]; decide))
        rw [hres.1]
        exact (Int.toNat_of_nonneg hres.2).symm
      · simp [az_nx] at hst
    · cases hst
  | goto off =>
    have hd := az_dec_ok hdec (by simp [az_len])
    simp only [az_res, decide_eq_true_eq] at hres
    simp only [az_step, az_jmp, Option.some.injEq, Sum.inr.injEq, Sum.inl.injEq, Prod.mk.injEq] at hst
    obtain ⟨rfl, rfl⟩ := hst
    refine lv_goto hx hb hd ?_ (K _ hSt)
    rw [hres.1]
    exact (Int.toNat_of_nonneg hres.2).symm
  | tableswitch d lo hi os =>
    obtain ⟨n, hd⟩ := az_dec_ok0 hdec
    simp only [az_res, decide_eq_true_eq] at hres
    obtain ⟨rfl, r1, r2, r3⟩ := hres
    simp only [az_step, az_tsw] at hst
    split at hst
    · next x s1 =>
      obtain ⟨zx, xs1, rfl, rfl, h1⟩ := az_SR_I hSt
      split at hst
      · next hc =>
        simp only [Option.some.injEq, Sum.inr.injEq, Sum.inl.injEq, Prod.mk.injEq] at hst
        obtain ⟨rfl, rfl⟩ := hst
        exact lv_tableOut hx hb hd hc (Int.toNat_of_nonneg r1).symm (K _ h1)
      · next hc =>
        simp only [Option.some.injEq, Sum.inr.injEq, Sum.inl.injEq, Prod.mk.injEq] at hst
        obtain ⟨rfl, rfl⟩ := hst
        have hlt : (zx.toInt - lo).toNat < os.toList.length := by rw [Array.length_toList]; omega
        have ho : os[(zx.toInt - lo).toNat]? = some os.toList[(zx.toInt - lo).toNat] := by rw [← Array.getElem?_toList, List.getElem?_eq_getElem hlt]
        have h0 := List.all_eq_true.mp r2 _ (List.getElem_mem hlt)
        rw [decide_eq_true_eq] at h0
        refine lv_tableIn hx hb hd (fun q => hc (Or.inl q)) (fun q => hc (Or.inr q)) ho ?_ (K _ h1)
        rw [List.getD_cons_succ, List.getD_eq_getElem?_getD, List.getElem?_map, List.getElem?_eq_getElem hlt]
        exact (Int.toNat_of_nonneg h0).symm
    · cases hst
  | lookupswitch d ps =>
    obtain ⟨n, hd⟩ := az_dec_ok0 hdec
    simp only [az_res, decide_eq_true_eq] at hres
    obtain ⟨rfl, r1, r2, r3⟩ := hres
    simp only [az_step, az_lsw] at hst
    split at hst
    · next x s1 =>
      obtain ⟨zx, xs1, rfl, rfl, h1⟩ := az_SR_I hSt
      simp only [Option.some.injEq, Sum.inr.injEq, Sum.inl.injEq, Prod.mk.injEq] at hst
      obtain ⟨rfl, rfl⟩ := hst
      exact lv_lookup hx hb hd r3 rfl (az_lk_ok pc zx.toInt d ps.toList r2 r1).symm (K _ h1)
    · cases hst
  | _ =>
    exfalso
    revert hst
    simp only [az_step, az_nx, az_ldI, az_ldL, az_ldA, az_stI, az_stL, az_stA, az_b2, az_l2, az_li, az_u1, az_d2, az_dl2, az_ald, az_aald, az_aln, az_iast, az_bast, az_aast, az_get, az_put, az_gst, az_new, az_nwa, az_inv, az_cpy, az_ldc, az_ldc2, az_irt, az_iinc]
    intro hst
    repeat' split at hst
    all_goals simp at hst
/-- how a method ends: with what the machine has on its stack -/
def az_Ret (w : aW) (M pc : Nat) (v : Option aV) (x : Option Value) : Prop :=
  (v = none ∧ x = none ∧ decode (az_by M) pc = .ok (.return_, 1) ∧ az_re M = none) ∨
  (∃ (z : Int32) (ty : FieldType), v = some (.inl z.toInt) ∧ x = some (.int z) ∧ decode (az_by M) pc = .ok (.ireturn, 1) ∧ az_re M = some ty ∧ narrow ty (.int z) = .int z) ∨
  (∃ z : Int64, v = some (.inr (.inl z.toInt)) ∧ x = some (.long z) ∧ decode (az_by M) pc = .ok (.lreturn, 1) ∧ az_re M = some .long) ∨
  (∃ r : Nat, v = some (.inr (.inr r)) ∧ x = some (az_rf w r) ∧ decode (az_by M) pc = .ok (.areturn, 1) ∧ ∃ n, az_re M = some (.object n))
theorem az_okm_at {M : Nat} (hok : (List.range 219).all az_okm = true) (h : M < 219) : az_okm M = true := List.all_eq_true.mp hok M (List.mem_range.mpr h)
theorem az_nchr {z : Int32} (h1 : 0 ≤ z.toInt) (h2 : z.toInt < 65536) : narrow .char (.int z) = .int z := by
  obtain ⟨n, hn, rfl⟩ : ∃ n : Nat, n < 65536 ∧ z = Int32.ofNat n := ⟨z.toInt.toNat, by omega, by
    apply Int32.toInt_inj.mp
    rw [Int32.toInt_ofNat_of_lt (by omega), Int.toNat_of_nonneg h1]⟩
  exact (pk_charN hn).1
theorem az_ends {i : Instr} {v : Option aV} (hok : az_okm M = true) (hdec : az_dec (az_by M) pc i = true) (hst : az_step sc M i f l st g m = some (.inr (.inr (.inl v)))) (hSt : az_SR w xs st) : ∃ x, xs = x.toList ∧ az_Ret w M pc v x := by
  simp only [az_okm, Bool.and_eq_true] at hok
  have hre := hok.2
  cases i with
  | ireturn =>
    have hd := az_dec_ok hdec (by simp [az_len])
    simp only [az_step, az_irt] at hst
    split at hst
    · next x =>
      obtain ⟨z, xs1, rfl, rfl, h1⟩ := az_SR_I hSt
      have e : xs1 = [] := by
        cases xs1 with
        | nil => rfl
        | cons a b => exact h1.elim
      subst e
      split at hst
      · next hc =>
        simp only [Option.some.injEq, Sum.inr.injEq, Sum.inl.injEq] at hst
        subst hst
        refine ⟨some (.int z), rfl, Or.inr (Or.inl ?_)⟩
        rcases hc with hc | ⟨hc, h2, h3⟩ | ⟨hc, h2, h3⟩ | ⟨hc, h2, h3⟩ <;> rw [hc] at hre <;> simp only [decide_eq_true_eq] at hre
        · exact ⟨z, .int, rfl, rfl, hd, hre, rfl⟩
        · exact ⟨z, .boolean, rfl, rfl, hd, hre, az_nzn h2 h3⟩
        · exact ⟨z, .char, rfl, rfl, hd, hre, az_nchr h2 h3⟩
        · exact ⟨z, .byte, rfl, rfl, hd, hre, az_nb h2 h3⟩
      · cases hst
    · cases hst
  | lreturn =>
    have hd := az_dec_ok hdec (by simp [az_len])
    simp only [az_step] at hst
    split at hst
    · next x =>
      obtain ⟨z, xs1, rfl, rfl, h1⟩ := az_SR_L hSt
      have e : xs1 = [] := by
        cases xs1 with
        | nil => rfl
        | cons a b => exact h1.elim
      subst e
      split at hst
      · next hc =>
        simp only [Option.some.injEq, Sum.inr.injEq, Sum.inl.injEq] at hst
        subst hst
        rw [hc] at hre
        simp only [decide_eq_true_eq] at hre
        exact ⟨some (.long z), rfl, Or.inr (Or.inr (Or.inl ⟨z, rfl, rfl, hd, hre⟩))⟩
      · cases hst
    · cases hst
  | areturn =>
    have hd := az_dec_ok hdec (by simp [az_len])
    simp only [az_step] at hst
    split at hst
    · next r =>
      obtain ⟨xs1, rfl, h1⟩ := az_SR_R hSt
      have e : xs1 = [] := by
        cases xs1 with
        | nil => rfl
        | cons a b => exact h1.elim
      subst e
      split at hst
      · next hc =>
        simp only [Option.some.injEq, Sum.inr.injEq, Sum.inl.injEq] at hst
        subst hst
        rw [hc] at hre
        simp only [decide_eq_true_eq] at hre
        exact ⟨some (az_rf w r), rfl, Or.inr (Or.inr (Or.inr ⟨r, rfl, rfl, hd, _, hre⟩))⟩
      · cases hst
    · cases hst
  | return_ =>
    have hd := az_dec_ok hdec (by simp [az_len])
    simp only [az_step] at hst
    split at hst
    · cases xs with
      | nil =>
        split at hst
        · next hc =>
          simp only [Option.some.injEq, Sum.inr.injEq, Sum.inl.injEq] at hst
          subst hst
          rw [hc] at hre
          simp only [decide_eq_true_eq] at hre
          exact ⟨none, rfl, Or.inl ⟨rfl, rfl, hd, hre⟩⟩
        · cases hst
      | cons a b => exact hSt.elim
    · cases hst
  | _ =>
    exfalso
    revert hst
    simp only [az_step, az_nx, az_jmp, az_if2, az_if1, az_tsw, az_lsw, az_ldI, az_ldL, az_ldA, az_stI, az_stL, az_stA, az_b2, az_l2, az_li, az_u1, az_d2, az_dl2, az_ald, az_aald, az_aln, az_iast, az_bast, az_aast, az_get, az_put, az_gst, az_new, az_nwa, az_inv, az_cpy, az_ldc, az_ldc2, az_iinc]
    intro hst
    repeat' split at hst
    all_goals simp at hst
end JP
