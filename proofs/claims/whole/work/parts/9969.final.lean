/-! THE CLAIM OUT OF ONE WALK OF THE LAW'S BODY. Your part is whole_start (and what it stands on); all else here is the same for every law, but numbers. -/
def R_law : String := "LastSunLaw"
def lw_P (b : Addr) (xs : List Int32) (args : Array Value) (s : State) : Prop := args = #[.ref b] ∧ s.IntsAt b xs ∧ xs.length ≤ 3072 ∧ (Jvm.Cond.and given_1 narrow_1).before args s = true
def lw_Q (_ : Array Value) (s : State) (o : Outcome) (t : State) : Prop := o = .returned (some (.int 1)) ∧ Framed s o t [] 600000 7302250
def lw_Z (below : List Frame) (a : Array Value) (s : State) : State → Prop := fun t => ∃ o, t.status = .running ∧ Ended t below o ∧ lw_Q a s o t
/-- the law's own end, with 1 on the stack, nothing written that was there before, its room as the claim has it -/
theorem lw_ret {p : Program} {l : Launch} {e : Env} {s : State} {m : MethodId} {below : List Frame} {meth : Method} {c : Code} {b : Nat} (hx : p.tables.exec = Jvm.exec) (hb : c.code = code) (hr : meth.sig.returnType = ret) (hlocks : meth.locks = false) {pc : Nat} {H : Heap} {ls : Array Slot} (hdg : decode code pc = .ok (.ireturn, 1)) : W p l e room_1 s m #[Value.ref b] below meth c H [] 600000 7302250 (lw_Z below #[Value.ref b] s) (F0 m pc ls [.int 1]) := by
  intro T hT X
  obtain ⟨fs, hret, hrun, hended, hW, hframe⟩ := X.leave (v := some (.int 1)) (hlocks := hlocks) (fun h => by rw [hr] at h; cases h)
  have hmeth' : T.vm.method? m = some meth := X.method'
  refine ⟨T.setFrames fs, ?_, .returned (some (.int 1)), hrun, hended, rfl, ⟨_, rfl⟩, hW, hframe⟩
  jvm_step X.here [X.here.top, hx, hb, hdg, hmeth', hr, ret, narrow_b1]
  (try refine ⟨rfl, ?_⟩); (try refine ⟨rfl, ?_⟩)
  first | (intro acts; rw [hret _ acts rfl rfl rfl]) | rw [hret _ _ rfl rfl rfl]
  exact Steps.refl _
/-- what holds at the law's entry: the machine, the code, the tables' words (any of lw_tbl by 'hts w (by decide +kernel)'), the script of L ints xs at the cell b, what the Statement gives of the start (any of its parts by flat_of_before) -/
def lw_At (p : Program) (s : State) (m : MethodId) (meth : Method) (c : Code) (b L : Nat) (xs : Nat → Int32) : Prop :=
  p.tables.exec = Jvm.exec ∧ c.code = code ∧ meth.sig.returnType = ret ∧ c.maxLocals = 4 ∧ s.vm.findClass R_law = some m.cls ∧ (∀ w ∈ lw_tbl, w.before #[Value.ref b] s = true) ∧ va_X b L xs s s.heap ∧ b < s.heap.size ∧ meth.locks = false ∧ (Jvm.Cond.and given_1 narrow_1).before #[Value.ref b] s = true

/-! the start: the world ahead of the law -/
theorem az_nest_ok : az_nests.all (fun q => decide (Cond.methodLinkNest q.1 q.2.1 q.2.2 "LastSun" ∈ lw_tbl)) = true := by decide +kernel
theorem az_nest_in (q : String × Nat × MethodName) (hq : q ∈ az_nests) : Cond.methodLinkNest q.1 q.2.1 q.2.2 "LastSun" ∈ lw_tbl := decide_eq_true_eq.mp (List.all_eq_true.mp az_nest_ok q hq)
theorem az_six_ok : az_six.all (fun q => decide (Cond.stringRef "LastSun$Tape" q.1 q.2 ∈ lw_tbl)) = true := by decide +kernel
theorem az_six_in (i : Nat) (q : Nat × String) (hq : az_six[i]? = some q) : Cond.stringRef "LastSun$Tape" q.1 q.2 ∈ lw_tbl := decide_eq_true_eq.mp (List.all_eq_true.mp az_six_ok q (List.mem_of_getElem? hq))
def az_st (i : Nat) : Term := .string "LastSun$Tape" ((az_six.getD i (0, "")).1)
def az_flt : List Cond := flatC (Jvm.Cond.and given_1 narrow_1)
theorem az_f_str : (List.range 8).all (fun i => decide (Cond.exactly (az_st i) "java/lang/String" ∈ az_flt) && decide (Cond.eq (.field (az_st i) "java/lang/String" "coder" "B") (.int 0) ∈ az_flt) && decide (Cond.arrayOf (.field (az_st i) "java/lang/String" "value" "[B") .byte ∈ az_flt) && decide (Cond.eq (.length (.field (az_st i) "java/lang/String" "value" "[B")) (.int (Int32.ofNat (([3, 3, 5, 4, 4, 5, 4, 4] : List Nat).getD i 0))) ∈ az_flt) &&
    (List.range (([3, 3, 5, 4, 4, 5, 4, 4] : List Nat).getD i 0)).all (fun j => decide (Cond.eq (.elem (.field (az_st i) "java/lang/String" "value" "[B") (.int (Int32.ofNat j))) (.int ((az_byt.getD i []).getD j 0)) ∈ az_flt)) &&
    (List.range 8).all (fun j => decide (i = j) || decide (Cond.not (Cond.eq (az_st i) (az_st j)) ∈ az_flt) || decide (Cond.not (Cond.eq (az_st j) (az_st i)) ∈ az_flt))) = true := by decide +kernel
theorem az_f_abv : (List.range 6).all (fun j => decide (Cond.eq (.elem (.static "LastSun$Asks" "ABOVE" "[I") (.int (Int32.ofNat j))) (.int (Int32.ofInt (az_abv.getD j 0))) ∈ az_flt)) = true := by decide +kernel
theorem az_inst_ok : (List.range 9).all (fun c => az_hw (az_ips.getD c 0) (.instantiable (az_R c) (az_N c))) = true := by decide +kernel
theorem az_start {s : State} {b L : Nat} {xs : Nat → Int32} (hts : ∀ w ∈ lw_tbl, w.before #[Value.ref b] s = true) (hX : va_X b L xs s s.heap) (hbl : b < s.heap.size) (hL : L ≤ 3072) (hgv : (Jvm.Cond.and given_1 narrow_1).before #[Value.ref b] s = true) :
    ∃ w : aW, az_wok w ∧ w.1 = s.heap.size ∧ w.2.1 0 = b ∧ az_Tt w s ∧ az_Rh w (some (L, fun j => (xs j.toNat).toInt)) s s.heap az_g0 az_m0 := by
  have hf := flat_of_before _ hgv
  have hgood : ∀ w ∈ az_good, w.before #[Value.ref b] s = true := fun w hw => hts w (List.mem_filter.mp hw).1
  have hA : ∀ a : Nat, a < s.heap.size → ¬ s.heap.size ≤ a := fun a h => Nat.not_le.mpr h
  -- texts
  have hstr := fun i (hi : i < 8) => List.all_eq_true.mp az_f_str i (List.mem_range.mpr hi)
  simp only [Bool.and_eq_true, decide_eq_true_eq] at hstr
  obtain ⟨adK, adV, hS, hK⟩ := vk_Sof (args := #[Value.ref b]) (s := s) (N := 8) (tm := az_st) (len := [3, 3, 5, 4, 4, 5, 4, 4]) (byt := az_byt) (A := fun q => s.heap.size ≤ q) (by decide) (fun i hi => hf _ (hstr i hi).1.1.1.1.1) (fun i hi => hf _ (hstr i hi).1.1.1.1.2) (fun i hi => hf _ (hstr i hi).1.1.1.2) (fun i hi => hf _ (hstr i hi).1.1.2)
    (fun i hi j hj => hf _ (decide_eq_true_eq.mp (List.all_eq_true.mp (hstr i hi).1.2 j (List.mem_range.mpr hj))))
    (fun i j hi hj hij => by
      have := List.all_eq_true.mp (hstr i hi).2 j (List.mem_range.mpr hj)
      simp only [Bool.or_eq_true, decide_eq_true_eq] at this
      rcases this with (h | h) | h
      · exact absurd h hij
      · exact Or.inl (hf _ h)
      · exact Or.inr (hf _ h)) hA
  -- ABOVE
  obtain ⟨tA, htA, hTA⟩ := va_Tof (args := #[Value.ref b]) (s := s) (tm := .static "LastSun$Asks" "ABOVE" "[I") (ty := .int) (N := 6) (f := fun j => .int (Int32.ofInt (az_abv.getD j 0))) (A := fun q => s.heap.size ≤ q) (by decide) (hf _ (by decide +kernel)) (va_eqt (hf _ (by decide +kernel)))
    (fun j hj => va_eqt (hf _ (decide_eq_true_eq.mp (List.all_eq_true.mp az_f_abv j (List.mem_range.mpr hj))))) hA
  have hZA := va_Zof (args := #[Value.ref b]) (s := s) (C := "LastSun$Asks") (n := "ABOVE") (d := "[I") (A := fun q => s.heap.size ≤ q) (hts _ (by decide +kernel)) (hts _ (by decide +kernel)) htA hA
  have hZC := va_Zof (args := #[Value.ref b]) (s := s) (C := "java/lang/String") (n := "COMPACT_STRINGS") (d := "Z") (A := fun q => s.heap.size ≤ q) (hts _ (by decide +kernel)) (hts _ (by decide +kernel)) (va_eqi (z := 1) (hf _ (by decide +kernel))) hA
  -- the opaque reference
  have hop : ∃ v : Value, (v = .null ∨ ∃ t, v = .ref t) ∧ (Term.static "jdk/internal/util/Preconditions" "SIOOBE_FORMATTER" "Ljava/util/function/BiFunction;").eval #[Value.ref b] s none [] s = some v := by
    have h := hf (Cond.isRef (Term.static "jdk/internal/util/Preconditions" "SIOOBE_FORMATTER" "Ljava/util/function/BiFunction;")) (by decide +kernel)
    obtain ⟨v, hv, hvr⟩ := Cond.isRef_spec h
    refine ⟨v, ?_, hv⟩
    cases v <;> first | exact Or.inl rfl | exact Or.inr ⟨_, rfl⟩ | simp [Value.isRef] at hvr
  obtain ⟨opq, ho1, ho2⟩ := hop
  have hZO := va_Zof (args := #[Value.ref b]) (s := s) (C := "jdk/internal/util/Preconditions") (n := "SIOOBE_FORMATTER") (d := "Ljava/util/function/BiFunction;") (A := fun q => s.heap.size ≤ q) (hts _ (by decide +kernel)) (hts _ (by decide +kernel)) ho2 hA
  -- the classes
  have hKn : ∀ c : Nat, ∃ q : ClassId × (Nat → Nat), c < 9 → u_Kn s (az_R c) (az_T c) (az_N c) q.1 q.2 := fun c => by
    by_cases hc : c < 9
    · obtain ⟨cC, iS, h⟩ := u_known (C := az_R c) (T := az_T c) (N := az_N c) (n := az_N c) hgood (az_lay_in hc) (hgood _ (az_hw_in (List.all_eq_true.mp az_inst_ok c (List.mem_range.mpr hc))))
      exact ⟨(cC, iS), fun _ => h⟩
    · exact ⟨(0, fun _ => 0), fun h => absurd h hc⟩
  obtain ⟨dd, hdd⟩ := Classical.axiomOfChoice hKn
  refine ⟨(s.heap.size, fun a => if a = 0 then b else if a = 2 then tA else if a < 11 then adK (a - 3) else adV (a - 11), opq, (fun c => (dd c).1, fun c => (dd c).2)), ho1, rfl, rfl, ⟨fun q hq => ?_, fun i q hq => ?_, ?_, ?_⟩, ⟨fun c q hq => ?_, fun k q h => by simp at h⟩, ⟨hTA, hZA, hZC, hZO, ⟨fun i hi => ?_, fun i j hi hj h => ?_⟩⟩, ?_, by decide, by show _ = _ + ((19 : Nat) - 19); omega, fun a _ => ⟨rfl, fun _ => rfl⟩, fun a t n rs ha hg => ?_⟩
  · exact va_Nw.of rfl (hts _ (az_nest_in q hq))
  · have hi : i < 8 := (List.getElem?_eq_some_iff.mp hq).1
    have h3 : (fun a : Nat => if a = 0 then b else if a = 2 then tA else if a < 11 then adK (a - 3) else adV (a - 11)) (3 + i) = adK i := by
      simp only []
      rw [if_neg (by omega), if_neg (by omega), if_pos (by omega), Nat.add_sub_cancel_left]
    show vk_R "LastSun$Tape" q.1 q.2 ((fun a : Nat => if a = 0 then b else if a = 2 then tA else if a < 11 then adK (a - 3) else adV (a - 11)) (3 + i)) s
    rw [h3]
    have hk := hK i hi
    unfold az_st at hk
    rw [List.getD_eq_getElem?_getD, hq] at hk
    exact vk_R.of (hts _ (az_six_in i q hq)) hk
  · exact va_AO.of (hts _ (by decide +kernel))
  · exact va_AO.of (hts _ (by decide +kernel))
  · have hc : c < 9 := by
      have := (List.getElem?_eq_some_iff.mp hq).1
      simpa [az_cls] using this
    rw [az_cls_at hc] at hq
    cases hq
    exact hdd c hc
  · have h3 : (if 3 + i = 0 then b else if 3 + i = 2 then tA else if 3 + i < 11 then adK (3 + i - 3) else adV (3 + i - 11)) = adK i := by
      rw [if_neg (by omega), if_neg (by omega), if_pos (by omega), Nat.add_sub_cancel_left]
    have h4 : (if 11 + i = 0 then b else if 11 + i = 2 then tA else if 11 + i < 11 then adK (11 + i - 3) else adV (11 + i - 11)) = adV i := by
      rw [if_neg (by omega), if_neg (by omega), if_neg (by omega), Nat.add_sub_cancel_left]
    have := hS.1 i hi
    simp only [h3, h4]
    exact this
  · have h3 : ∀ i, i < 8 → (if 3 + i = 0 then b else if 3 + i = 2 then tA else if 3 + i < 11 then adK (3 + i - 3) else adV (3 + i - 11)) = adK i := fun i hi => by
      rw [if_neg (by omega), if_neg (by omega), if_pos (by omega), Nat.add_sub_cancel_left]
    simp only [h3 i hi, h3 j hj] at h
    exact hS.2 i j hi hj h
  · intro L' ys he
    cases he
    exact ⟨xs, hX, fun j hj => by simp, hbl, by omega⟩
  · have : a < 19 := (List.getElem?_eq_some_iff.mp hg).1
    omega
/-- what is still to be shown of the interpreter alone -/
def az_All : Prop := ∀ (L : Nat) (xs : Int → Int), L ≤ 3072 → (∀ j, -2147483648 ≤ xs j ∧ xs j < 2147483648) → ∃ n g m, az_run (some (L, xs)) n 218 (az_cd 218) (az_ent [.inr (.inr 1)] (az_ml 218)) [] az_g0 az_m0 = some (some (.inl 1), g, m) ∧ g.length ≤ 600000 ∧ az_sl g ≤ 7302250
theorem whole_start0 (hAll : az_All) {p : Program} {e : Env} {s : State} {m : MethodId} {below : List Frame} {meth : Method} {c : Code} (l : Launch) {b L : Nat} {xs : Nat → Int32} (hL : L ≤ 3072) (C0 : lw_At p s m meth c b L xs) : W p l e room_1 s m #[Value.ref b] below meth c s.heap [] 0 0 (lw_Z below #[Value.ref b] s) (entryFrame m ([Value.ref b] : List Value).toArray 4) := by
  obtain ⟨hx, hb, hr, hml, hown, hts, hX, hbl, hlocks, hgv⟩ := C0
  obtain ⟨w, hw, hw1, hw0, hTt, hRh⟩ := az_start hts hX hbl hL hgv
  obtain ⟨n, g, mm, hrun, hg1, hg2⟩ := hAll L (fun j => (xs j.toNat).toInt) hL (fun j => az_rg32 _)
  have hgood : ∀ w ∈ az_good, w.before #[Value.ref b] s = true := fun w hw => hts w (List.mem_filter.mp hw).1
  rw [lg_entry_eq]
  have hname : (az_y 218).name = "<init>" → meth.name = "<init>" := fun h => absurd h (by decide +kernel)
  have key := az_sound l w (some (L, fun j => (xs j.toNat).toInt)) hw az_oks az_okms az_cws n 218 (az_cd 218) _ _ az_g0 az_m0 _ hrun (az_oks 218) (by decide) (p := p) (e := e) (R := room_1) (s := s) (mid := m) (args := #[Value.ref b]) (below := below) (meth := meth) (cd := c) (H := s.heap) (locs := []) (ls := (lg_sl [Value.ref b] ++ List.replicate (4 - (lg_sl [Value.ref b]).length) Slot.unset).toArray) (xs := []) (Q := lw_Z below #[Value.ref b] s) (c0 := az_g0.length) (s0 := az_sl az_g0) (pc := 0)
    rfl ⟨hx, hb, hml, hown, hgood, hname⟩ hTt (by decide) ⟨Nat.le_refl _, Nat.le_refl _⟩ (by show g.length - _ ≤ 600000 ∧ az_sl g - _ ≤ 7302250; omega) hRh (fun q hq => by cases hq)
    (az_entry (vs := [.inr (.inr 1)]) hw ⟨by show Value.ref b = az_rf w 1; rw [az_rf_s (by decide), az_ad_lo (by decide), hw0], trivial⟩ (by decide)) trivial
    (fun pc' H' locs' ls' x hret a1 a2 => by
      rcases hret with ⟨e1, -⟩ | ⟨z, ty, e1, rfl, hd, hre, hn⟩ | ⟨z, e1, -⟩ | ⟨rr, e1, -⟩
      · cases e1
      · have hz : z = 1 := by
          apply Int32.toInt_inj.mp
          simp only [Option.some.injEq, Sum.inl.injEq] at e1
          rw [← e1]
          rfl
        subst hz
        refine W.widen (k := 600000) (n := 7302250) (by show g.length - _ ≤ _; omega) (by show az_sl g - _ ≤ _; omega) ?_
        exact W.forget (locs := []) (fun q hq => by rw [← hw1]; exact a2 q hq) (lw_ret hx hb hr hlocks hd)
      · cases e1
      · cases e1)
  rw [Nat.sub_self, Nat.sub_self] at key
  exact key
