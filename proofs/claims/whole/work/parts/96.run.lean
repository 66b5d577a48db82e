/-! THE RUN -/
theorem az_okc_seek (M t : Nat) : ∀ c : aC, az_okc M c = true → az_okc M (az_seek t c) = true
  | [], _ => rfl
  | e :: c, h => by
    unfold az_seek
    split
    · exact h
    · simp only [az_okc, Bool.and_eq_true] at h
      exact az_okc_seek M t c h.2
theorem az_seek_head (t : Nat) : ∀ (c : aC) (e : aI) (c' : aC), az_seek t c = e :: c' → e.1 = t
  | [], _, _, h => by simp [az_seek] at h
  | e0 :: c, e, c', h => by
    unfold az_seek at h
    split at h
    · next h0 => cases h; exact h0
    · exact az_seek_head t c e c' h
theorem az_cd_lt {M : Nat} (h : az_cd M ≠ []) : M < 219 := by
  refine Nat.not_le.mp fun hM => h ?_
  unfold az_cd
  have hl : az_cds.length = 219 := by decide +kernel
  rw [List.getD_eq_getElem?_getD, List.getElem?_eq_none (by rw [hl]; exact hM)]
  rfl
theorem az_run_nil {sc : aX} {n M : Nat} {l : aL} {st : aS} {g : aG} {m : aM} : az_run sc n M [] l st g m = none := by
  cases n <;> rfl
theorem az_len_0 {sc : aX} {M : Nat} {i : Instr} {f : List Int} {l : aL} {st : aS} {g : aG} {m : aM} {o : aL × aS × aG × aM} (h : az_step sc M i f l st g m = some (.inl o)) : az_len i ≠ 0 := by
  cases i with
  | tableswitch a b c d =>
    simp only [az_step, az_tsw] at h
    split at h
    · split at h <;> simp at h
    · cases h
  | lookupswitch a b =>
    simp only [az_step, az_lsw] at h
    split at h
    · simp at h
    · cases h
  | _ => simp [az_len]
theorem az_len_3 {sc : aX} {M : Nat} {i : Instr} {f : List Int} {l : aL} {st : aS} {g : aG} {m : aM} {o : Nat × Nat} (h : az_step sc M i f l st g m = some (.inr (.inr (.inr o)))) : az_len i = 3 := by
  cases i with
  | invokevirtual x => rfl
  | invokestatic x => rfl
  | invokespecial x => rfl
  | _ =>
    exfalso
    revert h
    simp only [az_step, az_nx, az_jmp, az_if2, az_if1, az_tsw, az_lsw, az_ldI, az_ldL, az_ldA, az_stI, az_stL, az_stA, az_b2, az_l2, az_li, az_u1, az_d2, az_dl2, az_ald, az_aald, az_aln, az_iast, az_bast, az_aast, az_get, az_put, az_gst, az_new, az_nwa, az_ldc, az_ldc2, az_iinc, az_irt]
    intro h
    repeat' split at h
    all_goals simp at h
theorem az_hA {w : aW} {locs L : List Loc} (h1 : ∀ q ∈ locs, w.1 ≤ q.base) (h2 : ∀ q ∈ L, w.1 ≤ q.base) : ∀ q ∈ locs ++ L, w.1 ≤ q.base := fun q hq => (List.mem_append.mp hq).elim (h1 q) (h2 q)
set_option maxHeartbeats 4000000 in
theorem az_sound (la : Launch) (w : aW) (sc : aX) (hw : az_wok w) (hok : ∀ M, az_okc M (az_cd M) = true) (hokm : (List.range 219).all az_okm = true) (hcw : ∀ M, M < 218 → az_cw M) : ∀ (n M : Nat) (c : aC) (l : aL) (st : aS) (g : aG) (m : aM) (r : Option aV × aG × aM), az_run sc n M c l st g m = some r → az_okc M c = true → M < 219 →
    ∀ {p : Program} {e : Env} {R : Room} {s : State} {mid : MethodId} {args : Array Value} {below : List Frame} {meth : Method} {cd : Code} {H : Heap} {locs : List Loc} {ls : Array Slot} {xs : List Value} {Q : State → Prop} {c0 s0 pc : Nat}, c.head?.map (·.1) = some pc → az_Cx M p s mid args meth cd → az_Tt w s → (M + 1 ≤ R.frames ∧ 64 * (M + 1) ≤ R.locals) → (c0 ≤ g.length ∧ s0 ≤ az_sl g) → (r.2.1.length - c0 ≤ R.cells ∧ az_sl r.2.1 - s0 ≤ R.slots) → az_Rh w sc s H g m → (∀ q ∈ locs, w.1 ≤ q.base) → az_LR w ls (az_ml M) l → az_SR w xs st →
    (∀ (pc' : Nat) (H' : Heap) (locs' : List Loc) (ls' : Array Slot) (x : Option Value), az_Ret w M pc' r.1 x → az_Rh w sc s H' r.2.1 r.2.2 → (∀ q ∈ locs', w.1 ≤ q.base) → W p la e R s mid args below meth cd H' locs' (r.2.1.length - c0) (az_sl r.2.1 - s0) Q (F0 mid pc' ls' x.toList)) →
    W p la e R s mid args below meth cd H locs (g.length - c0) (az_sl g - s0) Q (F0 mid pc ls xs)
  | 0, M, c, l, st, g, m, r, h => by simp [az_run] at h
  | n + 1, M, [], l, st, g, m, r, h => by simp [az_run] at h
  | n + 1, M, e0 :: c, l, st, g, m, r, h => by
    intro hokc hM219 p e R s mid args below meth cd H locs ls xs Q c0 s0 pc hpc X hTt hR hcs hrm hRh hl hL hSt hE
    have hpc : e0.1 = pc := by simpa using hpc
    subst hpc
    have ih := az_sound la w sc hw hok hokm hcw n
    simp only [az_okc, Bool.and_eq_true] at hokc
    obtain ⟨⟨⟨hdec, hres⟩, hnext⟩, hokt⟩ := hokc
    have hgo : ∀ {l2 : aL} {st2 : aS} {g2 : aG} {m2 : aM}, az_run sc n M c l2 st2 g2 m2 = some r → az_len e0.2.1 ≠ 0 → c.head?.map (·.1) = some (e0.1 + az_len e0.2.1) := fun hr hl0 => by
      cases c with
      | nil => rw [az_run_nil] at hr; cases hr
      | cons e2 c2 =>
        simp only [Bool.or_eq_true, decide_eq_true_eq] at hnext
        simp [hnext.resolve_left hl0]
    simp only [az_run] at h
    split at h
    · cases h
    · next o ho =>
      have hgr := az_run_grow sc _ _ _ _ _ _ _ _ h
      have hg1 := az_step_grow (l' := o.1) (st' := o.2.1) (g' := o.2.2.1) (m' := o.2.2.2) ho
      exact az_next (l' := o.1) (st' := o.2.1) (g' := o.2.2.1) (m' := o.2.2.2) X hw hTt hR hcs (by omega) hdec hres ho hRh hl hL hSt (fun H' locs' ls' xs' a1 a2 a3 a4 => ih M c _ _ _ _ r h hokt hM219 (hgo h (az_len_0 ho)) X hTt hR (by omega) hrm a1 a2 a3 a4 hE)
    · next o ho =>
      have hs := az_okc_seek M o.1 (az_cd M) (hok M)
      refine az_jump (t := o.1) (st' := o.2) X hdec hres ho hSt (fun xs' a4 => ih M (az_seek o.1 (az_cd M)) _ _ _ _ r h hs hM219 ?_ X hTt hR hcs hrm hRh hl hL a4 hE)
      cases hz : az_seek o.1 (az_cd M) with
      | nil => rw [hz, az_run_nil] at h; cases h
      | cons e2 c2 => simp [az_seek_head _ _ _ _ hz]
    · next v hv =>
      cases h
      obtain ⟨x, rfl, hx⟩ := az_ends (az_okm_at hokm hM219) hdec hv hSt
      exact hE _ _ _ _ _ hx hRh hl
    · next o ho =>
      split at h
      · next hfit =>
        split at h
        · cases h
        · next r2 hr2 =>
          have hgr := az_run_grow sc _ _ _ _ _ _ _ _ h
          have hg2 := az_run_grow sc _ _ _ _ _ _ _ _ hr2
          have hne : az_cd o.1 ≠ [] := fun hz => by rw [hz, az_run_nil] at hr2; cases hr2
          have hM' := az_cd_lt hne
          have hom := az_okm_at hokm hM'
          simp only [az_okm, Bool.and_eq_true, decide_eq_true_eq] at hom
          have hm40 : ∀ N, N < 219 → az_ml N ≤ 40 := fun N hN => by
            have := az_okm_at hokm hN
            simp only [az_okm, Bool.and_eq_true, decide_eq_true_eq] at this
            exact this.1.2.1
          have hMet : ∀ av, az_SR w av ((st.take o.2).reverse) → Met la (az_y o.1) (az_ws o.1) (az_rm o.1 (r2.2.1.length - g.length) (az_sl r2.2.1 - az_sl g)) (az_Pm w sc g m av) (az_Qm w sc r2) (r2.2.1.length - g.length) (az_sl r2.2.1 - az_sl g) (az_A w) := fun av hav => by
            refine Met.ofW (cc := az_by o.1) (maxL := az_ml o.1) (ret := az_re o.1) hom.1.1 rfl ?_
            intro p e s mid args below meth cd s₁ B hml hv
            obtain ⟨rfl, hRh', hTt'⟩ := hv
            have hts := atoms_spec (ws := az_ws o.1) B.pre
            have hr := B.returns
            have hlocks := B.notSynchronized
            rw [lg_entry_eq]
            have key := ih o.1 (az_cd o.1) _ _ g m r2 hr2 (hok o.1) hM' (p := p) (e := e) (R := (headSpec (az_ws o.1) (az_rm o.1 (r2.2.1.length - g.length) (az_sl r2.2.1 - az_sl g))).room) (s := s) (mid := mid) (args := av.toArray) (below := below) (meth := meth) (cd := cd) (H := s.heap) (locs := []) (ls := (lg_sl av ++ List.replicate (az_ml o.1 - (lg_sl av).length) Slot.unset).toArray) (xs := []) (Q := MQ below (az_Qm w sc r2) av.toArray s (r2.2.1.length - g.length) (az_sl r2.2.1 - az_sl g) (az_A w)) (c0 := g.length) (s0 := az_sl g) (pc := 0)
              hom.1.2.2 ⟨B.exec, B.bytes, hml, findClass_of_methodNamed B.named, fun v hv => hts v (List.mem_cons_of_mem _ hv), fun hin => (name_of_methodNamed B.named B.method).1.trans hin⟩ hTt' ⟨Nat.le_refl _, Nat.le_refl _⟩ ⟨Nat.le_refl _, Nat.le_refl _⟩ ⟨Nat.le_refl _, Nat.le_refl _⟩ hRh' (fun q hq => by cases hq) (az_entry hw hav hfit) trivial
              (fun pc' H' locs' ls' x hx a1 a2 => by
                have hq : ∀ (x : Option Value), az_rvO w r2.1 x → ∀ t : State, t.heap = H' → s.WarmedH t.vm → az_Qm w sc r2 av.toArray s (.returned x) t := fun x hx t ht hW => ⟨x, rfl, hx, by rw [ht]; exact az_Rh_moved hW.alike a1⟩
                rcases hx with ⟨e1, rfl, hd, hre⟩ | ⟨z, ty, e1, rfl, hd, hre, hn⟩ | ⟨z, e1, rfl, hd, hre⟩ | ⟨rr, e1, rfl, hd, nn, hre⟩
                · exact W.vret B.exec B.bytes (hr.trans hre) (hq _ (by rw [e1]; trivial)) a2 hd hlocks
                · exact W.zret B.exec B.bytes (hr.trans hre) hn (hq _ (by rw [e1]; exact ⟨z, rfl, rfl⟩)) a2 hd hlocks
                · exact W.lret B.exec B.bytes (hr.trans hre) (hq _ (by rw [e1]; exact ⟨z, rfl, rfl⟩)) a2 hd hlocks
                · exact W.aret B.exec B.bytes (hr.trans hre) (Or.inl ⟨nn, rfl⟩) (az_rf_or hw rr) (hq _ (by rw [e1]; rfl)) a2 hd hlocks)
            rw [Nat.sub_self, Nat.sub_self] at key
            exact key
          refine (az_call (M' := o.1) (k := o.2) (r := r2) X hw hTt hR hdec hres ho hRh hL hSt hcw hm40 hM219 hMet (by omega) (fun H' L x b1 b2 b3 => ?_)).2.2
          have hl3 : az_len e0.2.1 = 3 := az_len_3 ho
          refine W.cs (cells' := r2.2.1.length - c0) (slots' := az_sl r2.2.1 - s0) (by omega) (by omega) ?_
          have hgo2 := hgo h (by omega)
          rw [hl3] at hgo2
          refine ih M c _ _ _ _ r h hokt hM219 hgo2 X hTt hR (by omega) hrm b2 (az_hA hl b3) hL ?_ hE
          refine az_SR_app ?_ (az_SR_drop _ hSt)
          cases hr1 : r2.1 with
          | none => rw [hr1] at b1; cases x with
            | none => trivial
            | some y => exact b1.elim
          | some v => rw [hr1] at b1; cases x with
            | none => exact b1.elim
            | some y => exact ⟨b1, trivial⟩
      · cases h
