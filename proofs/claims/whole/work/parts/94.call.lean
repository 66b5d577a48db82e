/-! a call of ours -/
section CA
variable {p : Program} {la : Launch} {e : Env} {R : Room} {s : State} {mid : MethodId} {args : Array Value} {below : List Frame} {meth : Method} {cd : Code} {H : Heap} {locs : List Loc} {cells slots : Nat} {Q : State → Prop}
variable {w : aW} {sc : aX} {M pc : Nat} {ls : Array Slot} {xs rest : List Value} {l : aL} {st : aS} {g : aG} {m : aM} {f : List Int}
theorem az_i_call {M' k : Nat} (h : az_inv l st g m f = some (.inr (.inr (.inr (M', k))))) : ∃ (kd Mi n c : Int) (q : List Int), f = kd :: Mi :: n :: c :: q ∧ kd ≠ 9 ∧ kd ≠ 7 ∧ M' = Mi.toNat ∧ k = n.toNat ∧ n.toNat ≤ st.length ∧ (st.length : Int) ≤ n + 4 ∧ (kd = 2 ∨ kd = 5 ∨ (kd ≠ 2 ∧ kd ≠ 5 ∧ ∃ (a tg n2 : Nat) (rs : List Nat), st[n.toNat - 1]? = some (.inr (.inr (a + 1))) ∧ g[a]? = some (tg, n2, rs) ∧ (tg : Int) = c)) := by
  unfold az_inv at h
  split at h
  · split at h
    · split at h
      · simp [az_nx] at h
      · cases h
    · cases h
  · revert h
    unfold az_cpy
    intro h
    repeat' split at h
    all_goals simp [az_nx] at h
  · repeat' split at h
    all_goals simp [az_nx] at h
  · next kd Mi n c q k9 k7 =>
    split at h
    · next hc =>
      split at h
      · next hk =>
        simp only [Option.some.injEq, Sum.inr.injEq, Prod.mk.injEq] at h
        exact ⟨kd, Mi, n, c, q, rfl, k9, k7, h.1.symm, h.2.symm, hc.1, hc.2, by rcases hk with hk | hk <;> simp [hk]⟩
      · next hk =>
        split at h
        · next a ha =>
          split at h
          · next tg n2 rs hg =>
            split at h
            · next ht =>
              simp only [Option.some.injEq, Sum.inr.injEq, Prod.mk.injEq] at h
              exact ⟨kd, Mi, n, c, q, rfl, k9, k7, h.1.symm, h.2.symm, hc.1, hc.2, Or.inr (Or.inr ⟨fun z => hk (Or.inl z), fun z => hk (Or.inr z), a, tg, n2, rs, ha, hg, ht⟩)⟩
            · cases h
          · cases h
        · cases h
    · cases h
  · cases h
theorem az_i_invk {o : String} {x v : Nat} {kd Mi n c : Int} {q : List Int} (h : az_invk M o x v (kd :: Mi :: n :: c :: q) = true) (h9 : kd ≠ 9) (h7 : kd ≠ 7) : ∃ q1 q2 q3 q4, q = [q1, q2, q3, q4] ∧ az_invc M o x v kd Mi n c q1 q2 q3 q4 = true := by
  rcases q with _ | ⟨q1, _ | ⟨q2, _ | ⟨q3, _ | ⟨q4, _ | ⟨q5, q6⟩⟩⟩⟩⟩
  · revert h; unfold az_invk; split <;> simp_all
  · revert h; unfold az_invk; split <;> simp_all
  · revert h; unfold az_invk; split <;> simp_all
  · revert h; unfold az_invk; split <;> simp_all
  · refine ⟨q1, q2, q3, q4, rfl, ?_⟩
    revert h; unfold az_invk; split <;> simp_all
  · revert h; unfold az_invk; split <;> simp_all
theorem az_recv {a tg n : Nat} {rs : List Nat} (h : az_Rh w sc s H g m) (hg : g[a]? = some (tg, n, rs)) (ht : tg ≤ 9) : az_rf w (a + 1) = .ref (az_ad w a) ∧ ∃ cell : Cell, H[az_ad w a]? = some cell ∧ cell.vm.isStatics = false ∧ s.vm.findClass (az_R tg) = some cell.cls := by
  refine ⟨az_rf_s (az_ad_ne1 h hg (by omega)), ?_⟩
  by_cases h9 : tg < 9
  · obtain ⟨-, -, -, fs, -, ⟨cell, q1, q2, q3, -⟩, -⟩ := az_obj h hg h9
    exact ⟨cell, q1, by rw [q3]; rfl, by rw [q2]; exact (h.1.1 tg _ (az_cls_at h9)).2.1⟩
  · have h9 : tg = 9 := by omega
    subst h9
    have ha : a < 19 := Nat.not_le.mp fun ha => by
      rcases h.2.2.2.2.2.2 a 9 n rs ha hg with ⟨h8, -⟩ | ⟨h8, -⟩ <;> omega
    rw [(h.2.2.2.2.2.1 a ha).1] at hg
    rcases az_g0_tags a ha 9 n rs hg with ⟨-, e2, -⟩ | ⟨i, hi, -, e2, -⟩ | ⟨j, hj, e1, -, e3⟩ | ⟨-, e2⟩
    · omega
    · omega
    · obtain ⟨⟨cell, c1, c2, c3, -⟩, -⟩ := h.2.1.2.2.2.2.1 j hj
      subst e1
      rw [az_ad_lo ha]
      exact ⟨cell, c1, c2, c3⟩
    · omega
theorem az_split {k : Nat} (hk : k ≤ xs.length) {v : Value} (h1 : 1 ≤ k) (hv : xs[k - 1]? = some v) : ∃ As : List Value, (xs.take k).reverse = v :: As ∧ xs = As.reverse ++ v :: xs.drop k ∧ As.length = k - 1 := by
  refine ⟨(xs.take (k - 1)).reverse, ?_, ?_, by simp; omega⟩
  · have : xs.take k = xs.take (k - 1) ++ [v] := by
      have h2 := List.take_add_one (l := xs) (i := k - 1)
      rw [show k - 1 + 1 = k by omega, hv] at h2
      exact h2
    rw [this]
    simp
  · rw [List.reverse_reverse]
    have h3 : xs = xs.take (k - 1) ++ xs.drop (k - 1) := (List.take_append_drop _ _).symm
    have h4 : xs.drop (k - 1) = v :: xs.drop k := by
      have hl : k - 1 < xs.length := by omega
      rw [List.drop_eq_getElem_cons hl, show k - 1 + 1 = k by omega]
      rw [List.getElem?_eq_getElem hl] at hv
      cases hv
      rfl
    rw [← h4]
    exact h3
set_option maxHeartbeats 4000000 in
theorem az_call {i : Instr} {M' k mc ms : Nat} {r : Option aV × aG × aM} (X : az_Cx M p s mid args meth cd) (hw : az_wok w) (hTt : az_Tt w s) (hR : M + 1 ≤ R.frames ∧ 64 * (M + 1) ≤ R.locals) (hdec : az_dec (az_by M) pc i = true) (hres : az_res M pc i f = true) (hst : az_step sc M i f l st g m = some (.inr (.inr (.inr (M', k))))) (hRh : az_Rh w sc s H g m) (hL : az_LR w ls (az_ml M) l) (hSt : az_SR w xs st)
    (hcw : ∀ N, N < 218 → az_cw N) (hml' : ∀ N, N < 219 → az_ml N ≤ 40) (hM218 : M < 219)
    (hM : ∀ av, az_SR w av ((st.take k).reverse) → Met la (az_y M') (az_ws M') (az_rm M' mc ms) (az_Pm w sc g m av) (az_Qm w sc r) mc ms (az_A w)) (hroom : cells + mc ≤ R.cells ∧ slots + ms ≤ R.slots)
    (K : ∀ (H' : Heap) (L : List Loc) (x : Option Value), az_rvO w r.1 x → az_Rh w sc s H' r.2.1 r.2.2 → (∀ q ∈ L, w.1 ≤ q.base) → W p la e R s mid args below meth cd H' (locs ++ L) (cells + mc) (slots + ms) Q (F0 mid (pc + 3) ls (x.toList ++ xs.drop k))) : M' < M ∧ az_len i = 3 ∧ W p la e R s mid args below meth cd H locs cells slots Q (F0 mid pc ls xs) := by
  obtain ⟨hx, hb, hml, hown, hts, hnm⟩ := X
  have hlen := az_SR_len hSt
  have hpre : ∀ (av : List Value) (U : State), U.heap = H → s.WarmedH U.vm → az_Pm w sc g m av av.toArray U := fun av U hU hW => ⟨rfl, by rw [hU]; exact az_Rh_moved hW.alike hRh, az_Tt_warm hW hTt⟩
  have fin : ∀ {a : Array Value} {rest st0 : List Value}, va_Run p la e R s mid args below meth cd H locs cells slots mc ms (F0 mid pc ls st0) rest (az_Qm w sc r a) (az_A w) → rest = xs.drop k → W p la e R s mid args below meth cd H locs cells slots Q (F0 mid pc ls st0) := by
    intro a rest st0 hr hrest
    subst hrest
    refine az_W_run hr (fun v st₀ t L hal hq hLl => ?_)
    obtain ⟨x1, hx1, hx2, hx3⟩ := hq
    cases hx1
    exact K t.heap L _ hx2 (az_Rh_moved hal.symm hx3) hLl
  have hwd : k ≤ st.length → st.length ≤ k + 4 → ((xs.drop k).map fun v => v.category).sum ≤ 8 := fun h1 h2 => by
    have := az_SR_words hw (az_SR_drop k hSt)
    rw [List.length_drop] at this
    omega
  have hroom2 : M' < M → (az_rm M' mc ms).frames + 1 ≤ R.frames ∧ 8 + (az_ml M' + 11) + (az_rm M' mc ms).locals ≤ R.locals := fun h => by
    have := hml' M' (by omega)
    show M' + 1 + 1 ≤ R.frames ∧ 8 + (az_ml M' + 11) + 64 * (M' + 1) ≤ R.locals
    omega
  cases i with
  | invokevirtual x =>
    have hd := az_dec_ok hdec (by simp [az_len])
    obtain ⟨kd, Mi, n, c, q, rfl, k9, k7, rfl, rfl, n1, n2, hh⟩ := az_i_call hst
    obtain ⟨q1, q2, q3, q4, rfl, hrs⟩ := az_i_invk (x := x) (v := 1) hres k9 k7
    · simp only [az_invc, Bool.and_eq_true, decide_eq_true_eq] at hrs
      obtain ⟨⟨m0, m1, m2⟩, ⟨⟨u1, u2⟩, u3⟩, ⟨⟨⟨⟨v1, v2, v3, v4, v5⟩, v6⟩, v7⟩, v8⟩, v9⟩ := hrs
      subst v6
      rcases hh with hh | hh | ⟨-, -, a, tg, n3, rs, ha, hg, htg⟩
      · omega
      · omega
      · have hMlt : Mi.toNat < M := by omega
        refine ⟨hMlt, rfl, ?_⟩
        have hct : c.toNat = tg := by omega
        obtain ⟨e1, cell, c1, c2, c3⟩ := az_recv hRh hg (by omega)
        have hxv : xs[n.toNat - 1]? = some (.ref (az_ad w a)) := by
          have hl1 : n.toNat - 1 < xs.length := by omega
          have := (az_SR_at.mp hSt).2 (n.toNat - 1) _ _ (List.getElem?_eq_getElem hl1) ha
          rw [List.getElem?_eq_getElem hl1, show xs[n.toNat - 1] = az_rf w (a + 1) from this, e1]
        obtain ⟨As, a1, a2, a3⟩ := az_split (by omega) (by omega) hxv
        refine fin (va_runV (As := As) (rest := xs.drop n.toNat) (b := az_ad w a) (C := (az_y Mi.toNat).cls) (n := n.toNat - 1) ⟨hx, hb, hml, hown, hts⟩ (hM (.ref (az_ad w a) :: As) (by rw [← a1]; exact az_SR_rev (az_SR_take _ hSt)))
          (cwV (n.toNat - 1) hts (az_good_cons (az_hw_in v7) (az_good_cons (az_hw_in v8) (az_good_cons (az_hw_in v9) (az_good_cons (az_hw_in u3) (az_good_in _ (hcw _ (by omega))))))) rfl rfl rfl ⟨rfl, u1, u2, v5⟩ (hroom2 hMlt))
          ⟨az_Pm_blind, ⟨cell, c1, c2, by rw [← v2, hct]; exact c3⟩, fun U hU hW => hpre _ U hU hW⟩ rfl a3 hL.1 a2 (lv_room (hwd n1 (by omega))) hd hroom) rfl
  | invokestatic x =>
    have hd := az_dec_ok hdec (by simp [az_len])
    obtain ⟨kd, Mi, n, c, q, rfl, k9, k7, rfl, rfl, n1, n2, hh⟩ := az_i_call hst
    obtain ⟨q1, q2, q3, q4, rfl, hrs⟩ := az_i_invk (x := x) (v := 2) hres k9 k7
    · simp only [az_invc, Bool.and_eq_true, Bool.or_eq_true, decide_eq_true_eq] at hrs
      obtain ⟨⟨m0, m1, m2⟩, ⟨⟨u1, u2⟩, u3⟩, ⟨v1, v2⟩, v3⟩ := hrs
      have hMlt : Mi.toNat < M := by omega
      refine ⟨hMlt, rfl, ?_⟩
      clear hh
      have hst4 : st.length ≤ n.toNat + 4 := by omega
      have hMi : Mi.toNat < 218 := by omega
      have hav : (xs.take n.toNat).reverse.reverse ++ xs.drop n.toNat = xs := by rw [List.reverse_reverse]; exact List.take_append_drop _ _
      have hal : (xs.take n.toNat).reverse.length = n.toNat := by simp; omega
      rcases v2 with ⟨-, v2⟩ | ⟨-, v2⟩
      · exact fin (va_runS (As := (xs.take n.toNat).reverse) (rest := xs.drop n.toNat) (n := n.toNat) ⟨hx, hb, hml, hown, hts⟩ (hM _ (az_SR_rev (az_SR_take _ hSt)))
          (va_cwS n.toNat hts (az_good_cons (az_hw_in v2) (az_good_cons (az_hw_in v3) (az_good_cons (az_hw_in u3) (az_good_in _ (hcw _ hMi))))) rfl rfl rfl ⟨u1, u2, v1⟩ (hroom2 hMlt))
          ⟨az_Pm_blind, fun U hU hW => hpre _ U hU hW⟩ rfl hal hL.1 hav.symm (lv_room (hwd n1 hst4)) hd hroom) rfl
      · exact fin (va_runSN (As := (xs.take n.toNat).reverse) (rest := xs.drop n.toNat) (n := n.toNat) (host := "LastSun") ⟨hx, hb, hml, hown, hts⟩ (hM _ (az_SR_rev (az_SR_take _ hSt)))
          ⟨va_cnB n.toNat hts (az_good_in _ (hcw _ hMi)) rfl rfl rfl (hTt.1 _ v2) (hts _ (az_hw_in u3)) ⟨u1, u2, v1⟩ (hroom2 hMlt), hts _ (az_hw_in v3), trivial⟩
          ⟨az_Pm_blind, fun U hU hW => hpre _ U hU hW⟩ rfl hal hL.1 hav.symm (lv_room (hwd n1 hst4)) hd hroom) rfl
  | invokespecial x =>
    have hd := az_dec_ok hdec (by simp [az_len])
    obtain ⟨kd, Mi, n, c, q, rfl, k9, k7, rfl, rfl, n1, n2, hh⟩ := az_i_call hst
    obtain ⟨q1, q2, q3, q4, rfl, hrs⟩ := az_i_invk (x := x) (v := 3) hres k9 k7
    · simp only [az_invc, Bool.and_eq_true, Bool.or_eq_true, decide_eq_true_eq] at hrs
      obtain ⟨⟨m0, m1, m2⟩, ⟨⟨u1, u2⟩, u3⟩, ⟨⟨⟨v1, v2, v3, v4, v5⟩, v6⟩, v7⟩, v8, v9⟩ := hrs
      rcases hh with hh | hh | ⟨-, -, a, tg, n3, rs, ha, hg, htg⟩
      · omega
      · omega
      · have hMlt : Mi.toNat < M := by omega
        refine ⟨hMlt, rfl, ?_⟩
        obtain ⟨e1, cell, c1, c2, c3⟩ := az_recv hRh hg (by omega)
        have hxv : xs[n.toNat - 1]? = some (.ref (az_ad w a)) := by
          have hl1 : n.toNat - 1 < xs.length := by omega
          have := (az_SR_at.mp hSt).2 (n.toNat - 1) _ _ (List.getElem?_eq_getElem hl1) ha
          rw [List.getElem?_eq_getElem hl1, show xs[n.toNat - 1] = az_rf w (a + 1) from this, e1]
        obtain ⟨As, a1, a2, a3⟩ := az_split (by omega) (by omega) hxv
        have hM2 := hM (.ref (az_ad w a) :: As) (by rw [← a1]; exact az_SR_rev (az_SR_take _ hSt))
        have hws : az_ws Mi.toNat = Cond.code (az_y Mi.toNat) (az_by Mi.toNat) (az_ml Mi.toNat) none :: az_good := by unfold az_ws; rw [v9]
        rcases v6 with ⟨-, v6⟩ | ⟨-, v6⟩
        · exact fin (va_runI (As := As) (rest := xs.drop n.toNat) (b := az_ad w a) (n := n.toNat - 1) ⟨hx, hb, hml, hown, hts⟩ hM2
            (cwI (n.toNat - 1) hts (az_good_in _ (hcw _ (by omega))) hws rfl rfl (hts _ (az_hw_in u3)) (hts _ (az_hw_in v6)) (hts _ (az_hw_in v7)) v8 ⟨u1, u2, v5⟩ (hroom2 hMlt))
            ⟨az_Pm_blind, fun U hU hW => hpre _ U hU hW⟩ rfl a3 hL.1 a2 (lv_room (hwd n1 (by omega))) hd hroom) rfl
        · exact fin (va_runIN (As := As) (rest := xs.drop n.toNat) (b := az_ad w a) (n := n.toNat - 1) (host := "LastSun") ⟨hx, hb, hml, hown, hts⟩ hM2
            ⟨va_cnB (n.toNat - 1) hts (az_good_in _ (hcw _ (by omega))) hws rfl rfl (hTt.1 _ v6) (hts _ (az_hw_in u3)) ⟨u1, u2, v5⟩ (hroom2 hMlt), v8, hts _ (az_hw_in v7)⟩
            ⟨az_Pm_blind, fun U hU hW => hpre _ U hU hW⟩ rfl a3 hL.1 a2 (lv_room (hwd n1 (by omega))) hd hroom) rfl
  | _ =>
    exfalso
    revert hst
    simp only [az_step, az_nx, az_jmp, az_if2, az_if1, az_tsw, az_lsw, az_ldI, az_ldL, az_ldA, az_stI, az_stL, az_stA, az_b2, az_l2, az_li, az_u1, az_d2, az_dl2, az_ald, az_aald, az_aln, az_iast, az_bast, az_aast, az_get, az_put, az_gst, az_new, az_nwa, az_ldc, az_ldc2, az_iinc, az_irt]
    intro hst
    repeat' split at hst
    all_goals simp at hst
end CA
