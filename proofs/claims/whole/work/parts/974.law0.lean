/-! the law as far as its loop -/
/-- a run without a script is a run with one -/
theorem az_step_sc {sc : aX} {M : Nat} {i : Instr} {f : List Int} {l : aL} {s : aS} {g : aG} {m : aM} {o : aO} (h : az_step none M i f l s g m = some o) : az_step sc M i f l s g m = some o := by
  have key : ∀ ts, az_ald none l s g m ts = some o → az_ald sc l s g m ts = some o := fun ts h => by
    unfold az_ald at h ⊢
    split at h
    · next j a s1 =>
      split at h
      · cases h
      · next ha =>
        simp only [if_neg ha]
        exact h
    · cases h
  cases i with
  | iaload => exact key _ h
  | baload => exact key _ h
  | arraylength =>
    have h : az_aln none l s g m = some o := h
    show az_aln sc l s g m = some o
    unfold az_aln at h ⊢
    split at h
    · next a s1 =>
      split at h
      · cases h
      · next ha =>
        simp only [if_neg ha]
        exact h
    · cases h
  | _ => exact h
theorem az_run_sc {sc : aX} : ∀ (n M : Nat) (c : aC) (l : aL) (s : aS) (g : aG) (m : aM) (r : Option aV × aG × aM), az_run none n M c l s g m = some r → az_run sc n M c l s g m = some r
  | 0, M, c, l, s, g, m, r, h => by simp [az_run] at h
  | n + 1, M, [], l, s, g, m, r, h => by simp [az_run] at h
  | n + 1, M, e :: c, l, s, g, m, r, h => by
    have hs : ∀ o, az_step none M e.2.1 e.2.2 l s g m = some o → az_step sc M e.2.1 e.2.2 l s g m = some o := fun o => az_step_sc
    simp only [az_run] at h ⊢
    cases hz : az_step none M e.2.1 e.2.2 l s g m with
    | none => rw [hz] at h; cases h
    | some o =>
      rw [hz] at h
      rw [hs o hz]
      rcases o with o | o | v | o
      · exact az_run_sc n _ _ _ _ _ _ _ h
      · exact az_run_sc n _ _ _ _ _ _ _ h
      · exact h
      · simp only [] at h ⊢
        split at h
        · next hf =>
          rw [if_pos hf]
          split at h
          · cases h
          · next r2 hr2 =>
            rw [az_run_sc n _ _ _ _ _ _ _ hr2]
            exact az_run_sc n _ _ _ _ _ _ _ h
        · cases h
theorem az_run_nx {sc : aX} {n M : Nat} {e : aI} {c : aC} {l : aL} {s : aS} {g : aG} {m : aM} {r : Option aV × aG × aM} {o : aL × aS × aG × aM} (h : az_step sc M e.2.1 e.2.2 l s g m = some (.inl o)) (k : az_run sc n M c o.1 o.2.1 o.2.2.1 o.2.2.2 = some r) : az_run sc (n + 1) M (e :: c) l s g m = some r := by
  simp only [az_run, h]
  exact k
theorem az_run_cl {sc : aX} {n k M : Nat} {e : aI} {c : aC} {l : aL} {s : aS} {g : aG} {m : aM} {r r2 : Option aV × aG × aM} {o : Nat × Nat} (h : az_step sc M e.2.1 e.2.2 l s g m = some (.inr (.inr (.inr o)))) (hf : (az_args ((s.take o.2).reverse)).length ≤ az_ml o.1) (h2 : az_run sc k o.1 (az_cd o.1) (az_ent ((s.take o.2).reverse) (az_ml o.1)) [] g m = some r2) (h3 : az_run sc n M c l (r2.1.toList ++ s.drop o.2) r2.2.1 r2.2.2 = some r) : az_run sc (n + k + 1) M (e :: c) l s g m = some r := by
  simp only [az_run, h, if_pos hf]
  rw [Nat.add_comm n k, az_run_up sc k _ _ _ _ _ _ _ h2 n]
  simp only []
  rw [Nat.add_comm k n]
  exact az_run_up sc n _ _ _ _ _ _ _ h3 k
set_option maxRecDepth 100000 in
theorem az_law0 (L : Nat) (xs : Int → Int) : ∃ m : aM, (∀ a j : Nat, a < 293 → j < (az_G.getD a (0, 0, [])).2.1 → m a (j : Int) = az_mi a (j : Int)) ∧ ∀ Q, az_E (some (L, xs)) az_G 218 zL_law_18 [some (.inr (.inr 1)), some (.inr (.inr 20)), some (.inr (.inr 280)), some (.inl 0)] [] m Q → ∃ n v m', az_run (some (L, xs)) n 218 (az_cd 218) (az_ent [.inr (.inr 1)] (az_ml 218)) [] az_g0 az_m0 = some (v, az_G, m') ∧ Q v m' := by
  have h1 := az_r1_ok
  have h2 := az_r2_ok
  cases e1 : az_r1 with
  | none => rw [e1] at h1; cases h1
  | some r1 =>
    obtain ⟨v1, g1, m1⟩ := r1
    rw [e1] at h1
    simp only [Option.map_some, Option.some.injEq, Prod.mk.injEq] at h1
    obtain ⟨rfl, rfl⟩ := h1
    cases e2 : az_r2 with
    | none => rw [e2] at h2; cases h2
    | some r2 =>
      obtain ⟨v2, g2, m2⟩ := r2
      rw [e2] at h2
      simp only [az_chk, Bool.and_eq_true, decide_eq_true_eq] at h2
      obtain ⟨⟨rfl, rfl⟩, h3⟩ := h2
      have e2' : az_run none 5000 8 (az_cd 8) (az_ent [.inr (.inr 280)] (az_ml 8)) [] (az_G1 ++ [(8, 25, List.replicate 25 0)]) (az_bl m1 279) = some (none, az_G, m2) := by
        have := e2
        unfold az_r2 at this
        rw [e1] at this
        exact this
      refine ⟨m2, fun a j ha hj => ?_, fun Q hQ => ?_⟩
      · exact decide_eq_true_eq.mp (List.all_eq_true.mp (List.all_eq_true.mp h3 a (List.mem_range.mpr (by rw [show az_G.length = 293 by decide +kernel]; exact ha))) j (List.mem_range.mpr hj))
      · obtain ⟨n, v, m', q1, q2⟩ := hQ
        refine ⟨((n + 1 + 1 + 1) + 5000 + 1 + 1 + 1 + 1) + 5000 + 1 + 1 + 1, v, m', ?_, q2⟩
        show az_run _ _ 218 zL_law_0 _ _ _ _ = _
        unfold zL_law_0
        have e1' : az_run none 5000 7 (az_cd 7) (az_ent [.inr (.inr 20)] (az_ml 7)) [] (az_g0 ++ [(7, 10, List.replicate 10 0)]) (az_bl az_m0 19) = some (none, az_G1, m1) := e1
        have f1 := az_run_sc (sc := some (L, xs)) 5000 _ _ _ _ _ _ _ e1'
        have f2 := az_run_sc (sc := some (L, xs)) 5000 _ _ _ _ _ _ _ e2'
        clear e1 e2 e1' e2' h3
        refine az_run_nx (o := (_, [.inr (.inr 20)], az_g0 ++ [(7, 10, List.replicate 10 0)], az_bl az_m0 19)) rfl ?_
        refine az_run_nx (o := (_, [.inr (.inr 20), .inr (.inr 20)], az_g0 ++ [(7, 10, List.replicate 10 0)], az_bl az_m0 19)) rfl ?_
        refine az_run_cl (k := 5000) (o := (7, 1)) (r2 := (none, az_G1, m1)) rfl (Nat.le_of_ble_eq_true rfl) f1 ?_
        refine az_run_nx (o := ([some (.inr (.inr 1)), some (.inr (.inr 20)), none, none], [], az_G1, m1)) rfl ?_
        refine az_run_nx (o := ([some (.inr (.inr 1)), some (.inr (.inr 20)), none, none], [.inr (.inr 280)], az_G1 ++ [(8, 25, List.replicate 25 0)], az_bl m1 279)) (by simp only [az_step, az_new]; rw [show az_G1.length = 279 by decide +kernel, if_pos (by decide)]; rfl) ?_
        refine az_run_nx (o := ([some (.inr (.inr 1)), some (.inr (.inr 20)), none, none], [.inr (.inr 280), .inr (.inr 280)], az_G1 ++ [(8, 25, List.replicate 25 0)], az_bl m1 279)) rfl ?_
        refine az_run_cl (k := 5000) (o := (8, 1)) (r2 := (none, az_G, m2)) rfl (Nat.le_of_ble_eq_true rfl) f2 ?_
        refine az_run_nx (o := ([some (.inr (.inr 1)), some (.inr (.inr 20)), some (.inr (.inr 280)), none], [], az_G, m2)) rfl ?_
        refine az_run_nx (o := ([some (.inr (.inr 1)), some (.inr (.inr 20)), some (.inr (.inr 280)), none], [.inl 0], az_G, m2)) rfl ?_
        refine az_run_nx (o := ([some (.inr (.inr 1)), some (.inr (.inr 20)), some (.inr (.inr 280)), some (.inl 0)], [], az_G, m2)) rfl ?_
        exact q1
