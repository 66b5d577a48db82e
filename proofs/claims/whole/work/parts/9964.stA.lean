/-! STEPS: what changes nothing that counts -/
section SA
variable {sc : aX} {m : aM}
theorem st_fault (hI : iA m) : stp sc m 77 78 [.inr (.inr 20)] [.inr (.inr 280)] := by
  refine st_same (x := m 279 6) hI ?_ c_X8_fault
  rw [← hI.2.2.2.2.2.1.2.2.2]
  exact c_X7_fault
theorem st_status (hI : iA m) : stp sc m 216 217 [.inr (.inr 20)] [.inr (.inr 280)] := by
  refine st_same (x := m 279 3) hI ?_ c_X8_status
  rw [← hI.2.2.2.2.1]
  exact c_X7_status
theorem st_guest (hI : iA m) (g w : Int) : stp sc m 124 125 [.inr (.inr 20), .inl g, .inl w] [.inr (.inr 280), .inl g, .inl w] := st_same hI (c_X7_guest hI.1) (c_X8_guest g w hI.1.2.1)
theorem st_price (hI : iA m) (h : Int) : stp sc m 126 127 [.inr (.inr 20), .inl h] [.inr (.inr 280), .inl h] := st_same hI (c_X7_price hI.1) (c_X8_price h (by have := hI.1.2.2.2.1; omega) (nOK_p hI.1.2.1))
theorem st_owes (hI : iA m) (g n : Int) : stp sc m 176 177 [.inr (.inr 20), .inl g, .inl n] [.inr (.inr 280), .inl g, .inl n] := st_same hI (c_X7_owes hI.1) (c_X8_owes g n (nOK_2 hI.1.2.1) (fun g g0 g1 => (nOK_g hI.1.2.1 g g0 g1).2.2.2.2.1))
theorem st_kind (hI : iA m) (g : Int) : stp sc m 182 183 [.inr (.inr 20), .inl g] [.inr (.inr 280), .inl g] := st_same hI (c_X7_kind hI.1) (c_X8_kind g (nOK_2 hI.1.2.1))
theorem st_trace (hI : iA m) (i : Int) : stp sc m 209 210 [.inr (.inr 20), .inl i] [.inr (.inr 280), .inl i] := st_same hI (c_X7_trace hI.2.2.2.2.2.2.1.1 hI.2.2.2.2.2.2.1.2.1 hI.2.2.2.2.2.2.1.2.2) (c_X8_trace i hI.2.2.2.2.2.2.1.2.1)
theorem st_count (hI : iA m) (w : Int) : stp sc m 214 215 [.inr (.inr 20), .inl w] [.inr (.inr 280), .inl w] := st_same hI (c_X7_count hI.1 hI.2.2.2.1 hI.2.1.1 hI.2.2.2.2.2.1.1) (c_X8_count hI.1.2.1)
theorem iD_A (hI : iA m) : iD m := ⟨hI.1, hI.2.2.2.1, hI.2.2.2.2.1⟩
theorem st_worth (hI : iA m) (row g w : Int) : stp sc m 132 136 [.inr (.inr 20), .inl row, .inl g, .inl w] [.inr (.inr 280), .inl row, .inl g, .inl w] := by
  refine st_q hI (c_X7_worth (iD_A hI)) (fun m1 hf => ?_)
  have hh := frC_hi hf
  have hr := rH_fr hI hh
  have h := c_X8_worth (sc := sc) (row := row) (g := g) (w := w) hr.1 hr.2.1 hr.2.2
  rw [pTl_hi hh, pIt_hi hh, hh 284 (by decide)] at h
  exact h
theorem st_best (hI : iA m) (row g : Int) : stp sc m 138 140 [.inr (.inr 20), .inl row, .inl g] [.inr (.inr 280), .inl row, .inl g] := by
  refine st_q hI (c_X7_best (iD_A hI)) (fun m1 hf => ?_)
  have hh := frC_hi hf
  have hr := rH_fr hI hh
  have h := c_X8_best (sc := sc) (row := row) (g := g) hr.1 hr.2.1 hr.2.2
  rw [pTl_hi hh, pIt_hi hh, hh 284 (by decide)] at h
  exact h
theorem st_rounds (hI : iA m) (row g : Int) : stp sc m 142 144 [.inr (.inr 20), .inl row, .inl g] [.inr (.inr 280), .inl row, .inl g] := by
  refine st_q hI (c_X7_rounds (iD_A hI)) (fun m1 hf => ?_)
  have hh := frC_hi hf
  have hr := rH_fr hI hh
  have h := c_X8_rounds (sc := sc) (row := row) (g := g) hr.1 hr.2.1 hr.2.2
  rw [pTl_hi hh, pIt_hi hh, hh 284 (by decide)] at h
  exact h
theorem st_rests (hI : iA m) (k : Int) : stp sc m 151 155 [.inr (.inr 20), .inl k] [.inr (.inr 280), .inl k] := by
  refine st_q hI (c_X7_rests hI.1) (fun m1 hf => ?_)
  have hh := frC_hi hf
  have hr := rH_fr hI hh
  have h := c_X8_rests (sc := sc) (k := k) hr.1 hr.2.2
  unfold pRests at h ⊢
  rw [hh 284 (by decide), hh 279 (by decide), ← hI.2.2.2.2.1] at h
  exact h
theorem st_pact (hI : iA m) (row a b w : Int) : stp sc m 157 158 [.inr (.inr 20), .inl row, .inl a, .inl b, .inl w] [.inr (.inr 280), .inl row, .inl a, .inl b, .inl w] := by
  refine st_q hI (c_X7_pact (iD_A hI)) (fun m1 hf => ?_)
  have hh := frC_hi hf
  have hr := rH_fr hI hh
  have h := c_X8_pact (sc := sc) (row := row) (a := a) (b := b) (w := w) hr.1 hr.2.1 hr.2.2
  rw [pTl_hi hh, pIt_hi hh, hh 284 (by decide)] at h
  exact h
theorem st_alone (hI : iA m) (g c w : Int) : stp sc m 161 162 [.inr (.inr 20), .inl g, .inl c, .inl w] [.inr (.inr 280), .inl g, .inl c, .inl w] := by
  refine st_q hI (c_X7_alone hI.1) (fun m1 hf => ?_)
  have hh := frC_hi hf
  have hr := rH_fr hI hh
  have h := c_X8_alone (sc := sc) (g := g) (cc := c) (wh := w) hr.1 hr.2.2
  rw [hh 284 (by decide), hh 279 (by decide), ← hI.2.2.2.2.1] at h
  exact h
theorem st_explained (hI : iA m) (row k : Int) : stp sc m 166 167 [.inr (.inr 20), .inl row, .inl k] [.inr (.inr 280), .inl row, .inl k] := by
  refine st_q hI (c_X7_explained (iD_A hI)) (fun m1 hf => ?_)
  have hh := frC_hi hf
  have hr := rH_fr hI hh
  have h := c_X8_explained (sc := sc) (row := row) (k := k) hr.1 hr.2.1 hr.2.2
  rw [pTl_hi hh, pIt_hi hh, hh 284 (by decide)] at h
  exact h
theorem st_laws (hI : iA m) (row w : Int) : stp sc m 171 172 [.inr (.inr 20), .inl row, .inl w] [.inr (.inr 280), .inl row, .inl w] := by
  refine st_q hI (c_X7_laws (iD_A hI)) (fun m1 hf => ?_)
  have hh := frC_hi hf
  have hr := rH_fr hI hh
  have h := c_X8_laws (sc := sc) (row := row) (w := w) hr.1 hr.2.1 hr.2.2
  rw [pTl_hi hh, pIt_hi hh, hh 284 (by decide)] at h
  exact h
theorem st_owner (hI : iA m) (row w : Int) : stp sc m 174 175 [.inr (.inr 20), .inl row, .inl w] [.inr (.inr 280), .inl row, .inl w] := by
  refine st_q hI (c_X7_owner (iD_A hI)) (fun m1 hf => ?_)
  have hh := frC_hi hf
  have hr := rH_fr hI hh
  have h := c_X8_owner (sc := sc) (row := row) (w := w) hr.1 hr.2.1 hr.2.2
  rw [pTl_hi hh, pIt_hi hh, hh 284 (by decide)] at h
  exact h
end SA
