/-! every script -/
theorem az_all : az_All := by
  intro L xs hL hx
  obtain ⟨m, h1, h2⟩ := az_law0 L xs
  obtain ⟨n, v, m', q1, q2⟩ := h2 (fun v _ => v = some (.inl 1)) (lw_loop hL hx (fun _ => rfl) _ 0 m (Nat.le_refl _) (Int.le_refl _) (iA_init h1))
  subst q2
  exact ⟨n, az_G, m', q1, by decide +kernel, by decide +kernel⟩
