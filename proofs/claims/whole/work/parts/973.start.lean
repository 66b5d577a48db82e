/-! THE START: what the two constructors make, by the kernel -/
/-- the memory behind the constructors -/
def az_mi (a : Nat) (j : Int) : Int := if a < 19 then az_m0 a j else if 247 ≤ a ∧ a < 263 ∧ a % 2 = 1 ∧ j = 1 then -1 else if a = 281 then -1 else 0
def az_chk (g0 : aG) (r : Option (Option aV × aG × aM)) : Bool := match r with
  | some (v, g, m) => decide (v = none) && decide (g = g0) && (List.range g0.length).all (fun a => (List.range ((g0.getD a (0, 0, [])).2.1)).all (fun j => decide (m a (j : Int) = az_mi a (j : Int))))
  | none => false
def az_r1 : Option (Option aV × aG × aM) := az_run none 5000 7 (az_cd 7) (az_ent [.inr (.inr 20)] (az_ml 7)) [] (az_g0 ++ [(7, 10, List.replicate 10 0)]) (az_bl az_m0 19)
def az_r2 : Option (Option aV × aG × aM) := match az_r1 with
  | some (_, g, m) => az_run none 5000 8 (az_cd 8) (az_ent [.inr (.inr 280)] (az_ml 8)) [] (g ++ [(8, 25, List.replicate 25 0)]) (az_bl m 279)
  | none => none
theorem az_r1_ok : (az_r1.map fun r => (r.1, r.2.1)) = some (none, az_G1) := by decide +kernel
theorem az_r2_ok : az_chk az_G az_r2 = true := by decide +kernel
