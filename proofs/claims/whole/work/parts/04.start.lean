/-! THE START: the shapes ahead of the law (script, an opaque reference, ABOVE, eight texts and their bytes), and what the two constructors make, by the kernel -/
def az_g0 : aG := [(99, 0, []), (99, 0, []), (20, 6, []), (9, 2, [12, 0]), (9, 2, [13, 0]), (9, 2, [14, 0]), (9, 2, [15, 0]), (9, 2, [16, 0]), (9, 2, [17, 0]), (9, 2, [18, 0]), (9, 2, [19, 0]), (21, 3, []), (21, 3, []), (21, 5, []), (21, 4, []), (21, 4, []), (21, 5, []), (21, 4, []), (21, 4, [])]
def az_txt : List (List Int) := [[108, 97, 119], [115, 117, 110], [103, 117, 101, 115, 116], [108, 111, 110, 101], [97, 117, 110, 116], [99, 104, 105, 108, 100], [98, 97, 110, 100], [99, 108, 97, 110]]
def az_abv : List Int := [-1000000, 0, 1, 1, 0, 4]
def az_m0 : aM := fun a j => if a = 2 then az_abv.getD j.toNat 0 else if 11 ≤ a ∧ a < 19 then (az_txt.getD (a - 11) []).getD j.toNat 0 else 0
/-- behind 'new LastSun' and its constructor -/
def az_r1 : Option (Option aV × aG × aM) := az_run none 5000 7 (az_cd 7) (az_ent [.inr (.inr 20)] (az_ml 7)) [] (az_g0 ++ [(7, 10, List.replicate 10 0)]) (az_bl az_m0 19)
theorem az_r1_some : az_r1.isSome = true := by decide +kernel
def az_g1 : aG := (az_r1.getD (none, [], az_m0)).2.1
theorem az_g1_len : az_g1.length = 279 := by decide +kernel
