/-! ONE STEP OF THE INTERPRETER IS ONE STEP OF THE MACHINE -/
def az_sl (g : aG) : Nat := (g.map fun q => q.2.1).sum
theorem az_sl_push (g : aG) (q : Nat × Nat × List Nat) : az_sl (g ++ [q]) = az_sl g + q.2.1 := by simp [az_sl]
theorem az_sl_set {g : aG} {a : Nat} {t n : Nat} {rs rs' : List Nat} (h : g[a]? = some (t, n, rs)) : az_sl (g.set a (t, n, rs')) = az_sl g := by
  unfold az_sl
  rw [List.map_set]
  congr 1
  apply List.ext_getElem?
  intro i
  by_cases hi : i = a
  · subst hi
    rw [List.getElem?_set_self (by rw [List.length_map]; exact (List.getElem?_eq_some_iff.mp h).1), List.getElem?_map, h]
    rfl
  · rw [List.getElem?_set_ne (Ne.symm hi)]
def az_Cx (M : Nat) (p : Program) (s : State) (mid : MethodId) (args : Array Value) (meth : Method) (cd : Code) : Prop :=
  p.tables.exec = Jvm.exec ∧ cd.code = az_by M ∧ cd.maxLocals = az_ml M ∧ s.vm.findClass (az_y M).cls = some mid.cls ∧ (∀ w ∈ az_good, w.before args s = true) ∧ ((az_y M).name = "<init>" → meth.name = "<init>")
section NX
variable {p : Program} {la : Launch} {e : Env} {R : Room} {s : State} {mid : MethodId} {args : Array Value} {below : List Frame} {meth : Method} {cd : Code} {H : Heap} {locs : List Loc} {cells slots : Nat} {Q : State → Prop}
variable {w : aW} {sc : aX} {M pc : Nat} {ls : Array Slot} {xs : List Value} {l : aL} {st : aS} {g : aG} {m : aM}
theorem az_x_ldI {n k : Nat} {x : Int} (hL : az_LR w ls n l) (h : l[k]? = some (some (.inl x))) : ∃ z : Int32, ls[k]? = some (.val (.int z)) ∧ z.toInt = x := by
  obtain ⟨y, h1, z, h2, h3⟩ := hL.2.2.2 k _ h
  exact ⟨z, by rw [h1, h2], h3⟩
theorem az_x_ldL {n k : Nat} {x : Int} (hL : az_LR w ls n l) (h : l[k]? = some (some (.inr (.inl x)))) : ∃ z : Int64, ls[k]? = some (.val (.long z)) ∧ z.toInt = x := by
  obtain ⟨y, h1, z, h2, h3⟩ := hL.2.2.2 k _ h
  exact ⟨z, by rw [h1, h2], h3⟩
theorem az_x_ldA {n k : Nat} {r : Nat} (hL : az_LR w ls n l) (h : l[k]? = some (some (.inr (.inr r)))) : ls[k]? = some (.val (az_rf w r)) := by
  obtain ⟨y, h1, h2⟩ := hL.2.2.2 k _ h
  rw [h1, show y = az_rf w r from h2]
/-- a reference is null or an address -/
theorem az_rf_or (hw : az_wok w) (r : Nat) : az_rf w r = .null ∨ ∃ a, az_rf w r = .ref a := by
  unfold az_rf
  split
  · exact Or.inl rfl
  · split
    · exact hw
    · exact Or.inr ⟨_, rfl⟩
/-- aload of a reference or null -/
theorem az_aload {cc : ByteArray} (hexec : p.tables.exec = Jvm.exec) (hb : cd.code = cc) (hw : az_wok w) {i : Nat} {r : Nat} {rest : List Value} (hdg : decode cc pc = .ok (.aload i, 2)) (hl : ls[i]? = some (.val (az_rf w r)))
    (k : W p la e R s mid args below meth cd H locs cells slots Q (F0 mid (pc + 2) ls (az_rf w r :: rest))) : W p la e R s mid args below meth cd H locs cells slots Q (F0 mid pc ls rest) := by
  rcases az_rf_or hw r with h | ⟨a, h⟩
  · rw [h] at hl k
    exact lv_aloadN hexec hb hdg hl k
  · rw [h] at hl k
    exact lv_aload hexec hb hdg hl k
theorem az_aload_n {cc : ByteArray} (hexec : p.tables.exec = Jvm.exec) (hb : cd.code = cc) (hw : az_wok w) {j : Fin 4} {r : Nat} {rest : List Value} (hdg : decode cc pc = .ok (.aload_n j, 1)) (hl : ls[(j : Nat)]? = some (.val (az_rf w r)))
    (k : W p la e R s mid args below meth cd H locs cells slots Q (F0 mid (pc + 1) ls (az_rf w r :: rest))) : W p la e R s mid args below meth cd H locs cells slots Q (F0 mid pc ls rest) := by
  rcases az_rf_or hw r with h | ⟨a, h⟩
  · rw [h] at hl k
    exact lv_aload_nN hexec hb hdg rfl hl k
  · rw [h] at hl k
    exact lv_aload_n hexec hb hdg rfl hl k
end NX
