/-! WHAT THE MACHINE'S STATE HAS TO DO WITH THE INTERPRETER'S -/
/-- a world: the address of the first new cell; the addresses of the cells ahead; the opaque reference; the classes -/
abbrev aW : Type := Nat × (Nat → Nat) × Value × va_G
def az_ad (w : aW) (a : Nat) : Nat := if a < 19 then w.2.1 a else w.1 + (a - 19)
def az_rf (w : aW) (r : Nat) : Value := if r = 0 then .null else if r = 2 then w.2.2.1 else .ref (az_ad w (r - 1))
def az_rv (w : aW) (v : aV) (x : Value) : Prop := match v with
  | .inl i => ∃ z : Int32, x = .int z ∧ z.toInt = i
  | .inr (.inl j) => ∃ z : Int64, x = .long z ∧ z.toInt = j
  | .inr (.inr r) => x = az_rf w r
def az_SR (w : aW) : List Value → aS → Prop
  | [], [] => True
  | x :: xs, v :: vs => az_rv w v x ∧ az_SR w xs vs
  | _, _ => False
def az_LR (w : aW) (ls : Array Slot) (n : Nat) (l : aL) : Prop := ls.size = n ∧ lv_wf ls ∧ l.length = n ∧ ∀ (i : Nat) (v : aV), l[i]? = some (some v) → ∃ x, ls[i]? = some (.val x) ∧ az_rv w v x
def az_fv (w : aW) (tc : Nat) (z : Int) (r : Nat) (x : Value) : Prop := if tc = 1 then (∃ y : Int64, x = .long y ∧ y.toInt = z) else if tc = 2 then x = az_rf w r else (∃ y : Int32, x = .int y ∧ y.toInt = z)
def az_ty (t : Nat) : FieldType := if t = 20 then .int else if t = 21 then .byte else if t = 22 then .boolean else if t = 23 then .object "LastSun$Row" else .object "LastSun$Beach"
def az_RC (w : aW) (s : State) (H : Heap) (m : aM) (a t n : Nat) (rs : List Nat) : Prop :=
  (t < 9 ∧ rs.length = az_N t ∧ n = az_N t ∧ ∃ fs : List Value, fs.length = az_N t ∧ t_OB (az_ad w a) (w.2.2.2.1 t) (az_N t) (w.2.2.2.2 t) H (vp_V fs) ∧ ∀ k, k < az_N t → az_fv w (az_tc t k) (m a k) (rs.getD k 0) (vp_V fs k)) ∨
  (20 ≤ t ∧ t ≤ 24 ∧ n ≤ 2000 ∧ (23 ≤ t → rs.length = n) ∧ ∃ (cA : ClassId) (f : Nat → Value), H[az_ad w a]? = some (arrV cA n f) ∧ ArrOfT s cA (az_ty t) ∧ va_RA s cA (az_ty t) ∧ (t < 23 → ∀ j : Nat, j < n → ∃ y : Int32, f j = .int y ∧ y.toInt = m a j) ∧ (23 ≤ t → ∀ j : Nat, j < n → f j = az_rf w (rs.getD j 0)))
def az_A (w : aW) : Nat → Prop := fun q => w.1 ≤ q
def az_byt : List (List Int32) := [[108, 97, 119], [115, 117, 110], [103, 117, 101, 115, 116], [108, 111, 110, 101], [97, 117, 110, 116], [99, 104, 105, 108, 100], [98, 97, 110, 100], [99, 108, 97, 110]]
def az_Tb (w : aW) (s : State) (H : Heap) : Prop :=
  va_T .int (w.2.1 2) 6 (fun j => .int (Int32.ofInt (az_abv.getD j 0))) (az_A w) s H ∧
  va_Z "LastSun$Asks" "ABOVE" "[I" (.ref (w.2.1 2)) (az_A w) s H ∧
  va_Z "java/lang/String" "COMPACT_STRINGS" "Z" (.int 1) (az_A w) s H ∧
  va_Z "jdk/internal/util/Preconditions" "SIOOBE_FORMATTER" "Ljava/util/function/BiFunction;" w.2.2.1 (az_A w) s H ∧
  vk_S 8 [3, 3, 5, 4, 4, 5, 4, 4] az_byt (fun i => w.2.1 (3 + i)) (fun i => w.2.1 (11 + i)) (az_A w) s H
def az_Xs (w : aW) (sc : aX) (s : State) (H : Heap) : Prop := ∀ (L : Nat) (xs : Int → Int), sc = some (L, xs) → ∃ x32 : Nat → Int32, va_X (w.2.1 0) L x32 s H ∧ (∀ j : Nat, j < L → (x32 j).toInt = xs j) ∧ w.2.1 0 < w.1 ∧ L < 2 ^ 31
def az_Rh (w : aW) (sc : aX) (s : State) (H : Heap) (g : aG) (m : aM) : Prop :=
  va_K w.2.2.2 az_cls [] s ∧ az_Tb w s H ∧ az_Xs w sc s H ∧ 19 ≤ g.length ∧ H.size = w.1 + (g.length - 19) ∧ (∀ a, a < 19 → g[a]? = az_g0[a]? ∧ ∀ j, m a j = az_m0 a j) ∧ ∀ (a t n : Nat) (rs : List Nat), 19 ≤ a → g[a]? = some (t, n, rs) → az_RC w s H m a t n rs
def az_Tt (w : aW) (s : State) : Prop := (∀ q ∈ az_nests, va_Nw (.methodLinkNest q.1 q.2.1 q.2.2 "LastSun") s) ∧ (∀ (i : Nat) (q : Nat × String), az_six[i]? = some q → vk_R "LastSun$Tape" q.1 q.2 (w.2.1 (3 + i)) s) ∧ va_AO "LastSun$Row" s ∧ va_AO "LastSun$Beach" s
def az_wok (w : aW) : Prop := w.2.2.1 = .null ∨ ∃ t, w.2.2.1 = .ref t
theorem az_ad_hi {w : aW} {a : Nat} (h : 19 ≤ a) : az_ad w a = w.1 + (a - 19) := by simp [az_ad, Nat.not_lt.mpr h]
theorem az_ad_lo {w : aW} {a : Nat} (h : a < 19) : az_ad w a = w.2.1 a := by simp [az_ad, h]
theorem az_ad_inj {w : aW} {a b : Nat} (ha : 19 ≤ a) (hb : 19 ≤ b) (h : az_ad w a = az_ad w b) : a = b := by
  rw [az_ad_hi ha, az_ad_hi hb] at h
  omega
theorem az_rf_s {w : aW} {a : Nat} (h : a ≠ 1) : az_rf w (a + 1) = .ref (az_ad w a) := by
  have h2 : a + 1 ≠ 2 := by omega
  simp [az_rf, h]
theorem az_rf_cat {w : aW} (hw : az_wok w) (r : Nat) : (az_rf w r).category = 1 := by
  unfold az_rf
  split
  · rfl
  · split
    · rcases hw with h | ⟨t, h⟩ <;> rw [h] <;> rfl
    · rfl
theorem az_SR_I {w : aW} {st : List Value} {x : Int} {s : aS} (h : az_SR w st (.inl x :: s)) : ∃ (z : Int32) (st' : List Value), st = .int z :: st' ∧ z.toInt = x ∧ az_SR w st' s := by
  cases st with
  | nil => exact h.elim
  | cons a st' =>
    obtain ⟨⟨z, h1, h2⟩, h3⟩ := h
    exact ⟨z, st', by rw [h1], h2, h3⟩
theorem az_SR_L {w : aW} {st : List Value} {x : Int} {s : aS} (h : az_SR w st (.inr (.inl x) :: s)) : ∃ (z : Int64) (st' : List Value), st = .long z :: st' ∧ z.toInt = x ∧ az_SR w st' s := by
  cases st with
  | nil => exact h.elim
  | cons a st' =>
    obtain ⟨⟨z, h1, h2⟩, h3⟩ := h
    exact ⟨z, st', by rw [h1], h2, h3⟩
theorem az_SR_R {w : aW} {st : List Value} {r : Nat} {s : aS} (h : az_SR w st (.inr (.inr r) :: s)) : ∃ st' : List Value, st = az_rf w r :: st' ∧ az_SR w st' s := by
  cases st with
  | nil => exact h.elim
  | cons a st' =>
    obtain ⟨h1, h3⟩ := h
    exact ⟨st', by rw [show a = az_rf w r from h1], h3⟩
theorem az_SR_i {w : aW} {st : List Value} {s : aS} (z : Int32) (h : az_SR w st s) : az_SR w (.int z :: st) (.inl z.toInt :: s) := ⟨⟨z, rfl, rfl⟩, h⟩
theorem az_SR_l {w : aW} {st : List Value} {s : aS} (z : Int64) (h : az_SR w st s) : az_SR w (.long z :: st) (.inr (.inl z.toInt) :: s) := ⟨⟨z, rfl, rfl⟩, h⟩
theorem az_SR_r {w : aW} {st : List Value} {s : aS} (r : Nat) (h : az_SR w st s) : az_SR w (az_rf w r :: st) (.inr (.inr r) :: s) := ⟨rfl, h⟩
theorem az_SR_len {w : aW} : ∀ {st : List Value} {s : aS}, az_SR w st s → st.length = s.length
  | [], [], _ => rfl
  | _ :: _, [], h => h.elim
  | [], _ :: _, h => h.elim
  | _ :: st, _ :: s, h => by simp [az_SR_len h.2]
def az_cat : aV → Nat
  | .inr (.inl _) => 2
  | _ => 1
theorem az_rv_cat {w : aW} (hw : az_wok w) {v : aV} {x : Value} (h : az_rv w v x) : x.category = az_cat v := by
  rcases v with i | j | r
  · obtain ⟨z, h, -⟩ := h
    rw [h]; rfl
  · obtain ⟨z, h, -⟩ := h
    rw [h]; rfl
  · rw [show x = az_rf w r from h]
    exact az_rf_cat hw r
theorem az_rv_le {w : aW} (hw : az_wok w) {v : aV} {x : Value} (h : az_rv w v x) : x.category ≤ 2 := by
  rw [az_rv_cat hw h]
  rcases v with i | j | r <;> simp [az_cat]
theorem az_SR_words {w : aW} (hw : az_wok w) : ∀ {st : List Value} {s : aS}, az_SR w st s → (st.map fun v => v.category).sum ≤ 2 * s.length
  | [], [], _ => by simp
  | _ :: _, [], h => h.elim
  | [], _ :: _, h => h.elim
  | x :: st, v :: s, h => by
    have h1 := az_SR_words hw h.2
    have h2 := az_rv_le hw h.1
    simp only [List.map_cons, List.sum_cons, List.length_cons]
    omega
/-- all that the locals hold, as the kit lists it -/
def az_lv (ls : Array Slot) : List (Nat × Value) := (List.range ls.size).filterMap fun i => match (ls[i]? : Option Slot) with
  | some (Slot.val x) => some (i, x)
  | _ => none
theorem az_lv_mem {ls : Array Slot} {i : Nat} {x : Value} (h : ls[i]? = some (.val x)) : (i, x) ∈ az_lv ls := by
  refine List.mem_filterMap.mpr ⟨i, List.mem_range.mpr (Array.getElem?_eq_some_iff.mp h).1, ?_⟩
  rw [h]
theorem az_lv_of {ls : Array Slot} {q : Nat × Value} (h : q ∈ az_lv ls) : ls[q.1]? = some (.val q.2) := by
  obtain ⟨i, -, h2⟩ := List.mem_filterMap.mp h
  cases hi : ls[i]? with
  | none => rw [hi] at h2; cases h2
  | some v =>
    rw [hi] at h2
    cases v with
    | val x => cases h2; exact hi
    | _ => cases h2
theorem az_lv_has {ls : Array Slot} {n : Nat} (h1 : ls.size = n) (h2 : lv_wf ls) : lv_has ls n (az_lv ls) := ⟨h1, h2, fun _ h => az_lv_of h⟩
