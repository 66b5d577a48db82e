/-! THE INTERPRETER: a small machine over mathematical ints. A value: an int, a long, a reference (0: null; k + 1: cell k). A cell's shape: its kind, how long, which references it holds. Ints live in the memory: cell, place. -/
abbrev aV : Type := Int ⊕ Int ⊕ Nat
abbrev aL : Type := List (Option aV)
abbrev aS : Type := List aV
abbrev aG : Type := List (Nat × Nat × List Nat)
abbrev aM : Type := Nat → Int → Int
abbrev aX : Type := Option (Nat × (Int → Int))
/-- next (locals, stack, shapes, memory); jump (target, stack); the method ends; a call (method, number of arguments) -/
abbrev aO : Type := (aL × aS × aG × aM) ⊕ (Nat × aS) ⊕ (Option aV) ⊕ (Nat × Nat)
def az_w (x : Int) : Int := x.bmod 4294967296
def az_wl (x : Int) : Int := x.bmod 18446744073709551616
def az_and (x y : Int) : Int := (Int32.ofInt x &&& Int32.ofInt y).toInt
def az_or (x y : Int) : Int := (Int32.ofInt x ||| Int32.ofInt y).toInt
def az_xor (x y : Int) : Int := (Int32.ofInt x ^^^ Int32.ofInt y).toInt
def az_shl (x y : Int) : Int := (Int32.ofInt x <<< (Int32.ofInt y &&& 31)).toInt
def az_shr (x y : Int) : Int := (Int32.ofInt x >>> (Int32.ofInt y &&& 31)).toInt
def az_ush (x y : Int) : Int := ((Int32.ofInt x).toUInt32 >>> ((Int32.ofInt y).toUInt32 &&& Int32.toUInt32 31)).toInt32.toInt
def az_land (x y : Int) : Int := (Int64.ofInt x &&& Int64.ofInt y).toInt
def az_lor (x y : Int) : Int := (Int64.ofInt x ||| Int64.ofInt y).toInt
def az_lshl (x y : Int) : Int := (Int64.ofInt x <<< ((Int32.ofInt y).toInt64 &&& 63)).toInt
def az_lshr (x y : Int) : Int := (Int64.ofInt x >>> ((Int32.ofInt y).toInt64 &&& 63)).toInt
def az_i2b (x : Int) : Int := (Int32.ofInt x).toInt8.toInt32.toInt
def az_i2s (x : Int) : Int := (Int32.ofInt x).toInt16.toInt32.toInt
def az_i2c (x : Int) : Int := ((Int32.ofInt x).toUInt32 % 65536).toInt32.toInt
def az_cmp (x y : Int) : Int := if x < y then -1 else if x = y then 0 else 1
def az_up (m : aM) (a : Nat) (i v : Int) : aM := fun b j => if b = a ∧ j = i then v else m b j
/-- a cell blank -/
def az_bl (m : aM) (a : Nat) : aM := fun b j => if b = a then 0 else m b j
def az_cp (m : aM) (s : Nat) (sp : Int) (d : Nat) (dp n : Int) : aM := fun b j => if b = d ∧ dp ≤ j ∧ j < dp + n then m s (sp + (j - dp)) else m b j
def az_st1 : aL → Nat → aV → aL
  | [], _, _ => []
  | _ :: l, 0, v => some v :: l
  | some (.inr (.inl _)) :: l, 1, v => none :: az_st1 l 0 v
  | o :: l, i + 1, v => o :: az_st1 l i v
def az_st2 : aL → Nat → aV → aL
  | [], _, _ => []
  | [_], _, _ => []
  | _ :: _ :: l, 0, v => some v :: none :: l
  | some (.inr (.inl _)) :: l, 1, v => none :: az_st2 l 0 v
  | o :: l, i + 1, v => o :: az_st2 l i v
def az_nx (l : aL) (s : aS) (g : aG) (m : aM) : Option aO := some (.inl (l, s, g, m))
def az_ldI (l : aL) (s : aS) (g : aG) (m : aM) (k : Nat) : Option aO := match l[k]? with
  | some (some (.inl x)) => az_nx l (.inl x :: s) g m
  | _ => none
def az_ldL (l : aL) (s : aS) (g : aG) (m : aM) (k : Nat) : Option aO := match l[k]? with
  | some (some (.inr (.inl x))) => az_nx l (.inr (.inl x) :: s) g m
  | _ => none
def az_ldA (l : aL) (s : aS) (g : aG) (m : aM) (k : Nat) : Option aO := match l[k]? with
  | some (some (.inr (.inr r))) => az_nx l (.inr (.inr r) :: s) g m
  | _ => none
def az_stI (l : aL) (s : aS) (g : aG) (m : aM) (k : Nat) : Option aO := match s with
  | .inl x :: s' => if k < l.length then az_nx (az_st1 l k (.inl x)) s' g m else none
  | _ => none
def az_stA (l : aL) (s : aS) (g : aG) (m : aM) (k : Nat) : Option aO := match s with
  | .inr (.inr r) :: s' => if k < l.length then az_nx (az_st1 l k (.inr (.inr r))) s' g m else none
  | _ => none
def az_stL (l : aL) (s : aS) (g : aG) (m : aM) (k : Nat) : Option aO := match s with
  | .inr (.inl x) :: s' => if k + 1 < l.length then az_nx (az_st2 l k (.inr (.inl x))) s' g m else none
  | _ => none
def az_b2 (l : aL) (s : aS) (g : aG) (m : aM) (f : Int → Int → Int) : Option aO := match s with
  | .inl y :: .inl x :: s' => az_nx l (.inl (f x y) :: s') g m
  | _ => none
def az_l2 (l : aL) (s : aS) (g : aG) (m : aM) (f : Int → Int → Int) : Option aO := match s with
  | .inr (.inl y) :: .inr (.inl x) :: s' => az_nx l (.inr (.inl (f x y)) :: s') g m
  | _ => none
def az_li (l : aL) (s : aS) (g : aG) (m : aM) (f : Int → Int → Int) : Option aO := match s with
  | .inl y :: .inr (.inl x) :: s' => az_nx l (.inr (.inl (f x y)) :: s') g m
  | _ => none
def az_u1 (l : aL) (s : aS) (g : aG) (m : aM) (f : Int → Int) : Option aO := match s with
  | .inl x :: s' => az_nx l (.inl (f x) :: s') g m
  | _ => none
def az_d2 (l : aL) (s : aS) (g : aG) (m : aM) (f : Int → Int → Int) : Option aO := match s with
  | .inl y :: .inl x :: s' => if y = 0 then none else az_nx l (.inl (f x y) :: s') g m
  | _ => none
def az_dl2 (l : aL) (s : aS) (g : aG) (m : aM) (f : Int → Int → Int) : Option aO := match s with
  | .inr (.inl y) :: .inr (.inl x) :: s' => if y = 0 then none else az_nx l (.inr (.inl (f x y)) :: s') g m
  | _ => none
def az_cnd (c : ClassFile.Cond) (x y : Int) : Bool := match c with
  | .eq => decide (x = y)
  | .ne => decide (x ≠ y)
  | .lt => decide (x < y)
  | .ge => decide (y ≤ x)
  | .gt => decide (y < x)
  | .le => decide (x ≤ y)
def az_tgt (f : List Int) : Nat := (f.headD 0).toNat
def az_jmp (f : List Int) (s : aS) : Option aO := some (.inr (.inl (az_tgt f, s)))
def az_if2 (l : aL) (s : aS) (g : aG) (m : aM) (f : List Int) (c : ClassFile.Cond) : Option aO := match s with
  | .inl y :: .inl x :: s' => if az_cnd c x y = true then az_jmp f s' else az_nx l s' g m
  | _ => none
def az_if1 (l : aL) (s : aS) (g : aG) (m : aM) (f : List Int) (c : ClassFile.Cond) : Option aO := match s with
  | .inl x :: s' => if az_cnd c x 0 = true then az_jmp f s' else az_nx l s' g m
  | _ => none
def az_tsw (s : aS) (lo hi : Int) (f : List Int) : Option aO := match s with
  | .inl x :: s' => if x < lo ∨ hi < x then some (.inr (.inl ((f.headD 0).toNat, s'))) else some (.inr (.inl ((f.getD ((x - lo).toNat + 1) 0).toNat, s')))
  | _ => none
def az_lk : List Int → Int → Nat → Nat
  | k :: t :: l, x, d => if x = k then t.toNat else az_lk l x d
  | _, _, d => d
def az_lsw (s : aS) (f : List Int) : Option aO := match s with
  | .inl x :: s' => some (.inr (.inl (az_lk (f.drop 1) x (f.headD 0).toNat, s')))
  | _ => none
def az_ald (sc : aX) (l : aL) (s : aS) (g : aG) (m : aM) (ts : List Nat) : Option aO := match s with
  | .inl j :: .inr (.inr (a + 1)) :: s' =>
    if a = 0 then (match sc with
      | some (L, xs) => if ts = [20] ∧ 0 ≤ j ∧ j < (L : Int) then az_nx l (.inl (xs j) :: s') g m else none
      | none => none)
    else (match g[a]? with
      | some (t, n, _) => if t ∈ ts ∧ 0 ≤ j ∧ j < (n : Int) then az_nx l (.inl (m a j) :: s') g m else none
      | none => none)
  | _ => none
def az_aald (l : aL) (s : aS) (g : aG) (m : aM) : Option aO := match s with
  | .inl j :: .inr (.inr (a + 1)) :: s' => (match g[a]? with
      | some (t, n, rs) => if 23 ≤ t ∧ t ≤ 24 ∧ 0 ≤ j ∧ j < (n : Int) then az_nx l (.inr (.inr (rs.getD j.toNat 0)) :: s') g m else none
      | none => none)
  | _ => none
def az_aln (sc : aX) (l : aL) (s : aS) (g : aG) (m : aM) : Option aO := match s with
  | .inr (.inr (a + 1)) :: s' =>
    if a = 0 then (match sc with
      | some (L, _) => az_nx l (.inl (L : Int) :: s') g m
      | none => none)
    else (match g[a]? with
      | some (t, n, _) => if 20 ≤ t ∧ t ≤ 24 then az_nx l (.inl (n : Int) :: s') g m else none
      | none => none)
  | _ => none
def az_iast (l : aL) (s : aS) (g : aG) (m : aM) : Option aO := match s with
  | .inl v :: .inl j :: .inr (.inr (a + 1)) :: s' => (match g[a]? with
      | some (t, n, _) => if 19 ≤ a ∧ t = 20 ∧ 0 ≤ j ∧ j < (n : Int) then az_nx l s' g (az_up m a j v) else none
      | none => none)
  | _ => none
def az_bast (l : aL) (s : aS) (g : aG) (m : aM) : Option aO := match s with
  | .inl v :: .inl j :: .inr (.inr (a + 1)) :: s' => (match g[a]? with
      | some (t, n, _) => if 19 ≤ a ∧ ((t = 21 ∧ -128 ≤ v ∧ v < 128) ∨ (t = 22 ∧ 0 ≤ v ∧ v < 2)) ∧ 0 ≤ j ∧ j < (n : Int) then az_nx l s' g (az_up m a j v) else none
      | none => none)
  | _ => none
def az_aast (l : aL) (s : aS) (g : aG) (m : aM) : Option aO := match s with
  | .inr (.inr (b + 1)) :: .inl j :: .inr (.inr (a + 1)) :: s' => (match g[a]?, g[b]? with
      | some (t, n, rs), some (t2, _, _) => if 19 ≤ a ∧ 19 ≤ b ∧ ((t = 23 ∧ t2 = 5) ∨ (t = 24 ∧ t2 = 1)) ∧ 0 ≤ j ∧ j < (n : Int) then az_nx l s' (g.set a (t, n, rs.set j.toNat (b + 1))) m else none
      | _, _ => none)
  | _ => none
def az_get (l : aL) (s : aS) (g : aG) (m : aM) (f : List Int) : Option aO := match s, f with
  | .inr (.inr (a + 1)) :: s', c :: k :: t :: _ => (match g[a]? with
      | some (tg, _, rs) => if (tg : Int) = c then (if t = 1 then az_nx l (.inr (.inl (m a k)) :: s') g m else if t = 2 then az_nx l (.inr (.inr (rs.getD k.toNat 0)) :: s') g m else az_nx l (.inl (m a k) :: s') g m) else none
      | none => none)
  | _, _ => none
def az_put (l : aL) (s : aS) (g : aG) (m : aM) (f : List Int) : Option aO := match s, f with
  | .inl v :: .inr (.inr (a + 1)) :: s', c :: k :: t :: _ => (match g[a]? with
      | some (tg, _, _) => if 19 ≤ a ∧ (tg : Int) = c ∧ (t = 0 ∨ (t = 3 ∧ 0 ≤ v ∧ v < 2)) then az_nx l s' g (az_up m a k v) else none
      | none => none)
  | .inr (.inl v) :: .inr (.inr (a + 1)) :: s', c :: k :: t :: _ => (match g[a]? with
      | some (tg, _, _) => if 19 ≤ a ∧ (tg : Int) = c ∧ t = 1 then az_nx l s' g (az_up m a k v) else none
      | none => none)
  | .inr (.inr r) :: .inr (.inr (a + 1)) :: s', c :: k :: t :: _ => (match g[a]? with
      | some (tg, n, rs) => if 19 ≤ a ∧ (tg : Int) = c ∧ t = 2 ∧ r ≤ g.length then az_nx l s' (g.set a (tg, n, rs.set k.toNat r)) m else none
      | none => none)
  | _, _ => none
def az_gst (l : aL) (s : aS) (g : aG) (m : aM) (f : List Int) : Option aO := match f with
  | 0 :: _ => az_nx l (.inr (.inr 3) :: s) g m
  | 1 :: _ => az_nx l (.inl 1 :: s) g m
  | 2 :: _ => az_nx l (.inr (.inr 2) :: s) g m
  | _ => none
def az_new (l : aL) (s : aS) (g : aG) (m : aM) (f : List Int) : Option aO := match f with
  | c :: n :: _ => if 19 ≤ g.length then az_nx l (.inr (.inr (g.length + 1)) :: s) (g ++ [(c.toNat, n.toNat, List.replicate n.toNat 0)]) (az_bl m g.length) else none
  | _ => none
def az_nwa (l : aL) (s : aS) (g : aG) (m : aM) (f : List Int) : Option aO := match s, f with
  | .inl n :: s', t :: _ => if 0 ≤ n ∧ n ≤ 2000 ∧ 19 ≤ g.length then az_nx l (.inr (.inr (g.length + 1)) :: s') (g ++ [(t.toNat, n.toNat, if 23 ≤ t then List.replicate n.toNat 0 else [])]) (az_bl m g.length) else none
  | _, _ => none
def az_cpy (l : aL) (s : aS) (g : aG) (m : aM) : Option aO := match s with
  | .inl n :: .inl dp :: .inr (.inr (d + 1)) :: .inl sp :: .inr (.inr (a + 1)) :: s' => (match g[a]?, g[d]? with
      | some (t, n0, _), some (t2, n1, _) => if 19 ≤ a ∧ 19 ≤ d ∧ t = 20 ∧ t2 = 20 ∧ 0 ≤ n ∧ 0 ≤ sp ∧ 0 ≤ dp ∧ sp + n ≤ (n0 : Int) ∧ dp + n ≤ (n1 : Int) ∧ s'.length ≤ 4 then az_nx l s' g (az_cp m a sp d dp n) else none
      | _, _ => none)
  | _ => none
/-- a call: kind 1, 3, 4, 6 have a receiver -/
def az_inv (l : aL) (s : aS) (g : aG) (m : aM) (f : List Int) : Option aO := match f with
  | [0, _, _] => (match s with
      | .inr (.inr (a + 1)) :: s' => if 19 ≤ a ∧ s'.length ≤ 4 then az_nx l s' g m else none
      | _ => none)
  | 9 :: _ => az_cpy l s g m
  | 7 :: k :: _ => (match s with
      | .inl y :: .inl x :: s' => if s'.length ≤ 4 then (if k = 0 then az_nx l (.inl (if x < y then y else x) :: s') g m else if k = 1 then az_nx l (.inl (if y < x then y else x) :: s') g m else none) else none
      | .inr (.inl y) :: .inr (.inl x) :: s' => if s'.length ≤ 4 ∧ k = 2 then az_nx l (.inr (.inl (if x < y then y else x)) :: s') g m else none
      | _ => none)
  | kd :: M :: n :: c :: _ =>
      if n.toNat ≤ s.length ∧ (s.length : Int) ≤ n + 4 then
        (if kd = 2 ∨ kd = 5 then some (.inr (.inr (.inr (M.toNat, n.toNat)))) else
          (match s[n.toNat - 1]? with
            | some (.inr (.inr (a + 1))) => (match g[a]? with
                | some (tg, _, _) => if (tg : Int) = c then some (.inr (.inr (.inr (M.toNat, n.toNat)))) else none
                | none => none)
            | _ => none))
      else none
  | _ => none
def az_ldc (l : aL) (s : aS) (g : aG) (m : aM) (f : List Int) : Option aO := match f with
  | 0 :: v :: _ => az_nx l (.inl v :: s) g m
  | 1 :: k :: _ => az_nx l (.inr (.inr (k.toNat + 1)) :: s) g m
  | _ => none
def az_ldc2 (l : aL) (s : aS) (g : aG) (m : aM) (f : List Int) : Option aO := match f with
  | 0 :: v :: _ => az_nx l (.inr (.inl v) :: s) g m
  | _ => none
def az_irt (M : Nat) (s : aS) : Option aO := match s with
  | [.inl v] => if az_rt M = 1 ∨ (az_rt M = 2 ∧ 0 ≤ v ∧ v < 2) ∨ (az_rt M = 5 ∧ 0 ≤ v ∧ v < 65536) ∨ (az_rt M = 6 ∧ -128 ≤ v ∧ v < 128) then some (.inr (.inr (.inl (some (.inl v))))) else none
  | _ => none
def az_iinc (l : aL) (s : aS) (g : aG) (m : aM) (k : Nat) (c : Int) : Option aO := match l[k]? with
  | some (some (.inl x)) => az_nx (az_st1 l k (.inl (az_w (x + c)))) s g m
  | _ => none
def az_step (sc : aX) (M : Nat) (i : Instr) (f : List Int) (l : aL) (s : aS) (g : aG) (m : aM) : Option aO := match i with
  | .iconst n => az_nx l (.inl n :: s) g m
  | .bipush n => az_nx l (.inl n :: s) g m
  | .sipush n => az_nx l (.inl n :: s) g m
  | .lconst n => az_nx l (.inr (.inl (n.val : Int)) :: s) g m
  | .ldc _ => az_ldc l s g m f
  | .ldc_w _ => az_ldc l s g m f
  | .ldc2_w _ => az_ldc2 l s g m f
  | .iload_n k => az_ldI l s g m k.val
  | .iload k => az_ldI l s g m k
  | .lload_n k => az_ldL l s g m k.val
  | .lload k => az_ldL l s g m k
  | .aload_n k => az_ldA l s g m k.val
  | .aload k => az_ldA l s g m k
  | .istore_n k => az_stI l s g m k.val
  | .istore k => az_stI l s g m k
  | .lstore_n k => az_stL l s g m k.val
  | .lstore k => az_stL l s g m k
  | .astore_n k => az_stA l s g m k.val
  | .astore k => az_stA l s g m k
  | .iinc k c => az_iinc l s g m k c
  | .iadd => az_b2 l s g m (fun x y => az_w (x + y))
  | .isub => az_b2 l s g m (fun x y => az_w (x - y))
  | .imul => az_b2 l s g m (fun x y => az_w (x * y))
  | .iand => az_b2 l s g m az_and
  | .ior => az_b2 l s g m az_or
  | .ixor => az_b2 l s g m az_xor
  | .ishl => az_b2 l s g m az_shl
  | .ishr => az_b2 l s g m az_shr
  | .iushr => az_b2 l s g m az_ush
  | .idiv => az_d2 l s g m (fun x y => az_w (x.tdiv y))
  | .irem => az_d2 l s g m (fun x y => x.tmod y)
  | .ineg => az_u1 l s g m (fun x => az_w (-x))
  | .i2b => az_u1 l s g m az_i2b
  | .i2s => az_u1 l s g m az_i2s
  | .i2c => az_u1 l s g m az_i2c
  | .i2l => (match s with
      | .inl x :: s' => az_nx l (.inr (.inl x) :: s') g m
      | _ => none)
  | .l2i => (match s with
      | .inr (.inl x) :: s' => az_nx l (.inl (az_w x) :: s') g m
      | _ => none)
  | .ladd => az_l2 l s g m (fun x y => az_wl (x + y))
  | .lsub => az_l2 l s g m (fun x y => az_wl (x - y))
  | .lmul => az_l2 l s g m (fun x y => az_wl (x * y))
  | .land => az_l2 l s g m az_land
  | .lor => az_l2 l s g m az_lor
  | .lshl => az_li l s g m az_lshl
  | .lshr => az_li l s g m az_lshr
  | .ldiv => az_dl2 l s g m (fun x y => az_wl (x.tdiv y))
  | .lrem => az_dl2 l s g m (fun x y => x.tmod y)
  | .lcmp => (match s with
      | .inr (.inl y) :: .inr (.inl x) :: s' => az_nx l (.inl (az_cmp x y) :: s') g m
      | _ => none)
  | .dup => (match s with
      | .inl x :: s' => az_nx l (.inl x :: .inl x :: s') g m
      | .inr (.inr r) :: s' => az_nx l (.inr (.inr r) :: .inr (.inr r) :: s') g m
      | _ => none)
  | .dup2 => (match s with
      | .inl y :: .inr (.inr r) :: s' => az_nx l (.inl y :: .inr (.inr r) :: .inl y :: .inr (.inr r) :: s') g m
      | _ => none)
  | .pop => (match s with
      | .inl _ :: s' => az_nx l s' g m
      | _ => none)
  | .if_icmp c _ => az_if2 l s g m f c
  | .ifCond c _ => az_if1 l s g m f c
  | .goto _ => az_jmp f s
  | .tableswitch _ lo hi _ => az_tsw s lo hi f
  | .lookupswitch _ _ => az_lsw s f
  | .iaload => az_ald sc l s g m [20]
  | .baload => az_ald sc l s g m [21, 22]
  | .aaload => az_aald l s g m
  | .arraylength => az_aln sc l s g m
  | .iastore => az_iast l s g m
  | .bastore => az_bast l s g m
  | .aastore => az_aast l s g m
  | .getfield _ => az_get l s g m f
  | .putfield _ => az_put l s g m f
  | .getstatic _ => az_gst l s g m f
  | .new _ => az_new l s g m f
  | .newarray _ => az_nwa l s g m f
  | .anewarray _ => az_nwa l s g m f
  | .invokevirtual _ => az_inv l s g m f
  | .invokestatic _ => az_inv l s g m f
  | .invokespecial _ => az_inv l s g m f
  | .ireturn => az_irt M s
  | .lreturn => (match s with
      | [.inr (.inl v)] => if az_rt M = 3 then some (.inr (.inr (.inl (some (.inr (.inl v)))))) else none
      | _ => none)
  | .areturn => (match s with
      | [.inr (.inr r)] => if az_rt M = 4 then some (.inr (.inr (.inl (some (.inr (.inr r)))))) else none
      | _ => none)
  | .return_ => (match s with
      | [] => if az_rt M = 0 then some (.inr (.inr (.inl none))) else none
      | _ => none)
  | _ => none
def az_seek (t : Nat) : aC → aC
  | [] => []
  | e :: l => if e.1 = t then e :: l else az_seek t l
def az_args : List aV → aL
  | [] => []
  | .inr (.inl x) :: l => some (.inr (.inl x)) :: none :: az_args l
  | v :: l => some v :: az_args l
def az_ent (as : List aV) (n : Nat) : aL := az_args as ++ List.replicate (n - (az_args as).length) none
def az_run (sc : aX) : Nat → Nat → aC → aL → aS → aG → aM → Option (Option aV × aG × aM)
  | 0, _, _, _, _, _, _ => none
  | _ + 1, _, [], _, _, _, _ => none
  | n + 1, M, e :: c, l, s, g, m => match az_step sc M e.2.1 e.2.2 l s g m with
    | none => none
    | some (.inl o) => az_run sc n M c o.1 o.2.1 o.2.2.1 o.2.2.2
    | some (.inr (.inl o)) => az_run sc n M (az_seek o.1 (az_cd M)) l o.2 g m
    | some (.inr (.inr (.inl v))) => some (v, g, m)
    | some (.inr (.inr (.inr o))) => if (az_args ((s.take o.2).reverse)).length ≤ az_ml o.1 then (match az_run sc n o.1 (az_cd o.1) (az_ent ((s.take o.2).reverse) (az_ml o.1)) [] g m with
      | none => none
      | some r => az_run sc n M c l (r.1.toList ++ s.drop o.2) r.2.1 r.2.2) else none
/-! what lies ahead of the law: script, an opaque reference, ABOVE, eight texts and their bytes -/
def az_g0 : aG := [(99, 0, []), (99, 0, []), (20, 6, []), (9, 2, [12, 0]), (9, 2, [13, 0]), (9, 2, [14, 0]), (9, 2, [15, 0]), (9, 2, [16, 0]), (9, 2, [17, 0]), (9, 2, [18, 0]), (9, 2, [19, 0]), (21, 3, []), (21, 3, []), (21, 5, []), (21, 4, []), (21, 4, []), (21, 5, []), (21, 4, []), (21, 4, [])]
def az_txt : List (List Int) := [[108, 97, 119], [115, 117, 110], [103, 117, 101, 115, 116], [108, 111, 110, 101], [97, 117, 110, 116], [99, 104, 105, 108, 100], [98, 97, 110, 100], [99, 108, 97, 110]]
def az_abv : List Int := [-1000000, 0, 1, 1, 0, 4]
def az_m0 : aM := fun a j => if a = 2 then az_abv.getD j.toNat 0 else if 11 ≤ a ∧ a < 19 then (az_txt.getD (a - 11) []).getD j.toNat 0 else 0
