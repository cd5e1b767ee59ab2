/-! THE DEEP INTERPRETER: the machine's bytecode run over a list of cells. A cell's number k stands for the address B + k; '.float i' stands for the i-th table (0 to 3: the static arrays; 4: the script). -/
abbrev dxE : Type := (Nat × vp_A) ⊕ (Nat × List Value)
abbrev dxH : Type := List dxE
abbrev dxL : Type := List (Option Value)
abbrev dxT : Type := Nat → Nat × (Nat → Int32)
def dxM (k : Nat) : MethodName × ByteArray × Nat × Option FieldType × Nat × Nat × Nat × Nat := dxMs.getD k (yX0_init, cX0_init, 0, none, 0, 0, 0, 0)
def dxY (k : Nat) : MethodName := (dxM k).1
def dxB (k : Nat) : ByteArray := (dxM k).2.1
def dxMl (k : Nat) : Nat := (dxM k).2.2.1
def dxRt (k : Nat) : Option FieldType := (dxM k).2.2.2.1
def dxCi (k : Nat) : Nat := (dxM k).2.2.2.2.1
def dxPs (k : Nat) : Nat := (dxM k).2.2.2.2.2.1
def dxFr (k : Nat) : Nat := (dxM k).2.2.2.2.2.2.1
def dxLo (k : Nat) : Nat := (dxM k).2.2.2.2.2.2.2
def dxR (ci : Nat) : String := dxRn.getD ci ""
def dxCl (c : Nat) : vw_C := vwCl.getD c (RX0, TX0, 0)
def dxTyp (c : Nat) : Nat → FieldType := match c with
  | 0 => tyX0
  | 1 => tyX1
  | 2 => tyX2
  | 3 => tyX3
  | 4 => tyX4
  | 5 => tyX5
  | 6 => tyX6
  | 7 => tyX7
  | _ => tyX8
/-- the tables of calls, fields, classes, constants -/
def dxLk (ci idx : Nat) : Option (Nat × Nat × Nat × Nat × Nat × Nat) := (dxLkT.find? (fun q => q.1 == ci && q.2.1 == idx)).map (fun q => q.2.2)
def dxF (ci idx : Nat) : Option (Nat × Nat × Nat) := (dxFT.find? (fun q => q.1 == ci && q.2.1 == idx)).map (fun q => q.2.2)
def dxS (ci idx : Nat) : Option (Nat × Nat) := (dxST.find? (fun q => q.1 == ci && q.2.1 == idx)).map (fun q => q.2.2)
def dxC (ci idx : Nat) : Option (Nat × Nat) := (dxCT.find? (fun q => q.1 == ci && q.2.1 == idx)).map (fun q => q.2.2)
def dxK (ci idx : Nat) : Option ((Int32 ⊕ Int64) × Nat) := (dxKT.find? (fun q => q.1 == ci && q.2.1 == idx)).map (fun q => q.2.2)
def dxI (k pc : Nat) : Option (Instr × Nat) := match decode (dxB k) pc with
  | .ok q => some q
  | .error _ => none
-- operands
def dxII (f : Int32 → Int32 → Option Value) (S : List Value) : Option (List Value) := match S with
  | .int y :: .int x :: r => (f x y).map (· :: r)
  | _ => none
def dxI1 (f : Int32 → Value) (S : List Value) : Option (List Value) := match S with
  | .int x :: r => some (f x :: r)
  | _ => none
def dxJJ (f : Int64 → Int64 → Option Value) (S : List Value) : Option (List Value) := match S with
  | .long y :: .long x :: r => (f x y).map (· :: r)
  | _ => none
def dxJ1 (f : Int64 → Value) (S : List Value) : Option (List Value) := match S with
  | .long x :: r => some (f x :: r)
  | _ => none
def dxJI (f : Int64 → Int32 → Value) (S : List Value) : Option (List Value) := match S with
  | .int y :: .long x :: r => some (f x y :: r)
  | _ => none
def dxOne (f : Value → List Value) (S : List Value) : Option (List Value) := match S with
  | v :: r => if v.category = 1 then some (f v ++ r) else none
  | _ => none
def dxTwo (S : List Value) : Option (List Value) := match S with
  | v :: w :: r => if v.category = 1 ∧ w.category = 1 then some (v :: w :: v :: w :: r) else none
  | _ => none
def dxPop (i : Instr) (n : Nat) (S : List Value) : Option (List Value) := match i, n with
  | .iconst c, 1 => some (.int (Int32.ofInt c) :: S)
  | .bipush c, 2 => some (.int (Int8.ofInt c).toInt32 :: S)
  | .sipush c, 3 => some (.int (Int16.ofInt c).toInt32 :: S)
  | .lconst c, 1 => some (.long (Int64.ofNat c) :: S)
  | .aconst_null, 1 => some (.null :: S)
  | .dup, 1 => dxOne (fun v => [v, v]) S
  | .pop, 1 => dxOne (fun _ => []) S
  | .dup2, 1 => dxTwo S
  | .iadd, 1 => dxII (fun x y => some (.int (x + y))) S
  | .isub, 1 => dxII (fun x y => some (.int (x - y))) S
  | .imul, 1 => dxII (fun x y => some (.int (x * y))) S
  | .idiv, 1 => dxII (fun x y => if y = 0 then none else some (.int (x / y))) S
  | .irem, 1 => dxII (fun x y => if y = 0 then none else some (.int (x - x / y * y))) S
  | .iand, 1 => dxII (fun x y => some (.int (x &&& y))) S
  | .ior, 1 => dxII (fun x y => some (.int (x ||| y))) S
  | .ixor, 1 => dxII (fun x y => some (.int (x ^^^ y))) S
  | .ishl, 1 => dxII (fun x y => some (.int (x <<< (y &&& 31)))) S
  | .ishr, 1 => dxII (fun x y => some (.int (x >>> (y &&& 31)))) S
  | .iushr, 1 => dxII (fun x y => some (.int (x.toUInt32 >>> (y.toUInt32 &&& Int32.toUInt32 31)).toInt32)) S
  | .ineg, 1 => dxI1 (fun x => .int (-x)) S
  | .i2l, 1 => dxI1 (fun x => .long x.toInt64) S
  | .l2i, 1 => dxJ1 (fun x => .int x.toInt32) S
  | .ladd, 1 => dxJJ (fun x y => some (.long (x + y))) S
  | .lmul, 1 => dxJJ (fun x y => some (.long (x * y))) S
  | .land, 1 => dxJJ (fun x y => some (.long (x &&& y))) S
  | .lor, 1 => dxJJ (fun x y => some (.long (x ||| y))) S
  | .lrem, 1 => dxJJ (fun x y => if y = 0 then none else some (.long (x - x / y * y))) S
  | .lcmp, 1 => dxJJ (fun x y => some (.int (lg_cmp x y))) S
  | .lshl, 1 => dxJI (fun x y => .long (x <<< (y.toInt64 &&& 63))) S
  | .lushr, 1 => dxJI (fun x y => .long (x.toUInt64 >>> (y.toInt64.toUInt64 &&& Int64.toUInt64 63)).toInt64) S
  | _, _ => none
-- locals
def dxNo2 (L : dxL) (j : Nat) : Bool := match j with
  | 0 => true
  | i + 1 => match L[i]? with
    | some (some (.long _)) => false
    | some (some (.double _)) => false
    | _ => true
def dxLdI (L : dxL) (j : Nat) (S : List Value) : Option (dxL × List Value) := match L[j]? with
  | some (some (.int x)) => some (L, .int x :: S)
  | _ => none
def dxLdJ (L : dxL) (j : Nat) (S : List Value) : Option (dxL × List Value) := match L[j]? with
  | some (some (.long x)) => some (L, .long x :: S)
  | _ => none
def dxLdA (L : dxL) (j : Nat) (S : List Value) : Option (dxL × List Value) := match L[j]? with
  | some (some (.ref x)) => some (L, .ref x :: S)
  | some (some (.float x)) => some (L, .float x :: S)
  | _ => none
def dxStI (L : dxL) (j : Nat) (S : List Value) : Option (dxL × List Value) := match S with
  | .int x :: r => if j < L.length ∧ dxNo2 L j = true then some (L.set j (some (.int x)), r) else none
  | _ => none
def dxStA (L : dxL) (j : Nat) (S : List Value) : Option (dxL × List Value) := match S with
  | .ref x :: r => if j < L.length ∧ dxNo2 L j = true then some (L.set j (some (.ref x)), r) else none
  | _ => none
def dxStJ (L : dxL) (j : Nat) (S : List Value) : Option (dxL × List Value) := match S with
  | .long x :: r => if j + 1 < L.length ∧ dxNo2 L j = true then some ((L.set j (some (.long x))).set (j + 1) none, r) else none
  | _ => none
def dxLoc (i : Instr) (n : Nat) (L : dxL) (S : List Value) : Option (dxL × List Value) := match i, n with
  | .iload_n j, 1 => dxLdI L j S
  | .iload j, 2 => dxLdI L j S
  | .lload_n j, 1 => dxLdJ L j S
  | .lload j, 2 => dxLdJ L j S
  | .aload_n j, 1 => dxLdA L j S
  | .aload j, 2 => dxLdA L j S
  | .istore_n j, 1 => dxStI L j S
  | .istore j, 2 => dxStI L j S
  | .astore_n j, 1 => dxStA L j S
  | .astore j, 2 => dxStA L j S
  | .lstore_n j, 1 => dxStJ L j S
  | .lstore j, 2 => dxStJ L j S
  | .iinc j d, 3 => match L[j]? with
    | some (some (.int x)) => if dxNo2 L j = true then some (L.set j (some (.int (x + Int32.ofInt d))), S) else none
    | _ => none
  | _, _ => none
-- jumps
def dxTg (pc : Nat) (off : Int) : Nat := ((pc : Int) + off).toNat
def dxIf2 (c : Int32 → Int32 → Bool) (t e : Nat) (S : List Value) : Option (Nat × List Value) := match S with
  | .int y :: .int x :: r => some (if c x y = true then t else e, r)
  | _ => none
def dxIf1 (c : Int32 → Bool) (t e : Nat) (S : List Value) : Option (Nat × List Value) := match S with
  | .int x :: r => some (if c x = true then t else e, r)
  | _ => none
def dxJmp (i : Instr) (n pc : Nat) (S : List Value) : Option (Nat × List Value) := match i, n with
  | .goto o, 3 => if 0 ≤ (pc : Int) + o then some (dxTg pc o, S) else none
  | .if_icmp .eq o, 3 => if 0 ≤ (pc : Int) + o then dxIf2 (fun x y => decide (x = y)) (dxTg pc o) (pc + 3) S else none
  | .if_icmp .ne o, 3 => if 0 ≤ (pc : Int) + o then dxIf2 (fun x y => decide (¬ x = y)) (dxTg pc o) (pc + 3) S else none
  | .if_icmp .lt o, 3 => if 0 ≤ (pc : Int) + o then dxIf2 (fun x y => decide (x < y)) (dxTg pc o) (pc + 3) S else none
  | .if_icmp .ge o, 3 => if 0 ≤ (pc : Int) + o then dxIf2 (fun x y => decide (y ≤ x)) (dxTg pc o) (pc + 3) S else none
  | .if_icmp .gt o, 3 => if 0 ≤ (pc : Int) + o then dxIf2 (fun x y => decide (y < x)) (dxTg pc o) (pc + 3) S else none
  | .if_icmp .le o, 3 => if 0 ≤ (pc : Int) + o then dxIf2 (fun x y => decide (x ≤ y)) (dxTg pc o) (pc + 3) S else none
  | .ifCond .eq o, 3 => if 0 ≤ (pc : Int) + o then dxIf1 (fun x => decide (x = 0)) (dxTg pc o) (pc + 3) S else none
  | .ifCond .ne o, 3 => if 0 ≤ (pc : Int) + o then dxIf1 (fun x => decide (¬ x = 0)) (dxTg pc o) (pc + 3) S else none
  | .ifCond .lt o, 3 => if 0 ≤ (pc : Int) + o then dxIf1 (fun x => decide (x < 0)) (dxTg pc o) (pc + 3) S else none
  | .ifCond .ge o, 3 => if 0 ≤ (pc : Int) + o then dxIf1 (fun x => decide (0 ≤ x)) (dxTg pc o) (pc + 3) S else none
  | .ifCond .gt o, 3 => if 0 ≤ (pc : Int) + o then dxIf1 (fun x => decide (0 < x)) (dxTg pc o) (pc + 3) S else none
  | .ifCond .le o, 3 => if 0 ≤ (pc : Int) + o then dxIf1 (fun x => decide (x ≤ 0)) (dxTg pc o) (pc + 3) S else none
  | .ifnull o, 3 => if 0 ≤ (pc : Int) + o then (match S with
    | .ref _ :: r => some (pc + 3, r)
    | .null :: r => some (dxTg pc o, r)
    | _ => none) else none
  | .tableswitch d lo hi offs, _ => match S with
    | .int x :: r => if x.toInt < lo ∨ hi < x.toInt then (if 0 ≤ (pc : Int) + d then some (dxTg pc d, r) else none) else match offs[(x.toInt - lo).toNat]? with
      | some o => if 0 ≤ (pc : Int) + o then some (dxTg pc o, r) else none
      | none => none
    | _ => none
  | _, _ => none
-- constants
def dxKst (ci : Nat) (i : Instr) (n : Nat) (S : List Value) : Option (List Value) := match i, n with
  | .ldc_w idx, 3 => match dxK ci idx with
    | some (.inl v, _) => some (.int v :: S)
    | _ => none
  | .ldc2_w idx, 3 => match dxK ci idx with
    | some (.inr v, _) => some (.long v :: S)
    | _ => none
  | _, _ => none
-- cells
def dxFit (t : FieldType) (v : Value) : Bool := match t, v with
  | .int, .int _ => true
  | .boolean, .int x => x == 0 || x == 1
  | .long, .long _ => true
  | .object _, .ref _ => true
  | .array _, .ref _ => true
  | _, _ => false
def dxIn (i : Int32) (n : Nat) : Bool := decide (¬ (i < 0 ∨ n ≤ i.toNatClampNeg))
def dxGet (ci idx : Nat) (S : List Value) (H : dxH) : Option (List Value × dxH) := match dxF ci idx with
  | some (c, j, _) => match S with
    | .ref a :: r => match H[a]? with
      | some (.inr (c', fs)) => if c' = c then (match fs[j]? with
        | some v => some (v :: r, H)
        | none => none) else none
      | _ => none
    | _ => none
  | none => none
def dxPut (k idx : Nat) (S : List Value) (H : dxH) : Option (List Value × dxH) := match dxF (dxCi k) idx with
  | some (c, j, _) => match S with
    | v :: .ref a :: r => match H[a]? with
      | some (.inr (c', fs)) => if c' = c ∧ j < fs.length ∧ dxFit (dxTyp c j) v = true ∧ (((dxCl c).2.1 j).2.2.2 = false ∨ ((dxY k).name = "<init>" ∧ c = dxCi k)) then some (r, H.set a (.inr (c, fs.set j v))) else none
      | _ => none
    | _ => none
  | none => none
def dxALd (t : Nat) (tb : dxT) (S : List Value) (H : dxH) : Option (List Value × dxH) := match S with
  | .int i :: .ref a :: r => match H[a]? with
    | some (.inl (t', n, .inl f)) => if t' = t ∧ dxIn i n = true then some (.int (f i.toNatClampNeg) :: r, H) else none
    | _ => none
  | .int i :: .float u :: r => if t = 0 ∧ u.toNat < 5 ∧ dxIn i (tb u.toNat).1 = true then some (.int ((tb u.toNat).2 i.toNatClampNeg) :: r, H) else none
  | _ => none
def dxASt (t : Nat) (S : List Value) (H : dxH) : Option (List Value × dxH) := match S with
  | .int x :: .int i :: .ref a :: r => match H[a]? with
    | some (.inl (t', n, .inl f)) => if t' = t ∧ dxIn i n = true ∧ (t = 1 → vp_nar .boolean x = x) then some (r, H.set a (.inl (t, n, .inl (upd f i.toNatClampNeg x)))) else none
    | _ => none
  | _ => none
def dxQLd (S : List Value) (H : dxH) : Option (List Value × dxH) := match S with
  | .int i :: .ref a :: r => match H[a]? with
    | some (.inl (t', n, .inr (.inr (.inr (.inr f))))) => if t' = 2 ∧ dxIn i n = true then some (va_rf (f i.toNatClampNeg) :: r, H) else none
    | _ => none
  | _ => none
def dxQSt (S : List Value) (H : dxH) : Option (List Value × dxH) := match S with
  | .ref v :: .int i :: .ref a :: r => match H[a]?, H[v]? with
    | some (.inl (t', n, .inr (.inr (.inr (.inr f))))), some (.inr (3, _)) => if t' = 2 ∧ dxIn i n = true then some (r, H.set a (.inl (2, n, .inr (.inr (.inr (.inr (va_up f i.toNatClampNeg (some v)))))))) else none
    | _, _ => none
  | _ => none
def dxLen (tb : dxT) (S : List Value) (H : dxH) : Option (List Value × dxH) := match S with
  | .ref a :: r => match H[a]? with
    | some (.inl (t', n, _)) => if t' < 3 then some (.int (Int32.ofNat n) :: r, H) else none
    | _ => none
  | .float u :: r => if u.toNat < 5 then some (.int (Int32.ofNat (tb u.toNat).1) :: r, H) else none
  | _ => none
def dxHp (tb : dxT) (k : Nat) (i : Instr) (n : Nat) (S : List Value) (H : dxH) : Option (List Value × dxH) := match i, n with
  | .getfield idx, 3 => dxGet (dxCi k) idx S H
  | .putfield idx, 3 => dxPut k idx S H
  | .iaload, 1 => dxALd 0 tb S H
  | .baload, 1 => dxALd 1 tb S H
  | .iastore, 1 => dxASt 0 S H
  | .bastore, 1 => dxASt 1 S H
  | .aaload, 1 => dxQLd S H
  | .aastore, 1 => dxQSt S H
  | .arraylength, 1 => dxLen tb S H
  | .getstatic idx, 3 => match dxS (dxCi k) idx with
    | some (u, _) => some (.float (UInt32.ofNat u) :: S, H)
    | none => none
  | _, _ => none
-- new cells
def dxDef (t : FieldType) : Value := match t with
  | .int => .int 0
  | .boolean => .int 0
  | .long => .long 0
  | _ => .null
def dxNwA (t : Nat) (S : List Value) (H : dxH) (z : Nat) : Option (List Value × dxH × Nat) := match S with
  | .int m :: r => if ¬ m < 0 ∧ m.toNatClampNeg ≤ 100000 then some (.ref H.length :: r, H ++ [.inl (t, m.toNatClampNeg, .inl (fun _ => 0))], z + m.toNatClampNeg) else none
  | _ => none
def dxNw (k : Nat) (i : Instr) (n : Nat) (S : List Value) (H : dxH) (z : Nat) : Option (List Value × dxH × Nat) := match i, n with
  | .new idx, 3 => match dxC (dxCi k) idx with
    | some (c, _) => if c < 9 then some (.ref H.length :: S, H ++ [.inr (c, (List.range (dxCl c).2.2).map (fun j => dxDef (dxTyp c j)))], z + (dxCl c).2.2) else none
    | none => none
  | .newarray .int, 2 => dxNwA 0 S H z
  | .newarray .boolean, 2 => dxNwA 1 S H z
  | .anewarray idx, 3 => match dxC (dxCi k) idx with
    | some (3, _) => match S with
      | .int m :: r => if ¬ m < 0 ∧ m.toNatClampNeg ≤ 100000 then some (.ref H.length :: r, H ++ [.inl (2, m.toNatClampNeg, .inr (.inr (.inr (.inr (fun _ => none)))))], z + m.toNatClampNeg) else none
      | _ => none
    | _ => none
  | _, _ => none
-- the JDK's own
def dxW8 (S : List Value) : Bool := decide ((S.map fun v => v.category).sum ≤ 8)
def dxCpy (S : List Value) (H : dxH) : Option (List Value × dxH) := match S with
  | .int m :: .int dp :: .ref a :: .int sp :: .ref b :: r => match H[b]?, H[a]? with
    | some (.inl (0, n0, .inl f)), some (.inl (0, n1, .inl g)) => if dxW8 r = true ∧ ¬ sp < 0 ∧ ¬ dp < 0 ∧ ¬ m < 0 ∧ sp.toNatClampNeg + m.toNatClampNeg ≤ n0 ∧ dp.toNatClampNeg + m.toNatClampNeg ≤ n1 then some (r, H.set a (.inl (0, n1, .inl (va_cpy f g sp.toNatClampNeg dp.toNatClampNeg m.toNatClampNeg)))) else none
    | _, _ => none
  | _ => none
def dxBi (k : Nat) (i : Instr) (n : Nat) (S : List Value) (H : dxH) : Option (List Value × dxH) := match i, n with
  | .invokespecial idx, 3 => match dxLk (dxCi k) idx with
    | some (5, _) => match S with
      | .ref _ :: r => if dxW8 r = true ∧ 1 ≤ dxFr k ∧ 21 ≤ dxLo k then some (r, H) else none
      | _ => none
    | _ => none
  | .invokestatic idx, 3 => if 1 ≤ dxFr k ∧ 21 ≤ dxLo k then (match dxLk (dxCi k) idx with
    | some (6, _) => match S with
      | .int x :: r => if dxW8 r = true then some (.int (if 0 ≤ x then x else 0 - x) :: r, H) else none
      | _ => none
    | some (7, _) => match S with
      | .int y :: .int x :: r => if dxW8 r = true then some (.int (if y < x then y else x) :: r, H) else none
      | _ => none
    | some (8, _) => match S with
      | .int y :: .int x :: r => if dxW8 r = true then some (.int (if x < y then y else x) :: r, H) else none
      | _ => none
    | some (9, _) => if 26 ≤ dxLo k then dxCpy S H else none
    | _ => none) else none
  | _, _ => none
/-- a step that is no call of ours and no return -/
def dxStep (tb : dxT) (k : Nat) (i : Instr) (n pc : Nat) (L : dxL) (S : List Value) (H : dxH) (z : Nat) : Option (Nat × dxL × List Value × dxH × Nat) := match dxPop i n S with
  | some S' => some (pc + n, L, S', H, z)
  | none => match dxLoc i n L S with
    | some (L', S') => some (pc + n, L', S', H, z)
    | none => match dxJmp i n pc S with
      | some (pc', S') => some (pc', L, S', H, z)
      | none => match dxKst (dxCi k) i n S with
        | some S' => some (pc + n, L, S', H, z)
        | none => match dxHp tb k i n S H with
          | some (S', H') => some (pc + n, L, S', H', z)
          | none => match dxNw k i n S H z with
            | some (S', H', z') => some (pc + n, L, S', H', z')
            | none => match dxBi k i n S H with
              | some (S', H') => some (pc + n, L, S', H', z)
              | none => none
/-- a return -/
def dxRet (k : Nat) (i : Instr) (n : Nat) (S : List Value) : Option (Option Value) := match i, n with
  | .ireturn, 1 => match S with
    | [.int v] => if dxRt k = some .int ∨ (dxRt k = some .boolean ∧ v &&& 1 = v) then some (some (.int v)) else none
    | _ => none
  | .lreturn, 1 => match S with
    | [.long v] => if dxRt k = some .long then some (some (.long v)) else none
    | _ => none
  | .areturn, 1 => match S, dxRt k with
    | [.ref a], some (.object _) => some (some (.ref a))
    | [.null], some (.object _) => some (some .null)
    | _, _ => none
  | .return_, 1 => match S with
    | [] => if dxRt k = none then some none else none
    | _ => none
  | _, _ => none
/-- a call of ours: the method, how many values it takes from the stack (its receiver too) -/
def dxNp (k : Nat) : Nat := ((parseMethodDescriptor (dxY k).desc).map (fun d => d.parameters.length)).getD 0
def dxCal (k : Nat) (i : Instr) (n : Nat) : Option (Nat × Nat) := match i, n with
  | .invokevirtual idx, 3 => match dxLk (dxCi k) idx with
    | some (0, y, _) => some (y, dxNp y + 1)
    | _ => none
  | .invokestatic idx, 3 => match dxLk (dxCi k) idx with
    | some (1, y, _) => some (y, dxNp y)
    | some (2, y, _) => some (y, dxNp y)
    | _ => none
  | .invokespecial idx, 3 => match dxLk (dxCi k) idx with
    | some (3, y, _) => some (y, dxNp y + 1)
    | some (4, y, _) => some (y, dxNp y + 1)
    | _ => none
  | _, _ => none
/-- a method's locals at its entry -/
def dxArg : List Value → dxL
  | [] => []
  | v :: vs => if v.category = 2 then some v :: none :: dxArg vs else some v :: dxArg vs
def dxEnt (k : Nat) (vs : List Value) : dxL := dxArg vs ++ List.replicate (dxMl k - (dxArg vs).length) none
/-- the receiver of a call is an object of the method's class -/
def dxRcv (k y : Nat) (i : Instr) (vs : List Value) (H : dxH) : Bool := match i with
  | .invokestatic _ => true
  | .invokespecial _ => match vs with
    | .ref _ :: _ => true
    | _ => false
  | _ => match vs with
    | .ref a :: _ => match H[a]? with
      | some (.inr (c, _)) => decide (c = dxCi y) && decide (c < 9)
      | _ => false
    | _ => false
def dxRun (tb : dxT) : Nat → Nat → Nat → dxL → List Value → dxH → Nat → Option (Option Value × dxH × Nat)
  | 0, _, _, _, _, _, _ => none
  | f + 1, k, pc, L, S, H, z => match dxI k pc with
    | none => none
    | some (i, n) => match dxRet k i n S with
      | some r => some (r, H, z)
      | none => match dxCal k i n with
        | some (y, na) => if na ≤ S.length ∧ (dxArg (S.take na).reverse).length ≤ dxMl y ∧ dxRcv k y i (S.take na).reverse H = true ∧ dxW8 (S.drop na) = true ∧ dxFr y + 1 ≤ dxFr k ∧ 8 + (dxMl y + 11) + dxLo y ≤ dxLo k then
            (match dxRun tb f y 0 (dxEnt y (S.take na).reverse) [] H z with
            | some (r, H', z') => dxRun tb f k (pc + 3) L (r.toList ++ S.drop na) H' z'
            | none => none) else none
        | none => match dxStep tb k i n pc L S H z with
          | some (pc', L', S', H', z') => dxRun tb f k pc' L' S' H' z'
          | none => none
