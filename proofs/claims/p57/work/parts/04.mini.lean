/-! THE SMALL MACHINE: values, a heap by kinds and numbers, and how it runs. A kind is a place in the code at which objects (or arrays) are made; an object's name is its kind and its number among those of its kind. -/
abbrev zV : Type := Value ⊕ (Nat × Nat)
abbrev zI (x : Int32) : zV := Sum.inl (Value.int x)
abbrev zJ (x : Int64) : zV := Sum.inl (Value.long x)
abbrev zF (x : UInt32) : zV := Sum.inl (Value.float x)
abbrev zD (x : UInt64) : zV := Sum.inl (Value.double x)
abbrev zN : zV := Sum.inl Value.null
abbrev zR (k i : Nat) : zV := Sum.inr (k, i)
def zcat : zV → Nat
  | .inl v => v.category
  | .inr _ => 1
def zrv (o : Option (Nat × Nat)) : zV := match o with
  | none => .inl .null
  | some q => .inr q
/-- how many of each kind; lengths; ints; references; doubles; longs; cells and slots made so far -/
abbrev zH : Type := (Nat → Nat) × (Nat → Nat → Nat) × (Nat → Nat → Nat → Int32) × (Nat → Nat → Nat → Option (Nat × Nat)) × (Nat → Nat → Nat → UInt64) × (Nat → Nat → Nat → Int64) × Nat × Nat
def zct (h : zH) : Nat → Nat := h.1
def zln (h : zH) : Nat → Nat → Nat := h.2.1
def zi (h : zH) : Nat → Nat → Nat → Int32 := h.2.2.1
def zr (h : zH) : Nat → Nat → Nat → Option (Nat × Nat) := h.2.2.2.1
def zd (h : zH) : Nat → Nat → Nat → UInt64 := h.2.2.2.2.1
def zl (h : zH) : Nat → Nat → Nat → Int64 := h.2.2.2.2.2.1
def zce (h : zH) : Nat := h.2.2.2.2.2.2.1
def zso (h : zH) : Nat := h.2.2.2.2.2.2.2
def zu {α : Type} (f : Nat → Nat → Nat → α) (k i j : Nat) (v : α) : Nat → Nat → Nat → α := fun k' i' j' => if k' = k ∧ i' = i ∧ j' = j then v else f k' i' j'
def z2 {α : Type} (f : Nat → Nat → α) (k i : Nat) (v : α) : Nat → Nat → α := fun k' i' => if k' = k ∧ i' = i then v else f k' i'
def z1 {α : Type} (f : Nat → α) (k : Nat) (v : α) : Nat → α := fun k' => if k' = k then v else f k'
/-- all of an object's places anew -/
def z0 {α : Type} (f : Nat → Nat → Nat → α) (k i : Nat) (g : Nat → α) : Nat → Nat → Nat → α := fun k' i' j' => if k' = k ∧ i' = i then g j' else f k' i' j'
def zsi (h : zH) (k i j : Nat) (v : Int32) : zH := (h.1, h.2.1, zu h.2.2.1 k i j v, h.2.2.2)
def zsr (h : zH) (k i j : Nat) (v : Option (Nat × Nat)) : zH := (h.1, h.2.1, h.2.2.1, zu h.2.2.2.1 k i j v, h.2.2.2.2)
def zsd (h : zH) (k i j : Nat) (v : UInt64) : zH := (h.1, h.2.1, h.2.2.1, h.2.2.2.1, zu h.2.2.2.2.1 k i j v, h.2.2.2.2.2)
def zsl (h : zH) (k i j : Nat) (v : Int64) : zH := (h.1, h.2.1, h.2.2.1, h.2.2.2.1, h.2.2.2.2.1, zu h.2.2.2.2.2.1 k i j v, h.2.2.2.2.2.2)
def zsn (h : zH) (k i : Nat) (n : Nat) : zH := (h.1, z2 h.2.1 k i n, h.2.2)
/-- some cells and slots more -/
def zro (h : zH) (c n : Nat) : zH := (h.1, h.2.1, h.2.2.1, h.2.2.2.1, h.2.2.2.2.1, h.2.2.2.2.2.1, zce h + c, zso h + n)
/-- one more of a kind, of so many places, of so many slots; its ints are told -/
def znwi (h : zH) (k n sl : Nat) (g : Nat → Int32) : zH :=
  (z1 h.1 k (h.1 k + 1), z2 h.2.1 k (h.1 k) n, z0 h.2.2.1 k (h.1 k) g, z0 h.2.2.2.1 k (h.1 k) (fun _ => none), z0 h.2.2.2.2.1 k (h.1 k) (fun _ => 0), z0 h.2.2.2.2.2.1 k (h.1 k) (fun _ => 0), zce h + 1, zso h + sl)
def znw (h : zH) (k n sl : Nat) : zH := znwi h k n sl (fun _ => 0)
/-- an instruction, where it stands, what it means here, which locals are let live ahead of it -/
abbrev zOp : Type := (Instr × Nat) × (List Nat × List Bool)
abbrev zLs : Type := List (Option zV)
def ztr (ks : List Bool) (L : zLs) : zLs := match ks with
  | [] => L
  | _ => List.zipWith (fun b v => bif b then v else none) ks L
def zget (L : zLs) (i : Nat) : Option zV := match L[i]? with
  | some (some v) => some v
  | _ => none
/-- a long value's second place is nobody's -/
def zpre (L : zLs) (i : Nat) : zLs := match i with
  | 0 => L
  | i + 1 => match zget L i with
    | some v => bif zcat v == 2 then L.set i none else L
    | none => L
def zset (L : zLs) (i : Nat) (v : zV) : zLs := bif zcat v == 2 then (zpre (L.set i (some v)) i).set (i + 1) none else zpre (L.set i (some v)) i
def zil : List zV → zLs
  | [] => []
  | v :: vs => bif zcat v == 2 then some v :: none :: zil vs else some v :: zil vs
abbrev zC : Type := Nat × zLs × List zV × zH
-- constants and locals
def zsLoc (o : Instr) (a : List Nat) (pc : Nat) (L : zLs) (st : List zV) (h : zH) : Option zC := match o with
  | .iconst n => some (pc + 1, L, zI (Int32.ofInt n) :: st, h)
  | .bipush n => some (pc + 1, L, zI (Int8.ofInt n).toInt32 :: st, h)
  | .sipush n => some (pc + 1, L, zI (Int16.ofInt n).toInt32 :: st, h)
  | .lconst n => some (pc + 1, L, zJ (Int64.ofInt n.val) :: st, h)
  | .fconst 0 => some (pc + 1, L, zF 0 :: st, h)
  | .dconst 0 => some (pc + 1, L, zD 0 :: st, h)
  | .dconst 1 => some (pc + 1, L, zD 4607182418800017408 :: st, h)
  | .aconst_null => some (pc + 1, L, zN :: st, h)
  | .ldc _ => match a with
    | [n] => some (pc + 1, L, zI (nI n) :: st, h)
    | _ => none
  | .ldc_w _ => match a with
    | [n] => some (pc + 1, L, zI (nI n) :: st, h)
    | _ => none
  | .ldc2_w _ => match a with
    | [n] => some (pc + 1, L, zD (UInt64.ofNat n) :: st, h)
    | _ => none
  | .iload i => (zget L i).bind fun v => match v with | .inl (.int x) => some (pc + 1, L, zI x :: st, h) | _ => none
  | .iload_n i => (zget L i.val).bind fun v => match v with | .inl (.int x) => some (pc + 1, L, zI x :: st, h) | _ => none
  | .fload i => (zget L i).bind fun v => match v with | .inl (.float x) => some (pc + 1, L, zF x :: st, h) | _ => none
  | .dload i => (zget L i).bind fun v => match v with | .inl (.double x) => some (pc + 1, L, zD x :: st, h) | _ => none
  | .dload_n i => (zget L i.val).bind fun v => match v with | .inl (.double x) => some (pc + 1, L, zD x :: st, h) | _ => none
  | .aload i => (zget L i).bind fun v => match v with | .inr q => some (pc + 1, L, .inr q :: st, h) | .inl .null => some (pc + 1, L, zN :: st, h) | _ => none
  | .aload_n i => (zget L i.val).bind fun v => match v with | .inr q => some (pc + 1, L, .inr q :: st, h) | .inl .null => some (pc + 1, L, zN :: st, h) | _ => none
  | .istore i => match st with | .inl (.int x) :: st => some (pc + 1, zset L i (zI x), st, h) | _ => none
  | .istore_n i => match st with | .inl (.int x) :: st => some (pc + 1, zset L i.val (zI x), st, h) | _ => none
  | .fstore i => match st with | .inl (.float x) :: st => some (pc + 1, zset L i (zF x), st, h) | _ => none
  | .dstore i => match st with | .inl (.double x) :: st => some (pc + 1, zset L i (zD x), st, h) | _ => none
  | .dstore_n i => match st with | .inl (.double x) :: st => some (pc + 1, zset L i.val (zD x), st, h) | _ => none
  | .astore i => match st with | .inr q :: st => some (pc + 1, zset L i (.inr q), st, h) | .inl .null :: st => some (pc + 1, zset L i zN, st, h) | _ => none
  | .astore_n i => match st with | .inr q :: st => some (pc + 1, zset L i.val (.inr q), st, h) | .inl .null :: st => some (pc + 1, zset L i.val zN, st, h) | _ => none
  | .iinc i n => (zget L i).bind fun v => match v with | .inl (.int x) => some (pc + 1, zset L i (zI (x + Int32.ofInt n)), st, h) | _ => none
  | .dup => match st with | v :: st => bif zcat v == 1 then some (pc + 1, L, v :: v :: st, h) else none | _ => none
  | .pop => match st with | v :: st => bif zcat v == 1 then some (pc + 1, L, st, h) else none | _ => none
  | .dup2 => match st with | v :: w :: st => bif zcat v == 1 && zcat w == 1 then some (pc + 1, L, v :: w :: v :: w :: st, h) else none | _ => none
  | _ => none
-- numbers
def zsNum (o : Instr) (pc : Nat) (L : zLs) (st : List zV) (h : zH) : Option zC := match o, st with
  | .iadd, .inl (.int y) :: .inl (.int x) :: st => some (pc + 1, L, zI (x + y) :: st, h)
  | .isub, .inl (.int y) :: .inl (.int x) :: st => some (pc + 1, L, zI (x - y) :: st, h)
  | .imul, .inl (.int y) :: .inl (.int x) :: st => some (pc + 1, L, zI (x * y) :: st, h)
  | .iand, .inl (.int y) :: .inl (.int x) :: st => some (pc + 1, L, zI (x &&& y) :: st, h)
  | .ior, .inl (.int y) :: .inl (.int x) :: st => some (pc + 1, L, zI (x ||| y) :: st, h)
  | .ixor, .inl (.int y) :: .inl (.int x) :: st => some (pc + 1, L, zI (x ^^^ y) :: st, h)
  | .idiv, .inl (.int y) :: .inl (.int x) :: st => if y = 0 then none else some (pc + 1, L, zI (x / y) :: st, h)
  | .irem, .inl (.int y) :: .inl (.int x) :: st => if y = 0 then none else some (pc + 1, L, zI (x - x / y * y) :: st, h)
  | .ishl, .inl (.int y) :: .inl (.int x) :: st => some (pc + 1, L, zI (x <<< (y &&& 31)) :: st, h)
  | .ishr, .inl (.int y) :: .inl (.int x) :: st => some (pc + 1, L, zI (x >>> (y &&& 31)) :: st, h)
  | .iushr, .inl (.int y) :: .inl (.int x) :: st => some (pc + 1, L, zI ((x.toUInt32 >>> (y.toUInt32 &&& Int32.toUInt32 31)).toInt32) :: st, h)
  | .i2l, .inl (.int x) :: st => some (pc + 1, L, zJ x.toInt64 :: st, h)
  | .i2f, .inl (.int x) :: st => some (pc + 1, L, zF (FP.i2f x) :: st, h)
  | .f2d, .inl (.float x) :: st => if FP.f2d x &&& 0x7fffffffffffffff ≤ 0x7ff0000000000000 then some (pc + 1, L, zD (FP.f2d x) :: st, h) else none
  | .dmul, .inl (.double y) :: .inl (.double x) :: st => if FP.dmul x y &&& 0x7fffffffffffffff ≤ 0x7ff0000000000000 then some (pc + 1, L, zD (FP.dmul x y) :: st, h) else none
  | .fdiv, .inl (.float y) :: .inl (.float x) :: st => if FP.fdiv x y &&& 0x7fffffff ≤ 0x7f800000 then some (pc + 1, L, zF (FP.fdiv x y) :: st, h) else none
  | _, _ => none
-- compares and branches; where it goes is the first of a
def zsCmp (o : Instr) (pc : Nat) (L : zLs) (st : List zV) (h : zH) : Option zC := match o, st with
  | .lcmp, .inl (.long y) :: .inl (.long x) :: st => some (pc + 1, L, zI (lg_cmp x y) :: st, h)
  | .dcmp op, .inl (.double y) :: .inl (.double x) :: st => some (pc + 1, L, zI (Op.cmpValue (FP.dcmp x y) op) :: st, h)
  | .fcmp op, .inl (.float y) :: .inl (.float x) :: st => some (pc + 1, L, zI (Op.cmpValue (FP.fcmp x y) op) :: st, h)
  | _, _ => none
def zref (v : zV) : Option (Option (Nat × Nat)) := match v with
  | .inr q => some (some q)
  | .inl .null => some none
  | _ => none
def zsIf (o : Instr) (t : Nat) (pc : Nat) (L : zLs) (st : List zV) (h : zH) : Option zC := match o, st with
  | .goto _, st => some (t, L, st, h)
  | .ifCond .eq _, .inl (.int x) :: st => some (if x = 0 then t else pc + 1, L, st, h)
  | .ifCond .ne _, .inl (.int x) :: st => some (if x = 0 then pc + 1 else t, L, st, h)
  | .ifCond .lt _, .inl (.int x) :: st => some (if x < 0 then t else pc + 1, L, st, h)
  | .ifCond .ge _, .inl (.int x) :: st => some (if 0 ≤ x then t else pc + 1, L, st, h)
  | .ifCond .gt _, .inl (.int x) :: st => some (if 0 < x then t else pc + 1, L, st, h)
  | .ifCond .le _, .inl (.int x) :: st => some (if x ≤ 0 then t else pc + 1, L, st, h)
  | .if_icmp .eq _, .inl (.int y) :: .inl (.int x) :: st => some (if x = y then t else pc + 1, L, st, h)
  | .if_icmp .ne _, .inl (.int y) :: .inl (.int x) :: st => some (if x = y then pc + 1 else t, L, st, h)
  | .if_icmp .lt _, .inl (.int y) :: .inl (.int x) :: st => some (if x < y then t else pc + 1, L, st, h)
  | .if_icmp .ge _, .inl (.int y) :: .inl (.int x) :: st => some (if y ≤ x then t else pc + 1, L, st, h)
  | .if_icmp .gt _, .inl (.int y) :: .inl (.int x) :: st => some (if y < x then t else pc + 1, L, st, h)
  | .if_icmp .le _, .inl (.int y) :: .inl (.int x) :: st => some (if x ≤ y then t else pc + 1, L, st, h)
  | .ifnull _, .inl .null :: st => some (t, L, st, h)
  | .ifnull _, .inr _ :: st => some (pc + 1, L, st, h)
  | .ifnonnull _, .inl .null :: st => some (pc + 1, L, st, h)
  | .ifnonnull _, .inr _ :: st => some (t, L, st, h)
  | .if_acmp .eq _, v :: w :: st => (zref w).bind fun x => (zref v).bind fun y => some (if x = y then t else pc + 1, L, st, h)
  | .if_acmp .ne _, v :: w :: st => (zref w).bind fun x => (zref v).bind fun y => some (if x = y then pc + 1 else t, L, st, h)
  | _, _ => none
def zsSw (o : Instr) (d : Nat) (ts : List Nat) (L : zLs) (st : List zV) (h : zH) : Option zC := match o, st with
  | .tableswitch _ lo hi _, .inl (.int x) :: st => if x.toInt < lo ∨ hi < x.toInt then some (d, L, st, h) else (ts[(x.toInt - lo).toNat]?).map fun t => (t, L, st, h)
  | _, _ => none
/-- a kind: 0 an object, of a class; 1 int[], 2 boolean[], 3 long[], 4 double[], 5 an array of references to a class's objects; 9 a list; 10 the script. By kinds: this, and the class -/
def zkT : List (Nat × Nat) := [(0, 0), (0, 1), (0, 2), (0, 3), (0, 4), (0, 5), (0, 6), (0, 7), (0, 7), (0, 8), (0, 9), (0, 10), (0, 11), (0, 12), (9, 13), (9, 13), (9, 13), (9, 13), (9, 13), (9, 13), (9, 13), (1, 0), (1, 0), (1, 0), (1, 0), (2, 0), (5, 0), (5, 9), (1, 0), (5, 0), (1, 0), (1, 0), (1, 0), (5, 8), (5, 2), (1, 0), (1, 0), (1, 0), (99, 0), (99, 0), (10, 0)]
def ztg (k : Nat) : Nat := bif Nat.ble 100 k then bif Nat.ble 200 k then (bif Nat.ble 300 k then 99 else 2) else 1 else (zkT[k]?.getD (99, 0)).1
theorem ztg_34 (k : Nat) : ztg k ≠ 3 ∧ ztg k ≠ 4 := by
  have a : ∀ p ∈ zkT, p.1 ≠ 3 ∧ p.1 ≠ 4 := by decide
  unfold ztg
  cases Nat.ble 100 k with
  | true =>
    cases Nat.ble 200 k with
    | true => cases Nat.ble 300 k <;> simp
    | false => simp
  | false =>
    show (zkT[k]?.getD (99, 0)).1 ≠ 3 ∧ (zkT[k]?.getD (99, 0)).1 ≠ 4
    cases e : zkT[k]? with
    | none => decide
    | some p => exact a p (List.mem_of_getElem? e)
def zkc (k : Nat) : Nat := (zkT[k]?.getD (99, 0)).2
/-- the types of fields: 0 int, 1 boolean, 2 double, 3 a reference -/
def zfT : List (List Nat) := [[0, 0, 0, 0, 0, 0, 0, 0, 1, 1, 0, 3], [0, 0, 0, 0, 0, 0, 0, 0, 1, 1, 0, 3], [3, 0, 0, 1, 0], [0, 0, 0, 0, 0, 0, 0, 0, 1, 1, 0, 3], [3, 3, 3, 0, 1], [3, 3, 0, 0, 0, 0, 1, 3, 1, 3, 3], [0, 0, 0, 0, 0, 0, 0, 0, 1, 1, 0, 3], [3, 0, 0, 3], [3, 3, 3, 0, 0, 0, 0, 1], [3, 3, 0, 1, 2, 3, 3], [0, 0, 0, 0, 0, 0, 0, 0, 1, 1, 0, 3], [3, 3, 3, 3, 3, 3, 3, 3, 3, 3, 3, 0, 0, 1, 0, 0, 0, 0], [0, 0, 0, 0, 0, 0, 0, 0, 1, 1, 0, 3]]
def zft (ci j : Nat) : Nat := (zfT[ci]?.getD [])[j]?.getD 99
abbrev zSK : Nat := 40
def zsFld (o : Instr) (a : List Nat) (pc : Nat) (L : zLs) (st : List zV) (h : zH) : Option zC := match o, a, st with
  | .getfield _, [ci, j, t], .inr (k, i) :: st => bif ztg k == 0 && zkc k == ci then (match t with
      | 0 => some (pc + 1, L, zI (zi h k i j) :: st, h)
      | 1 => some (pc + 1, L, zI (zi h k i j) :: st, h)
      | 2 => some (pc + 1, L, zD (zd h k i j) :: st, h)
      | _ => some (pc + 1, L, zrv (zr h k i j) :: st, h)) else none
  | .putfield _, [ci, j, t], v :: .inr (k, i) :: st => bif ztg k == 0 && zkc k == ci then (match t, v with
      | 0, .inl (.int x) => some (pc + 1, L, st, zsi h k i j x)
      | 1, .inl (.int x) => if x = 0 ∨ x = 1 then some (pc + 1, L, st, zsi h k i j x) else none
      | 2, .inl (.double x) => some (pc + 1, L, st, zsd h k i j x)
      | 3, .inr q => some (pc + 1, L, st, zsr h k i j (some q))
      | 3, .inl .null => some (pc + 1, L, st, zsr h k i j none)
      | _, _ => none) else none
  | _, _, _ => none
def zsArr (o : Instr) (pc : Nat) (L : zLs) (st : List zV) (h : zH) : Option zC := match o, st with
  | .iaload, .inl (.int x) :: .inr (k, i) :: st => bif ztg k == 1 || ztg k == 10 then (if x < 0 ∨ zln h k i ≤ x.toNatClampNeg then none else some (pc + 1, L, zI (zi h k i x.toNatClampNeg) :: st, h)) else none
  | .baload, .inl (.int x) :: .inr (k, i) :: st => bif ztg k == 2 then (if x < 0 ∨ zln h k i ≤ x.toNatClampNeg then none else some (pc + 1, L, zI (zi h k i x.toNatClampNeg) :: st, h)) else none
  | .laload, .inl (.int x) :: .inr (k, i) :: st => bif ztg k == 3 then (if x < 0 ∨ zln h k i ≤ x.toNatClampNeg then none else some (pc + 1, L, zJ (zl h k i x.toNatClampNeg) :: st, h)) else none
  | .daload, .inl (.int x) :: .inr (k, i) :: st => bif ztg k == 4 then (if x < 0 ∨ zln h k i ≤ x.toNatClampNeg then none else some (pc + 1, L, zD (zd h k i x.toNatClampNeg) :: st, h)) else none
  | .aaload, .inl (.int x) :: .inr (k, i) :: st => bif ztg k == 5 then (if x < 0 ∨ zln h k i ≤ x.toNatClampNeg then none else some (pc + 1, L, zrv (zr h k i x.toNatClampNeg) :: st, h)) else none
  | .iastore, .inl (.int y) :: .inl (.int x) :: .inr (k, i) :: st => bif ztg k == 1 then (if x < 0 ∨ zln h k i ≤ x.toNatClampNeg then none else some (pc + 1, L, st, zsi h k i x.toNatClampNeg y)) else none
  | .bastore, .inl (.int y) :: .inl (.int x) :: .inr (k, i) :: st => bif ztg k == 2 then (if x < 0 ∨ zln h k i ≤ x.toNatClampNeg then none else if y = 0 ∨ y = 1 then some (pc + 1, L, st, zsi h k i x.toNatClampNeg y) else none) else none
  | .lastore, .inl (.long y) :: .inl (.int x) :: .inr (k, i) :: st => bif ztg k == 3 then (if x < 0 ∨ zln h k i ≤ x.toNatClampNeg then none else some (pc + 1, L, st, zsl h k i x.toNatClampNeg y)) else none
  | .dastore, .inl (.double y) :: .inl (.int x) :: .inr (k, i) :: st => bif ztg k == 4 then (if x < 0 ∨ zln h k i ≤ x.toNatClampNeg then none else some (pc + 1, L, st, zsd h k i x.toNatClampNeg y)) else none
  | .aastore, .inl .null :: .inl (.int x) :: .inr (k, i) :: st => bif ztg k == 5 then (if x < 0 ∨ zln h k i ≤ x.toNatClampNeg then none else some (pc + 1, L, st, zsr h k i x.toNatClampNeg none)) else none
  | .aastore, .inr (k2, i2) :: .inl (.int x) :: .inr (k, i) :: st => bif ztg k == 5 && ztg k2 == 0 && zkc k == zkc k2 then (if x < 0 ∨ zln h k i ≤ x.toNatClampNeg then none else some (pc + 1, L, st, zsr h k i x.toNatClampNeg (some (k2, i2)))) else none
  | .arraylength, .inr (k, i) :: st => bif ztg k == 1 || ztg k == 10 then some (pc + 1, L, zI (nI (zln h k i)) :: st, h) else none
  | _, _ => none
/-- how many fields a class's objects have -/
def zfN : List Nat := [12, 12, 5, 12, 5, 11, 12, 4, 8, 7, 12, 18, 12]
def zsNew (o : Instr) (a : List Nat) (pc : Nat) (L : zLs) (st : List zV) (h : zH) : Option zC := match o, a, st with
  | .new _, [k], st => bif ztg k == 0 then some (pc + 1, L, zR k (zct h k) :: st, znw h k 0 (zfN[zkc k]?.getD 0)) else bif ztg k == 9 then some (pc + 1, L, zR k (zct h k) :: st, znw h k 0 3) else none
  | .newarray .int, [k], .inl (.int x) :: st => bif ztg k == 1 then (if x < 0 ∨ 100000 < x.toNatClampNeg then none else some (pc + 1, L, zR k (zct h k) :: st, znw h k x.toNatClampNeg x.toNatClampNeg)) else none
  | .newarray .boolean, [k], .inl (.int x) :: st => bif ztg k == 2 then (if x < 0 ∨ 100000 < x.toNatClampNeg then none else some (pc + 1, L, zR k (zct h k) :: st, znw h k x.toNatClampNeg x.toNatClampNeg)) else none
  | .newarray .long, [k], .inl (.int x) :: st => bif ztg k == 3 then (if x < 0 ∨ 100000 < x.toNatClampNeg then none else some (pc + 1, L, zR k (zct h k) :: st, znw h k x.toNatClampNeg x.toNatClampNeg)) else none
  | .newarray .double, [k], .inl (.int x) :: st => bif ztg k == 4 then (if x < 0 ∨ 100000 < x.toNatClampNeg then none else some (pc + 1, L, zR k (zct h k) :: st, znw h k x.toNatClampNeg x.toNatClampNeg)) else none
  | .anewarray _, [k], .inl (.int x) :: st => bif ztg k == 5 then (if x < 0 ∨ 100000 < x.toNatClampNeg then none else some (pc + 1, L, zR k (zct h k) :: st, znw h k x.toNatClampNeg x.toNatClampNeg)) else none
  | .checkcast _, [ci], .inr (k, i) :: st => bif ztg k == 0 && zkc k == ci then some (pc + 1, L, .inr (k, i) :: st, h) else none
  | _, _, _ => none
/-- how many places a list has that has so many elements (only added to) -/
def zcap (n : Nat) : Nat := if n = 0 then 0 else if n ≤ 10 then 10 else if n ≤ 15 then 15 else if n ≤ 22 then 22 else 33
/-- of which class a list's elements are, by the list's kind -/
def zel (k : Nat) : Nat := match k with
  | 14 => 0
  | 15 => 4
  | 16 => 5
  | 17 => 3
  | 18 => 10
  | 19 => 1
  | 20 => 6
  | _ => 99
def zelB (h : zH) (k i : Nat) : Bool := (List.range (zln h k i)).all fun j => match zr h k i j with
  | some q => ztg q.1 == 0 && zkc q.1 == zel k
  | none => false
/-- calls of the library that are taken whole: 0 Object(), 1 ArrayList(), 2 size, 3 get, 4 add, 5 copyOf, 6 min -/
def zsLib0 (w : Nat) (pc : Nat) (L : zLs) (st : List zV) (h : zH) : Option zC := match w, st with
  | 0, .inr _ :: st => some (pc + 1, L, st, h)
  | 1, .inr (k, i) :: st => bif ztg k == 9 then (if zi h k i 1 = 0 ∧ zln h k i = 0 then some (pc + 1, L, st, zsi h k i 1 1) else none) else none
  | 2, .inr (k, i) :: st => bif ztg k == 9 then (if zi h k i 1 = 1 then some (pc + 1, L, zI (nI (zln h k i)) :: st, h) else none) else none
  | 3, .inl (.int x) :: .inr (k, i) :: st => bif ztg k == 9 then (if zi h k i 1 = 1 then (if x < 0 ∨ zln h k i ≤ x.toNatClampNeg ∨ 33 < zln h k i then none else some (pc + 1, L, zrv (zr h k i x.toNatClampNeg) :: st, h)) else none) else none
  | 4, .inr (k2, i2) :: .inr (k, i) :: st => bif ztg k == 9 && ztg k2 == 0 && (zkc k2 == zel k && zelB h k i) then (if zi h k i 1 = 1 ∧ zln h k i < 33 then
      some (pc + 1, L, zI 1 :: st, if zcap (zln h k i) = zln h k i then zro (zsn (zsr h k i (zln h k i) (some (k2, i2))) k i (zln h k i + 1)) 1 (zcap (zln h k i + 1)) else zsn (zsr h k i (zln h k i) (some (k2, i2))) k i (zln h k i + 1)) else none) else none
  | 5, .inl (.int x) :: .inr (k, i) :: st => bif ztg k == 1 then (if x < 0 ∨ 100000 < x.toNatClampNeg ∨ x.toNatClampNeg ≤ zln h k i then none else
      some (pc + 1, L, zR 32 (zct h 32) :: st, znwi h 32 x.toNatClampNeg x.toNatClampNeg (fun j => if j < zln h k i then zi h k i j else 0))) else none
  | 6, .inl (.int y) :: .inl (.int x) :: st => some (pc + 1, L, zI (if y < x then y else x) :: st, h)
  | _, _ => none
def zsLib (w : Nat) (pc : Nat) (L : zLs) (st : List zV) (h : zH) : Option zC := bif Nat.ble st.length 5 then zsLib0 w pc L st h else none
def zstp (o : zOp) (pc : Nat) (L : zLs) (st : List zV) (h : zH) : Option zC := match o.2.1 with
  | 0 :: a => zsLoc o.1.1 a pc L st h
  | 1 :: _ => zsNum o.1.1 pc L st h
  | 2 :: _ => zsCmp o.1.1 pc L st h
  | 3 :: t :: _ => zsIf o.1.1 t pc L st h
  | 4 :: d :: ts => zsSw o.1.1 d ts L st h
  | 5 :: a => zsFld o.1.1 a pc L st h
  | 6 :: _ => zsArr o.1.1 pc L st h
  | 7 :: a => zsNew o.1.1 a pc L st h
  | 8 :: w :: _ => zsLib w pc L st h
  | _ => none
/-- a program: its instructions by method and place; by method how many locals, and what kind of answer; by method which exceptions it catches: from, to, which, the answer then -/
abbrev zP : Type := (Nat → Nat → Option zOp) × (Nat → Nat × Nat) × (Nat → List (Nat × Nat × Nat × Nat))
/-- how a method ends: with an answer or none; with an exception: 0 IllegalArgument, 1 IllegalState, 2 IndexOutOfBounds -/
abbrev zO : Type := Option zV ⊕ Nat
def zarg (na : Nat) (st : List zV) : Option (List zV × List zV) := bif Nat.ble na st.length then some ((st.take na).reverse, st.drop na) else none
def zrcv (ci : Nat) (as : List zV) : Bool := match ci, as with
  | 99, _ => true
  | ci, .inr (k, _) :: _ => ztg k == 0 && zkc k == ci
  | _, _ => false
def zpad (n : Nat) (L : zLs) : zLs := L ++ List.replicate (n - L.length) none
def zret (c : Nat) (st : List zV) : Option (Option zV) := match c, st with
  | 0, [] => some none
  | 1, [.inl (.int x)] => some (some (zI x))
  | 2, [.inl (.int x)] => if x = 0 ∨ x = 1 then some (some (zI x)) else none
  | 3, [.inr q] => some (some (.inr q))
  | 3, [.inl .null] => some (some zN)
  | 4, [.inl (.double x)] => some (some (zD x))
  | 5, [.inl (.float x)] => some (some (zF x))
  | _, _ => none
def zhnd (l : List (Nat × Nat × Nat × Nat)) (pc E : Nat) : Option Nat := match l with
  | [] => none
  | x :: l => bif Nat.ble x.1 pc && Nat.blt pc x.2.1 && x.2.2.1 == E then some x.2.2.2 else zhnd l pc E
/-- what lies below a call's arguments: at most four values, or eight words -/
def zsw : List zV → Nat
  | [] => 0
  | v :: st => zcat v + zsw st
def zsk4 (st : List zV) : Bool := Nat.ble st.length 4 || Nat.ble (zsw st) 8
theorem zsk4_w {st : List zV} (h : Nat.ble (zsw st) 8 = true) : zsk4 st = true := by
  unfold zsk4
  rw [h, Bool.or_true]
def zrun (P : zP) : Nat → Nat → Nat → zLs → List zV → zH → Option (zO × zH)
  | 0, _, _, _, _, _ => none
  | n + 1, mi, pc, L, st, h => match P.1 mi pc with
    | none => none
    | some o => match o.2.1 with
      | 9 :: mj :: na :: ci :: kd :: _ => match zarg na st with
        | none => none
        | some (as, st') => bif zrcv ci as && zsk4 st' && Nat.ble (zil as).length (P.2.1 mj).1 then (match zrun P n mj 0 (zpad (P.2.1 mj).1 (zil as)) [] h with
          | none => none
          | some (.inl none, h') => zrun P n mi (pc + 1) (ztr o.2.2 L) st' h'
          | some (.inl (some v), h') => zrun P n mi (pc + 1) (ztr o.2.2 L) (v :: st') h'
          | some (.inr E, h') => bif Nat.blt kd 2 then (match P.2.2 mi with
            | [] => some (.inr E, h')
            | x :: l => match zhnd (x :: l) pc E with
              | some c => some (.inl (some (zI (nI c))), h')
              | none => none) else none) else none
      | 10 :: _ => match zret (P.2.1 mi).2 st with
        | none => none
        | some v => some (.inl v, h)
      | 11 :: E :: _ => match P.2.2 mi, st with
        | [], [] => some (.inr E, zro h 1 6)
        | _, _ => none
      | _ => match zstp o pc (ztr o.2.2 L) st h with
        | none => none
        | some c => zrun P n mi c.1 c.2.1 c.2.2.1 c.2.2.2
