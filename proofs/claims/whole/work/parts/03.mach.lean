-- an abstract machine of my own: numbered cells, frames with a list of locals and a stack; references are numbers of cells
abbrev zC : Type := (Nat × List Value) ⊕ (Nat × List Value)
/-- the script, where it is read -/
abbrev zX : Type := Option (Nat × (Nat → Int32))
abbrev zS : Type := Nat × List (Nat × Value) × List Value
/-- an instruction and what it links: place, instruction, length, two numbers, a word's place, a constant -/
abbrev zE : Type := Nat × Jvm.ClassFile.Instr × Nat × Nat × Nat × Nat × Value
/-- a method: name, code, locals, answer, number of parameters, the words' places, kind (0 static, 1 virtual, 2 constructor), instructions in groups -/
abbrev zM : Type := MethodName × ByteArray × Nat × Option FieldType × Nat × (Nat × Nat × Nat × Nat) × Nat × List (Nat × List zE)
/-- the heap, and how many slots have been made -/
abbrev zH : Type := List zC × Nat
def mY (M : zM) : MethodName := M.1
def mC (M : zM) : ByteArray := M.2.1
def mL (M : zM) : Nat := M.2.2.1
def mR (M : zM) : Option FieldType := M.2.2.2.1
def mN (M : zM) : Nat := M.2.2.2.2.1
def mW (M : zM) : Nat × Nat × Nat × Nat := M.2.2.2.2.2.1
def mK (M : zM) : Nat := M.2.2.2.2.2.2.1
def mT (M : zM) : List (Nat × List zE) := M.2.2.2.2.2.2.2
def xP (x : zE) : Nat := x.1
def xI (x : zE) : Jvm.ClassFile.Instr := x.2.1
def xN (x : zE) : Nat := x.2.2.1
def xA (x : zE) : Nat := x.2.2.2.1
def xB (x : zE) : Nat := x.2.2.2.2.1
def xW (x : zE) : Nat := x.2.2.2.2.2.1
def xV (x : zE) : Value := x.2.2.2.2.2.2
def zgl (lv : List (Nat × Value)) (i : Nat) : Option Value := match lv with
  | [] => none
  | q :: r => match Nat.beq q.1 i with
    | true => some q.2
    | false => zgl r i
def zst (lv : List (Nat × Value)) (i : Nat) (v : Value) : List (Nat × Value) := (i, v) :: lv.filter (fun q => !(q.1 == i) && !(q.1 + 1 == i && q.2.category == 2))
def zst2 (lv : List (Nat × Value)) (i : Nat) (v : Value) : List (Nat × Value) := (i, v) :: lv.filter (fun q => !(q.1 == i) && (!(q.1 == i + 1) && !(q.1 + 1 == i && q.2.category == 2)))
def ztg (pc : Nat) (off : Int) : Option Nat := match Int.add (Int.ofNat pc) off with
  | .ofNat t => some t
  | .negSucc _ => none
def zlen (i : Jvm.ClassFile.Instr) (n : Nat) : Nat := match i with
  | .aload _ => 2
  | .astore _ => 2
  | .iload _ => 2
  | .istore _ => 2
  | .lload _ => 2
  | .lstore _ => 2
  | .bipush _ => 2
  | .ldc _ => 2
  | .newarray _ => 2
  | .sipush _ => 3
  | .ldc_w _ => 3
  | .ldc2_w _ => 3
  | .iinc _ _ => 3
  | .ifCond _ _ => 3
  | .if_icmp _ _ => 3
  | .ifnull _ => 3
  | .ifnonnull _ => 3
  | .goto _ => 3
  | .getfield _ => 3
  | .putfield _ => 3
  | .invokevirtual _ => 3
  | .invokespecial _ => 3
  | .invokestatic _ => 3
  | .new _ => 3
  | .anewarray _ => 3
  | .checkcast _ => 3
  | .tableswitch _ _ _ _ => n
  | _ => 1
def zlk (t : List zE) (pc : Nat) : Option zE := match t with
  | [] => none
  | x :: r => match Nat.beq x.1 pc with
    | true => some x
    | false => zlk r pc
def zlk2 (t : List (Nat × List zE)) (pc : Nat) : Option zE := match t with
  | [] => none
  | c :: r => match Nat.ble pc c.1 with
    | true => zlk c.2 pc
    | false => zlk2 r pc
def zc (c : Jvm.ClassFile.Cond) (x y : Int32) : Bool := match c with
  | .eq => decide (x = y)
  | .ne => decide (¬ x = y)
  | .lt => decide (x < y)
  | .ge => decide (y ≤ x)
  | .gt => decide (y < x)
  | .le => decide (x ≤ y)
def zi1 (pc : Nat) (lv : List (Nat × Value)) (st : List Value) (f : Int32 → Value) : Option zS := match st with
  | .int x :: r => some (pc, lv, f x :: r)
  | _ => none
def zi2 (pc : Nat) (lv : List (Nat × Value)) (st : List Value) (f : Int32 → Int32 → Value) : Option zS := match st with
  | .int y :: .int x :: r => some (pc, lv, f x y :: r)
  | _ => none
def zl1 (pc : Nat) (lv : List (Nat × Value)) (st : List Value) (f : Int64 → Value) : Option zS := match st with
  | .long x :: r => some (pc, lv, f x :: r)
  | _ => none
def zl2 (pc : Nat) (lv : List (Nat × Value)) (st : List Value) (f : Int64 → Int64 → Value) : Option zS := match st with
  | .long y :: .long x :: r => some (pc, lv, f x y :: r)
  | _ => none
def zbr (c : Bool) (pc : Nat) (off : Int) (lv : List (Nat × Value)) (r : List Value) : Option zS := match ztg pc off with
  | none => none
  | some t => match c with
    | true => some (t, lv, r)
    | false => some (pc + 3, lv, r)
def zb1 (c : Int32 → Bool) (pc : Nat) (off : Int) (lv : List (Nat × Value)) (st : List Value) : Option zS := match st with
  | .int x :: r => zbr (c x) pc off lv r
  | _ => none
def zb2 (c : Int32 → Int32 → Bool) (pc : Nat) (off : Int) (lv : List (Nat × Value)) (st : List Value) : Option zS := match st with
  | .int y :: .int x :: r => zbr (c x y) pc off lv r
  | _ => none
def zbn (n : Bool) (pc : Nat) (off : Int) (lv : List (Nat × Value)) (st : List Value) : Option zS := match st with
  | .null :: r => zbr n pc off lv r
  | .ref _ :: r => zbr (!n) pc off lv r
  | _ => none
def zld (k : Nat) (pc : Nat) (lv : List (Nat × Value)) (st : List Value) (i : Nat) : Option zS := match zgl lv i with
  | some (.int x) => match k with
    | 0 => some (pc, lv, .int x :: st)
    | _ => none
  | some (.long x) => match k with
    | 1 => some (pc, lv, .long x :: st)
    | _ => none
  | some (.ref x) => match k with
    | 2 => some (pc, lv, .ref x :: st)
    | _ => none
  | some .null => match k with
    | 2 => some (pc, lv, .null :: st)
    | _ => none
  | some (.retAddr x) => match k with
    | 2 => some (pc, lv, .retAddr x :: st)
    | _ => none
  | _ => none
def zsi (pc : Nat) (lv : List (Nat × Value)) (st : List Value) (i : Nat) : Option zS := match st with
  | .int x :: r => some (pc, zst lv i (.int x), r)
  | _ => none
def zsl (pc : Nat) (lv : List (Nat × Value)) (st : List Value) (i : Nat) : Option zS := match st with
  | .long x :: r => some (pc, zst2 lv i (.long x), r)
  | _ => none
def zsa (pc : Nat) (lv : List (Nat × Value)) (st : List Value) (i : Nat) : Option zS := match st with
  | .ref x :: r => some (pc, zst lv i (.ref x), r)
  | .null :: r => some (pc, zst lv i .null, r)
  | _ => none
def zinc (pc : Nat) (lv : List (Nat × Value)) (st : List Value) (i : Nat) (n : Int) : Option zS := match zgl lv i with
  | some (.int x) => some (pc, zst lv i (.int (x + Int32.ofInt n)), st)
  | _ => none
def zone (v : Value) : Bool := match v with
  | .long _ => false
  | .double _ => false
  | _ => true
def zd0 (pc : Nat) (lv : List (Nat × Value)) (st : List Value) : Option zS := match st with
  | v :: r => match zone v with
    | true => some (pc, lv, v :: v :: r)
    | false => none
  | _ => none
def zdx1 (pc : Nat) (lv : List (Nat × Value)) (st : List Value) : Option zS := match st with
  | v :: w :: r => match zone v && zone w with
    | true => some (pc, lv, v :: w :: v :: r)
    | false => none
  | _ => none
def zdx2 (pc : Nat) (lv : List (Nat × Value)) (st : List Value) : Option zS := match st with
  | v :: w :: u :: r => match zone v && (zone w && zone u) with
    | true => some (pc, lv, v :: w :: u :: v :: r)
    | false => none
  | _ => none
def zd2 (pc : Nat) (lv : List (Nat × Value)) (st : List Value) : Option zS := match st with
  | v :: w :: r => match zone v && zone w with
    | true => some (pc, lv, v :: w :: v :: w :: r)
    | false => none
  | _ => none
def zpo (pc : Nat) (lv : List (Nat × Value)) (st : List Value) : Option zS := match st with
  | v :: r => match zone v with
    | true => some (pc, lv, r)
    | false => none
  | _ => none
def zki (pc : Nat) (lv : List (Nat × Value)) (st : List Value) (v : Value) : Option zS := match v with
  | .int x => some (pc, lv, .int x :: st)
  | _ => none
def zkl (pc : Nat) (lv : List (Nat × Value)) (st : List Value) (v : Value) : Option zS := match v with
  | .long x => some (pc, lv, .long x :: st)
  | _ => none
/-- division: the divisor isn't 0 -/
def zdv (pc : Nat) (lv : List (Nat × Value)) (st : List Value) (f : Int32 → Int32 → Value) : Option zS := match st with
  | .int y :: .int x :: r => match decide (y = 0) with
    | true => none
    | false => some (pc, lv, f x y :: r)
  | _ => none
def zdvl (pc : Nat) (lv : List (Nat × Value)) (st : List Value) (f : Int64 → Int64 → Value) : Option zS := match st with
  | .long y :: .long x :: r => match decide (y = 0) with
    | true => none
    | false => some (pc, lv, f x y :: r)
  | _ => none
def zgo (pc : Nat) (off : Int) (lv : List (Nat × Value)) (st : List Value) : Option zS := match ztg pc off with
  | none => none
  | some t => some (t, lv, st)
def ztsw (pc : Nat) (d lo hi : Int) (offs : Array Int) (lv : List (Nat × Value)) (st : List Value) : Option zS := match st with
  | .int x :: r => match decide (x.toInt < lo) || decide (hi < x.toInt) with
    | true => zgo pc d lv r
    | false => match offs[(x.toInt - lo).toNat]? with
      | some off => zgo pc off lv r
      | none => none
  | _ => none
/-- a step that neither reads nor writes the heap -/
def zp (i : Jvm.ClassFile.Instr) (kv : Value) (pc : Nat) (lv : List (Nat × Value)) (st : List Value) : Option zS := match i with
  | .iconst n => some (pc + 1, lv, .int (Int32.ofInt n) :: st)
  | .bipush n => some (pc + 2, lv, .int (Int8.ofInt n).toInt32 :: st)
  | .sipush n => some (pc + 3, lv, .int (Int16.ofInt n).toInt32 :: st)
  | .lconst n => some (pc + 1, lv, .long (Int64.ofNat n.val) :: st)
  | .aconst_null => some (pc + 1, lv, .null :: st)
  | .ldc _ => zki (pc + 2) lv st kv
  | .ldc_w _ => zki (pc + 3) lv st kv
  | .ldc2_w _ => zkl (pc + 3) lv st kv
  | .iload k => zld 0 (pc + 2) lv st k
  | .iload_n k => zld 0 (pc + 1) lv st k.val
  | .lload k => zld 1 (pc + 2) lv st k
  | .lload_n k => zld 1 (pc + 1) lv st k.val
  | .aload k => zld 2 (pc + 2) lv st k
  | .aload_n k => zld 2 (pc + 1) lv st k.val
  | .istore k => zsi (pc + 2) lv st k
  | .istore_n k => zsi (pc + 1) lv st k.val
  | .lstore k => zsl (pc + 2) lv st k
  | .lstore_n k => zsl (pc + 1) lv st k.val
  | .astore k => zsa (pc + 2) lv st k
  | .astore_n k => zsa (pc + 1) lv st k.val
  | .iinc k n => zinc (pc + 3) lv st k n
  | .iadd => zi2 (pc + 1) lv st (fun x y => .int (x + y))
  | .isub => zi2 (pc + 1) lv st (fun x y => .int (x - y))
  | .imul => zi2 (pc + 1) lv st (fun x y => .int (x * y))
  | .iand => zi2 (pc + 1) lv st (fun x y => .int (x &&& y))
  | .ior => zi2 (pc + 1) lv st (fun x y => .int (x ||| y))
  | .ixor => zi2 (pc + 1) lv st (fun x y => .int (x ^^^ y))
  | .ishl => zi2 (pc + 1) lv st (fun x y => .int (x <<< (y &&& 31)))
  | .ishr => zi2 (pc + 1) lv st (fun x y => .int (x >>> (y &&& 31)))
  | .iushr => zi2 (pc + 1) lv st (fun x y => .int (x.toUInt32 >>> (y.toUInt32 &&& Int32.toUInt32 31)).toInt32)
  | .idiv => zdv (pc + 1) lv st (fun x y => .int (x / y))
  | .irem => zdv (pc + 1) lv st (fun x y => .int (x - x / y * y))
  | .ineg => zi1 (pc + 1) lv st (fun x => .int (-x))
  | .i2l => zi1 (pc + 1) lv st (fun x => .long x.toInt64)
  | .i2b => zi1 (pc + 1) lv st (fun x => .int x.toInt8.toInt32)
  | .ladd => zl2 (pc + 1) lv st (fun x y => .long (x + y))
  | .lsub => zl2 (pc + 1) lv st (fun x y => .long (x - y))
  | .lmul => zl2 (pc + 1) lv st (fun x y => .long (x * y))
  | .land => zl2 (pc + 1) lv st (fun x y => .long (x &&& y))
  | .lor => zl2 (pc + 1) lv st (fun x y => .long (x ||| y))
  | .ldiv => zdvl (pc + 1) lv st (fun x y => .long (x / y))
  | .lrem => zdvl (pc + 1) lv st (fun x y => .long (x - x / y * y))
  | .lneg => zl1 (pc + 1) lv st (fun x => .long (-x))
  | .l2i => zl1 (pc + 1) lv st (fun x => .int x.toInt32)
  | .lcmp => zl2 (pc + 1) lv st (fun x y => .int (lg_cmp x y))
  | .dup => zd0 (pc + 1) lv st
  | .dup_x1 => zdx1 (pc + 1) lv st
  | .dup_x2 => zdx2 (pc + 1) lv st
  | .dup2 => zd2 (pc + 1) lv st
  | .pop => zpo (pc + 1) lv st
  | .goto off => zgo pc off lv st
  | .ifCond c off => zb1 (fun x => zc c x 0) pc off lv st
  | .if_icmp c off => zb2 (fun x y => zc c x y) pc off lv st
  | .ifnull off => zbn true pc off lv st
  | .ifnonnull off => zbn false pc off lv st
  | .tableswitch d lo hi offs => ztsw pc d lo hi offs lv st
  | _ => none
def zfit (ty : FieldType) (v : Value) : Bool := match ty with
  | .int => match v with
    | .int _ => true
    | _ => false
  | .long => match v with
    | .long _ => true
    | _ => false
  | .boolean => match v with
    | .int k => decide (k = 0) || decide (k = 1)
    | _ => false
  | .object _ => match v with
    | .null => true
    | .ref _ => true
    | _ => false
  | .array _ => match v with
    | .null => true
    | .ref _ => true
    | _ => false
  | _ => false
def zrt (t : Nat) : Bool := match zte t with
  | some _ => true
  | none => false
def zin (j : Int32) (n : Nat) : Bool := decide (¬ (j < 0 ∨ n ≤ j.toNatClampNeg))
def zgf (a b : Nat) (h : List zC) (pc : Nat) (lv : List (Nat × Value)) (st : List Value) : Option zS := match st with
  | .ref k :: r => match h[k]? with
    | some (.inr o) => match Nat.beq o.1 a with
      | true => match o.2[b]? with
        | some v => some (pc, lv, v :: r)
        | none => none
      | false => none
    | _ => none
  | _ => none
def zal (t0 : Nat → Bool) (xs : zX) (h : List zC) (pc : Nat) (lv : List (Nat × Value)) (st : List Value) : Option zS := match st with
  | .int j :: .ref k :: r => match h[k]? with
    | some (.inl q) => match t0 q.1 && zin j q.2.length with
      | true => match q.2[j.toNatClampNeg]? with
        | some v => some (pc, lv, v :: r)
        | none => none
      | false => none
    | _ => none
  | .int j :: .retAddr _ :: r => match xs with
    | some x => match t0 0 && zin j x.1 with
      | true => some (pc, lv, .int (x.2 j.toNatClampNeg) :: r)
      | false => none
    | none => none
  | _ => none
def zle (xs : zX) (h : List zC) (pc : Nat) (lv : List (Nat × Value)) (st : List Value) : Option zS := match st with
  | .ref k :: r => match h[k]? with
    | some (.inl q) => match Nat.blt q.1 zNT with
      | true => some (pc, lv, .int (Int32.ofNat q.2.length) :: r)
      | false => none
    | _ => none
  | .retAddr _ :: r => match xs with
    | some x => some (pc, lv, .int (Int32.ofNat x.1) :: r)
    | none => none
  | _ => none
/-- a cast of an int array to its own class -/
def zcc (h : List zC) (pc : Nat) (lv : List (Nat × Value)) (st : List Value) : Option zS := match st with
  | .ref k :: r => match h[k]? with
    | some (.inl q) => match Nat.beq q.1 0 with
      | true => some (pc, lv, .ref k :: r)
      | false => none
    | _ => none
  | _ => none
/-- a step that reads the heap -/
def zr (i : Jvm.ClassFile.Instr) (a b : Nat) (xs : zX) (h : List zC) (pc : Nat) (lv : List (Nat × Value)) (st : List Value) : Option zS := match i with
  | .getfield _ => zgf a b h (pc + 3) lv st
  | .iaload => zal (fun t => Nat.beq t 0) xs h (pc + 1) lv st
  | .aaload => zal zrt xs h (pc + 1) lv st
  | .baload => zal (fun t => Nat.beq t 1) xs h (pc + 1) lv st
  | .laload => zal (fun t => Nat.beq t 2) xs h (pc + 1) lv st
  | .arraylength => zle xs h (pc + 1) lv st
  | .checkcast _ => zcc h (pc + 3) lv st
  | _ => none
def zpf (a b : Nat) (h : List zC) (pc : Nat) (lv : List (Nat × Value)) (st : List Value) : Option (zS × List zC) := match st with
  | v :: .ref k :: r => match h[k]? with
    | some (.inr o) => match Nat.beq o.1 a && (Nat.blt b o.2.length && zfit (zty a b) v) with
      | true => some ((pc, lv, r), h.set k (.inr (o.1, o.2.set b v)))
      | false => none
    | _ => none
  | _ => none
def zis (h : List zC) (pc : Nat) (lv : List (Nat × Value)) (st : List Value) : Option (zS × List zC) := match st with
  | .int x :: .int j :: .ref k :: r => match h[k]? with
    | some (.inl q) => match Nat.beq q.1 0 && zin j q.2.length with
      | true => some ((pc, lv, r), h.set k (.inl (q.1, q.2.set j.toNatClampNeg (.int x))))
      | false => none
    | _ => none
  | _ => none
def zbs (h : List zC) (pc : Nat) (lv : List (Nat × Value)) (st : List Value) : Option (zS × List zC) := match st with
  | .int x :: .int j :: .ref k :: r => match h[k]? with
    | some (.inl q) => match Nat.beq q.1 1 && zin j q.2.length with
      | true => some ((pc, lv, r), h.set k (.inl (q.1, q.2.set j.toNatClampNeg (.int (x &&& 1)))))
      | false => none
    | _ => none
  | _ => none
def zls (h : List zC) (pc : Nat) (lv : List (Nat × Value)) (st : List Value) : Option (zS × List zC) := match st with
  | .long x :: .int j :: .ref k :: r => match h[k]? with
    | some (.inl q) => match Nat.beq q.1 2 && zin j q.2.length with
      | true => some ((pc, lv, r), h.set k (.inl (q.1, q.2.set j.toNatClampNeg (.long x))))
      | false => none
    | _ => none
  | _ => none
def zes (h : List zC) (t : Nat) (v : Value) : Bool := match v with
  | .null => zrt t
  | .ref u => match h[u]? with
    | some (.inr o) => match zte t with
      | some c => Nat.beq c o.1
      | none => false
    | _ => false
  | _ => false
def zas (h : List zC) (pc : Nat) (lv : List (Nat × Value)) (st : List Value) : Option (zS × List zC) := match st with
  | v :: .int j :: .ref k :: r => match h[k]? with
    | some (.inl q) => match zes h q.1 v && zin j q.2.length with
      | true => some ((pc, lv, r), h.set k (.inl (q.1, q.2.set j.toNatClampNeg v)))
      | false => none
    | _ => none
  | _ => none
/-- a step that writes the heap -/
def zw (i : Jvm.ClassFile.Instr) (a b : Nat) (h : List zC) (pc : Nat) (lv : List (Nat × Value)) (st : List Value) : Option (zS × List zC) := match i with
  | .putfield _ => zpf a b h (pc + 3) lv st
  | .iastore => zis h (pc + 1) lv st
  | .aastore => zas h (pc + 1) lv st
  | .bastore => zbs h (pc + 1) lv st
  | .lastore => zls h (pc + 1) lv st
  | _ => none
def zna (a : Nat) (d : Value) (h : zH) (pc : Nat) (lv : List (Nat × Value)) (st : List Value) : Option (zS × zH) := match st with
  | .int n :: r => match decide (¬ n < 0) && Nat.ble (n.toNatClampNeg * 8) 536870912 with
    | true => some ((pc, lv, .ref h.1.length :: r), (h.1 ++ [.inl (a, List.replicate n.toNatClampNeg d)], h.2 + n.toNatClampNeg))
    | false => none
  | _ => none
/-- a step that makes a cell -/
def zn (i : Jvm.ClassFile.Instr) (a : Nat) (h : zH) (pc : Nat) (lv : List (Nat × Value)) (st : List Value) : Option (zS × zH) := match i with
  | .new _ => some ((pc + 3, lv, .ref h.1.length :: st), (h.1 ++ [.inr (a, zdf a)], h.2 + (zdf a).length))
  | .newarray t => match t with
    | .int => zna a (.int 0) h (pc + 2) lv st
    | .boolean => zna a (.int 0) h (pc + 2) lv st
    | .long => zna a (.long 0) h (pc + 2) lv st
    | _ => none
  | .anewarray _ => zna a .null h (pc + 3) lv st
  | _ => none
def zpop (n : Nat) (st : List Value) : Option (List Value × List Value) := match n with
  | 0 => some ([], st)
  | n + 1 => match st with
    | [] => none
    | v :: r => match zpop n r with
      | some q => some (q.1 ++ [v], q.2)
      | none => none
def zcat (st : List Value) : Nat := (st.map fun v => v.category).sum
def zrc (k cx : Nat) (as : List Value) (h : List zC) : Bool := match k with
  | 0 => true
  | 1 => match as with
    | .ref u :: _ => match h[u]? with
      | some (.inr o) => Nat.beq o.1 cx
      | _ => false
    | _ => false
  | _ => match as with
    | .ref _ :: _ => true
    | _ => false
def zco (k : Nat) (n : Nat) : Nat := match k with
  | 0 => n
  | _ => n + 1
/-- a call of a method of the table -/
def zcm (mt : List zM) (call : Nat → List Value → zH → Option (Option Value × zH)) (kind a : Nat) (h : zH) (pc : Nat) (lv : List (Nat × Value)) (st : List Value) : Option (zS × zH) := match mt[a]? with
  | none => none
  | some M => match zpop (zco kind (mN M)) st with
    | none => none
    | some q => match Nat.beq (mK M) kind && (zrc kind (mW M).2.2.2 q.1 h.1 && Nat.ble (zcat q.2) 8) with
      | false => none
      | true => match call a q.1 h with
        | none => none
        | some r => match Nat.ble h.1.length r.2.1.length && Nat.ble h.2 r.2.2 with
          | false => none
          | true => some ((pc, lv, r.1.toList ++ q.2), r.2)
/-- Object's constructor -/
def zoi (fr lo : Nat) (h : zH) (pc : Nat) (lv : List (Nat × Value)) (st : List Value) : Option (zS × zH) := match st with
  | .ref _ :: r => match Nat.ble 1 fr && Nat.ble (zcat r + 12) lo with
    | true => some ((pc, lv, r), h)
    | false => none
  | _ => none
/-- Math.min, Math.max -/
def zmx (f : Int32 → Int32 → Int32) (fr lo : Nat) (h : zH) (pc : Nat) (lv : List (Nat × Value)) (st : List Value) : Option (zS × zH) := match st with
  | .int y :: .int x :: r => match Nat.ble 1 fr && Nat.ble (zcat r + 13) lo with
    | true => some ((pc, lv, .int (f x y) :: r), h)
    | false => none
  | _ => none
def zisI (v : Value) : Bool := match v with
  | .int _ => true
  | _ => false
def zcp (src dst : List Value) (sp dp n : Nat) : List Value := dst.take dp ++ ((src.drop sp).take n ++ dst.drop (dp + n))
/-- System.arraycopy of int arrays -/
def zac (fr lo : Nat) (h : zH) (pc : Nat) (lv : List (Nat × Value)) (st : List Value) : Option (zS × zH) := match st with
  | .int n :: .int dp :: .ref d :: .int sp :: .ref s :: r => match h.1[s]? with
    | some (.inl p) => match h.1[d]? with
      | some (.inl q) => match (Nat.ble 1 fr && Nat.ble (zcat r + 18) lo) && ((Nat.beq p.1 0 && Nat.beq q.1 0) && ((decide (¬ sp < 0) && (decide (¬ dp < 0) && decide (¬ n < 0))) && (Nat.ble (sp.toNatClampNeg + n.toNatClampNeg) p.2.length && (Nat.ble (dp.toNatClampNeg + n.toNatClampNeg) q.2.length && p.2.all zisI)))) with
        | true => some ((pc, lv, r), (h.1.set d (.inl (0, zcp p.2 q.2 sp.toNatClampNeg dp.toNatClampNeg n.toNatClampNeg)), h.2))
        | false => none
      | _ => none
    | _ => none
  | _ => none
/-- the clone of an int array -/
def zcn (fr lo : Nat) (h : zH) (pc : Nat) (lv : List (Nat × Value)) (st : List Value) : Option (zS × zH) := match st with
  | .ref k :: r => match h.1[k]? with
    | some (.inl q) => match (Nat.ble 1 fr && Nat.ble (zcat r + 14) lo) && (Nat.beq q.1 0 && q.2.all zisI) with
      | true => some ((pc, lv, .ref h.1.length :: r), (h.1 ++ [.inl (0, q.2)], h.2 + q.2.length))
      | false => none
    | _ => none
  | _ => none
def zk (mt : List zM) (call : Nat → List Value → zH → Option (Option Value × zH)) (fr lo : Nat) (i : Jvm.ClassFile.Instr) (a b : Nat) (h : zH) (pc : Nat) (lv : List (Nat × Value)) (st : List Value) : Option (zS × zH) := match i with
  | .invokestatic _ => match b with
    | 0 => zcm mt call 0 a h (pc + 3) lv st
    | 1 => zcm mt call 0 a h (pc + 3) lv st
    | 3 => zmx (fun x y => if y < x then y else x) fr lo h (pc + 3) lv st
    | 4 => zmx (fun x y => if x < y then y else x) fr lo h (pc + 3) lv st
    | 5 => zac fr lo h (pc + 3) lv st
    | _ => none
  | .invokevirtual _ => match b with
    | 0 => zcm mt call 1 a h (pc + 3) lv st
    | 1 => zcn fr lo h (pc + 3) lv st
    | _ => none
  | .invokespecial _ => match b with
    | 0 => zcm mt call 2 a h (pc + 3) lv st
    | 1 => zcm mt call 2 a h (pc + 3) lv st
    | 2 => zoi fr lo h (pc + 3) lv st
    | _ => none
  | _ => none
def zstep (mt : List zM) (call : Nat → List Value → zH → Option (Option Value × zH)) (fr lo : Nat) (xs : zX) (x : zE) (s : zS) (h : zH) : Option (zS × zH) := match zp (xI x) (xV x) s.1 s.2.1 s.2.2 with
  | some s' => some (s', h)
  | none => match zr (xI x) (xA x) (xB x) xs h.1 s.1 s.2.1 s.2.2 with
    | some s' => some (s', h)
    | none => match zw (xI x) (xA x) (xB x) h.1 s.1 s.2.1 s.2.2 with
      | some q => some (q.1, (q.2, h.2))
      | none => match zn (xI x) (xA x) h s.1 s.2.1 s.2.2 with
        | some q => some q
        | none => zk mt call fr lo (xI x) (xA x) (xB x) h s.1 s.2.1 s.2.2
def zre (ret : Option FieldType) (i : Jvm.ClassFile.Instr) (st : List Value) : Option (Option Value) := match i with
  | .return_ => match ret, st with
    | none, [] => some none
    | _, _ => none
  | .ireturn => match ret, st with
    | some ty, [.int v] => match zfit ty (.int v) with
      | true => some (some (.int v))
      | false => none
    | _, _ => none
  | .lreturn => match ret, st with
    | some .long, [.long v] => some (some (.long v))
    | _, _ => none
  | .areturn => match ret, st with
    | some (.object _), [.null] => some (some .null)
    | some (.object _), [.ref k] => some (some (.ref k))
    | some (.array _), [.null] => some (some .null)
    | some (.array _), [.ref k] => some (some (.ref k))
    | _, _ => none
  | _ => none
def zloop (mt : List zM) (call : Nat → List Value → zH → Option (Option Value × zH)) (fr lo : Nat) (xs : zX) (M : zM) : Nat → zS → zH → Option (Option Value × zH)
  | 0, _, _ => none
  | f + 1, s, h => match zlk2 (mT M) s.1 with
    | none => none
    | some x => match zre (mR M) (xI x) s.2.2 with
      | some r => some (r, h)
      | none => match zstep mt call fr lo xs x s h with
        | none => none
        | some q => zloop mt call fr lo xs M f q.1 q.2
def zbody (mt : List zM) (call : Nat → List Value → zH → Option (Option Value × zH)) (fr lo : Nat) (xs : zX) (f a : Nat) (as : List Value) (h : zH) : Option (Option Value × zH) := match mt[a]? with
  | none => none
  | some M => match Nat.ble (zcat as) (mL M) with
    | true => zloop mt call fr lo xs M f (0, lv_args 0 as, []) h
    | false => none
/-- a call with room for frames and locals -/
def zcall (mt : List zM) (f : Nat) : Nat → Nat → Nat → List Value → zH → Option (Option Value × zH)
  | 0, lo, a, as, h => zbody mt (fun _ _ _ => none) 0 lo none f a as h
  | fr + 1, lo, a, as, h => zbody mt (fun a' as' h' => match mt[a']? with
      | none => none
      | some M' => match Nat.ble (19 + mL M') lo with
        | true => zcall mt f fr (lo - (19 + mL M')) a' as' h'
        | false => none) (fr + 1) lo none f a as h
/-- what an instruction links is a word of the tables -/
def zlF (own : String) (i a b w : Nat) : Bool := match zcl[a]? with
  | some C => Nat.blt b C.2.2 && decide (lw_tbl[w]? = some (Cond.fieldLink own i (C.2.1 b).1 (C.2.1 b).2.1 (C.2.1 b).2.2.1))
  | none => false
def zlP (own : String) (ini : Bool) (a b : Nat) : Bool := match zcl[a]? with
  | some C => !(C.2.1 b).2.2.2 || (ini && decide ((C.2.1 b).1 = own))
  | none => false
def zlN (own : String) (i a w : Nat) : Bool := match zcl[a]? with
  | some C => decide (lw_tbl[w]? = some (Cond.classLink own i C.1))
  | none => false
def zlM (own : String) (i a w : Nat) : Bool := match zyn[a]? with
  | some y => decide (lw_tbl[w]? = some (Cond.methodLink own i y))
  | none => false
def zlMN (own : String) (i a w : Nat) : Bool := match zyn[a]? with
  | some y => decide (lw_tbl[w]? = some (Cond.methodLinkNest own i y R_ST))
  | none => false
def zlMO (own : String) (i w : Nat) : Bool := decide (lw_tbl[w]? = some (Cond.methodLink own i Lib.objectInit))
def zlnk (own : String) (nL : Nat) (ini : Bool) (i : Jvm.ClassFile.Instr) (a b w : Nat) (v : Value) : Bool := match i with
  | .istore k => Nat.blt k nL
  | .istore_n k => Nat.blt k.val nL
  | .astore k => Nat.blt k nL
  | .astore_n k => Nat.blt k.val nL
  | .lstore k => Nat.blt (k + 1) nL
  | .lstore_n k => Nat.blt (k.val + 1) nL
  | .iinc k _ => Nat.blt k nL
  | .ldc k => match v with
    | .int x => decide (lw_tbl[w]? = some (Cond.constant own k x))
    | _ => false
  | .ldc_w k => match v with
    | .int x => decide (lw_tbl[w]? = some (Cond.constant own k x))
    | _ => false
  | .ldc2_w k => match v with
    | .long x => decide (lw_tbl[w]? = some (Cond.constantLong own k x))
    | _ => false
  | .getfield k => zlF own k a b w
  | .putfield k => zlF own k a b w && zlP own ini a b
  | .new k => zlN own k a w
  | .newarray t => match t with
    | .int => Nat.beq a 0
    | .boolean => Nat.beq a 1
    | .long => Nat.beq a 2
    | _ => false
  | .anewarray k => match zte a with
    | some c => zlN own k c w
    | none => false
  | .invokestatic k => match b with
    | 0 => zlM own k a w
    | 1 => zlMN own k a w
    | 3 => decide (lw_tbl[w]? = some (Cond.methodLink own k Lib.Math.min.name))
    | 4 => decide (lw_tbl[w]? = some (Cond.methodLink own k Lib.Math.max.name))
    | 5 => decide (lw_tbl[w]? = some (Cond.methodLink own k arraycopyName))
    | _ => true
  | .invokevirtual k => match b with
    | 0 => zlM own k a w
    | 1 => decide (lw_tbl[w]? = some (Cond.methodLink own k ⟨"[I", "clone", "()Ljava/lang/Object;"⟩))
    | _ => true
  | .checkcast k => decide (lw_tbl[w]? = some (Cond.classLink own k "[I"))
  | .invokespecial k => match b with
    | 0 => zlM own k a w
    | 1 => zlMN own k a w
    | 2 => zlMO own k w
    | _ => true
  | _ => true
def zxo (own : String) (cc : ByteArray) (nL : Nat) (ini : Bool) (x : zE) : Bool := decide (decode cc (xP x) = .ok (xI x, zlen (xI x) (xN x))) && zlnk own nL ini (xI x) (xA x) (xB x) (xW x) (xV x)
