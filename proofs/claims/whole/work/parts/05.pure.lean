/-! THE PURE MACHINE: a memory of numbers and references by cell and place, and what the bytecode does to it. Its answers are sound for the machine (part 07). -/
/-- numbers, references, longs by cell and place; kind and length of a cell; how many cells; cells and slots made -/
abbrev p_M : Type := (Nat → Nat → Int32) × (Nat → Nat → Option Nat) × (Nat → Nat → Int64) × (Nat → Nat) × (Nat → Nat) × Nat × Nat × Nat
def mI (μ : p_M) : Nat → Nat → Int32 := μ.1
def mR (μ : p_M) : Nat → Nat → Option Nat := μ.2.1
def mJ (μ : p_M) : Nat → Nat → Int64 := μ.2.2.1
def mK (μ : p_M) : Nat → Nat := μ.2.2.2.1
def mL (μ : p_M) : Nat → Nat := μ.2.2.2.2.1
def mN (μ : p_M) : Nat := μ.2.2.2.2.2.1
def mC (μ : p_M) : Nat := μ.2.2.2.2.2.2.1
def mS (μ : p_M) : Nat := μ.2.2.2.2.2.2.2
/-- a table by two numbers, another value at (a, k) -/
def p_up {α : Type} (f : Nat → Nat → α) (a k : Nat) (v : α) : Nat → Nat → α := va_up f a (va_up (f a) k v)
def sI (μ : p_M) (a k : Nat) (v : Int32) : p_M := (p_up μ.1 a k v, μ.2)
def sR (μ : p_M) (a k : Nat) (v : Option Nat) : p_M := (μ.1, p_up μ.2.1 a k v, μ.2.2)
def sJ (μ : p_M) (a k : Nat) (v : Int64) : p_M := (μ.1, μ.2.1, p_up μ.2.2.1 a k v, μ.2.2.2)
/-- a whole row of numbers -/
def sA (μ : p_M) (a : Nat) (f : Nat → Int32) : p_M := (va_up μ.1 a f, μ.2)
/-- a new cell of a kind, with its length and its slots -/
def sN (μ : p_M) (k len sl : Nat) : p_M := (va_up (mI μ) (mN μ) (fun _ => 0), va_up (mR μ) (mN μ) (fun _ => none), va_up (mJ μ) (mN μ) (fun _ => 0), va_up (mK μ) (mN μ) k, va_up (mL μ) (mN μ) len, mN μ + 1, mC μ + 1, mS μ + sl)
/-- cells made that nobody looks at any more -/
def sG (μ : p_M) (k n : Nat) : p_M := (μ.1, μ.2.1, μ.2.2.1, μ.2.2.2.1, μ.2.2.2.2.1, mN μ, mC μ + k, mS μ + n)
/-- kinds of arrays: 20 int, 21 byte, 22 long, 23 Look, 24 Machine, 25 Object, 26 int[] ; objects by the number of their class -/
def p_isR (ci k : Nat) : Bool := match q_Ty ci k with
  | .object _ => true
  | .array _ => true
  | _ => false
def p_isZ (ci k : Nat) : Bool := match q_Ty ci k with
  | .boolean => true
  | _ => false
/-- outer things: the script (0), two static arrays (1, 2), the texts (10 on) -/
abbrev p_X : Type := Nat → Nat × (Nat → Int32)
def p_E : Nat := 1000000
abbrev p_S : Type := Nat × List Value × List Value × p_M
def p_nx (pc : Nat) (lo st : List Value) (μ : p_M) : Option p_S := some (pc, lo, st, μ)
def p_jmp (c : Prop) [Decidable c] (pc : Nat) (off : Int) (lo st : List Value) (μ : p_M) : Option p_S :=
  if (pc : Int) + off < 0 then none else if c then some (((pc : Int) + off).toNat, lo, st, μ) else some (pc + 3, lo, st, μ)
def p_go (pc : Nat) (off : Int) (lo st : List Value) (μ : p_M) : Option p_S :=
  if (pc : Int) + off < 0 then none else some (((pc : Int) + off).toNat, lo, st, μ)
def p_i2 (f : Int32 → Int32 → Int32) (pc : Nat) (lo st : List Value) (μ : p_M) : Option p_S := match st with
  | .int y :: .int x :: r => some (pc + 1, lo, .int (f x y) :: r, μ)
  | _ => none
def p_l2 (f : Int64 → Int64 → Int64) (pc : Nat) (lo st : List Value) (μ : p_M) : Option p_S := match st with
  | .long y :: .long x :: r => some (pc + 1, lo, .long (f x y) :: r, μ)
  | _ => none
def p_if (c : ClassFile.Cond) (off : Int) (pc : Nat) (lo st : List Value) (μ : p_M) : Option p_S := match st with
  | .int x :: r => match c with
    | .eq => p_jmp (x = 0) pc off lo r μ
    | .ne => p_jmp (¬ x = 0) pc off lo r μ
    | .lt => p_jmp (x < 0) pc off lo r μ
    | .ge => p_jmp (0 ≤ x) pc off lo r μ
    | .gt => p_jmp (0 < x) pc off lo r μ
    | .le => p_jmp (x ≤ 0) pc off lo r μ
  | _ => none
def p_icmp (c : ClassFile.Cond) (off : Int) (pc : Nat) (lo st : List Value) (μ : p_M) : Option p_S := match st with
  | .int y :: .int x :: r => match c with
    | .eq => p_jmp (x = y) pc off lo r μ
    | .ne => p_jmp (¬ x = y) pc off lo r μ
    | .lt => p_jmp (x < y) pc off lo r μ
    | .ge => p_jmp (y ≤ x) pc off lo r μ
    | .gt => p_jmp (y < x) pc off lo r μ
    | .le => p_jmp (x ≤ y) pc off lo r μ
  | _ => none
def p_ild (k len : Nat) (pc : Nat) (lo st : List Value) (μ : p_M) : Option p_S := match lo[k]? with
  | some (.int x) => some (pc + len, lo, .int x :: st, μ)
  | _ => none
def p_ald (k len : Nat) (pc : Nat) (lo st : List Value) (μ : p_M) : Option p_S := match lo[k]? with
  | some (.ref a) => some (pc + len, lo, .ref a :: st, μ)
  | _ => none
def p_ist (k len : Nat) (pc : Nat) (lo st : List Value) (μ : p_M) : Option p_S := match st with
  | .int x :: r => if k < lo.length then some (pc + len, lo.set k (.int x), r, μ) else none
  | _ => none
def p_ast (k len : Nat) (pc : Nat) (lo st : List Value) (μ : p_M) : Option p_S := match st with
  | .ref x :: r => if k < lo.length then some (pc + len, lo.set k (.ref x), r, μ) else none
  | .retAddr z :: r => if k < lo.length then some (pc + len, lo.set k (.retAddr z), r, μ) else none
  | _ => none
def p_iinc (k : Nat) (n : Int) (pc : Nat) (lo st : List Value) (μ : p_M) : Option p_S := match lo[k]? with
  | some (.int x) => some (pc + 3, lo.set k (.int (x + Int32.ofInt n)), st, μ)
  | _ => none
/-- reading an int (byte) at a place of an array -/
def p_iald (X : p_X) (ty : Nat) (pc : Nat) (lo st : List Value) (μ : p_M) : Option p_S := match st with
  | .int i :: .ref a :: r => if p_E ≤ a then (if ty = 20 ∧ ¬ i < 0 ∧ i.toNatClampNeg < (X (a - p_E)).1 ∧ a - p_E < 3 then some (pc + 1, lo, .int ((X (a - p_E)).2 i.toNatClampNeg) :: r, μ) else none) else if mK μ a = ty ∧ ¬ i < 0 ∧ i.toNatClampNeg < mL μ a ∧ a < mN μ then some (pc + 1, lo, .int (mI μ a i.toNatClampNeg) :: r, μ) else none
  | _ => none
def p_iast (ty : Nat) (pc : Nat) (lo st : List Value) (μ : p_M) : Option p_S := match st with
  | .int x :: .int i :: .ref a :: r => if mK μ a = ty ∧ ¬ i < 0 ∧ i.toNatClampNeg < mL μ a ∧ a < mN μ then some (pc + 1, lo, r, sI μ a i.toNatClampNeg (if ty = 21 then x.toInt8.toInt32 else x)) else none
  | _ => none
def p_lald (pc : Nat) (lo st : List Value) (μ : p_M) : Option p_S := match st with
  | .int i :: .ref a :: r => if mK μ a = 22 ∧ ¬ i < 0 ∧ i.toNatClampNeg < mL μ a ∧ a < mN μ then some (pc + 1, lo, .long (mJ μ a i.toNatClampNeg) :: r, μ) else none
  | _ => none
def p_last (pc : Nat) (lo st : List Value) (μ : p_M) : Option p_S := match st with
  | .long x :: .int i :: .ref a :: r => if mK μ a = 22 ∧ ¬ i < 0 ∧ i.toNatClampNeg < mL μ a ∧ a < mN μ then some (pc + 1, lo, r, sJ μ a i.toNatClampNeg x) else none
  | _ => none
def p_aald (pc : Nat) (lo st : List Value) (μ : p_M) : Option p_S := match st with
  | .int i :: .ref a :: r => if 23 ≤ mK μ a ∧ mK μ a ≤ 26 ∧ ¬ i < 0 ∧ i.toNatClampNeg < mL μ a ∧ a < mN μ then some (pc + 1, lo, va_rf (mR μ a i.toNatClampNeg) :: r, μ) else none
  | _ => none
def p_aast (pc : Nat) (lo st : List Value) (μ : p_M) : Option p_S := match st with
  | .ref v :: .int i :: .ref a :: r => if ((mK μ a = 23 ∧ mK μ v = 4) ∨ (mK μ a = 24 ∧ mK μ v = 6)) ∧ v < mN μ ∧ ¬ i < 0 ∧ i.toNatClampNeg < mL μ a ∧ a < mN μ then some (pc + 1, lo, r, sR μ a i.toNatClampNeg (some v)) else none
  | _ => none
def p_alen (X : p_X) (pc : Nat) (lo st : List Value) (μ : p_M) : Option p_S := match st with
  | .ref a :: r => if p_E ≤ a then (if a - p_E < 3 then some (pc + 1, lo, .int (nI (X (a - p_E)).1) :: r, μ) else none) else if 20 ≤ mK μ a ∧ mK μ a ≤ 26 ∧ a < mN μ then some (pc + 1, lo, .int (nI (mL μ a)) :: r, μ) else none
  | _ => none
def p_getf (M : q_M) (i pc : Nat) (lo st : List Value) (μ : p_M) : Option p_S := match st with
  | .ref a :: r => match q_lF (q_o M) i with
    | some e => if mK μ a = e.2.2.1 ∧ a < mN μ then some (pc + 3, lo, (if p_isR e.2.2.1 e.2.2.2.1 then va_rf (mR μ a e.2.2.2.1) else .int (mI μ a e.2.2.2.1)) :: r, μ) else none
    | none => none
  | _ => none
/-- may this method write this field: a final one in its own constructor alone -/
def p_may (M : q_M) (ci k : Nat) : Bool := if (q_T ci k).2.2.2 then q_o M == ci && (q_y M).name == "<init>" && (q_T ci k).1 == q_on (q_o M) else true
def p_putf (M : q_M) (i pc : Nat) (lo st : List Value) (μ : p_M) : Option p_S := match st with
  | .int x :: .ref a :: r => match q_lF (q_o M) i with
    | some e => if mK μ a = e.2.2.1 ∧ a < mN μ ∧ p_isR e.2.2.1 e.2.2.2.1 = false ∧ (p_isZ e.2.2.1 e.2.2.2.1 = true → x = 0 ∨ x = 1) ∧ p_may M e.2.2.1 e.2.2.2.1 = true ∧ (e.2.2.2.2 = true → (q_T e.2.2.1 e.2.2.2.1).2.2.2 = false) then some (pc + 3, lo, r, sI μ a e.2.2.2.1 x) else none
    | none => none
  | .ref b :: .ref a :: r => match q_lF (q_o M) i with
    | some e => if mK μ a = e.2.2.1 ∧ a < mN μ ∧ p_isR e.2.2.1 e.2.2.2.1 = true ∧ p_may M e.2.2.1 e.2.2.2.1 = true ∧ (e.2.2.2.2 = true → (q_T e.2.2.1 e.2.2.2.1).2.2.2 = false) then some (pc + 3, lo, r, sR μ a e.2.2.2.1 (some b)) else none
    | none => none
  | _ => none
def p_tsw (d lo' hi : Int) (offs : Array Int) (pc : Nat) (lo st : List Value) (μ : p_M) : Option p_S := match st with
  | .int x :: r => if x.toInt < lo' ∨ hi < x.toInt then p_go pc d lo r μ else match offs[(x.toInt - lo').toNat]? with
    | some off => p_go pc off lo r μ
    | none => none
  | _ => none
def p_lsw (d : Int) (ps : Array (Int × Int)) (pc : Nat) (lo st : List Value) (μ : p_M) : Option p_S := match st with
  | .int x :: r => if (ps.toList.zip (ps.toList.drop 1)).all (fun (a, next) => a.1 < next.1) = true then p_go pc (Op.lookupswitch.offset ps.toList d x.toInt) lo r μ else none
  | _ => none
/-- one instruction that calls nothing -/
def p_exec (X : p_X) (M : q_M) (i : Instr) (len pc : Nat) (lo st : List Value) (μ : p_M) : Option p_S := match i with
  | .iconst n => if len = 1 then p_nx (pc + 1) lo (.int (Int32.ofInt n) :: st) μ else none
  | .bipush n => if len = 2 then p_nx (pc + 2) lo (.int (Int8.ofInt n).toInt32 :: st) μ else none
  | .sipush n => if len = 3 then p_nx (pc + 3) lo (.int (Int16.ofInt n).toInt32 :: st) μ else none
  | .lconst n => if len = 1 then p_nx (pc + 1) lo (.long (Int64.ofNat (n : Nat)) :: st) μ else none
  | .iload_n k => if len = 1 then p_ild k 1 pc lo st μ else none
  | .iload k => if len = 2 then p_ild k 2 pc lo st μ else none
  | .aload_n k => if len = 1 then p_ald k 1 pc lo st μ else none
  | .aload k => if len = 2 then p_ald k 2 pc lo st μ else none
  | .istore_n k => if len = 1 then p_ist k 1 pc lo st μ else none
  | .istore k => if len = 2 then p_ist k 2 pc lo st μ else none
  | .astore_n k => if len = 1 then p_ast k 1 pc lo st μ else none
  | .astore k => if len = 2 then p_ast k 2 pc lo st μ else none
  | .iinc k n => if len = 3 then p_iinc k n pc lo st μ else none
  | .iadd => if len = 1 then p_i2 (fun x y => x + y) pc lo st μ else none
  | .isub => if len = 1 then p_i2 (fun x y => x - y) pc lo st μ else none
  | .imul => if len = 1 then p_i2 (fun x y => x * y) pc lo st μ else none
  | .iand => if len = 1 then p_i2 (fun x y => x &&& y) pc lo st μ else none
  | .ior => if len = 1 then p_i2 (fun x y => x ||| y) pc lo st μ else none
  | .ixor => if len = 1 then p_i2 (fun x y => x ^^^ y) pc lo st μ else none
  | .ishl => if len = 1 then p_i2 (fun x y => x <<< (y &&& 31)) pc lo st μ else none
  | .ishr => if len = 1 then p_i2 (fun x y => x >>> (y &&& 31)) pc lo st μ else none
  | .iushr => if len = 1 then p_i2 (fun x y => (x.toUInt32 >>> (y.toUInt32 &&& Int32.toUInt32 31)).toInt32) pc lo st μ else none
  | .idiv => if len = 1 then (match st with
    | .int y :: .int x :: r => if y = 0 then none else some (pc + 1, lo, .int (x / y) :: r, μ)
    | _ => none) else none
  | .irem => if len = 1 then (match st with
    | .int y :: .int x :: r => if y = 0 then none else some (pc + 1, lo, .int (x - x / y * y) :: r, μ)
    | _ => none) else none
  | .ladd => if len = 1 then p_l2 (fun x y => x + y) pc lo st μ else none
  | .lsub => if len = 1 then p_l2 (fun x y => x - y) pc lo st μ else none
  | .lmul => if len = 1 then p_l2 (fun x y => x * y) pc lo st μ else none
  | .ldiv => if len = 1 then (match st with
    | .long y :: .long x :: r => if y = 0 then none else some (pc + 1, lo, .long (x / y) :: r, μ)
    | _ => none) else none
  | .lcmp => if len = 1 then (match st with
    | .long y :: .long x :: r => some (pc + 1, lo, .int (lg_cmp x y) :: r, μ)
    | _ => none) else none
  | .i2l => if len = 1 then (match st with
    | .int x :: r => some (pc + 1, lo, .long x.toInt64 :: r, μ)
    | _ => none) else none
  | .l2i => if len = 1 then (match st with
    | .long x :: r => some (pc + 1, lo, .int x.toInt32 :: r, μ)
    | _ => none) else none
  | .i2b => if len = 1 then (match st with
    | .int x :: r => some (pc + 1, lo, .int x.toInt8.toInt32 :: r, μ)
    | _ => none) else none
  | .dup => if len = 1 then (match st with
    | .int x :: r => some (pc + 1, lo, .int x :: .int x :: r, μ)
    | .ref x :: r => some (pc + 1, lo, .ref x :: .ref x :: r, μ)
    | _ => none) else none
  | .dup_x1 => if len = 1 then (match st with
    | .int x :: .ref y :: r => some (pc + 1, lo, .int x :: .ref y :: .int x :: r, μ)
    | _ => none) else none
  | .dup2 => if len = 1 then (match st with
    | .int x :: .ref y :: r => some (pc + 1, lo, .int x :: .ref y :: .int x :: .ref y :: r, μ)
    | _ => none) else none
  | .pop => if len = 1 then (match st with
    | .int _ :: r => some (pc + 1, lo, r, μ)
    | .ref _ :: r => some (pc + 1, lo, r, μ)
    | _ => none) else none
  | .ifCond c off => if len = 3 then p_if c off pc lo st μ else none
  | .if_icmp c off => if len = 3 then p_icmp c off pc lo st μ else none
  | .goto off => if len = 3 then p_go pc off lo st μ else none
  | .tableswitch d l h offs => p_tsw d l h offs pc lo st μ
  | .lookupswitch d ps => p_lsw d ps pc lo st μ
  | .iaload => if len = 1 then p_iald X 20 pc lo st μ else none
  | .baload => if len = 1 then p_iald X 21 pc lo st μ else none
  | .iastore => if len = 1 then p_iast 20 pc lo st μ else none
  | .bastore => if len = 1 then p_iast 21 pc lo st μ else none
  | .laload => if len = 1 then p_lald pc lo st μ else none
  | .lastore => if len = 1 then p_last pc lo st μ else none
  | .aaload => if len = 1 then p_aald pc lo st μ else none
  | .aastore => if len = 1 then p_aast pc lo st μ else none
  | .arraylength => if len = 1 then p_alen X pc lo st μ else none
  | .getfield i => if len = 3 then p_getf M i pc lo st μ else none
  | .putfield i => if len = 3 then p_putf M i pc lo st μ else none
  | _ => none
/-- instructions that read the pool, or make a cell -/
def p_pool (M : q_M) (i : Instr) (len pc : Nat) (lo st : List Value) (μ : p_M) : Option p_S := match i with
  | .ldc k => if len = 2 then (match q_lK (q_o M) k with
    | some v => some (pc + 2, lo, .int v :: st, μ)
    | none => match q_lStr (q_o M) k with
      | some v => some (pc + 2, lo, .ref (p_E + 10 + v.1) :: st, μ)
      | none => none) else none
  | .ldc_w k => if len = 3 then (match q_lK (q_o M) k with
    | some v => some (pc + 3, lo, .int v :: st, μ)
    | none => match q_lStr (q_o M) k with
      | some v => some (pc + 3, lo, .ref (p_E + 10 + v.1) :: st, μ)
      | none => none) else none
  | .ldc2_w k => if len = 3 then (match q_lKL (q_o M) k with
    | some v => some (pc + 3, lo, .long v :: st, μ)
    | none => none) else none
  | .getstatic k => if len = 3 then (match q_lS (q_o M) k with
    | some v => some (pc + 3, lo, .ref (p_E + v) :: st, μ)
    | none => none) else none
  | .new k => if len = 3 then (match q_lC (q_o M) k with
    | some v => some (pc + 3, lo, .ref (mN μ) :: st, sN μ v 0 (q_N v))
    | none => none) else none
  | .newarray t => if len = 2 then (match st with
    | .int n :: r => if n < 0 ∨ 100000 < n.toNatClampNeg then none else match t with
      | .int => some (pc + 2, lo, .ref (mN μ) :: r, sN μ 20 n.toNatClampNeg n.toNatClampNeg)
      | .byte => some (pc + 2, lo, .ref (mN μ) :: r, sN μ 21 n.toNatClampNeg n.toNatClampNeg)
      | .long => some (pc + 2, lo, .ref (mN μ) :: r, sN μ 22 n.toNatClampNeg n.toNatClampNeg)
      | _ => none
    | _ => none) else none
  | .anewarray k => if len = 3 then (match st with
    | .int n :: r => if n < 0 ∨ 100000 < n.toNatClampNeg then none else match q_lC (q_o M) k with
      | some 4 => some (pc + 3, lo, .ref (mN μ) :: r, sN μ 23 n.toNatClampNeg n.toNatClampNeg)
      | some 6 => some (pc + 3, lo, .ref (mN μ) :: r, sN μ 24 n.toNatClampNeg n.toNatClampNeg)
      | _ => none
    | _ => none) else none
  | .multianewarray k dm => if len = 4 ∧ dm = 2 ∧ q_o M = 8 ∧ k = 20 then (match st with
    | .int 96 :: .int 2 :: r => some (pc + 4, lo, .ref (mN μ) :: r, sR (sR (sN (sN (sN μ 26 2 2) 20 96 96) 20 96 96) (mN μ) 0 (some (mN μ + 1))) (mN μ) 1 (some (mN μ + 2)))
    | _ => none) else none
  | .checkcast k => if len = 3 then (match st with
    | .ref a :: r => if (q_o M = 2 ∧ k = 16 ∧ mK μ a = 20 ∧ a < mN μ) ∨ (q_lC (q_o M) k = some 5 ∧ mK μ a = 5 ∧ a < mN μ) then some (pc + 3, lo, .ref a :: r, μ) else none
    | _ => none) else none
  | _ => none
/-- the end of a method: what it returns -/
def p_ret (M : q_M) (i : Instr) (len : Nat) (st : List Value) : Option (Option Value) := match i with
  | .return_ => if len = 1 ∧ st = [] ∧ q_rt M = none then some none else none
  | .ireturn => if len = 1 then (match st with
    | [.int x] => (match q_rt M with
      | some .int => some (some (.int x))
      | some .boolean => if x = 0 ∨ x = 1 then some (some (.int x)) else none
      | _ => none)
    | _ => none) else none
  | .areturn => if len = 1 then (match st with
    | [.ref a] => (match q_rt M with
      | some (.object _) => some (some (.ref a))
      | _ => none)
    | _ => none) else none
  | _ => none
/-- 'throw new E(text)': the number of E -/
def p_thr (M : q_M) (i : Instr) (pc : Nat) (st : List Value) : Option Nat := match i with
  | .new k => match q_lX (q_o M) k with
    | some v => if decode (q_cc M) (pc + 3) = .ok (.dup, 1) ∧ decode (q_cc M) (pc + 4) = .ok (.ldc_w v.2.1, 3) ∧ decode (q_cc M) (pc + 7) = .ok (.invokespecial v.2.2, 3) ∧ decode (q_cc M) (pc + 10) = .ok (.athrow, 1) ∧ q_hh M = [] ∧ st = [] then some v.1 else none
    | none => none
  | _ => none
/-- where a method catches what comes out of the instruction at pc -/
def p_hnd (M : q_M) (pc E : Nat) : List (Nat × Nat × Nat × Nat) → Option Nat
  | [] => none
  | h :: t => if h.1 ≤ pc ∧ pc < h.2.1 then (match q_lH (q_o M) h.2.2.2 with
    | some F => if F = E then some h.2.2.1 else p_hnd M pc E t
    | none => none) else p_hnd M pc E t
/-- texts -/
def tx_len (a : Nat) : Option Int32 := if p_E + 10 ≤ a then (match q_txt[a - p_E - 10]? with
  | some t => some (nI t.length)
  | none => none) else none
def tx_at (a : Nat) (i : Int32) : Option Int32 := if p_E + 10 ≤ a ∧ ¬ i < 0 then (match q_txt[a - p_E - 10]? with
  | some t => (match t.toList[i.toNatClampNeg]? with
    | some c => some (nI c.toNat)
    | none => none)
  | none => none) else none
def p_fm (x y : Int32) : Int32 := let r := x - x / y * y; if (r ^^^ y) < 0 ∧ ¬ r = 0 then r + y else r
/-- what a primitive answers and does -/
def p_prim (X : p_X) (k : Nat) (as : List Value) (μ : p_M) : Option (Option Value × p_M) := match k with
  | 0 => (match as with
    | [.ref a] => if a < mN μ ∧ mK μ a < 15 then some (none, μ) else none
    | _ => none)
  | 1 => (match as with
    | [.int x, .int y] => some (some (.int (if x < y then y else x)), μ)
    | _ => none)
  | 2 => (match as with
    | [.int x, .int y] => some (some (.int (if y < x then y else x)), μ)
    | _ => none)
  | 3 => (match as with
    | [.int x, .int y] => if y = 0 then none else some (some (.int (p_fm x y)), μ)
    | _ => none)
  | 4 => (match as with
    | [.ref a, .int s, .ref b, .int t, .int n] => if s < 0 ∨ t < 0 ∨ n < 0 ∨ ¬ mK μ b = 20 ∨ mN μ ≤ b ∨ mL μ b < t.toNatClampNeg + n.toNatClampNeg then none else if p_E ≤ a then (if a - p_E < 3 ∧ s.toNatClampNeg + n.toNatClampNeg ≤ (X (a - p_E)).1 then some (none, sA μ b (va_cpy (X (a - p_E)).2 (mI μ b) s.toNatClampNeg t.toNatClampNeg n.toNatClampNeg)) else none) else if mK μ a = 20 ∧ a < mN μ ∧ s.toNatClampNeg + n.toNatClampNeg ≤ mL μ a then some (none, sA μ b (va_cpy (mI μ a) (mI μ b) s.toNatClampNeg t.toNatClampNeg n.toNatClampNeg)) else none
    | _ => none)
  | 5 => (match as with
    | [.ref a] => if a = p_E + 1 then some (some (.ref (mN μ)), sA (sN μ 20 (X 1).1 (X 1).1) (mN μ) (fun j => if j < (X 1).1 then (X 1).2 j else 0)) else none
    | _ => none)
  | 6 => (match as with
    | [.ref a] => if a < mN μ ∧ mK μ a = 0 then some (none, sR μ a 1 (some (p_E + 3))) else none
    | _ => none)
  | 7 => (match as with
    | [.ref a] => if a < mN μ ∧ mK μ a = 0 then some (some (.int (mI μ a 2)), μ) else none
    | _ => none)
  | 8 => (match as with
    | [.ref a, .int i] => if a < mN μ ∧ mK μ a = 0 ∧ ¬ i < 0 ∧ i < mI μ a 2 then (match mR μ a 1 with
      | some b => if b < mN μ ∧ mK μ b = 25 ∧ i.toNatClampNeg < mL μ b then some (some (va_rf (mR μ b i.toNatClampNeg)), μ) else none
      | none => none) else none
    | _ => none)
  | 9 => (match as with
    | [.ref a, .ref v] => if a < mN μ ∧ mK μ a = 0 ∧ v < mN μ ∧ mK μ v = 5 ∧ ¬ mI μ a 2 < 0 ∧ mI μ a 2 < 1000 then (match mR μ a 1 with
      | some b => if b = p_E + 3 ∧ mI μ a 2 = 0 then some (some (.int 1), sI (sI (sR (sR (sN μ 25 10 10) (mN μ) 0 (some v)) a 1 (some (mN μ))) a 0 (mI μ a 0 + 1)) a 2 1)
        else if b < mN μ ∧ mK μ b = 25 ∧ (mI μ a 2).toNatClampNeg < mL μ b then some (some (.int 1), sI (sI (sR μ b (mI μ a 2).toNatClampNeg (some v)) a 0 (mI μ a 0 + 1)) a 2 (mI μ a 2 + 1))
        else if b < mN μ ∧ mK μ b = 25 ∧ (mI μ a 2).toNatClampNeg = mL μ b ∧ 2 ≤ mL μ b ∧ mL μ b ≤ 1000 then
          some (some (.int 1), sI (sI (sR (sR ((mI (sN μ 25 (mL μ b + mL μ b / 2) (mL μ b + mL μ b / 2)), va_up (mR (sN μ 25 (mL μ b + mL μ b / 2) (mL μ b + mL μ b / 2))) (mN μ) (fun j => if j < mL μ b then mR μ b j else none), (sN μ 25 (mL μ b + mL μ b / 2) (mL μ b + mL μ b / 2)).2.2)) (mN μ) (mL μ b) (some v)) a 1 (some (mN μ))) a 0 (mI μ a 0 + 1)) a 2 (mI μ a 2 + 1))
        else none
      | none => none) else none
    | _ => none)
  | 10 => (match as with
    | [.ref a] => (match tx_len a with
      | some t => some (some (.int t), μ)
      | none => none)
    | _ => none)
  | 11 => (match as with
    | [.ref a, .int i] => (match tx_at a i with
      | some t => some (some (.int t), μ)
      | none => none)
    | _ => none)
  | _ => none
def p_cat (st : List Value) : Nat := (st.map fun v => v.category).sum
/-- the arguments on the stack, the first deepest, and the rest -/
def p_pop (n : Nat) (st : List Value) : Option (List Value × List Value) := if n ≤ st.length ∧ p_cat (st.drop n) ≤ 8 ∧ (st.take n).all (fun v => v.category == 1) = true then some ((st.take n).reverse, st.drop n) else none
/-- a call of a primitive: its number, arguments, rest -/
def p_callP (M : q_M) (i : Instr) (len : Nat) (st : List Value) : Option (Nat × List Value × List Value) := if len = 3 then (match i with
  | .invokestatic k => match q_lP (q_o M) k with
    | some 1 => (p_pop 2 st).map (fun r => (1, r))
    | some 2 => (p_pop 2 st).map (fun r => (2, r))
    | some 3 => (p_pop 2 st).map (fun r => (3, r))
    | some 4 => (p_pop 5 st).map (fun r => (4, r))
    | _ => none
  | .invokespecial k => match q_lP (q_o M) k with
    | some 0 => (p_pop 1 st).map (fun r => (0, r))
    | some 6 => (p_pop 1 st).map (fun r => (6, r))
    | _ => none
  | .invokevirtual k => match q_lP (q_o M) k with
    | some 5 => (p_pop 1 st).map (fun r => (5, r))
    | some 7 => (p_pop 1 st).map (fun r => (7, r))
    | some 8 => (p_pop 2 st).map (fun r => (8, r))
    | some 9 => (p_pop 2 st).map (fun r => (9, r))
    | some 10 => (p_pop 1 st).map (fun r => (10, r))
    | some 11 => (p_pop 2 st).map (fun r => (11, r))
    | _ => none
  | _ => none) else none
/-- a call of a method of ours: the link, arguments, rest -/
def p_call (M : q_M) (i : Instr) (len : Nat) (st : List Value) (μ : p_M) : Option (q_L × List Value × List Value) := if len = 3 then (match i with
  | .invokestatic k => match q_lM (q_o M) k with
    | some e => if e.2.2.1 = 1 then (p_pop (q_na e.2.2.2.2) st).map (fun r => (e, r)) else none
    | none => none
  | .invokespecial k => match q_lM (q_o M) k with
    | some e => if e.2.2.1 = 2 then (match p_pop (q_na e.2.2.2.2) st with
      | some (.ref a :: t, r) => if a < mN μ ∧ mK μ a = q_o e.2.2.2.2 then some (e, .ref a :: t, r) else none
      | _ => none) else none
    | none => none
  | .invokevirtual k => match q_lM (q_o M) k with
    | some e => if e.2.2.1 = 0 then (match p_pop (q_na e.2.2.2.2) st with
      | some (.ref a :: t, r) => if a < mN μ ∧ mK μ a = q_o e.2.2.2.2 ∧ q_o e.2.2.2.2 < 15 then some (e, .ref a :: t, r) else none
      | _ => none) else none
    | none => none
  | _ => none) else none
/-- the locals with which a method begins -/
def p_loc (M : q_M) (as : List Value) : List Value := as ++ List.replicate (q_ml M - as.length) (.double 0)
abbrev p_R : Type := (Nat × Option Value) × p_M
/-- the pure machine: n steps at most, calls d deep at most; (0, v): it returned v; (E + 1, none): it threw E -/
def p_run (X : p_X) : Nat → Nat → q_M → Nat → List Value → List Value → p_M → Option p_R
  | 0, _, _, _, _, _, _ => none
  | n + 1, d, M, pc, lo, st, μ => match decode (q_cc M) pc with
    | .error _ => none
    | .ok (i, len) => match p_exec X M i len pc lo st μ with
      | some q => p_run X n d M q.1 q.2.1 q.2.2.1 q.2.2.2
      | none => match p_pool M i len pc lo st μ with
        | some q => p_run X n d M q.1 q.2.1 q.2.2.1 q.2.2.2
        | none => match p_ret M i len st with
          | some v => some ((0, v), μ)
          | none => match p_thr M i pc st with
            | some E => if len = 3 then some ((E, none), sG μ 1 6) else none
            | none => match p_callP M i len st with
              | some (k, as, rest) => match p_prim X k as μ with
                | some (v, μ1) => p_run X n d M (pc + 3) lo (v.toList ++ rest) μ1
                | none => none
              | none => match p_call M i len st μ with
                | some (e, as, rest) => match d with
                  | 0 => none
                  | d1 + 1 => if e.2.2.1 = 1 ∨ q_hh e.2.2.2.2 = [] then (match p_run X n d1 e.2.2.2.2 0 (p_loc e.2.2.2.2 as) [] μ with
                    | some ((0, v), μ1) => p_run X n (d1 + 1) M (pc + 3) lo (v.toList ++ rest) μ1
                    | some ((E + 1, _), μ1) => if e.2.2.1 = 2 ∨ ¬ q_hh e.2.2.2.2 = [] then none else (match p_hnd M pc (E + 1) (q_hh M) with
                      | some h => p_run X n (d1 + 1) M h lo [.retAddr 0] μ1
                      | none => if q_hh M = [] then some ((E + 1, none), μ1) else none)
                    | none => none) else none
                | none => none
/-- it comes to an end, and of that Q holds -/
def p_Ev (X : p_X) (d : Nat) (M : q_M) (pc : Nat) (lo st : List Value) (μ : p_M) (Q : p_R → Prop) : Prop := ∃ n r, p_run X n d M pc lo st μ = some r ∧ Q r
