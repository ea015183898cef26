/-! a start that the Statement allows, with one more class of kind array over int: the cell behind AT_FIRST is of that class -/
def bd_code : Code := ⟨0, 1, ByteArray.empty, #[], #[]⟩
def bd_m : Method := { name := "clone", desc := "()Ljava/lang/Object;", sig := { parameters := [], returnType := some (.object "java/lang/Object") }, accessFlags := 0x1, code := some bd_code }
def bd_c : Class := { start1.cArr "[I" 43 .int with methods := #[bd_m] }
def bd_cell (c : Cell) : Cell := { c with cls := 53 }
def bd_of (t : State) : State := { t with vm := { t.vm with classes := t.vm.classes.push bd_c }, heap := t.heap.modify 8 bd_cell }
def bd_s : State := bd_of (start1.aboutOf #[])
def bd_ok (b : Nat) (s : State) : Bool := match s.frames with
  | .throwing _ :: _ => false
  | fs => decide (b < fs.length)
def bd_halts (tb : Tables) (e : Env) (b : Nat) : Nat → State → Bool
  | 0, _ => false
  | n + 1, s => match s.status with
    | .running => match s.curStatus? with
      | some .runnable => match s.alone, bd_ok b s with
        | true, true => bd_halts tb e b n (stepThread tb e s).1
        | _, _ => false
      | _ => false
    | _ => true
theorem bd_t0 : (bd_s.vm.classes.size == 54 && (bd_s.heap[8]?).any (fun c => c.cls == 53)) = true := by decide +kernel
/-- the run stops before it ends -/
theorem bd_halt : bd_halts start1.p0.tables start1.e0 Lib.HandBits.below0.length 160 bd_s = true := by decide +kernel
