/-! a start that the Statement allows, with one more class of kind array over int: the cell behind AT_FIRST is of that class, whose own method clone is 'aload_0, athrow' -/
def bd_code : Code := ⟨1, 1, .mk #[0x2a, 0xbf], #[], #[]⟩
def bd_m : Method := { name := "clone", desc := "()Ljava/lang/Object;", sig := { parameters := [], returnType := some (.object "java/lang/Object") }, accessFlags := 0x1, code := some bd_code }
def bd_c : Class := { start1.cArr "[I" 43 .int with methods := #[bd_m] }
def bd_cell (c : Cell) : Cell := { c with cls := 53 }
def bd_of (t : State) : State := { t with vm := { t.vm with classes := t.vm.classes.push bd_c }, heap := t.heap.modify 8 bd_cell }
def bd_s : State := bd_of (start1.aboutOf #[])
/-- more frames than the end has -/
def bd_ok (b : Nat) (s : State) : Bool := match s.frames with
  | .throwing _ :: r => decide (b < r.length)
  | fs => decide (b < fs.length)
def bd_bot (g : NFrame) : Bool := decide (g.method = ⟨0, 0⟩) && decide (g.args = #[]) && decide (g.stage = 0) && decide (g.saved = #[]) && !g.awaiting && g.answer.isNone && g.locked.isNone && decide (g.words = 0)
def bd_in : List Frame → Bool
  | [] => false
  | f :: r => match r with
    | [] => match f with
      | .native g => bd_bot g
      | _ => false
    | _ :: _ => bd_in r
/-- thrown: an exception has left the law's frame -/
def bd_thrown (s : State) : Bool := match s.frames with
  | [.throwing _, .native g] => bd_bot g
  | _ => false
def bd_throws (tb : Tables) (e : Env) (b : Nat) : Nat → State → Bool
  | 0, _ => false
  | n + 1, s => match s.status with
    | .running => bd_thrown s || match s.curStatus? with
      | some .runnable => match s.alone, (bd_ok b s && bd_in s.frames) with
        | true, true => bd_throws tb e b n (stepThread tb e s).1
        | _, _ => false
      | _ => false
    | _ => false
theorem bd_t0 : (bd_s.vm.classes.size == 54 && (bd_s.heap[8]?).any (fun c => c.cls == 53)) = true := by decide +kernel
/-- the run ends by an exception -/
theorem bd_fall : bd_throws start1.p0.tables start1.e0 Lib.HandBits.below0.length 220 bd_s = true := by decide +kernel
