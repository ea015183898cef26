/-! a start that the Statement allows, with one more class of kind array over int: the cell behind AT_FIRST is of that class -/
def bd_code : Code := ⟨0, 1, ByteArray.empty, #[], #[]⟩
def bd_m : Method := { name := "clone", desc := "()Ljava/lang/Object;", sig := { parameters := [], returnType := some (.object "java/lang/Object") }, accessFlags := 0x1, code := some bd_code }
def bd_c : Class := { start1.cArr "[I" 43 .int with methods := #[bd_m] }
def bd_cell (c : Cell) : Cell := { c with cls := 53 }
def bd_of (t : State) : State := { t with vm := { t.vm with classes := t.vm.classes.push bd_c }, heap := t.heap.modify 8 bd_cell }
def bd_s : State := bd_of (start1.aboutOf #[])
def bd_ok (b : Nat) (s : State) : Bool := match s.frames with
  | .throwing _ :: _ => false
  | fs => decide (b < fs.length)
def bd_halts (tb : Tables) (e : Env) (b : Nat) : Nat → State → Bool
  | 0, _ => false
  | n + 1, s => match s.status with
    | .running => match s.curStatus? with
      | some .runnable => match s.alone, bd_ok b s with
        | true, true => bd_halts tb e b n (stepThread tb e s).1
        | _, _ => false
      | _ => false
    | _ => true
theorem bd_t0 : (bd_s.vm.classes.size == 54 && (bd_s.heap[8]?).any (fun c => c.cls == 53)) = true := by decide +kernel
theorem bd_halt : bd_halts start1.p0.tables start1.e0 Lib.HandBits.below0.length 160 bd_s = true := by decide +kernel
def bd_p (c : Jvm.Cond) : Bool := su_isCode c || c.before start1.args0 bd_s
theorem bd_split {α : Type} (p : α → Bool) (k n : Nat) (l : List α) (h1 : ((l.drop k).take n).all p = true) (h2 : (l.drop (k + n)).all p = true) : (l.drop k).all p = true := by
  have h : (l.drop k).take n ++ (l.drop k).drop n = l.drop k := List.take_append_drop n (l.drop k)
  rw [← h, List.all_append, h1, List.drop_drop, h2]; rfl
/-! where it stops: in the one more class's own clone, at its first pc -/
def bd_last (tb : Tables) (e : Env) : Nat → State → State
  | 0, s => s
  | n + 1, s => match s.status with
    | .running => bd_last tb e n (stepThread tb e s).1
    | _ => s
theorem bd_where : ((bd_last start1.p0.tables start1.e0 160 bd_s).frames.take 4).map (fun f => match f with | .java g => (g.method.cls, g.method.idx, g.pc) | _ => (0, 0, 0)) = [(53, 0, 0), (6, 0, 8), (2, 0, 55), (0, 0, 4)] := by decide +kernel
