/-! whence it is thrown: out of the one more class's own clone, called from House.<init> at pc 8; and the control: the same start, but with the cell behind AT_FIRST of the class that is found under [I, never comes there and runs on past that place -/
def bd_last (tb : Tables) (e : Env) : Nat → State → State
  | 0, s => s
  | n + 1, s => match s.status with
    | .running => bd_last tb e n (stepThread tb e s).1
    | _ => s
def bd_four (s : State) : List (Nat × Nat × Nat) := (s.frames.take 4).map (fun f => match f with | .java g => (g.method.cls, g.method.idx, g.pc) | _ => (0, 0, 0))
def bd_seen (tb : Tables) (e : Env) (w : List (Nat × Nat × Nat)) : Nat → State → Bool
  | 0, _ => false
  | n + 1, s => decide (bd_four s = w) || match s.status with
    | .running => bd_seen tb e w n (stepThread tb e s).1
    | _ => false
theorem bd_where : bd_seen start1.p0.tables start1.e0 [(53, 0, 1), (6, 0, 8), (2, 0, 55), (0, 0, 4)] 220 bd_s = true := by decide +kernel
theorem bd_control : (match (bd_last start1.p0.tables start1.e0 260 (start1.aboutOf #[])).status with | .running => true | _ => false) = true := by decide +kernel
theorem bd_control2 : (bd_last start1.p0.tables start1.e0 260 (start1.aboutOf #[])).frames.any (fun f => match f with | .java g => g.method.cls == 2 && g.method.idx == 0 && decide (58 < g.pc) | _ => false) = true := by decide +kernel
theorem bd_control3 : bd_thrown (bd_last start1.p0.tables start1.e0 260 (start1.aboutOf #[])) = false := by decide +kernel
