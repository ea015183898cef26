/-! where it stops: in the one more class's own clone, at its first pc, called from House.<init> at pc 8; and the control: the same start, but with the cell behind AT_FIRST of the class that is found under [I, runs on past that place -/
def bd_last (tb : Tables) (e : Env) : Nat → State → State
  | 0, s => s
  | n + 1, s => match s.status with
    | .running => bd_last tb e n (stepThread tb e s).1
    | _ => s
theorem bd_where : ((bd_last start1.p0.tables start1.e0 160 bd_s).frames.take 4).map (fun f => match f with | .java g => (g.method.cls, g.method.idx, g.pc) | _ => (0, 0, 0)) = [(53, 0, 0), (6, 0, 8), (2, 0, 55), (0, 0, 4)] := by decide +kernel
theorem bd_control : (match (bd_last start1.p0.tables start1.e0 260 (start1.aboutOf #[])).status with | .running => true | _ => false) = true := by decide +kernel
theorem bd_control2 : (bd_last start1.p0.tables start1.e0 260 (start1.aboutOf #[])).frames.any (fun f => match f with | .java g => g.method.cls == 2 && g.method.idx == 0 && decide (58 < g.pc) | _ => false) = true := by decide +kernel
