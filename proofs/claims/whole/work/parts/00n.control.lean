/-! the control: the same start, but with the cell behind AT_FIRST of the class that is found under [I, runs on past that place -/
theorem bd_control : (match (bd_last start1.p0.tables start1.e0 260 (start1.aboutOf #[])).status with | .running => true | _ => false) = true := by decide +kernel
theorem bd_control2 : (bd_last start1.p0.tables start1.e0 260 (start1.aboutOf #[])).frames.any (fun f => match f with | .java g => g.method.cls == 2 && g.method.idx == 0 && decide (58 < g.pc) | _ => false) = true := by decide +kernel
