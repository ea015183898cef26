/-! X13_measure -/
def F_X13_measure_c66 (μ : p_M) : Option (Int32 × p_M) :=
  some ((0 : Int32), μ)
theorem P_X13_measure_c66 {μ : p_M} {r : Int32 × p_M} (h : F_X13_measure_c66 μ = some r) : Sm μ r.2 := by
  unfold F_X13_measure_c66 at h
  cases h
  exact (Sm_refl μ)
theorem E_X13_measure_c66 {X : p_X} {d : Nat} {Q : p_R → Prop} {w0 : Value} {w1 : Value} {w2 : Value} {w3 : Value} {μ : p_M} {r : Int32 × p_M} (hs : ShM μ) (h : F_X13_measure_c66 μ = some r) (hQ : Q ((0, some (.int r.1)), r.2)) : p_Ev X (d + 3) M_X13_measure 66 [w0, w1, w2, w3] [] μ Q := by
  unfold F_X13_measure_c66 at h
  refine e_iconst (v := (0 : Int32)) dX13_measure_66 rfl ?_
  cases h
  exact e_ireti dX13_measure_67 rfl hQ
def F_X13_measure_c168 (s0 : Int32) (s1 : Int32) (μ : p_M) : Option (Int32 × p_M) :=
  some (((mI (sI μ tM 70 (s1 + s0)) tM 69) - (1 : Int32)), (sI μ tM 70 (s1 + s0)))
theorem P_X13_measure_c168 {s0 : Int32} {s1 : Int32} {μ : p_M} {r : Int32 × p_M} (h : F_X13_measure_c168 s0 s1 μ = some r) : Sm μ r.2 := by
  unfold F_X13_measure_c168 at h
  cases h
  exact (Sm_set (Sm_refl μ) (by decide))
theorem E_X13_measure_c168 {X : p_X} {d : Nat} {Q : p_R → Prop} {s0 : Int32} {s1 : Int32} {w1 : Value} {w2 : Value} {w3 : Value} {μ : p_M} {r : Int32 × p_M} (hs : ShM μ) (h : F_X13_measure_c168 s0 s1 μ = some r) (hQ : Q ((0, some (.int r.1)), r.2)) : p_Ev X (d + 3) M_X13_measure 168 [.ref tM, w1, w2, w3] [.int s0, .int s1, .ref tM] μ Q := by
  unfold F_X13_measure_c168 at h
  refine e_iadd dX13_measure_168 ?_
  refine e_putI dX13_measure_169 rfl ⟨rfl, rfl, fun h => by cases h⟩ (fun h => by cases h) hs.1 hs.2.1 ?_
  refine e_aload_n dX13_measure_172 rfl ?_
  refine e_getI dX13_measure_173 rfl rfl hs.1 hs.2.1 ?_
  refine e_iconst (v := (1 : Int32)) dX13_measure_176 rfl ?_
  refine e_isub dX13_measure_177 ?_
  cases h
  exact e_ireti dX13_measure_178 rfl hQ
def F_X13_measure_c59 (v1 : Int32) (v2 : Int32) (v3 : Int32) (s0 : Int32) (μ : p_M) : Option (Int32 × p_M) :=
  (F_X13_throwsIf s0 (3 : Int32) μ).bind fun q5 =>
  if q5.1 = 0
  then (if ¬ (mI q5.2 tM 69) = (250 : Int32)
    then (p_ok (¬ (mI q5.2 tM 69) < 0 ∧ (mI q5.2 tM 69).toNatClampNeg < 250)
      (p_ok (¬ (mI (sI q5.2 (aM 65) (mI q5.2 tM 69).toNatClampNeg v1) tM 69) < 0 ∧ (mI (sI q5.2 (aM 65) (mI q5.2 tM 69).toNatClampNeg v1) tM 69).toNatClampNeg < 250)
      (p_ok (¬ (mI (sI (sI q5.2 (aM 65) (mI q5.2 tM 69).toNatClampNeg v1) (aM 66) (mI (sI q5.2 (aM 65) (mI q5.2 tM 69).toNatClampNeg v1) tM 69).toNatClampNeg v2) tM 69) < 0 ∧ (mI (sI (sI q5.2 (aM 65) (mI q5.2 tM 69).toNatClampNeg v1) (aM 66) (mI (sI q5.2 (aM 65) (mI q5.2 tM 69).toNatClampNeg v1) tM 69).toNatClampNeg v2) tM 69).toNatClampNeg < 250)
      (p_ok (¬ (mI (sI (sI (sI q5.2 (aM 65) (mI q5.2 tM 69).toNatClampNeg v1) (aM 66) (mI (sI q5.2 (aM 65) (mI q5.2 tM 69).toNatClampNeg v1) tM 69).toNatClampNeg v2) (aM 67) (mI (sI (sI q5.2 (aM 65) (mI q5.2 tM 69).toNatClampNeg v1) (aM 66) (mI (sI q5.2 (aM 65) (mI q5.2 tM 69).toNatClampNeg v1) tM 69).toNatClampNeg v2) tM 69).toNatClampNeg v3) tM 69) < 0 ∧ (mI (sI (sI (sI q5.2 (aM 65) (mI q5.2 tM 69).toNatClampNeg v1) (aM 66) (mI (sI q5.2 (aM 65) (mI q5.2 tM 69).toNatClampNeg v1) tM 69).toNatClampNeg v2) (aM 67) (mI (sI (sI q5.2 (aM 65) (mI q5.2 tM 69).toNatClampNeg v1) (aM 66) (mI (sI q5.2 (aM 65) (mI q5.2 tM 69).toNatClampNeg v1) tM 69).toNatClampNeg v2) tM 69).toNatClampNeg v3) tM 69).toNatClampNeg < 250)
      (p_ok (¬ ((5 : Int32) * v1) < 0 ∧ ((5 : Int32) * v1).toNatClampNeg < 240)
      (p_ok (¬ (((5 : Int32) * v1) + (1 : Int32)) < 0 ∧ (((5 : Int32) * v1) + (1 : Int32)).toNatClampNeg < 240)
      ((F_X13_in v3 (mI (sI (sI (sI (sI (sI q5.2 (aM 65) (mI q5.2 tM 69).toNatClampNeg v1) (aM 66) (mI (sI q5.2 (aM 65) (mI q5.2 tM 69).toNatClampNeg v1) tM 69).toNatClampNeg v2) (aM 67) (mI (sI (sI q5.2 (aM 65) (mI q5.2 tM 69).toNatClampNeg v1) (aM 66) (mI (sI q5.2 (aM 65) (mI q5.2 tM 69).toNatClampNeg v1) tM 69).toNatClampNeg v2) tM 69).toNatClampNeg v3) (aM 68) (mI (sI (sI (sI q5.2 (aM 65) (mI q5.2 tM 69).toNatClampNeg v1) (aM 66) (mI (sI q5.2 (aM 65) (mI q5.2 tM 69).toNatClampNeg v1) tM 69).toNatClampNeg v2) (aM 67) (mI (sI (sI q5.2 (aM 65) (mI q5.2 tM 69).toNatClampNeg v1) (aM 66) (mI (sI q5.2 (aM 65) (mI q5.2 tM 69).toNatClampNeg v1) tM 69).toNatClampNeg v2) tM 69).toNatClampNeg v3) tM 69).toNatClampNeg (mI (sI (sI (sI q5.2 (aM 65) (mI q5.2 tM 69).toNatClampNeg v1) (aM 66) (mI (sI q5.2 (aM 65) (mI q5.2 tM 69).toNatClampNeg v1) tM 69).toNatClampNeg v2) (aM 67) (mI (sI (sI q5.2 (aM 65) (mI q5.2 tM 69).toNatClampNeg v1) (aM 66) (mI (sI q5.2 (aM 65) (mI q5.2 tM 69).toNatClampNeg v1) tM 69).toNatClampNeg v2) tM 69).toNatClampNeg v3) tM 42)) tM 69 ((mI (sI (sI (sI (sI q5.2 (aM 65) (mI q5.2 tM 69).toNatClampNeg v1) (aM 66) (mI (sI q5.2 (aM 65) (mI q5.2 tM 69).toNatClampNeg v1) tM 69).toNatClampNeg v2) (aM 67) (mI (sI (sI q5.2 (aM 65) (mI q5.2 tM 69).toNatClampNeg v1) (aM 66) (mI (sI q5.2 (aM 65) (mI q5.2 tM 69).toNatClampNeg v1) tM 69).toNatClampNeg v2) tM 69).toNatClampNeg v3) (aM 68) (mI (sI (sI (sI q5.2 (aM 65) (mI q5.2 tM 69).toNatClampNeg v1) (aM 66) (mI (sI q5.2 (aM 65) (mI q5.2 tM 69).toNatClampNeg v1) tM 69).toNatClampNeg v2) (aM 67) (mI (sI (sI q5.2 (aM 65) (mI q5.2 tM 69).toNatClampNeg v1) (aM 66) (mI (sI q5.2 (aM 65) (mI q5.2 tM 69).toNatClampNeg v1) tM 69).toNatClampNeg v2) tM 69).toNatClampNeg v3) tM 69).toNatClampNeg (mI (sI (sI (sI q5.2 (aM 65) (mI q5.2 tM 69).toNatClampNeg v1) (aM 66) (mI (sI q5.2 (aM 65) (mI q5.2 tM 69).toNatClampNeg v1) tM 69).toNatClampNeg v2) (aM 67) (mI (sI (sI q5.2 (aM 65) (mI q5.2 tM 69).toNatClampNeg v1) (aM 66) (mI (sI q5.2 (aM 65) (mI q5.2 tM 69).toNatClampNeg v1) tM 69).toNatClampNeg v2) tM 69).toNatClampNeg v3) tM 42)) tM 69) + (1 : Int32))) (aM 15) ((5 : Int32) * v1).toNatClampNeg) (mI (sI (sI (sI (sI (sI q5.2 (aM 65) (mI q5.2 tM 69).toNatClampNeg v1) (aM 66) (mI (sI q5.2 (aM 65) (mI q5.2 tM 69).toNatClampNeg v1) tM 69).toNatClampNeg v2) (aM 67) (mI (sI (sI q5.2 (aM 65) (mI q5.2 tM 69).toNatClampNeg v1) (aM 66) (mI (sI q5.2 (aM 65) (mI q5.2 tM 69).toNatClampNeg v1) tM 69).toNatClampNeg v2) tM 69).toNatClampNeg v3) (aM 68) (mI (sI (sI (sI q5.2 (aM 65) (mI q5.2 tM 69).toNatClampNeg v1) (aM 66) (mI (sI q5.2 (aM 65) (mI q5.2 tM 69).toNatClampNeg v1) tM 69).toNatClampNeg v2) (aM 67) (mI (sI (sI q5.2 (aM 65) (mI q5.2 tM 69).toNatClampNeg v1) (aM 66) (mI (sI q5.2 (aM 65) (mI q5.2 tM 69).toNatClampNeg v1) tM 69).toNatClampNeg v2) tM 69).toNatClampNeg v3) tM 69).toNatClampNeg (mI (sI (sI (sI q5.2 (aM 65) (mI q5.2 tM 69).toNatClampNeg v1) (aM 66) (mI (sI q5.2 (aM 65) (mI q5.2 tM 69).toNatClampNeg v1) tM 69).toNatClampNeg v2) (aM 67) (mI (sI (sI q5.2 (aM 65) (mI q5.2 tM 69).toNatClampNeg v1) (aM 66) (mI (sI q5.2 (aM 65) (mI q5.2 tM 69).toNatClampNeg v1) tM 69).toNatClampNeg v2) tM 69).toNatClampNeg v3) tM 42)) tM 69 ((mI (sI (sI (sI (sI q5.2 (aM 65) (mI q5.2 tM 69).toNatClampNeg v1) (aM 66) (mI (sI q5.2 (aM 65) (mI q5.2 tM 69).toNatClampNeg v1) tM 69).toNatClampNeg v2) (aM 67) (mI (sI (sI q5.2 (aM 65) (mI q5.2 tM 69).toNatClampNeg v1) (aM 66) (mI (sI q5.2 (aM 65) (mI q5.2 tM 69).toNatClampNeg v1) tM 69).toNatClampNeg v2) tM 69).toNatClampNeg v3) (aM 68) (mI (sI (sI (sI q5.2 (aM 65) (mI q5.2 tM 69).toNatClampNeg v1) (aM 66) (mI (sI q5.2 (aM 65) (mI q5.2 tM 69).toNatClampNeg v1) tM 69).toNatClampNeg v2) (aM 67) (mI (sI (sI q5.2 (aM 65) (mI q5.2 tM 69).toNatClampNeg v1) (aM 66) (mI (sI q5.2 (aM 65) (mI q5.2 tM 69).toNatClampNeg v1) tM 69).toNatClampNeg v2) tM 69).toNatClampNeg v3) tM 69).toNatClampNeg (mI (sI (sI (sI q5.2 (aM 65) (mI q5.2 tM 69).toNatClampNeg v1) (aM 66) (mI (sI q5.2 (aM 65) (mI q5.2 tM 69).toNatClampNeg v1) tM 69).toNatClampNeg v2) (aM 67) (mI (sI (sI q5.2 (aM 65) (mI q5.2 tM 69).toNatClampNeg v1) (aM 66) (mI (sI q5.2 (aM 65) (mI q5.2 tM 69).toNatClampNeg v1) tM 69).toNatClampNeg v2) tM 69).toNatClampNeg v3) tM 42)) tM 69) + (1 : Int32))) (aM 15) (((5 : Int32) * v1) + (1 : Int32)).toNatClampNeg) (sI (sI (sI (sI (sI q5.2 (aM 65) (mI q5.2 tM 69).toNatClampNeg v1) (aM 66) (mI (sI q5.2 (aM 65) (mI q5.2 tM 69).toNatClampNeg v1) tM 69).toNatClampNeg v2) (aM 67) (mI (sI (sI q5.2 (aM 65) (mI q5.2 tM 69).toNatClampNeg v1) (aM 66) (mI (sI q5.2 (aM 65) (mI q5.2 tM 69).toNatClampNeg v1) tM 69).toNatClampNeg v2) tM 69).toNatClampNeg v3) (aM 68) (mI (sI (sI (sI q5.2 (aM 65) (mI q5.2 tM 69).toNatClampNeg v1) (aM 66) (mI (sI q5.2 (aM 65) (mI q5.2 tM 69).toNatClampNeg v1) tM 69).toNatClampNeg v2) (aM 67) (mI (sI (sI q5.2 (aM 65) (mI q5.2 tM 69).toNatClampNeg v1) (aM 66) (mI (sI q5.2 (aM 65) (mI q5.2 tM 69).toNatClampNeg v1) tM 69).toNatClampNeg v2) tM 69).toNatClampNeg v3) tM 69).toNatClampNeg (mI (sI (sI (sI q5.2 (aM 65) (mI q5.2 tM 69).toNatClampNeg v1) (aM 66) (mI (sI q5.2 (aM 65) (mI q5.2 tM 69).toNatClampNeg v1) tM 69).toNatClampNeg v2) (aM 67) (mI (sI (sI q5.2 (aM 65) (mI q5.2 tM 69).toNatClampNeg v1) (aM 66) (mI (sI q5.2 (aM 65) (mI q5.2 tM 69).toNatClampNeg v1) tM 69).toNatClampNeg v2) tM 69).toNatClampNeg v3) tM 42)) tM 69 ((mI (sI (sI (sI (sI q5.2 (aM 65) (mI q5.2 tM 69).toNatClampNeg v1) (aM 66) (mI (sI q5.2 (aM 65) (mI q5.2 tM 69).toNatClampNeg v1) tM 69).toNatClampNeg v2) (aM 67) (mI (sI (sI q5.2 (aM 65) (mI q5.2 tM 69).toNatClampNeg v1) (aM 66) (mI (sI q5.2 (aM 65) (mI q5.2 tM 69).toNatClampNeg v1) tM 69).toNatClampNeg v2) tM 69).toNatClampNeg v3) (aM 68) (mI (sI (sI (sI q5.2 (aM 65) (mI q5.2 tM 69).toNatClampNeg v1) (aM 66) (mI (sI q5.2 (aM 65) (mI q5.2 tM 69).toNatClampNeg v1) tM 69).toNatClampNeg v2) (aM 67) (mI (sI (sI q5.2 (aM 65) (mI q5.2 tM 69).toNatClampNeg v1) (aM 66) (mI (sI q5.2 (aM 65) (mI q5.2 tM 69).toNatClampNeg v1) tM 69).toNatClampNeg v2) tM 69).toNatClampNeg v3) tM 69).toNatClampNeg (mI (sI (sI (sI q5.2 (aM 65) (mI q5.2 tM 69).toNatClampNeg v1) (aM 66) (mI (sI q5.2 (aM 65) (mI q5.2 tM 69).toNatClampNeg v1) tM 69).toNatClampNeg v2) (aM 67) (mI (sI (sI q5.2 (aM 65) (mI q5.2 tM 69).toNatClampNeg v1) (aM 66) (mI (sI q5.2 (aM 65) (mI q5.2 tM 69).toNatClampNeg v1) tM 69).toNatClampNeg v2) tM 69).toNatClampNeg v3) tM 42)) tM 69) + (1 : Int32)))).bind fun q6 =>
      if q6.1 = 0
      then (F_X13_measure_c168 (1 : Int32) (mI (sI (sI (sI (sI (sI q5.2 (aM 65) (mI q5.2 tM 69).toNatClampNeg v1) (aM 66) (mI (sI q5.2 (aM 65) (mI q5.2 tM 69).toNatClampNeg v1) tM 69).toNatClampNeg v2) (aM 67) (mI (sI (sI q5.2 (aM 65) (mI q5.2 tM 69).toNatClampNeg v1) (aM 66) (mI (sI q5.2 (aM 65) (mI q5.2 tM 69).toNatClampNeg v1) tM 69).toNatClampNeg v2) tM 69).toNatClampNeg v3) (aM 68) (mI (sI (sI (sI q5.2 (aM 65) (mI q5.2 tM 69).toNatClampNeg v1) (aM 66) (mI (sI q5.2 (aM 65) (mI q5.2 tM 69).toNatClampNeg v1) tM 69).toNatClampNeg v2) (aM 67) (mI (sI (sI q5.2 (aM 65) (mI q5.2 tM 69).toNatClampNeg v1) (aM 66) (mI (sI q5.2 (aM 65) (mI q5.2 tM 69).toNatClampNeg v1) tM 69).toNatClampNeg v2) tM 69).toNatClampNeg v3) tM 69).toNatClampNeg (mI (sI (sI (sI q5.2 (aM 65) (mI q5.2 tM 69).toNatClampNeg v1) (aM 66) (mI (sI q5.2 (aM 65) (mI q5.2 tM 69).toNatClampNeg v1) tM 69).toNatClampNeg v2) (aM 67) (mI (sI (sI q5.2 (aM 65) (mI q5.2 tM 69).toNatClampNeg v1) (aM 66) (mI (sI q5.2 (aM 65) (mI q5.2 tM 69).toNatClampNeg v1) tM 69).toNatClampNeg v2) tM 69).toNatClampNeg v3) tM 42)) tM 69 ((mI (sI (sI (sI (sI q5.2 (aM 65) (mI q5.2 tM 69).toNatClampNeg v1) (aM 66) (mI (sI q5.2 (aM 65) (mI q5.2 tM 69).toNatClampNeg v1) tM 69).toNatClampNeg v2) (aM 67) (mI (sI (sI q5.2 (aM 65) (mI q5.2 tM 69).toNatClampNeg v1) (aM 66) (mI (sI q5.2 (aM 65) (mI q5.2 tM 69).toNatClampNeg v1) tM 69).toNatClampNeg v2) tM 69).toNatClampNeg v3) (aM 68) (mI (sI (sI (sI q5.2 (aM 65) (mI q5.2 tM 69).toNatClampNeg v1) (aM 66) (mI (sI q5.2 (aM 65) (mI q5.2 tM 69).toNatClampNeg v1) tM 69).toNatClampNeg v2) (aM 67) (mI (sI (sI q5.2 (aM 65) (mI q5.2 tM 69).toNatClampNeg v1) (aM 66) (mI (sI q5.2 (aM 65) (mI q5.2 tM 69).toNatClampNeg v1) tM 69).toNatClampNeg v2) tM 69).toNatClampNeg v3) tM 69).toNatClampNeg (mI (sI (sI (sI q5.2 (aM 65) (mI q5.2 tM 69).toNatClampNeg v1) (aM 66) (mI (sI q5.2 (aM 65) (mI q5.2 tM 69).toNatClampNeg v1) tM 69).toNatClampNeg v2) (aM 67) (mI (sI (sI q5.2 (aM 65) (mI q5.2 tM 69).toNatClampNeg v1) (aM 66) (mI (sI q5.2 (aM 65) (mI q5.2 tM 69).toNatClampNeg v1) tM 69).toNatClampNeg v2) tM 69).toNatClampNeg v3) tM 42)) tM 69) + (1 : Int32))) tM 70) q6.2)
      else (F_X13_measure_c168 (0 : Int32) (mI (sI (sI (sI (sI (sI q5.2 (aM 65) (mI q5.2 tM 69).toNatClampNeg v1) (aM 66) (mI (sI q5.2 (aM 65) (mI q5.2 tM 69).toNatClampNeg v1) tM 69).toNatClampNeg v2) (aM 67) (mI (sI (sI q5.2 (aM 65) (mI q5.2 tM 69).toNatClampNeg v1) (aM 66) (mI (sI q5.2 (aM 65) (mI q5.2 tM 69).toNatClampNeg v1) tM 69).toNatClampNeg v2) tM 69).toNatClampNeg v3) (aM 68) (mI (sI (sI (sI q5.2 (aM 65) (mI q5.2 tM 69).toNatClampNeg v1) (aM 66) (mI (sI q5.2 (aM 65) (mI q5.2 tM 69).toNatClampNeg v1) tM 69).toNatClampNeg v2) (aM 67) (mI (sI (sI q5.2 (aM 65) (mI q5.2 tM 69).toNatClampNeg v1) (aM 66) (mI (sI q5.2 (aM 65) (mI q5.2 tM 69).toNatClampNeg v1) tM 69).toNatClampNeg v2) tM 69).toNatClampNeg v3) tM 69).toNatClampNeg (mI (sI (sI (sI q5.2 (aM 65) (mI q5.2 tM 69).toNatClampNeg v1) (aM 66) (mI (sI q5.2 (aM 65) (mI q5.2 tM 69).toNatClampNeg v1) tM 69).toNatClampNeg v2) (aM 67) (mI (sI (sI q5.2 (aM 65) (mI q5.2 tM 69).toNatClampNeg v1) (aM 66) (mI (sI q5.2 (aM 65) (mI q5.2 tM 69).toNatClampNeg v1) tM 69).toNatClampNeg v2) tM 69).toNatClampNeg v3) tM 42)) tM 69 ((mI (sI (sI (sI (sI q5.2 (aM 65) (mI q5.2 tM 69).toNatClampNeg v1) (aM 66) (mI (sI q5.2 (aM 65) (mI q5.2 tM 69).toNatClampNeg v1) tM 69).toNatClampNeg v2) (aM 67) (mI (sI (sI q5.2 (aM 65) (mI q5.2 tM 69).toNatClampNeg v1) (aM 66) (mI (sI q5.2 (aM 65) (mI q5.2 tM 69).toNatClampNeg v1) tM 69).toNatClampNeg v2) tM 69).toNatClampNeg v3) (aM 68) (mI (sI (sI (sI q5.2 (aM 65) (mI q5.2 tM 69).toNatClampNeg v1) (aM 66) (mI (sI q5.2 (aM 65) (mI q5.2 tM 69).toNatClampNeg v1) tM 69).toNatClampNeg v2) (aM 67) (mI (sI (sI q5.2 (aM 65) (mI q5.2 tM 69).toNatClampNeg v1) (aM 66) (mI (sI q5.2 (aM 65) (mI q5.2 tM 69).toNatClampNeg v1) tM 69).toNatClampNeg v2) tM 69).toNatClampNeg v3) tM 69).toNatClampNeg (mI (sI (sI (sI q5.2 (aM 65) (mI q5.2 tM 69).toNatClampNeg v1) (aM 66) (mI (sI q5.2 (aM 65) (mI q5.2 tM 69).toNatClampNeg v1) tM 69).toNatClampNeg v2) (aM 67) (mI (sI (sI q5.2 (aM 65) (mI q5.2 tM 69).toNatClampNeg v1) (aM 66) (mI (sI q5.2 (aM 65) (mI q5.2 tM 69).toNatClampNeg v1) tM 69).toNatClampNeg v2) tM 69).toNatClampNeg v3) tM 42)) tM 69) + (1 : Int32))) tM 70) q6.2))))))))
    else (some ((-1), q5.2)))
  else (F_X13_measure_c66 q5.2)
theorem P_X13_measure_c59 {v1 : Int32} {v2 : Int32} {v3 : Int32} {s0 : Int32} {μ : p_M} {r : Int32 × p_M} (h : F_X13_measure_c59 v1 v2 v3 s0 μ = some r) : Sm μ r.2 := by
  unfold F_X13_measure_c59 at h
  obtain ⟨q5, hq5, h⟩ := p_bd h
  by_cases hc : q5.1 = 0
  · rw [if_pos hc] at h
    by_cases hc : ¬ (mI q5.2 tM 69) = (250 : Int32)
    · rw [if_pos hc] at h
      obtain ⟨hc, h⟩ := p_ok_some h
      obtain ⟨hc, h⟩ := p_ok_some h
      obtain ⟨hc, h⟩ := p_ok_some h
      obtain ⟨hc, h⟩ := p_ok_some h
      obtain ⟨hc, h⟩ := p_ok_some h
      obtain ⟨hc, h⟩ := p_ok_some h
      obtain ⟨q6, hq6, h⟩ := p_bd h
      by_cases hc : q6.1 = 0
      · rw [if_pos hc] at h
        exact Sm_trans (Sm_trans (Sm_set (Sm_set (Sm_set (Sm_set (Sm_set (Sm_trans (Sm_refl μ) (P_X13_throwsIf (r := q5) hq5)) (by decide)) (by decide)) (by decide)) (by decide)) (by decide)) (P_X13_in (r := q6) hq6)) (P_X13_measure_c168 h)
      · rw [if_neg hc] at h
        exact Sm_trans (Sm_trans (Sm_set (Sm_set (Sm_set (Sm_set (Sm_set (Sm_trans (Sm_refl μ) (P_X13_throwsIf (r := q5) hq5)) (by decide)) (by decide)) (by decide)) (by decide)) (by decide)) (P_X13_in (r := q6) hq6)) (P_X13_measure_c168 h)
    · rw [if_neg hc] at h
      cases h
      exact (Sm_trans (Sm_refl μ) (P_X13_throwsIf (r := q5) hq5))
  · rw [if_neg hc] at h
    exact Sm_trans (Sm_trans (Sm_refl μ) (P_X13_throwsIf (r := q5) hq5)) (P_X13_measure_c66 h)
theorem E_X13_measure_c59 {X : p_X} {d : Nat} {Q : p_R → Prop} {v1 : Int32} {v2 : Int32} {v3 : Int32} {s0 : Int32} {μ : p_M} {r : Int32 × p_M} (hs : ShM μ) (h : F_X13_measure_c59 v1 v2 v3 s0 μ = some r) (hQ : Q ((0, some (.int r.1)), r.2)) : p_Ev X (d + 3) M_X13_measure 59 [.ref tM, .int v1, .int v2, .int v3] [.int s0, .ref tM] μ Q := by
  unfold F_X13_measure_c59 at h
  refine e_iconst (v := (3 : Int32)) dX13_measure_59 rfl ?_
  obtain ⟨q5, hq5, h⟩ := p_bd h
  refine e_cV dX13_measure_60 rfl rfl ⟨rfl, rfl, by decide⟩ rfl hs.1 hs.2.1 (E_X13_throwsIf hs hq5 ⟨rfl, ?_⟩)
  have hs := ShM_of (P_X13_throwsIf hq5) hs
  show p_Ev X (d + 3) M_X13_measure 63 [.ref tM, .int v1, .int v2, .int v3] [.int q5.1] q5.2 Q
  refine e_if_eq dX13_measure_63 68 (by decide) (fun hc => ?_) (fun hc => ?_)
  · rw [if_pos hc] at h
    refine e_aload_n dX13_measure_68 rfl ?_
    refine e_getI dX13_measure_69 rfl rfl hs.1 hs.2.1 ?_
    refine e_sipush (v := (250 : Int32)) dX13_measure_72 rfl ?_
    refine e_ic_ne dX13_measure_75 80 (by decide) (fun hc => ?_) (fun hc => ?_)
    · rw [if_pos hc] at h
      refine e_aload_n dX13_measure_80 rfl ?_
      refine e_getR dX13_measure_81 rfl rfl hs.1 hs.2.1 (hs.2.2.2 65 (by decide) rfl).1 ?_
      refine e_aload_n dX13_measure_84 rfl ?_
      refine e_getI dX13_measure_85 rfl rfl hs.1 hs.2.1 ?_
      refine e_iload_n dX13_measure_88 rfl ?_
      obtain ⟨hc, h⟩ := p_ok_some h
      refine e_iast dX13_measure_89 (hs.2.2.2 65 (by decide) rfl).2.1 (hs.2.2.2 65 (by decide) rfl).2.2.1 (hs.2.2.2 65 (by decide) rfl).2.2.2 hc ?_
      refine e_aload_n dX13_measure_90 rfl ?_
      refine e_getR dX13_measure_91 rfl rfl hs.1 hs.2.1 (hs.2.2.2 66 (by decide) rfl).1 ?_
      refine e_aload_n dX13_measure_94 rfl ?_
      refine e_getI dX13_measure_95 rfl rfl hs.1 hs.2.1 ?_
      refine e_iload_n dX13_measure_98 rfl ?_
      obtain ⟨hc, h⟩ := p_ok_some h
      refine e_iast dX13_measure_99 (hs.2.2.2 66 (by decide) rfl).2.1 (hs.2.2.2 66 (by decide) rfl).2.2.1 (hs.2.2.2 66 (by decide) rfl).2.2.2 hc ?_
      refine e_aload_n dX13_measure_100 rfl ?_
      refine e_getR dX13_measure_101 rfl rfl hs.1 hs.2.1 (hs.2.2.2 67 (by decide) rfl).1 ?_
      refine e_aload_n dX13_measure_104 rfl ?_
      refine e_getI dX13_measure_105 rfl rfl hs.1 hs.2.1 ?_
      refine e_iload_n dX13_measure_108 rfl ?_
      obtain ⟨hc, h⟩ := p_ok_some h
      refine e_iast dX13_measure_109 (hs.2.2.2 67 (by decide) rfl).2.1 (hs.2.2.2 67 (by decide) rfl).2.2.1 (hs.2.2.2 67 (by decide) rfl).2.2.2 hc ?_
      refine e_aload_n dX13_measure_110 rfl ?_
      refine e_getR dX13_measure_111 rfl rfl hs.1 hs.2.1 (hs.2.2.2 68 (by decide) rfl).1 ?_
      refine e_aload_n dX13_measure_114 rfl ?_
      refine e_getI dX13_measure_115 rfl rfl hs.1 hs.2.1 ?_
      refine e_aload_n dX13_measure_118 rfl ?_
      refine e_getI dX13_measure_119 rfl rfl hs.1 hs.2.1 ?_
      obtain ⟨hc, h⟩ := p_ok_some h
      refine e_iast dX13_measure_122 (hs.2.2.2 68 (by decide) rfl).2.1 (hs.2.2.2 68 (by decide) rfl).2.2.1 (hs.2.2.2 68 (by decide) rfl).2.2.2 hc ?_
      refine e_aload_n dX13_measure_123 rfl ?_
      refine e_dupR dX13_measure_124 ?_
      refine e_getI dX13_measure_125 rfl rfl hs.1 hs.2.1 ?_
      refine e_iconst (v := (1 : Int32)) dX13_measure_128 rfl ?_
      refine e_iadd dX13_measure_129 ?_
      refine e_putI dX13_measure_130 rfl ⟨rfl, rfl, fun h => by cases h⟩ (fun h => by cases h) hs.1 hs.2.1 ?_
      refine e_aload_n dX13_measure_133 rfl ?_
      refine e_dupR dX13_measure_134 ?_
      refine e_getI dX13_measure_135 rfl rfl hs.1 hs.2.1 ?_
      refine e_iload_n dX13_measure_138 rfl ?_
      refine e_aload_n dX13_measure_139 rfl ?_
      refine e_getR dX13_measure_140 rfl rfl hs.1 hs.2.1 (hs.2.2.2 15 (by decide) rfl).1 ?_
      refine e_iconst (v := (5 : Int32)) dX13_measure_143 rfl ?_
      refine e_iload_n dX13_measure_144 rfl ?_
      refine e_imul dX13_measure_145 ?_
      obtain ⟨hc, h⟩ := p_ok_some h
      refine e_iald dX13_measure_146 (Nat.lt_trans (hs.2.2.2 15 (by decide) rfl).2.2.2 hs.2.2.1) (hs.2.2.2 15 (by decide) rfl).2.1 (hs.2.2.2 15 (by decide) rfl).2.2.1 (hs.2.2.2 15 (by decide) rfl).2.2.2 hc ?_
      refine e_aload_n dX13_measure_147 rfl ?_
      refine e_getR dX13_measure_148 rfl rfl hs.1 hs.2.1 (hs.2.2.2 15 (by decide) rfl).1 ?_
      refine e_iconst (v := (5 : Int32)) dX13_measure_151 rfl ?_
      refine e_iload_n dX13_measure_152 rfl ?_
      refine e_imul dX13_measure_153 ?_
      refine e_iconst (v := (1 : Int32)) dX13_measure_154 rfl ?_
      refine e_iadd dX13_measure_155 ?_
      obtain ⟨hc, h⟩ := p_ok_some h
      refine e_iald dX13_measure_156 (Nat.lt_trans (hs.2.2.2 15 (by decide) rfl).2.2.2 hs.2.2.1) (hs.2.2.2 15 (by decide) rfl).2.1 (hs.2.2.2 15 (by decide) rfl).2.2.1 (hs.2.2.2 15 (by decide) rfl).2.2.2 hc ?_
      obtain ⟨q6, hq6, h⟩ := p_bd h
      refine e_cS dX13_measure_157 rfl rfl rfl rfl (E_X13_in hs hq6 ⟨rfl, ?_⟩)
      have hs := ShM_of (P_X13_in hq6) hs
      show p_Ev X (d + 3) M_X13_measure 160 [.ref tM, .int v1, .int v2, .int v3] [.int q6.1, .int (mI (sI (sI (sI (sI (sI q5.2 (aM 65) (mI q5.2 tM 69).toNatClampNeg v1) (aM 66) (mI (sI q5.2 (aM 65) (mI q5.2 tM 69).toNatClampNeg v1) tM 69).toNatClampNeg v2) (aM 67) (mI (sI (sI q5.2 (aM 65) (mI q5.2 tM 69).toNatClampNeg v1) (aM 66) (mI (sI q5.2 (aM 65) (mI q5.2 tM 69).toNatClampNeg v1) tM 69).toNatClampNeg v2) tM 69).toNatClampNeg v3) (aM 68) (mI (sI (sI (sI q5.2 (aM 65) (mI q5.2 tM 69).toNatClampNeg v1) (aM 66) (mI (sI q5.2 (aM 65) (mI q5.2 tM 69).toNatClampNeg v1) tM 69).toNatClampNeg v2) (aM 67) (mI (sI (sI q5.2 (aM 65) (mI q5.2 tM 69).toNatClampNeg v1) (aM 66) (mI (sI q5.2 (aM 65) (mI q5.2 tM 69).toNatClampNeg v1) tM 69).toNatClampNeg v2) tM 69).toNatClampNeg v3) tM 69).toNatClampNeg (mI (sI (sI (sI q5.2 (aM 65) (mI q5.2 tM 69).toNatClampNeg v1) (aM 66) (mI (sI q5.2 (aM 65) (mI q5.2 tM 69).toNatClampNeg v1) tM 69).toNatClampNeg v2) (aM 67) (mI (sI (sI q5.2 (aM 65) (mI q5.2 tM 69).toNatClampNeg v1) (aM 66) (mI (sI q5.2 (aM 65) (mI q5.2 tM 69).toNatClampNeg v1) tM 69).toNatClampNeg v2) tM 69).toNatClampNeg v3) tM 42)) tM 69 ((mI (sI (sI (sI (sI q5.2 (aM 65) (mI q5.2 tM 69).toNatClampNeg v1) (aM 66) (mI (sI q5.2 (aM 65) (mI q5.2 tM 69).toNatClampNeg v1) tM 69).toNatClampNeg v2) (aM 67) (mI (sI (sI q5.2 (aM 65) (mI q5.2 tM 69).toNatClampNeg v1) (aM 66) (mI (sI q5.2 (aM 65) (mI q5.2 tM 69).toNatClampNeg v1) tM 69).toNatClampNeg v2) tM 69).toNatClampNeg v3) (aM 68) (mI (sI (sI (sI q5.2 (aM 65) (mI q5.2 tM 69).toNatClampNeg v1) (aM 66) (mI (sI q5.2 (aM 65) (mI q5.2 tM 69).toNatClampNeg v1) tM 69).toNatClampNeg v2) (aM 67) (mI (sI (sI q5.2 (aM 65) (mI q5.2 tM 69).toNatClampNeg v1) (aM 66) (mI (sI q5.2 (aM 65) (mI q5.2 tM 69).toNatClampNeg v1) tM 69).toNatClampNeg v2) tM 69).toNatClampNeg v3) tM 69).toNatClampNeg (mI (sI (sI (sI q5.2 (aM 65) (mI q5.2 tM 69).toNatClampNeg v1) (aM 66) (mI (sI q5.2 (aM 65) (mI q5.2 tM 69).toNatClampNeg v1) tM 69).toNatClampNeg v2) (aM 67) (mI (sI (sI q5.2 (aM 65) (mI q5.2 tM 69).toNatClampNeg v1) (aM 66) (mI (sI q5.2 (aM 65) (mI q5.2 tM 69).toNatClampNeg v1) tM 69).toNatClampNeg v2) tM 69).toNatClampNeg v3) tM 42)) tM 69) + (1 : Int32))) tM 70), .ref tM] q6.2 Q
      refine e_if_eq dX13_measure_160 167 (by decide) (fun hc => ?_) (fun hc => ?_)
      · rw [if_pos hc] at h
        refine e_iconst (v := (1 : Int32)) dX13_measure_167 rfl ?_
        exact E_X13_measure_c168 hs h hQ
      · rw [if_neg hc] at h
        refine e_iconst (v := (0 : Int32)) dX13_measure_163 rfl ?_
        refine e_goto dX13_measure_164 168 (by decide) ?_
        exact E_X13_measure_c168 hs h hQ
    · rw [if_neg hc] at h
      refine e_iconst (v := (-1)) dX13_measure_78 rfl ?_
      cases h
      exact e_ireti dX13_measure_79 rfl hQ
  · rw [if_neg hc] at h
    exact E_X13_measure_c66 hs h hQ
def F_X13_measure_c35 (v1 : Int32) (v2 : Int32) (v3 : Int32) (s0 : Int32) (μ : p_M) : Option (Int32 × p_M) :=
  (F_X13_throwsIf s0 (2 : Int32) μ).bind fun q3 =>
  if ¬ q3.1 = 0
  then (F_X13_measure_c66 q3.2)
  else ((F_X13_in v3 (0 : Int32) (255 : Int32) q3.2).bind fun q4 =>
    if ¬ q4.1 = 0
    then (F_X13_measure_c59 v1 v2 v3 (0 : Int32) q4.2)
    else (F_X13_measure_c59 v1 v2 v3 (1 : Int32) q4.2))
theorem P_X13_measure_c35 {v1 : Int32} {v2 : Int32} {v3 : Int32} {s0 : Int32} {μ : p_M} {r : Int32 × p_M} (h : F_X13_measure_c35 v1 v2 v3 s0 μ = some r) : Sm μ r.2 := by
  unfold F_X13_measure_c35 at h
  obtain ⟨q3, hq3, h⟩ := p_bd h
  by_cases hc : ¬ q3.1 = 0
  · rw [if_pos hc] at h
    exact Sm_trans (Sm_trans (Sm_refl μ) (P_X13_throwsIf (r := q3) hq3)) (P_X13_measure_c66 h)
  · rw [if_neg hc] at h
    obtain ⟨q4, hq4, h⟩ := p_bd h
    by_cases hc : ¬ q4.1 = 0
    · rw [if_pos hc] at h
      exact Sm_trans (Sm_trans (Sm_trans (Sm_refl μ) (P_X13_throwsIf (r := q3) hq3)) (P_X13_in (r := q4) hq4)) (P_X13_measure_c59 h)
    · rw [if_neg hc] at h
      exact Sm_trans (Sm_trans (Sm_trans (Sm_refl μ) (P_X13_throwsIf (r := q3) hq3)) (P_X13_in (r := q4) hq4)) (P_X13_measure_c59 h)
theorem E_X13_measure_c35 {X : p_X} {d : Nat} {Q : p_R → Prop} {v1 : Int32} {v2 : Int32} {v3 : Int32} {s0 : Int32} {μ : p_M} {r : Int32 × p_M} (hs : ShM μ) (h : F_X13_measure_c35 v1 v2 v3 s0 μ = some r) (hQ : Q ((0, some (.int r.1)), r.2)) : p_Ev X (d + 3) M_X13_measure 35 [.ref tM, .int v1, .int v2, .int v3] [.int s0, .ref tM] μ Q := by
  unfold F_X13_measure_c35 at h
  refine e_iconst (v := (2 : Int32)) dX13_measure_35 rfl ?_
  obtain ⟨q3, hq3, h⟩ := p_bd h
  refine e_cV dX13_measure_36 rfl rfl ⟨rfl, rfl, by decide⟩ rfl hs.1 hs.2.1 (E_X13_throwsIf hs hq3 ⟨rfl, ?_⟩)
  have hs := ShM_of (P_X13_throwsIf hq3) hs
  show p_Ev X (d + 3) M_X13_measure 39 [.ref tM, .int v1, .int v2, .int v3] [.int q3.1] q3.2 Q
  refine e_if_ne dX13_measure_39 66 (by decide) (fun hc => ?_) (fun hc => ?_)
  · rw [if_pos hc] at h
    exact E_X13_measure_c66 hs h hQ
  · rw [if_neg hc] at h
    refine e_aload_n dX13_measure_42 rfl ?_
    refine e_iload_n dX13_measure_43 rfl ?_
    refine e_iconst (v := (0 : Int32)) dX13_measure_44 rfl ?_
    refine e_sipush (v := (255 : Int32)) dX13_measure_45 rfl ?_
    obtain ⟨q4, hq4, h⟩ := p_bd h
    refine e_cS dX13_measure_48 rfl rfl rfl rfl (E_X13_in hs hq4 ⟨rfl, ?_⟩)
    have hs := ShM_of (P_X13_in hq4) hs
    show p_Ev X (d + 3) M_X13_measure 51 [.ref tM, .int v1, .int v2, .int v3] [.int q4.1, .ref tM] q4.2 Q
    refine e_if_ne dX13_measure_51 58 (by decide) (fun hc => ?_) (fun hc => ?_)
    · rw [if_pos hc] at h
      refine e_iconst (v := (0 : Int32)) dX13_measure_58 rfl ?_
      exact E_X13_measure_c59 hs h hQ
    · rw [if_neg hc] at h
      refine e_iconst (v := (1 : Int32)) dX13_measure_54 rfl ?_
      refine e_goto dX13_measure_55 59 (by decide) ?_
      exact E_X13_measure_c59 hs h hQ
def F_X13_measure (v1 : Int32) (v2 : Int32) (v3 : Int32) (μ : p_M) : Option (Int32 × p_M) :=
  (F_X13_noPiece v1 v2 (sI μ tM 0 (0 : Int32))).bind fun q1 =>
  (F_X13_throwsIf q1.1 (1 : Int32) q1.2).bind fun q2 =>
  if ¬ q2.1 = 0
  then (F_X13_measure_c66 q2.2)
  else (p_ok (¬ v1 < 0 ∧ v1.toNatClampNeg < 40)
    (if (mI q2.2 (aM 55) v1.toNatClampNeg) = (3 : Int32)
    then (F_X13_measure_c35 v1 v2 v3 (0 : Int32) q2.2)
    else (F_X13_measure_c35 v1 v2 v3 (1 : Int32) q2.2)))
theorem P_X13_measure {v1 : Int32} {v2 : Int32} {v3 : Int32} {μ : p_M} {r : Int32 × p_M} (h : F_X13_measure v1 v2 v3 μ = some r) : Sm μ r.2 := by
  unfold F_X13_measure at h
  obtain ⟨q1, hq1, h⟩ := p_bd h
  obtain ⟨q2, hq2, h⟩ := p_bd h
  by_cases hc : ¬ q2.1 = 0
  · rw [if_pos hc] at h
    exact Sm_trans (Sm_trans (Sm_trans (Sm_set (Sm_refl μ) (by decide)) (P_X13_noPiece (r := q1) hq1)) (P_X13_throwsIf (r := q2) hq2)) (P_X13_measure_c66 h)
  · rw [if_neg hc] at h
    obtain ⟨hc, h⟩ := p_ok_some h
    by_cases hc : (mI q2.2 (aM 55) v1.toNatClampNeg) = (3 : Int32)
    · rw [if_pos hc] at h
      exact Sm_trans (Sm_trans (Sm_trans (Sm_set (Sm_refl μ) (by decide)) (P_X13_noPiece (r := q1) hq1)) (P_X13_throwsIf (r := q2) hq2)) (P_X13_measure_c35 h)
    · rw [if_neg hc] at h
      exact Sm_trans (Sm_trans (Sm_trans (Sm_set (Sm_refl μ) (by decide)) (P_X13_noPiece (r := q1) hq1)) (P_X13_throwsIf (r := q2) hq2)) (P_X13_measure_c35 h)
theorem E_X13_measure {X : p_X} {d : Nat} {Q : p_R → Prop} {v1 : Int32} {v2 : Int32} {v3 : Int32} {μ : p_M} {r : Int32 × p_M} (hs : ShM μ) (h : F_X13_measure v1 v2 v3 μ = some r) (hQ : Q ((0, some (.int r.1)), r.2)) : p_Ev X (d + 3) M_X13_measure 0 [.ref tM, .int v1, .int v2, .int v3] [] μ Q := by
  unfold F_X13_measure at h
  refine e_aload_n dX13_measure_0 rfl ?_
  refine e_iconst (v := (0 : Int32)) dX13_measure_1 rfl ?_
  refine e_putI dX13_measure_2 rfl ⟨rfl, rfl, fun h => by cases h⟩ (fun h => by cases h) hs.1 hs.2.1 ?_
  refine e_aload_n dX13_measure_5 rfl ?_
  refine e_aload_n dX13_measure_6 rfl ?_
  refine e_iload_n dX13_measure_7 rfl ?_
  refine e_iload_n dX13_measure_8 rfl ?_
  obtain ⟨q1, hq1, h⟩ := p_bd h
  refine e_cV dX13_measure_9 rfl rfl ⟨rfl, rfl, by decide⟩ rfl hs.1 hs.2.1 (E_X13_noPiece hs hq1 ⟨rfl, ?_⟩)
  have hs := ShM_of (P_X13_noPiece hq1) hs
  show p_Ev X (d + 3) M_X13_measure 12 [.ref tM, .int v1, .int v2, .int v3] [.int q1.1, .ref tM] q1.2 Q
  refine e_iconst (v := (1 : Int32)) dX13_measure_12 rfl ?_
  obtain ⟨q2, hq2, h⟩ := p_bd h
  refine e_cV dX13_measure_13 rfl rfl ⟨rfl, rfl, by decide⟩ rfl hs.1 hs.2.1 (E_X13_throwsIf hs hq2 ⟨rfl, ?_⟩)
  have hs := ShM_of (P_X13_throwsIf hq2) hs
  show p_Ev X (d + 3) M_X13_measure 16 [.ref tM, .int v1, .int v2, .int v3] [.int q2.1] q2.2 Q
  refine e_if_ne dX13_measure_16 66 (by decide) (fun hc => ?_) (fun hc => ?_)
  · rw [if_pos hc] at h
    exact E_X13_measure_c66 hs h hQ
  · rw [if_neg hc] at h
    refine e_aload_n dX13_measure_19 rfl ?_
    refine e_aload_n dX13_measure_20 rfl ?_
    refine e_getR dX13_measure_21 rfl rfl hs.1 hs.2.1 (hs.2.2.2 55 (by decide) rfl).1 ?_
    refine e_iload_n dX13_measure_24 rfl ?_
    obtain ⟨hc, h⟩ := p_ok_some h
    refine e_iald dX13_measure_25 (Nat.lt_trans (hs.2.2.2 55 (by decide) rfl).2.2.2 hs.2.2.1) (hs.2.2.2 55 (by decide) rfl).2.1 (hs.2.2.2 55 (by decide) rfl).2.2.1 (hs.2.2.2 55 (by decide) rfl).2.2.2 hc ?_
    refine e_iconst (v := (3 : Int32)) dX13_measure_26 rfl ?_
    refine e_ic_eq dX13_measure_27 34 (by decide) (fun hc => ?_) (fun hc => ?_)
    · rw [if_pos hc] at h
      refine e_iconst (v := (0 : Int32)) dX13_measure_34 rfl ?_
      exact E_X13_measure_c35 hs h hQ
    · rw [if_neg hc] at h
      refine e_iconst (v := (1 : Int32)) dX13_measure_30 rfl ?_
      refine e_goto dX13_measure_31 35 (by decide) ?_
      exact E_X13_measure_c35 hs h hQ
/-! X13_meets -/
def F_X13_meets_c33 (μ : p_M) : Option (Int32 × p_M) :=
  some ((0 : Int32), μ)
theorem P_X13_meets_c33 {μ : p_M} {r : Int32 × p_M} (h : F_X13_meets_c33 μ = some r) : Sm μ r.2 := by
  unfold F_X13_meets_c33 at h
  cases h
  exact (Sm_refl μ)
theorem E_X13_meets_c33 {X : p_X} {d : Nat} {Q : p_R → Prop} {w0 : Value} {w1 : Value} {w2 : Value} {w3 : Value} {w4 : Value} {μ : p_M} {r : Int32 × p_M} (hs : ShM μ) (h : F_X13_meets_c33 μ = some r) (hQ : Q ((0, some (.int r.1)), r.2)) : p_Ev X (d + 3) M_X13_meets 33 [w0, w1, w2, w3, w4] [] μ Q := by
  unfold F_X13_meets_c33 at h
  refine e_iconst (v := (0 : Int32)) dX13_meets_33 rfl ?_
  cases h
  exact e_iretz dX13_meets_34 rfl (by decide) hQ
def F_X13_meets (v1 : Int32) (v2 : Int32) (v3 : Int32) (v4 : Int32) (μ : p_M) : Option (Int32 × p_M) :=
  (F_X13_noCloth v1 (sI μ tM 0 (0 : Int32))).bind fun q1 =>
  (F_X13_throwsIf q1.1 (1 : Int32) q1.2).bind fun q2 =>
  if ¬ q2.1 = 0
  then (F_X13_meets_c33 q2.2)
  else ((F_X13_noWish v2 v3 v4 q2.2).bind fun q3 =>
    (F_X13_throwsIf q3.1 (2 : Int32) q3.2).bind fun q4 =>
    if q4.1 = 0
    then ((F_X13_tries v1 (20 : Int32) q4.2).bind fun q5 =>
      (F_X13_meetsIt (40 : Int32) v2 v3 v4 q5.2).bind fun q6 =>
      p_ok (q6.1 = 0 ∨ q6.1 = 1) (some (q6.1, q6.2)))
    else (F_X13_meets_c33 q4.2))
theorem P_X13_meets {v1 : Int32} {v2 : Int32} {v3 : Int32} {v4 : Int32} {μ : p_M} {r : Int32 × p_M} (h : F_X13_meets v1 v2 v3 v4 μ = some r) : Sm μ r.2 := by
  unfold F_X13_meets at h
  obtain ⟨q1, hq1, h⟩ := p_bd h
  obtain ⟨q2, hq2, h⟩ := p_bd h
  by_cases hc : ¬ q2.1 = 0
  · rw [if_pos hc] at h
    exact Sm_trans (Sm_trans (Sm_trans (Sm_set (Sm_refl μ) (by decide)) (P_X13_noCloth (r := q1) hq1)) (P_X13_throwsIf (r := q2) hq2)) (P_X13_meets_c33 h)
  · rw [if_neg hc] at h
    obtain ⟨q3, hq3, h⟩ := p_bd h
    obtain ⟨q4, hq4, h⟩ := p_bd h
    by_cases hc : q4.1 = 0
    · rw [if_pos hc] at h
      obtain ⟨q5, hq5, h⟩ := p_bd h
      obtain ⟨q6, hq6, h⟩ := p_bd h
      obtain ⟨hc, h⟩ := p_ok_some h
      cases h
      exact (Sm_trans (Sm_trans (Sm_trans (Sm_trans (Sm_trans (Sm_trans (Sm_set (Sm_refl μ) (by decide)) (P_X13_noCloth (r := q1) hq1)) (P_X13_throwsIf (r := q2) hq2)) (P_X13_noWish (r := q3) hq3)) (P_X13_throwsIf (r := q4) hq4)) (P_X13_tries (r := q5) hq5)) (P_X13_meetsIt (r := q6) hq6))
    · rw [if_neg hc] at h
      exact Sm_trans (Sm_trans (Sm_trans (Sm_trans (Sm_trans (Sm_set (Sm_refl μ) (by decide)) (P_X13_noCloth (r := q1) hq1)) (P_X13_throwsIf (r := q2) hq2)) (P_X13_noWish (r := q3) hq3)) (P_X13_throwsIf (r := q4) hq4)) (P_X13_meets_c33 h)
theorem E_X13_meets {X : p_X} {d : Nat} {Q : p_R → Prop} {v1 : Int32} {v2 : Int32} {v3 : Int32} {v4 : Int32} {μ : p_M} {r : Int32 × p_M} (hs : ShM μ) (h : F_X13_meets v1 v2 v3 v4 μ = some r) (hQ : Q ((0, some (.int r.1)), r.2)) : p_Ev X (d + 3) M_X13_meets 0 [.ref tM, .int v1, .int v2, .int v3, .int v4] [] μ Q := by
  unfold F_X13_meets at h
  refine e_aload_n dX13_meets_0 rfl ?_
  refine e_iconst (v := (0 : Int32)) dX13_meets_1 rfl ?_
  refine e_putI dX13_meets_2 rfl ⟨rfl, rfl, fun h => by cases h⟩ (fun h => by cases h) hs.1 hs.2.1 ?_
  refine e_aload_n dX13_meets_5 rfl ?_
  refine e_aload_n dX13_meets_6 rfl ?_
  refine e_iload_n dX13_meets_7 rfl ?_
  obtain ⟨q1, hq1, h⟩ := p_bd h
  refine e_cV dX13_meets_8 rfl rfl ⟨rfl, rfl, by decide⟩ rfl hs.1 hs.2.1 (E_X13_noCloth hs hq1 ⟨rfl, ?_⟩)
  have hs := ShM_of (P_X13_noCloth hq1) hs
  show p_Ev X (d + 3) M_X13_meets 11 [.ref tM, .int v1, .int v2, .int v3, .int v4] [.int q1.1, .ref tM] q1.2 Q
  refine e_iconst (v := (1 : Int32)) dX13_meets_11 rfl ?_
  obtain ⟨q2, hq2, h⟩ := p_bd h
  refine e_cV dX13_meets_12 rfl rfl ⟨rfl, rfl, by decide⟩ rfl hs.1 hs.2.1 (E_X13_throwsIf hs hq2 ⟨rfl, ?_⟩)
  have hs := ShM_of (P_X13_throwsIf hq2) hs
  show p_Ev X (d + 3) M_X13_meets 15 [.ref tM, .int v1, .int v2, .int v3, .int v4] [.int q2.1] q2.2 Q
  refine e_if_ne dX13_meets_15 33 (by decide) (fun hc => ?_) (fun hc => ?_)
  · rw [if_pos hc] at h
    exact E_X13_meets_c33 hs h hQ
  · rw [if_neg hc] at h
    refine e_aload_n dX13_meets_18 rfl ?_
    refine e_iload_n dX13_meets_19 rfl ?_
    refine e_iload_n dX13_meets_20 rfl ?_
    refine e_iload dX13_meets_21 rfl ?_
    obtain ⟨q3, hq3, h⟩ := p_bd h
    refine e_cS dX13_meets_23 rfl rfl rfl rfl (E_X13_noWish hs hq3 ⟨rfl, ?_⟩)
    have hs := ShM_of (P_X13_noWish hq3) hs
    show p_Ev X (d + 3) M_X13_meets 26 [.ref tM, .int v1, .int v2, .int v3, .int v4] [.int q3.1, .ref tM] q3.2 Q
    refine e_iconst (v := (2 : Int32)) dX13_meets_26 rfl ?_
    obtain ⟨q4, hq4, h⟩ := p_bd h
    refine e_cV dX13_meets_27 rfl rfl ⟨rfl, rfl, by decide⟩ rfl hs.1 hs.2.1 (E_X13_throwsIf hs hq4 ⟨rfl, ?_⟩)
    have hs := ShM_of (P_X13_throwsIf hq4) hs
    show p_Ev X (d + 3) M_X13_meets 30 [.ref tM, .int v1, .int v2, .int v3, .int v4] [.int q4.1] q4.2 Q
    refine e_if_eq dX13_meets_30 35 (by decide) (fun hc => ?_) (fun hc => ?_)
    · rw [if_pos hc] at h
      refine e_aload_n dX13_meets_35 rfl ?_
      refine e_iload_n dX13_meets_36 rfl ?_
      refine e_bipush (v := (20 : Int32)) dX13_meets_37 rfl ?_
      obtain ⟨q5, hq5, h⟩ := p_bd h
      refine e_cV dX13_meets_39 rfl rfl ⟨rfl, rfl, by decide⟩ rfl hs.1 hs.2.1 (E_X13_tries hs hq5 ⟨rfl, ?_⟩)
      have hs := ShM_of (P_X13_tries hq5) hs
      show p_Ev X (d + 3) M_X13_meets 42 [.ref tM, .int v1, .int v2, .int v3, .int v4] [] q5.2 Q
      refine e_aload_n dX13_meets_42 rfl ?_
      refine e_bipush (v := (40 : Int32)) dX13_meets_43 rfl ?_
      refine e_iload_n dX13_meets_45 rfl ?_
      refine e_iload_n dX13_meets_46 rfl ?_
      refine e_iload dX13_meets_47 rfl ?_
      obtain ⟨q6, hq6, h⟩ := p_bd h
      refine e_cV dX13_meets_49 rfl rfl ⟨rfl, rfl, by decide⟩ rfl hs.1 hs.2.1 (E_X13_meetsIt hs hq6 ⟨rfl, ?_⟩)
      have hs := ShM_of (P_X13_meetsIt hq6) hs
      show p_Ev X (d + 3) M_X13_meets 52 [.ref tM, .int v1, .int v2, .int v3, .int v4] [.int q6.1] q6.2 Q
      obtain ⟨hc, h⟩ := p_ok_some h
      cases h
      exact e_iretz dX13_meets_52 rfl hc hQ
    · rw [if_neg hc] at h
      exact E_X13_meets_c33 hs h hQ
/-! X13_order -/
def F_X13_order_c138 (K25 : Int32 → Int32 → p_M → Option (Int32 × p_M)) (K32 : Int32 → Int32 → Int32 → p_M → Option (Int32 × p_M)) (K66 : Int32 → Int32 → Int32 → Int32 → Int32 → Int32 → p_M → Option (Int32 × p_M)) (v1 : Int32) (v2 : Int32) (v3 : Int32) (v4 : Int32) (v5 : Int32) (v6 : Int32) (μ : p_M) : Option (Int32 × p_M) :=
  K66 v1 v2 v3 v4 v5 (v6 + (1 : Int32)) μ
theorem P_X13_order_c138 {K25 : Int32 → Int32 → p_M → Option (Int32 × p_M)} {K32 : Int32 → Int32 → Int32 → p_M → Option (Int32 × p_M)} {K66 : Int32 → Int32 → Int32 → Int32 → Int32 → Int32 → p_M → Option (Int32 × p_M)} (hP25 : ∀ (v1 : Int32) (v2 : Int32) (μ : p_M) (r : Int32 × p_M), K25 v1 v2 μ = some r → Sm μ r.2) (hP32 : ∀ (v1 : Int32) (v2 : Int32) (v3 : Int32) (μ : p_M) (r : Int32 × p_M), K32 v1 v2 v3 μ = some r → Sm μ r.2) (hP66 : ∀ (v1 : Int32) (v2 : Int32) (v3 : Int32) (v4 : Int32) (v5 : Int32) (v6 : Int32) (μ : p_M) (r : Int32 × p_M), K66 v1 v2 v3 v4 v5 v6 μ = some r → Sm μ r.2) {v1 : Int32} {v2 : Int32} {v3 : Int32} {v4 : Int32} {v5 : Int32} {v6 : Int32} {μ : p_M} {r : Int32 × p_M} (h : F_X13_order_c138 K25 K32 K66 v1 v2 v3 v4 v5 v6 μ = some r) : Sm μ r.2 := by
  unfold F_X13_order_c138 at h
  exact Sm_trans (Sm_refl μ) (hP66 _ _ _ _ _ _ _ _ h)
theorem E_X13_order_c138 {X : p_X} {d : Nat} {Q : p_R → Prop} {K25 : Int32 → Int32 → p_M → Option (Int32 × p_M)} {K32 : Int32 → Int32 → Int32 → p_M → Option (Int32 × p_M)} {K66 : Int32 → Int32 → Int32 → Int32 → Int32 → Int32 → p_M → Option (Int32 × p_M)} (hK25 : ∀ (v1 : Int32) (v2 : Int32) (μ : p_M) (r : Int32 × p_M) (w3 : Value) (w4 : Value) (w5 : Value) (w6 : Value) (w7 : Value), ShM μ → K25 v1 v2 μ = some r → Q ((0, some (.int r.1)), r.2) → p_Ev X (d + 0) M_X13_order 25 [.ref tM, .int v1, .int v2, w3, w4, w5, w6, w7] [] μ Q) (hK32 : ∀ (v1 : Int32) (v2 : Int32) (v3 : Int32) (μ : p_M) (r : Int32 × p_M) (w4 : Value) (w5 : Value) (w6 : Value) (w7 : Value), ShM μ → K32 v1 v2 v3 μ = some r → Q ((0, some (.int r.1)), r.2) → p_Ev X (d + 0) M_X13_order 32 [.ref tM, .int v1, .int v2, .int v3, w4, w5, w6, w7] [] μ Q) (hK66 : ∀ (v1 : Int32) (v2 : Int32) (v3 : Int32) (v4 : Int32) (v5 : Int32) (v6 : Int32) (μ : p_M) (r : Int32 × p_M) (w7 : Value), ShM μ → K66 v1 v2 v3 v4 v5 v6 μ = some r → Q ((0, some (.int r.1)), r.2) → p_Ev X (d + 0) M_X13_order 66 [.ref tM, .int v1, .int v2, .int v3, .int v4, .int v5, .int v6, w7] [] μ Q) {v1 : Int32} {v2 : Int32} {v3 : Int32} {v4 : Int32} {v5 : Int32} {v6 : Int32} {w7 : Value} {μ : p_M} {r : Int32 × p_M} (hs : ShM μ) (h : F_X13_order_c138 K25 K32 K66 v1 v2 v3 v4 v5 v6 μ = some r) (hQ : Q ((0, some (.int r.1)), r.2)) : p_Ev X (d + 0) M_X13_order 138 [.ref tM, .int v1, .int v2, .int v3, .int v4, .int v5, .int v6, w7] [] μ Q := by
  unfold F_X13_order_c138 at h
  refine e_iinc (v := (1 : Int32)) dX13_order_138 rfl rfl rfl ?_
  refine e_goto dX13_order_141 66 (by decide) ?_
  exact hK66 _ _ _ _ _ _ _ _ _ hs h hQ
def F_X13_order_c171 (K25 : Int32 → Int32 → p_M → Option (Int32 × p_M)) (K32 : Int32 → Int32 → Int32 → p_M → Option (Int32 × p_M)) (v1 : Int32) (v2 : Int32) (v3 : Int32) (s0 : Int32) (s1 : Int32) (μ : p_M) : Option (Int32 × p_M) :=
  p_ok (¬ s1 < 0 ∧ s1.toNatClampNeg < 4608)
  (K32 v1 v2 (v3 + (1 : Int32)) (sI μ (aM 26) s1.toNatClampNeg s0))
theorem P_X13_order_c171 {K25 : Int32 → Int32 → p_M → Option (Int32 × p_M)} {K32 : Int32 → Int32 → Int32 → p_M → Option (Int32 × p_M)} (hP25 : ∀ (v1 : Int32) (v2 : Int32) (μ : p_M) (r : Int32 × p_M), K25 v1 v2 μ = some r → Sm μ r.2) (hP32 : ∀ (v1 : Int32) (v2 : Int32) (v3 : Int32) (μ : p_M) (r : Int32 × p_M), K32 v1 v2 v3 μ = some r → Sm μ r.2) {v1 : Int32} {v2 : Int32} {v3 : Int32} {s0 : Int32} {s1 : Int32} {μ : p_M} {r : Int32 × p_M} (h : F_X13_order_c171 K25 K32 v1 v2 v3 s0 s1 μ = some r) : Sm μ r.2 := by
  unfold F_X13_order_c171 at h
  obtain ⟨hc, h⟩ := p_ok_some h
  exact Sm_trans (Sm_set (Sm_refl μ) (by decide)) (hP32 _ _ _ _ _ h)
theorem E_X13_order_c171 {X : p_X} {d : Nat} {Q : p_R → Prop} {K25 : Int32 → Int32 → p_M → Option (Int32 × p_M)} {K32 : Int32 → Int32 → Int32 → p_M → Option (Int32 × p_M)} (hK25 : ∀ (v1 : Int32) (v2 : Int32) (μ : p_M) (r : Int32 × p_M) (w3 : Value) (w4 : Value) (w5 : Value) (w6 : Value) (w7 : Value), ShM μ → K25 v1 v2 μ = some r → Q ((0, some (.int r.1)), r.2) → p_Ev X (d + 0) M_X13_order 25 [.ref tM, .int v1, .int v2, w3, w4, w5, w6, w7] [] μ Q) (hK32 : ∀ (v1 : Int32) (v2 : Int32) (v3 : Int32) (μ : p_M) (r : Int32 × p_M) (w4 : Value) (w5 : Value) (w6 : Value) (w7 : Value), ShM μ → K32 v1 v2 v3 μ = some r → Q ((0, some (.int r.1)), r.2) → p_Ev X (d + 0) M_X13_order 32 [.ref tM, .int v1, .int v2, .int v3, w4, w5, w6, w7] [] μ Q) {v1 : Int32} {v2 : Int32} {v3 : Int32} {s0 : Int32} {s1 : Int32} {w4 : Value} {w5 : Value} {w6 : Value} {w7 : Value} {μ : p_M} {r : Int32 × p_M} (hs : ShM μ) (h : F_X13_order_c171 K25 K32 v1 v2 v3 s0 s1 μ = some r) (hQ : Q ((0, some (.int r.1)), r.2)) : p_Ev X (d + 0) M_X13_order 171 [.ref tM, .int v1, .int v2, .int v3, w4, w5, w6, w7] [.int s0, .int s1, .ref (aM 26)] μ Q := by
  unfold F_X13_order_c171 at h
  obtain ⟨hc, h⟩ := p_ok_some h
  refine e_iast dX13_order_171 (hs.2.2.2 26 (by decide) rfl).2.1 (hs.2.2.2 26 (by decide) rfl).2.2.1 (hs.2.2.2 26 (by decide) rfl).2.2.2 hc ?_
  refine e_iinc (v := (1 : Int32)) dX13_order_172 rfl rfl rfl ?_
  refine e_goto dX13_order_175 32 (by decide) ?_
  exact hK32 _ _ _ _ _ _ _ _ _ hs h hQ
def F_X13_order_c66 (K25 : Int32 → Int32 → p_M → Option (Int32 × p_M)) (K32 : Int32 → Int32 → Int32 → p_M → Option (Int32 × p_M)) : Nat → Int32 → Int32 → Int32 → Int32 → Int32 → Int32 → p_M → Option (Int32 × p_M)
  | 0, _, _, _, _, _, _, _ => none
  | n + 1, v1, v2, v3, v4, v5, v6, μ =>
    if (mI μ tM 25) ≤ v6
    then (if ¬ ((v2 >>> (v3 &&& 31)) &&& (1 : Int32)) = (1 : Int32)
      then (F_X13_order_c171 K25 K32 v1 v2 v3 (1000000 : Int32) (((9 : Int32) * v2) + v3) μ)
      else (F_X13_order_c171 K25 K32 v1 v2 v3 v5 (((9 : Int32) * v2) + v3) μ))
    else (p_ok (¬ v6 < 0 ∧ v6.toNatClampNeg < 9)
      (p_ok (¬ v3 < 0 ∧ v3.toNatClampNeg < 9)
      (p_ok (¬ (((6 : Int32) * (mI μ (aM 24) v6.toNatClampNeg)) + (mI μ (aM 24) v3.toNatClampNeg)) < 0 ∧ (((6 : Int32) * (mI μ (aM 24) v6.toNatClampNeg)) + (mI μ (aM 24) v3.toNatClampNeg)).toNatClampNeg < 36)
      (if ¬ ((v4 >>> (v6 &&& 31)) &&& (1 : Int32)) = (1 : Int32)
      then (F_X13_order_c138 K25 K32 (F_X13_order_c66 K25 K32 n) v1 v2 v3 v4 v5 v6 μ)
      else (if (mI μ (aM 23) (((6 : Int32) * (mI μ (aM 24) v6.toNatClampNeg)) + (mI μ (aM 24) v3.toNatClampNeg)).toNatClampNeg) < 0
        then (F_X13_order_c138 K25 K32 (F_X13_order_c66 K25 K32 n) v1 v2 v3 v4 v5 v6 μ)
        else (p_ok (¬ (((9 : Int32) * v4) + v6) < 0 ∧ (((9 : Int32) * v4) + v6).toNatClampNeg < 4608)
          (F_X13_order_c138 K25 K32 (F_X13_order_c66 K25 K32 n) v1 v2 v3 v4 (if ((mI μ (aM 26) (((9 : Int32) * v4) + v6).toNatClampNeg) + (mI μ (aM 23) (((6 : Int32) * (mI μ (aM 24) v6.toNatClampNeg)) + (mI μ (aM 24) v3.toNatClampNeg)).toNatClampNeg)) < v5 then ((mI μ (aM 26) (((9 : Int32) * v4) + v6).toNatClampNeg) + (mI μ (aM 23) (((6 : Int32) * (mI μ (aM 24) v6.toNatClampNeg)) + (mI μ (aM 24) v3.toNatClampNeg)).toNatClampNeg)) else v5) v6 μ)))))))
theorem P_X13_order_c66 {K25 : Int32 → Int32 → p_M → Option (Int32 × p_M)} {K32 : Int32 → Int32 → Int32 → p_M → Option (Int32 × p_M)} (hP25 : ∀ (v1 : Int32) (v2 : Int32) (μ : p_M) (r : Int32 × p_M), K25 v1 v2 μ = some r → Sm μ r.2) (hP32 : ∀ (v1 : Int32) (v2 : Int32) (v3 : Int32) (μ : p_M) (r : Int32 × p_M), K32 v1 v2 v3 μ = some r → Sm μ r.2) : ∀ (n : Nat) (v1 : Int32) (v2 : Int32) (v3 : Int32) (v4 : Int32) (v5 : Int32) (v6 : Int32) (μ : p_M) (r : Int32 × p_M), F_X13_order_c66 K25 K32 n v1 v2 v3 v4 v5 v6 μ = some r → Sm μ r.2 := by
  intro n
  induction n with
  | zero => intro v1 v2 v3 v4 v5 v6 μ r h; rw [F_X13_order_c66] at h; cases h
  | succ n ih =>
    intro v1 v2 v3 v4 v5 v6 μ r h
    rw [F_X13_order_c66] at h
    by_cases hc : (mI μ tM 25) ≤ v6
    · rw [if_pos hc] at h
      by_cases hc : ¬ ((v2 >>> (v3 &&& 31)) &&& (1 : Int32)) = (1 : Int32)
      · rw [if_pos hc] at h
        exact Sm_trans (Sm_refl μ) (P_X13_order_c171 hP25 hP32 h)
      · rw [if_neg hc] at h
        exact Sm_trans (Sm_refl μ) (P_X13_order_c171 hP25 hP32 h)
    · rw [if_neg hc] at h
      obtain ⟨hc, h⟩ := p_ok_some h
      obtain ⟨hc, h⟩ := p_ok_some h
      obtain ⟨hc, h⟩ := p_ok_some h
      by_cases hc : ¬ ((v4 >>> (v6 &&& 31)) &&& (1 : Int32)) = (1 : Int32)
      · rw [if_pos hc] at h
        exact Sm_trans (Sm_refl μ) (P_X13_order_c138 hP25 hP32 ih h)
      · rw [if_neg hc] at h
        by_cases hc : (mI μ (aM 23) (((6 : Int32) * (mI μ (aM 24) v6.toNatClampNeg)) + (mI μ (aM 24) v3.toNatClampNeg)).toNatClampNeg) < 0
        · rw [if_pos hc] at h
          exact Sm_trans (Sm_refl μ) (P_X13_order_c138 hP25 hP32 ih h)
        · rw [if_neg hc] at h
          obtain ⟨hc, h⟩ := p_ok_some h
          exact Sm_trans (Sm_refl μ) (P_X13_order_c138 hP25 hP32 ih h)
theorem E_X13_order_c66 {X : p_X} {d : Nat} {Q : p_R → Prop} {K25 : Int32 → Int32 → p_M → Option (Int32 × p_M)} {K32 : Int32 → Int32 → Int32 → p_M → Option (Int32 × p_M)} (hK25 : ∀ (v1 : Int32) (v2 : Int32) (μ : p_M) (r : Int32 × p_M) (w3 : Value) (w4 : Value) (w5 : Value) (w6 : Value) (w7 : Value), ShM μ → K25 v1 v2 μ = some r → Q ((0, some (.int r.1)), r.2) → p_Ev X (d + 0) M_X13_order 25 [.ref tM, .int v1, .int v2, w3, w4, w5, w6, w7] [] μ Q) (hK32 : ∀ (v1 : Int32) (v2 : Int32) (v3 : Int32) (μ : p_M) (r : Int32 × p_M) (w4 : Value) (w5 : Value) (w6 : Value) (w7 : Value), ShM μ → K32 v1 v2 v3 μ = some r → Q ((0, some (.int r.1)), r.2) → p_Ev X (d + 0) M_X13_order 32 [.ref tM, .int v1, .int v2, .int v3, w4, w5, w6, w7] [] μ Q) : ∀ (n : Nat) (v1 : Int32) (v2 : Int32) (v3 : Int32) (v4 : Int32) (v5 : Int32) (v6 : Int32) (μ : p_M) (r : Int32 × p_M) (w7 : Value), ShM μ → F_X13_order_c66 K25 K32 n v1 v2 v3 v4 v5 v6 μ = some r → Q ((0, some (.int r.1)), r.2) → p_Ev X (d + 0) M_X13_order 66 [.ref tM, .int v1, .int v2, .int v3, .int v4, .int v5, .int v6, w7] [] μ Q := by
  intro n
  induction n with
  | zero => intro v1 v2 v3 v4 v5 v6 μ r w7 hs h hQ; rw [F_X13_order_c66] at h; cases h
  | succ n ih =>
    intro v1 v2 v3 v4 v5 v6 μ r w7 hs h hQ
    rw [F_X13_order_c66] at h
    refine e_iload dX13_order_66 rfl ?_
    refine e_aload_n dX13_order_68 rfl ?_
    refine e_getI dX13_order_69 rfl rfl hs.1 hs.2.1 ?_
    refine e_ic_ge dX13_order_72 144 (by decide) (fun hc => ?_) (fun hc => ?_)
    · rw [if_pos hc] at h
      refine e_aload_n dX13_order_144 rfl ?_
      refine e_getR dX13_order_145 rfl rfl hs.1 hs.2.1 (hs.2.2.2 26 (by decide) rfl).1 ?_
      refine e_bipush (v := (9 : Int32)) dX13_order_148 rfl ?_
      refine e_iload_n dX13_order_150 rfl ?_
      refine e_imul dX13_order_151 ?_
      refine e_iload_n dX13_order_152 rfl ?_
      refine e_iadd dX13_order_153 ?_
      refine e_iload_n dX13_order_154 rfl ?_
      refine e_iload_n dX13_order_155 rfl ?_
      refine e_ishr dX13_order_156 ?_
      refine e_iconst (v := (1 : Int32)) dX13_order_157 rfl ?_
      refine e_iand dX13_order_158 ?_
      refine e_iconst (v := (1 : Int32)) dX13_order_159 rfl ?_
      refine e_ic_ne dX13_order_160 168 (by decide) (fun hc => ?_) (fun hc => ?_)
      · rw [if_pos hc] at h
        refine e_ldc_w (v := (1000000 : Int32)) dX13_order_168 rfl ?_
        exact E_X13_order_c171 hK25 hK32 hs h hQ
      · rw [if_neg hc] at h
        refine e_iload dX13_order_163 rfl ?_
        refine e_goto dX13_order_165 171 (by decide) ?_
        exact E_X13_order_c171 hK25 hK32 hs h hQ
    · rw [if_neg hc] at h
      refine e_aload_n dX13_order_75 rfl ?_
      refine e_getR dX13_order_76 rfl rfl hs.1 hs.2.1 (hs.2.2.2 23 (by decide) rfl).1 ?_
      refine e_bipush (v := (6 : Int32)) dX13_order_79 rfl ?_
      refine e_aload_n dX13_order_81 rfl ?_
      refine e_getR dX13_order_82 rfl rfl hs.1 hs.2.1 (hs.2.2.2 24 (by decide) rfl).1 ?_
      refine e_iload dX13_order_85 rfl ?_
      obtain ⟨hc, h⟩ := p_ok_some h
      refine e_iald dX13_order_87 (Nat.lt_trans (hs.2.2.2 24 (by decide) rfl).2.2.2 hs.2.2.1) (hs.2.2.2 24 (by decide) rfl).2.1 (hs.2.2.2 24 (by decide) rfl).2.2.1 (hs.2.2.2 24 (by decide) rfl).2.2.2 hc ?_
      refine e_imul dX13_order_88 ?_
      refine e_aload_n dX13_order_89 rfl ?_
      refine e_getR dX13_order_90 rfl rfl hs.1 hs.2.1 (hs.2.2.2 24 (by decide) rfl).1 ?_
      refine e_iload_n dX13_order_93 rfl ?_
      obtain ⟨hc, h⟩ := p_ok_some h
      refine e_iald dX13_order_94 (Nat.lt_trans (hs.2.2.2 24 (by decide) rfl).2.2.2 hs.2.2.1) (hs.2.2.2 24 (by decide) rfl).2.1 (hs.2.2.2 24 (by decide) rfl).2.2.1 (hs.2.2.2 24 (by decide) rfl).2.2.2 hc ?_
      refine e_iadd dX13_order_95 ?_
      obtain ⟨hc, h⟩ := p_ok_some h
      refine e_iald dX13_order_96 (Nat.lt_trans (hs.2.2.2 23 (by decide) rfl).2.2.2 hs.2.2.1) (hs.2.2.2 23 (by decide) rfl).2.1 (hs.2.2.2 23 (by decide) rfl).2.2.1 (hs.2.2.2 23 (by decide) rfl).2.2.2 hc ?_
      refine e_istore dX13_order_97 (Nat.le_of_ble_eq_true rfl) rfl ?_
      refine e_iload dX13_order_99 rfl ?_
      refine e_iload dX13_order_101 rfl ?_
      refine e_ishr dX13_order_103 ?_
      refine e_iconst (v := (1 : Int32)) dX13_order_104 rfl ?_
      refine e_iand dX13_order_105 ?_
      refine e_iconst (v := (1 : Int32)) dX13_order_106 rfl ?_
      refine e_ic_ne dX13_order_107 138 (by decide) (fun hc => ?_) (fun hc => ?_)
      · rw [if_pos hc] at h
        exact E_X13_order_c138 hK25 hK32 ih hs h hQ
      · rw [if_neg hc] at h
        refine e_iload dX13_order_110 rfl ?_
        refine e_if_lt dX13_order_112 138 (by decide) (fun hc => ?_) (fun hc => ?_)
        · rw [if_pos hc] at h
          exact E_X13_order_c138 hK25 hK32 ih hs h hQ
        · rw [if_neg hc] at h
          refine e_iload dX13_order_115 rfl ?_
          refine e_aload_n dX13_order_117 rfl ?_
          refine e_getR dX13_order_118 rfl rfl hs.1 hs.2.1 (hs.2.2.2 26 (by decide) rfl).1 ?_
          refine e_bipush (v := (9 : Int32)) dX13_order_121 rfl ?_
          refine e_iload dX13_order_123 rfl ?_
          refine e_imul dX13_order_125 ?_
          refine e_iload dX13_order_126 rfl ?_
          refine e_iadd dX13_order_128 ?_
          obtain ⟨hc, h⟩ := p_ok_some h
          refine e_iald dX13_order_129 (Nat.lt_trans (hs.2.2.2 26 (by decide) rfl).2.2.2 hs.2.2.1) (hs.2.2.2 26 (by decide) rfl).2.1 (hs.2.2.2 26 (by decide) rfl).2.2.1 (hs.2.2.2 26 (by decide) rfl).2.2.2 hc ?_
          refine e_iload dX13_order_130 rfl ?_
          refine e_iadd dX13_order_132 ?_
          refine e_min dX13_order_133 rfl (Nat.le_of_ble_eq_true rfl) ?_
          refine e_istore dX13_order_136 (Nat.le_of_ble_eq_true rfl) rfl ?_
          exact E_X13_order_c138 hK25 hK32 ih hs h hQ
def F_X13_order_c61 (K25 : Int32 → Int32 → p_M → Option (Int32 × p_M)) (K32 : Int32 → Int32 → Int32 → p_M → Option (Int32 × p_M)) (v1 : Int32) (v2 : Int32) (v3 : Int32) (v4 : Int32) (s0 : Int32) (μ : p_M) : Option (Int32 × p_M) :=
  F_X13_order_c66 K25 K32 p_fu v1 v2 v3 v4 s0 (0 : Int32) μ
theorem P_X13_order_c61 {K25 : Int32 → Int32 → p_M → Option (Int32 × p_M)} {K32 : Int32 → Int32 → Int32 → p_M → Option (Int32 × p_M)} (hP25 : ∀ (v1 : Int32) (v2 : Int32) (μ : p_M) (r : Int32 × p_M), K25 v1 v2 μ = some r → Sm μ r.2) (hP32 : ∀ (v1 : Int32) (v2 : Int32) (v3 : Int32) (μ : p_M) (r : Int32 × p_M), K32 v1 v2 v3 μ = some r → Sm μ r.2) {v1 : Int32} {v2 : Int32} {v3 : Int32} {v4 : Int32} {s0 : Int32} {μ : p_M} {r : Int32 × p_M} (h : F_X13_order_c61 K25 K32 v1 v2 v3 v4 s0 μ = some r) : Sm μ r.2 := by
  unfold F_X13_order_c61 at h
  exact Sm_trans (Sm_refl μ) (P_X13_order_c66 hP25 hP32 p_fu _ _ _ _ _ _ _ _ h)
theorem E_X13_order_c61 {X : p_X} {d : Nat} {Q : p_R → Prop} {K25 : Int32 → Int32 → p_M → Option (Int32 × p_M)} {K32 : Int32 → Int32 → Int32 → p_M → Option (Int32 × p_M)} (hK25 : ∀ (v1 : Int32) (v2 : Int32) (μ : p_M) (r : Int32 × p_M) (w3 : Value) (w4 : Value) (w5 : Value) (w6 : Value) (w7 : Value), ShM μ → K25 v1 v2 μ = some r → Q ((0, some (.int r.1)), r.2) → p_Ev X (d + 0) M_X13_order 25 [.ref tM, .int v1, .int v2, w3, w4, w5, w6, w7] [] μ Q) (hK32 : ∀ (v1 : Int32) (v2 : Int32) (v3 : Int32) (μ : p_M) (r : Int32 × p_M) (w4 : Value) (w5 : Value) (w6 : Value) (w7 : Value), ShM μ → K32 v1 v2 v3 μ = some r → Q ((0, some (.int r.1)), r.2) → p_Ev X (d + 0) M_X13_order 32 [.ref tM, .int v1, .int v2, .int v3, w4, w5, w6, w7] [] μ Q) {v1 : Int32} {v2 : Int32} {v3 : Int32} {v4 : Int32} {s0 : Int32} {w5 : Value} {w6 : Value} {w7 : Value} {μ : p_M} {r : Int32 × p_M} (hs : ShM μ) (h : F_X13_order_c61 K25 K32 v1 v2 v3 v4 s0 μ = some r) (hQ : Q ((0, some (.int r.1)), r.2)) : p_Ev X (d + 0) M_X13_order 61 [.ref tM, .int v1, .int v2, .int v3, .int v4, w5, w6, w7] [.int s0] μ Q := by
  unfold F_X13_order_c61 at h
  refine e_istore dX13_order_61 (Nat.le_of_ble_eq_true rfl) rfl ?_
  refine e_iconst (v := (0 : Int32)) dX13_order_63 rfl ?_
  refine e_istore dX13_order_64 (Nat.le_of_ble_eq_true rfl) rfl ?_
  exact E_X13_order_c66 hK25 hK32 p_fu _ _ _ _ _ _ _ _ _ hs h hQ
def F_X13_order_c32 (K25 : Int32 → Int32 → p_M → Option (Int32 × p_M)) : Nat → Int32 → Int32 → Int32 → p_M → Option (Int32 × p_M)
  | 0, _, _, _, _ => none
  | n + 1, v1, v2, v3, μ =>
    if (mI μ tM 25) ≤ v3
    then (K25 v1 (v2 + (1 : Int32)) μ)
    else (if ¬ (v2 &&& (((1 : Int32) <<< (v3 &&& 31)) ^^^ (-1))) = 0
      then (F_X13_order_c61 K25 (F_X13_order_c32 K25 n) v1 v2 v3 (v2 &&& (((1 : Int32) <<< (v3 &&& 31)) ^^^ (-1))) (1000000 : Int32) μ)
      else (F_X13_order_c61 K25 (F_X13_order_c32 K25 n) v1 v2 v3 (v2 &&& (((1 : Int32) <<< (v3 &&& 31)) ^^^ (-1))) (0 : Int32) μ))
theorem P_X13_order_c32 {K25 : Int32 → Int32 → p_M → Option (Int32 × p_M)} (hP25 : ∀ (v1 : Int32) (v2 : Int32) (μ : p_M) (r : Int32 × p_M), K25 v1 v2 μ = some r → Sm μ r.2) : ∀ (n : Nat) (v1 : Int32) (v2 : Int32) (v3 : Int32) (μ : p_M) (r : Int32 × p_M), F_X13_order_c32 K25 n v1 v2 v3 μ = some r → Sm μ r.2 := by
  intro n
  induction n with
  | zero => intro v1 v2 v3 μ r h; rw [F_X13_order_c32] at h; cases h
  | succ n ih =>
    intro v1 v2 v3 μ r h
    rw [F_X13_order_c32] at h
    by_cases hc : (mI μ tM 25) ≤ v3
    · rw [if_pos hc] at h
      exact Sm_trans (Sm_refl μ) (hP25 _ _ _ _ h)
    · rw [if_neg hc] at h
      by_cases hc : ¬ (v2 &&& (((1 : Int32) <<< (v3 &&& 31)) ^^^ (-1))) = 0
      · rw [if_pos hc] at h
        exact Sm_trans (Sm_refl μ) (P_X13_order_c61 hP25 ih h)
      · rw [if_neg hc] at h
        exact Sm_trans (Sm_refl μ) (P_X13_order_c61 hP25 ih h)
theorem E_X13_order_c32 {X : p_X} {d : Nat} {Q : p_R → Prop} {K25 : Int32 → Int32 → p_M → Option (Int32 × p_M)} (hK25 : ∀ (v1 : Int32) (v2 : Int32) (μ : p_M) (r : Int32 × p_M) (w3 : Value) (w4 : Value) (w5 : Value) (w6 : Value) (w7 : Value), ShM μ → K25 v1 v2 μ = some r → Q ((0, some (.int r.1)), r.2) → p_Ev X (d + 0) M_X13_order 25 [.ref tM, .int v1, .int v2, w3, w4, w5, w6, w7] [] μ Q) : ∀ (n : Nat) (v1 : Int32) (v2 : Int32) (v3 : Int32) (μ : p_M) (r : Int32 × p_M) (w4 : Value) (w5 : Value) (w6 : Value) (w7 : Value), ShM μ → F_X13_order_c32 K25 n v1 v2 v3 μ = some r → Q ((0, some (.int r.1)), r.2) → p_Ev X (d + 0) M_X13_order 32 [.ref tM, .int v1, .int v2, .int v3, w4, w5, w6, w7] [] μ Q := by
  intro n
  induction n with
  | zero => intro v1 v2 v3 μ r w4 w5 w6 w7 hs h hQ; rw [F_X13_order_c32] at h; cases h
  | succ n ih =>
    intro v1 v2 v3 μ r w4 w5 w6 w7 hs h hQ
    rw [F_X13_order_c32] at h
    refine e_iload_n dX13_order_32 rfl ?_
    refine e_aload_n dX13_order_33 rfl ?_
    refine e_getI dX13_order_34 rfl rfl hs.1 hs.2.1 ?_
    refine e_ic_ge dX13_order_37 178 (by decide) (fun hc => ?_) (fun hc => ?_)
    · rw [if_pos hc] at h
      refine e_iinc (v := (1 : Int32)) dX13_order_178 rfl rfl rfl ?_
      refine e_goto dX13_order_181 25 (by decide) ?_
      exact hK25 _ _ _ _ _ _ _ _ _ hs h hQ
    · rw [if_neg hc] at h
      refine e_iload_n dX13_order_40 rfl ?_
      refine e_iconst (v := (1 : Int32)) dX13_order_41 rfl ?_
      refine e_iload_n dX13_order_42 rfl ?_
      refine e_ishl dX13_order_43 ?_
      refine e_iconst (v := (-1)) dX13_order_44 rfl ?_
      refine e_ixor dX13_order_45 ?_
      refine e_iand dX13_order_46 ?_
      refine e_istore dX13_order_47 (Nat.le_of_ble_eq_true rfl) rfl ?_
      refine e_iload dX13_order_49 rfl ?_
      refine e_if_ne dX13_order_51 58 (by decide) (fun hc => ?_) (fun hc => ?_)
      · rw [if_pos hc] at h
        refine e_ldc_w (v := (1000000 : Int32)) dX13_order_58 rfl ?_
        exact E_X13_order_c61 hK25 ih hs h hQ
      · rw [if_neg hc] at h
        refine e_iconst (v := (0 : Int32)) dX13_order_54 rfl ?_
        refine e_goto dX13_order_55 61 (by decide) ?_
        exact E_X13_order_c61 hK25 ih hs h hQ
def F_X13_order_c232 (s0 : Int32) (μ : p_M) : Option (Int32 × p_M) :=
  some (s0, μ)
theorem P_X13_order_c232 {s0 : Int32} {μ : p_M} {r : Int32 × p_M} (h : F_X13_order_c232 s0 μ = some r) : Sm μ r.2 := by
  unfold F_X13_order_c232 at h
  cases h
  exact (Sm_refl μ)
theorem E_X13_order_c232 {X : p_X} {d : Nat} {Q : p_R → Prop} {s0 : Int32} {w0 : Value} {w1 : Value} {w2 : Value} {w3 : Value} {w4 : Value} {w5 : Value} {w6 : Value} {w7 : Value} {μ : p_M} {r : Int32 × p_M} (hs : ShM μ) (h : F_X13_order_c232 s0 μ = some r) (hQ : Q ((0, some (.int r.1)), r.2)) : p_Ev X (d + 0) M_X13_order 232 [w0, w1, w2, w3, w4, w5, w6, w7] [.int s0] μ Q := by
  unfold F_X13_order_c232 at h
  cases h
  exact e_ireti dX13_order_232 rfl hQ
def F_X13_order_c190 : Nat → Int32 → Int32 → Int32 → p_M → Option (Int32 × p_M)
  | 0, _, _, _, _ => none
  | n + 1, v1, v2, v3, μ =>
    if (mI μ tM 25) ≤ v3
    then (if v2 < (1000000 : Int32)
      then (F_X13_order_c232 v2 μ)
      else (F_X13_order_c232 (-1) μ))
    else (p_ok (¬ (((9 : Int32) * v1) + v3) < 0 ∧ (((9 : Int32) * v1) + v3).toNatClampNeg < 4608)
      (F_X13_order_c190 n v1 (if (mI μ (aM 26) (((9 : Int32) * v1) + v3).toNatClampNeg) < v2 then (mI μ (aM 26) (((9 : Int32) * v1) + v3).toNatClampNeg) else v2) (v3 + (1 : Int32)) μ))
theorem P_X13_order_c190 : ∀ (n : Nat) (v1 : Int32) (v2 : Int32) (v3 : Int32) (μ : p_M) (r : Int32 × p_M), F_X13_order_c190 n v1 v2 v3 μ = some r → Sm μ r.2 := by
  intro n
  induction n with
  | zero => intro v1 v2 v3 μ r h; rw [F_X13_order_c190] at h; cases h
  | succ n ih =>
    intro v1 v2 v3 μ r h
    rw [F_X13_order_c190] at h
    by_cases hc : (mI μ tM 25) ≤ v3
    · rw [if_pos hc] at h
      by_cases hc : v2 < (1000000 : Int32)
      · rw [if_pos hc] at h
        exact Sm_trans (Sm_refl μ) (P_X13_order_c232 h)
      · rw [if_neg hc] at h
        exact Sm_trans (Sm_refl μ) (P_X13_order_c232 h)
    · rw [if_neg hc] at h
      obtain ⟨hc, h⟩ := p_ok_some h
      exact Sm_trans (Sm_refl μ) (ih _ _ _ _ _ h)
theorem E_X13_order_c190 {X : p_X} {d : Nat} {Q : p_R → Prop} : ∀ (n : Nat) (v1 : Int32) (v2 : Int32) (v3 : Int32) (μ : p_M) (r : Int32 × p_M) (w4 : Value) (w5 : Value) (w6 : Value) (w7 : Value), ShM μ → F_X13_order_c190 n v1 v2 v3 μ = some r → Q ((0, some (.int r.1)), r.2) → p_Ev X (d + 0) M_X13_order 190 [.ref tM, .int v1, .int v2, .int v3, w4, w5, w6, w7] [] μ Q := by
  intro n
  induction n with
  | zero => intro v1 v2 v3 μ r w4 w5 w6 w7 hs h hQ; rw [F_X13_order_c190] at h; cases h
  | succ n ih =>
    intro v1 v2 v3 μ r w4 w5 w6 w7 hs h hQ
    rw [F_X13_order_c190] at h
    refine e_iload_n dX13_order_190 rfl ?_
    refine e_aload_n dX13_order_191 rfl ?_
    refine e_getI dX13_order_192 rfl rfl hs.1 hs.2.1 ?_
    refine e_ic_ge dX13_order_195 220 (by decide) (fun hc => ?_) (fun hc => ?_)
    · rw [if_pos hc] at h
      refine e_iload_n dX13_order_220 rfl ?_
      refine e_ldc_w (v := (1000000 : Int32)) dX13_order_221 rfl ?_
      refine e_ic_lt dX13_order_224 231 (by decide) (fun hc => ?_) (fun hc => ?_)
      · rw [if_pos hc] at h
        refine e_iload_n dX13_order_231 rfl ?_
        exact E_X13_order_c232 hs h hQ
      · rw [if_neg hc] at h
        refine e_iconst (v := (-1)) dX13_order_227 rfl ?_
        refine e_goto dX13_order_228 232 (by decide) ?_
        exact E_X13_order_c232 hs h hQ
    · rw [if_neg hc] at h
      refine e_iload_n dX13_order_198 rfl ?_
      refine e_aload_n dX13_order_199 rfl ?_
      refine e_getR dX13_order_200 rfl rfl hs.1 hs.2.1 (hs.2.2.2 26 (by decide) rfl).1 ?_
      refine e_bipush (v := (9 : Int32)) dX13_order_203 rfl ?_
      refine e_iload_n dX13_order_205 rfl ?_
      refine e_imul dX13_order_206 ?_
      refine e_iload_n dX13_order_207 rfl ?_
      refine e_iadd dX13_order_208 ?_
      obtain ⟨hc, h⟩ := p_ok_some h
      refine e_iald dX13_order_209 (Nat.lt_trans (hs.2.2.2 26 (by decide) rfl).2.2.2 hs.2.2.1) (hs.2.2.2 26 (by decide) rfl).2.1 (hs.2.2.2 26 (by decide) rfl).2.2.1 (hs.2.2.2 26 (by decide) rfl).2.2.2 hc ?_
      refine e_min dX13_order_210 rfl (Nat.le_of_ble_eq_true rfl) ?_
      refine e_istore_n dX13_order_213 (Nat.le_of_ble_eq_true rfl) rfl ?_
      refine e_iinc (v := (1 : Int32)) dX13_order_214 rfl rfl rfl ?_
      refine e_goto dX13_order_217 190 (by decide) ?_
      exact ih _ _ _ _ _ _ _ _ _ hs h hQ
def F_X13_order_c25 : Nat → Int32 → Int32 → p_M → Option (Int32 × p_M)
  | 0, _, _, _ => none
  | n + 1, v1, v2, μ =>
    if v1 < v2
    then (F_X13_order_c190 p_fu v1 (1000000 : Int32) (0 : Int32) μ)
    else (F_X13_order_c32 (F_X13_order_c25 n) p_fu v1 v2 (0 : Int32) μ)
theorem P_X13_order_c25 : ∀ (n : Nat) (v1 : Int32) (v2 : Int32) (μ : p_M) (r : Int32 × p_M), F_X13_order_c25 n v1 v2 μ = some r → Sm μ r.2 := by
  intro n
  induction n with
  | zero => intro v1 v2 μ r h; rw [F_X13_order_c25] at h; cases h
  | succ n ih =>
    intro v1 v2 μ r h
    rw [F_X13_order_c25] at h
    by_cases hc : v1 < v2
    · rw [if_pos hc] at h
      exact Sm_trans (Sm_refl μ) (P_X13_order_c190 p_fu _ _ _ _ _ h)
    · rw [if_neg hc] at h
      exact Sm_trans (Sm_refl μ) (P_X13_order_c32 ih p_fu _ _ _ _ _ h)
theorem E_X13_order_c25 {X : p_X} {d : Nat} {Q : p_R → Prop} : ∀ (n : Nat) (v1 : Int32) (v2 : Int32) (μ : p_M) (r : Int32 × p_M) (w3 : Value) (w4 : Value) (w5 : Value) (w6 : Value) (w7 : Value), ShM μ → F_X13_order_c25 n v1 v2 μ = some r → Q ((0, some (.int r.1)), r.2) → p_Ev X (d + 0) M_X13_order 25 [.ref tM, .int v1, .int v2, w3, w4, w5, w6, w7] [] μ Q := by
  intro n
  induction n with
  | zero => intro v1 v2 μ r w3 w4 w5 w6 w7 hs h hQ; rw [F_X13_order_c25] at h; cases h
  | succ n ih =>
    intro v1 v2 μ r w3 w4 w5 w6 w7 hs h hQ
    rw [F_X13_order_c25] at h
    refine e_iload_n dX13_order_25 rfl ?_
    refine e_iload_n dX13_order_26 rfl ?_
    refine e_ic_gt dX13_order_27 184 (by decide) (fun hc => ?_) (fun hc => ?_)
    · rw [if_pos hc] at h
      refine e_ldc_w (v := (1000000 : Int32)) dX13_order_184 rfl ?_
      refine e_istore_n dX13_order_187 (Nat.le_of_ble_eq_true rfl) rfl ?_
      refine e_iconst (v := (0 : Int32)) dX13_order_188 rfl ?_
      refine e_istore_n dX13_order_189 (Nat.le_of_ble_eq_true rfl) rfl ?_
      exact E_X13_order_c190 p_fu _ _ _ _ _ _ _ _ _ hs h hQ
    · rw [if_neg hc] at h
      refine e_iconst (v := (0 : Int32)) dX13_order_30 rfl ?_
      refine e_istore_n dX13_order_31 (Nat.le_of_ble_eq_true rfl) rfl ?_
      exact E_X13_order_c32 ih p_fu _ _ _ _ _ _ _ _ _ hs h hQ
def F_X13_order (μ : p_M) : Option (Int32 × p_M) :=
  if ¬ (mI (sI μ tM 0 (0 : Int32)) tM 25) = 0
  then (F_X13_order_c25 p_fu (((1 : Int32) <<< ((mI (sI μ tM 0 (0 : Int32)) tM 25) &&& 31)) - (1 : Int32)) (1 : Int32) (sI μ tM 0 (0 : Int32)))
  else (some ((0 : Int32), (sI μ tM 0 (0 : Int32))))
theorem P_X13_order {μ : p_M} {r : Int32 × p_M} (h : F_X13_order μ = some r) : Sm μ r.2 := by
  unfold F_X13_order at h
  by_cases hc : ¬ (mI (sI μ tM 0 (0 : Int32)) tM 25) = 0
  · rw [if_pos hc] at h
    exact Sm_trans (Sm_set (Sm_refl μ) (by decide)) (P_X13_order_c25 p_fu _ _ _ _ h)
  · rw [if_neg hc] at h
    cases h
    exact (Sm_set (Sm_refl μ) (by decide))
theorem E_X13_order {X : p_X} {d : Nat} {Q : p_R → Prop} {μ : p_M} {r : Int32 × p_M} (hs : ShM μ) (h : F_X13_order μ = some r) (hQ : Q ((0, some (.int r.1)), r.2)) : p_Ev X (d + 0) M_X13_order 0 [.ref tM, .double 0, .double 0, .double 0, .double 0, .double 0, .double 0, .double 0] [] μ Q := by
  unfold F_X13_order at h
  refine e_aload_n dX13_order_0 rfl ?_
  refine e_iconst (v := (0 : Int32)) dX13_order_1 rfl ?_
  refine e_putI dX13_order_2 rfl ⟨rfl, rfl, fun h => by cases h⟩ (fun h => by cases h) hs.1 hs.2.1 ?_
  refine e_aload_n dX13_order_5 rfl ?_
  refine e_getI dX13_order_6 rfl rfl hs.1 hs.2.1 ?_
  refine e_if_ne dX13_order_9 14 (by decide) (fun hc => ?_) (fun hc => ?_)
  · rw [if_pos hc] at h
    refine e_iconst (v := (1 : Int32)) dX13_order_14 rfl ?_
    refine e_aload_n dX13_order_15 rfl ?_
    refine e_getI dX13_order_16 rfl rfl hs.1 hs.2.1 ?_
    refine e_ishl dX13_order_19 ?_
    refine e_iconst (v := (1 : Int32)) dX13_order_20 rfl ?_
    refine e_isub dX13_order_21 ?_
    refine e_istore_n dX13_order_22 (Nat.le_of_ble_eq_true rfl) rfl ?_
    refine e_iconst (v := (1 : Int32)) dX13_order_23 rfl ?_
    refine e_istore_n dX13_order_24 (Nat.le_of_ble_eq_true rfl) rfl ?_
    exact E_X13_order_c25 p_fu _ _ _ _ _ _ _ _ _ hs h hQ
  · rw [if_neg hc] at h
    refine e_iconst (v := (0 : Int32)) dX13_order_12 rfl ?_
    cases h
    exact e_ireti dX13_order_13 rfl hQ
