/-! X13_uses -/
def F_X13_uses (μ : p_M) : Option (Int32 × p_M) :=
  some (0, (sI (sI (sI (sI μ tM 0 (0 : Int32)) tM 4 (mI (sI μ tM 0 (0 : Int32)) tM 2)) tM 2 (0 : Int32)) tM 3 (0 : Int32)))
theorem P_X13_uses {μ : p_M} {r : Int32 × p_M} (h : F_X13_uses μ = some r) : Sm μ r.2 := by
  unfold F_X13_uses at h
  cases h
  exact (Sm_set (Sm_set (Sm_set (Sm_set (Sm_refl μ) (by decide)) (by decide)) (by decide)) (by decide))
theorem E_X13_uses {X : p_X} {d : Nat} {Q : p_R → Prop} {μ : p_M} {r : Int32 × p_M} (hs : ShM μ) (h : F_X13_uses μ = some r) (hQ : Q ((0, none), r.2)) : p_Ev X (d + 0) M_X13_uses 0 [.ref tM] [] μ Q := by
  unfold F_X13_uses at h
  refine e_aload_n dX13_uses_0 rfl ?_
  refine e_iconst (v := (0 : Int32)) dX13_uses_1 rfl ?_
  refine e_putI dX13_uses_2 rfl ⟨rfl, rfl, fun h => by cases h⟩ (fun h => by cases h) hs.1 hs.2.1 ?_
  refine e_aload_n dX13_uses_5 rfl ?_
  refine e_aload_n dX13_uses_6 rfl ?_
  refine e_getI dX13_uses_7 rfl rfl hs.1 hs.2.1 ?_
  refine e_putI dX13_uses_10 rfl ⟨rfl, rfl, fun h => by cases h⟩ (fun h => by cases h) hs.1 hs.2.1 ?_
  refine e_aload_n dX13_uses_13 rfl ?_
  refine e_iconst (v := (0 : Int32)) dX13_uses_14 rfl ?_
  refine e_putI dX13_uses_15 rfl ⟨rfl, rfl, fun h => by cases h⟩ (fun h => by cases h) hs.1 hs.2.1 ?_
  refine e_aload_n dX13_uses_18 rfl ?_
  refine e_iconst (v := (0 : Int32)) dX13_uses_19 rfl ?_
  refine e_putI dX13_uses_20 rfl ⟨rfl, rfl, fun h => by cases h⟩ (fun h => by cases h) hs.1 hs.2.1 ?_
  cases h
  exact e_vret dX13_uses_23 rfl hQ
