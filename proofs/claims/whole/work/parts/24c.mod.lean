/-! X13_pours -/
def F_X13_pours (v1 : Int32) (v2 : Int32) (v3 : Int32) (μ : p_M) : Option (Int32 × p_M) :=
  p_ok (¬ v1 < 0 ∧ v1.toNatClampNeg < 5)
  (p_ok (¬ v1 < 0 ∧ v1.toNatClampNeg < 5)
  (p_ok (¬ v2.toInt64 = 0)
  (p_ok (¬ v1 < 0 ∧ v1.toNatClampNeg < 5)
  (p_ok (¬ v1 < 0 ∧ v1.toNatClampNeg < 5)
  (p_ok (¬ v1 < 0 ∧ v1.toNatClampNeg < 5)
  (p_ok (¬ v1 < 0 ∧ v1.toNatClampNeg < 5)
  (some (0, (sI (sI (sI (sI (sI μ tM 37 (v2 - (if ((mI μ (aM 27) v1.toNatClampNeg) - (mI μ (aM 28) v1.toNatClampNeg)) < v2 then ((mI μ (aM 27) v1.toNatClampNeg) - (mI μ (aM 28) v1.toNatClampNeg)) else v2))) (aM 28) v1.toNatClampNeg ((mI (sI μ tM 37 (v2 - (if ((mI μ (aM 27) v1.toNatClampNeg) - (mI μ (aM 28) v1.toNatClampNeg)) < v2 then ((mI μ (aM 27) v1.toNatClampNeg) - (mI μ (aM 28) v1.toNatClampNeg)) else v2))) (aM 28) v1.toNatClampNeg) + (if ((mI μ (aM 27) v1.toNatClampNeg) - (mI μ (aM 28) v1.toNatClampNeg)) < v2 then ((mI μ (aM 27) v1.toNatClampNeg) - (mI μ (aM 28) v1.toNatClampNeg)) else v2))) (aM 29) v1.toNatClampNeg ((mI (sI (sI μ tM 37 (v2 - (if ((mI μ (aM 27) v1.toNatClampNeg) - (mI μ (aM 28) v1.toNatClampNeg)) < v2 then ((mI μ (aM 27) v1.toNatClampNeg) - (mI μ (aM 28) v1.toNatClampNeg)) else v2))) (aM 28) v1.toNatClampNeg ((mI (sI μ tM 37 (v2 - (if ((mI μ (aM 27) v1.toNatClampNeg) - (mI μ (aM 28) v1.toNatClampNeg)) < v2 then ((mI μ (aM 27) v1.toNatClampNeg) - (mI μ (aM 28) v1.toNatClampNeg)) else v2))) (aM 28) v1.toNatClampNeg) + (if ((mI μ (aM 27) v1.toNatClampNeg) - (mI μ (aM 28) v1.toNatClampNeg)) < v2 then ((mI μ (aM 27) v1.toNatClampNeg) - (mI μ (aM 28) v1.toNatClampNeg)) else v2))) (aM 29) v1.toNatClampNeg) + (v3 - ((((v3.toInt64 * (mI (sI μ tM 37 (v2 - (if ((mI μ (aM 27) v1.toNatClampNeg) - (mI μ (aM 28) v1.toNatClampNeg)) < v2 then ((mI μ (aM 27) v1.toNatClampNeg) - (mI μ (aM 28) v1.toNatClampNeg)) else v2))) tM 37).toInt64) + v2.toInt64) - (1 : Int64)) / v2.toInt64).toInt32))) tM 32 ((mI (sI (sI (sI μ tM 37 (v2 - (if ((mI μ (aM 27) v1.toNatClampNeg) - (mI μ (aM 28) v1.toNatClampNeg)) < v2 then ((mI μ (aM 27) v1.toNatClampNeg) - (mI μ (aM 28) v1.toNatClampNeg)) else v2))) (aM 28) v1.toNatClampNeg ((mI (sI μ tM 37 (v2 - (if ((mI μ (aM 27) v1.toNatClampNeg) - (mI μ (aM 28) v1.toNatClampNeg)) < v2 then ((mI μ (aM 27) v1.toNatClampNeg) - (mI μ (aM 28) v1.toNatClampNeg)) else v2))) (aM 28) v1.toNatClampNeg) + (if ((mI μ (aM 27) v1.toNatClampNeg) - (mI μ (aM 28) v1.toNatClampNeg)) < v2 then ((mI μ (aM 27) v1.toNatClampNeg) - (mI μ (aM 28) v1.toNatClampNeg)) else v2))) (aM 29) v1.toNatClampNeg ((mI (sI (sI μ tM 37 (v2 - (if ((mI μ (aM 27) v1.toNatClampNeg) - (mI μ (aM 28) v1.toNatClampNeg)) < v2 then ((mI μ (aM 27) v1.toNatClampNeg) - (mI μ (aM 28) v1.toNatClampNeg)) else v2))) (aM 28) v1.toNatClampNeg ((mI (sI μ tM 37 (v2 - (if ((mI μ (aM 27) v1.toNatClampNeg) - (mI μ (aM 28) v1.toNatClampNeg)) < v2 then ((mI μ (aM 27) v1.toNatClampNeg) - (mI μ (aM 28) v1.toNatClampNeg)) else v2))) (aM 28) v1.toNatClampNeg) + (if ((mI μ (aM 27) v1.toNatClampNeg) - (mI μ (aM 28) v1.toNatClampNeg)) < v2 then ((mI μ (aM 27) v1.toNatClampNeg) - (mI μ (aM 28) v1.toNatClampNeg)) else v2))) (aM 29) v1.toNatClampNeg) + (v3 - ((((v3.toInt64 * (mI (sI μ tM 37 (v2 - (if ((mI μ (aM 27) v1.toNatClampNeg) - (mI μ (aM 28) v1.toNatClampNeg)) < v2 then ((mI μ (aM 27) v1.toNatClampNeg) - (mI μ (aM 28) v1.toNatClampNeg)) else v2))) tM 37).toInt64) + v2.toInt64) - (1 : Int64)) / v2.toInt64).toInt32))) tM 32) + (mI (sI (sI (sI μ tM 37 (v2 - (if ((mI μ (aM 27) v1.toNatClampNeg) - (mI μ (aM 28) v1.toNatClampNeg)) < v2 then ((mI μ (aM 27) v1.toNatClampNeg) - (mI μ (aM 28) v1.toNatClampNeg)) else v2))) (aM 28) v1.toNatClampNeg ((mI (sI μ tM 37 (v2 - (if ((mI μ (aM 27) v1.toNatClampNeg) - (mI μ (aM 28) v1.toNatClampNeg)) < v2 then ((mI μ (aM 27) v1.toNatClampNeg) - (mI μ (aM 28) v1.toNatClampNeg)) else v2))) (aM 28) v1.toNatClampNeg) + (if ((mI μ (aM 27) v1.toNatClampNeg) - (mI μ (aM 28) v1.toNatClampNeg)) < v2 then ((mI μ (aM 27) v1.toNatClampNeg) - (mI μ (aM 28) v1.toNatClampNeg)) else v2))) (aM 29) v1.toNatClampNeg ((mI (sI (sI μ tM 37 (v2 - (if ((mI μ (aM 27) v1.toNatClampNeg) - (mI μ (aM 28) v1.toNatClampNeg)) < v2 then ((mI μ (aM 27) v1.toNatClampNeg) - (mI μ (aM 28) v1.toNatClampNeg)) else v2))) (aM 28) v1.toNatClampNeg ((mI (sI μ tM 37 (v2 - (if ((mI μ (aM 27) v1.toNatClampNeg) - (mI μ (aM 28) v1.toNatClampNeg)) < v2 then ((mI μ (aM 27) v1.toNatClampNeg) - (mI μ (aM 28) v1.toNatClampNeg)) else v2))) (aM 28) v1.toNatClampNeg) + (if ((mI μ (aM 27) v1.toNatClampNeg) - (mI μ (aM 28) v1.toNatClampNeg)) < v2 then ((mI μ (aM 27) v1.toNatClampNeg) - (mI μ (aM 28) v1.toNatClampNeg)) else v2))) (aM 29) v1.toNatClampNeg) + (v3 - ((((v3.toInt64 * (mI (sI μ tM 37 (v2 - (if ((mI μ (aM 27) v1.toNatClampNeg) - (mI μ (aM 28) v1.toNatClampNeg)) < v2 then ((mI μ (aM 27) v1.toNatClampNeg) - (mI μ (aM 28) v1.toNatClampNeg)) else v2))) tM 37).toInt64) + v2.toInt64) - (1 : Int64)) / v2.toInt64).toInt32))) tM 37))) tM 34 ((mI (sI (sI (sI (sI μ tM 37 (v2 - (if ((mI μ (aM 27) v1.toNatClampNeg) - (mI μ (aM 28) v1.toNatClampNeg)) < v2 then ((mI μ (aM 27) v1.toNatClampNeg) - (mI μ (aM 28) v1.toNatClampNeg)) else v2))) (aM 28) v1.toNatClampNeg ((mI (sI μ tM 37 (v2 - (if ((mI μ (aM 27) v1.toNatClampNeg) - (mI μ (aM 28) v1.toNatClampNeg)) < v2 then ((mI μ (aM 27) v1.toNatClampNeg) - (mI μ (aM 28) v1.toNatClampNeg)) else v2))) (aM 28) v1.toNatClampNeg) + (if ((mI μ (aM 27) v1.toNatClampNeg) - (mI μ (aM 28) v1.toNatClampNeg)) < v2 then ((mI μ (aM 27) v1.toNatClampNeg) - (mI μ (aM 28) v1.toNatClampNeg)) else v2))) (aM 29) v1.toNatClampNeg ((mI (sI (sI μ tM 37 (v2 - (if ((mI μ (aM 27) v1.toNatClampNeg) - (mI μ (aM 28) v1.toNatClampNeg)) < v2 then ((mI μ (aM 27) v1.toNatClampNeg) - (mI μ (aM 28) v1.toNatClampNeg)) else v2))) (aM 28) v1.toNatClampNeg ((mI (sI μ tM 37 (v2 - (if ((mI μ (aM 27) v1.toNatClampNeg) - (mI μ (aM 28) v1.toNatClampNeg)) < v2 then ((mI μ (aM 27) v1.toNatClampNeg) - (mI μ (aM 28) v1.toNatClampNeg)) else v2))) (aM 28) v1.toNatClampNeg) + (if ((mI μ (aM 27) v1.toNatClampNeg) - (mI μ (aM 28) v1.toNatClampNeg)) < v2 then ((mI μ (aM 27) v1.toNatClampNeg) - (mI μ (aM 28) v1.toNatClampNeg)) else v2))) (aM 29) v1.toNatClampNeg) + (v3 - ((((v3.toInt64 * (mI (sI μ tM 37 (v2 - (if ((mI μ (aM 27) v1.toNatClampNeg) - (mI μ (aM 28) v1.toNatClampNeg)) < v2 then ((mI μ (aM 27) v1.toNatClampNeg) - (mI μ (aM 28) v1.toNatClampNeg)) else v2))) tM 37).toInt64) + v2.toInt64) - (1 : Int64)) / v2.toInt64).toInt32))) tM 32 ((mI (sI (sI (sI μ tM 37 (v2 - (if ((mI μ (aM 27) v1.toNatClampNeg) - (mI μ (aM 28) v1.toNatClampNeg)) < v2 then ((mI μ (aM 27) v1.toNatClampNeg) - (mI μ (aM 28) v1.toNatClampNeg)) else v2))) (aM 28) v1.toNatClampNeg ((mI (sI μ tM 37 (v2 - (if ((mI μ (aM 27) v1.toNatClampNeg) - (mI μ (aM 28) v1.toNatClampNeg)) < v2 then ((mI μ (aM 27) v1.toNatClampNeg) - (mI μ (aM 28) v1.toNatClampNeg)) else v2))) (aM 28) v1.toNatClampNeg) + (if ((mI μ (aM 27) v1.toNatClampNeg) - (mI μ (aM 28) v1.toNatClampNeg)) < v2 then ((mI μ (aM 27) v1.toNatClampNeg) - (mI μ (aM 28) v1.toNatClampNeg)) else v2))) (aM 29) v1.toNatClampNeg ((mI (sI (sI μ tM 37 (v2 - (if ((mI μ (aM 27) v1.toNatClampNeg) - (mI μ (aM 28) v1.toNatClampNeg)) < v2 then ((mI μ (aM 27) v1.toNatClampNeg) - (mI μ (aM 28) v1.toNatClampNeg)) else v2))) (aM 28) v1.toNatClampNeg ((mI (sI μ tM 37 (v2 - (if ((mI μ (aM 27) v1.toNatClampNeg) - (mI μ (aM 28) v1.toNatClampNeg)) < v2 then ((mI μ (aM 27) v1.toNatClampNeg) - (mI μ (aM 28) v1.toNatClampNeg)) else v2))) (aM 28) v1.toNatClampNeg) + (if ((mI μ (aM 27) v1.toNatClampNeg) - (mI μ (aM 28) v1.toNatClampNeg)) < v2 then ((mI μ (aM 27) v1.toNatClampNeg) - (mI μ (aM 28) v1.toNatClampNeg)) else v2))) (aM 29) v1.toNatClampNeg) + (v3 - ((((v3.toInt64 * (mI (sI μ tM 37 (v2 - (if ((mI μ (aM 27) v1.toNatClampNeg) - (mI μ (aM 28) v1.toNatClampNeg)) < v2 then ((mI μ (aM 27) v1.toNatClampNeg) - (mI μ (aM 28) v1.toNatClampNeg)) else v2))) tM 37).toInt64) + v2.toInt64) - (1 : Int64)) / v2.toInt64).toInt32))) tM 32) + (mI (sI (sI (sI μ tM 37 (v2 - (if ((mI μ (aM 27) v1.toNatClampNeg) - (mI μ (aM 28) v1.toNatClampNeg)) < v2 then ((mI μ (aM 27) v1.toNatClampNeg) - (mI μ (aM 28) v1.toNatClampNeg)) else v2))) (aM 28) v1.toNatClampNeg ((mI (sI μ tM 37 (v2 - (if ((mI μ (aM 27) v1.toNatClampNeg) - (mI μ (aM 28) v1.toNatClampNeg)) < v2 then ((mI μ (aM 27) v1.toNatClampNeg) - (mI μ (aM 28) v1.toNatClampNeg)) else v2))) (aM 28) v1.toNatClampNeg) + (if ((mI μ (aM 27) v1.toNatClampNeg) - (mI μ (aM 28) v1.toNatClampNeg)) < v2 then ((mI μ (aM 27) v1.toNatClampNeg) - (mI μ (aM 28) v1.toNatClampNeg)) else v2))) (aM 29) v1.toNatClampNeg ((mI (sI (sI μ tM 37 (v2 - (if ((mI μ (aM 27) v1.toNatClampNeg) - (mI μ (aM 28) v1.toNatClampNeg)) < v2 then ((mI μ (aM 27) v1.toNatClampNeg) - (mI μ (aM 28) v1.toNatClampNeg)) else v2))) (aM 28) v1.toNatClampNeg ((mI (sI μ tM 37 (v2 - (if ((mI μ (aM 27) v1.toNatClampNeg) - (mI μ (aM 28) v1.toNatClampNeg)) < v2 then ((mI μ (aM 27) v1.toNatClampNeg) - (mI μ (aM 28) v1.toNatClampNeg)) else v2))) (aM 28) v1.toNatClampNeg) + (if ((mI μ (aM 27) v1.toNatClampNeg) - (mI μ (aM 28) v1.toNatClampNeg)) < v2 then ((mI μ (aM 27) v1.toNatClampNeg) - (mI μ (aM 28) v1.toNatClampNeg)) else v2))) (aM 29) v1.toNatClampNeg) + (v3 - ((((v3.toInt64 * (mI (sI μ tM 37 (v2 - (if ((mI μ (aM 27) v1.toNatClampNeg) - (mI μ (aM 28) v1.toNatClampNeg)) < v2 then ((mI μ (aM 27) v1.toNatClampNeg) - (mI μ (aM 28) v1.toNatClampNeg)) else v2))) tM 37).toInt64) + v2.toInt64) - (1 : Int64)) / v2.toInt64).toInt32))) tM 37))) tM 34) + ((((v3.toInt64 * (mI (sI μ tM 37 (v2 - (if ((mI μ (aM 27) v1.toNatClampNeg) - (mI μ (aM 28) v1.toNatClampNeg)) < v2 then ((mI μ (aM 27) v1.toNatClampNeg) - (mI μ (aM 28) v1.toNatClampNeg)) else v2))) tM 37).toInt64) + v2.toInt64) - (1 : Int64)) / v2.toInt64).toInt32))))))))))
theorem P_X13_pours {v1 : Int32} {v2 : Int32} {v3 : Int32} {μ : p_M} {r : Int32 × p_M} (h : F_X13_pours v1 v2 v3 μ = some r) : Sm μ r.2 := by
  unfold F_X13_pours at h
  obtain ⟨hc, h⟩ := p_ok_some h
  obtain ⟨hc, h⟩ := p_ok_some h
  obtain ⟨hc, h⟩ := p_ok_some h
  obtain ⟨hc, h⟩ := p_ok_some h
  obtain ⟨hc, h⟩ := p_ok_some h
  obtain ⟨hc, h⟩ := p_ok_some h
  obtain ⟨hc, h⟩ := p_ok_some h
  cases h
  exact (Sm_set (Sm_set (Sm_set (Sm_set (Sm_set (Sm_refl μ) (by decide)) (by decide)) (by decide)) (by decide)) (by decide))
theorem E_X13_pours {X : p_X} {d : Nat} {Q : p_R → Prop} {v1 : Int32} {v2 : Int32} {v3 : Int32} {μ : p_M} {r : Int32 × p_M} (hs : ShM μ) (h : F_X13_pours v1 v2 v3 μ = some r) (hQ : Q ((0, none), r.2)) : p_Ev X (d + 0) M_X13_pours 0 [.ref tM, .int v1, .int v2, .int v3, .double 0, .double 0] [] μ Q := by
  unfold F_X13_pours at h
  refine e_iload_n dX13_pours_0 rfl ?_
  refine e_aload_n dX13_pours_1 rfl ?_
  refine e_getR dX13_pours_2 rfl rfl hs.1 hs.2.1 (hs.2.2.2 27 (by decide) rfl).1 ?_
  refine e_iload_n dX13_pours_5 rfl ?_
  obtain ⟨hc, h⟩ := p_ok_some h
  refine e_iald dX13_pours_6 (Nat.lt_trans (hs.2.2.2 27 (by decide) rfl).2.2.2 hs.2.2.1) (hs.2.2.2 27 (by decide) rfl).2.1 (hs.2.2.2 27 (by decide) rfl).2.2.1 (hs.2.2.2 27 (by decide) rfl).2.2.2 hc ?_
  refine e_aload_n dX13_pours_7 rfl ?_
  refine e_getR dX13_pours_8 rfl rfl hs.1 hs.2.1 (hs.2.2.2 28 (by decide) rfl).1 ?_
  refine e_iload_n dX13_pours_11 rfl ?_
  obtain ⟨hc, h⟩ := p_ok_some h
  refine e_iald dX13_pours_12 (Nat.lt_trans (hs.2.2.2 28 (by decide) rfl).2.2.2 hs.2.2.1) (hs.2.2.2 28 (by decide) rfl).2.1 (hs.2.2.2 28 (by decide) rfl).2.2.1 (hs.2.2.2 28 (by decide) rfl).2.2.2 hc ?_
  refine e_isub dX13_pours_13 ?_
  refine e_min dX13_pours_14 rfl (Nat.le_of_ble_eq_true rfl) ?_
  refine e_istore dX13_pours_17 (Nat.le_of_ble_eq_true rfl) rfl ?_
  refine e_aload_n dX13_pours_19 rfl ?_
  refine e_iload_n dX13_pours_20 rfl ?_
  refine e_iload dX13_pours_21 rfl ?_
  refine e_isub dX13_pours_23 ?_
  refine e_putI dX13_pours_24 rfl ⟨rfl, rfl, fun h => by cases h⟩ (fun h => by cases h) hs.1 hs.2.1 ?_
  refine e_iload_n dX13_pours_27 rfl ?_
  refine e_i2l dX13_pours_28 ?_
  refine e_aload_n dX13_pours_29 rfl ?_
  refine e_getI dX13_pours_30 rfl rfl hs.1 hs.2.1 ?_
  refine e_i2l dX13_pours_33 ?_
  refine e_lmul dX13_pours_34 ?_
  refine e_iload_n dX13_pours_35 rfl ?_
  refine e_i2l dX13_pours_36 ?_
  refine e_ladd dX13_pours_37 ?_
  refine e_lconst (v := 1) dX13_pours_38 rfl ?_
  refine e_lsub dX13_pours_39 ?_
  refine e_iload_n dX13_pours_40 rfl ?_
  refine e_i2l dX13_pours_41 ?_
  obtain ⟨hc, h⟩ := p_ok_some h
  refine e_ldiv dX13_pours_42 hc ?_
  refine e_l2i dX13_pours_43 ?_
  refine e_istore dX13_pours_44 (Nat.le_of_ble_eq_true rfl) rfl ?_
  refine e_aload_n dX13_pours_46 rfl ?_
  refine e_getR dX13_pours_47 rfl rfl hs.1 hs.2.1 (hs.2.2.2 28 (by decide) rfl).1 ?_
  refine e_iload_n dX13_pours_50 rfl ?_
  refine e_dup2 dX13_pours_51 ?_
  obtain ⟨hc, h⟩ := p_ok_some h
  refine e_iald dX13_pours_52 (Nat.lt_trans (hs.2.2.2 28 (by decide) rfl).2.2.2 hs.2.2.1) (hs.2.2.2 28 (by decide) rfl).2.1 (hs.2.2.2 28 (by decide) rfl).2.2.1 (hs.2.2.2 28 (by decide) rfl).2.2.2 hc ?_
  refine e_iload dX13_pours_53 rfl ?_
  refine e_iadd dX13_pours_55 ?_
  obtain ⟨hc, h⟩ := p_ok_some h
  refine e_iast dX13_pours_56 (hs.2.2.2 28 (by decide) rfl).2.1 (hs.2.2.2 28 (by decide) rfl).2.2.1 (hs.2.2.2 28 (by decide) rfl).2.2.2 hc ?_
  refine e_aload_n dX13_pours_57 rfl ?_
  refine e_getR dX13_pours_58 rfl rfl hs.1 hs.2.1 (hs.2.2.2 29 (by decide) rfl).1 ?_
  refine e_iload_n dX13_pours_61 rfl ?_
  refine e_dup2 dX13_pours_62 ?_
  obtain ⟨hc, h⟩ := p_ok_some h
  refine e_iald dX13_pours_63 (Nat.lt_trans (hs.2.2.2 29 (by decide) rfl).2.2.2 hs.2.2.1) (hs.2.2.2 29 (by decide) rfl).2.1 (hs.2.2.2 29 (by decide) rfl).2.2.1 (hs.2.2.2 29 (by decide) rfl).2.2.2 hc ?_
  refine e_iload_n dX13_pours_64 rfl ?_
  refine e_iload dX13_pours_65 rfl ?_
  refine e_isub dX13_pours_67 ?_
  refine e_iadd dX13_pours_68 ?_
  obtain ⟨hc, h⟩ := p_ok_some h
  refine e_iast dX13_pours_69 (hs.2.2.2 29 (by decide) rfl).2.1 (hs.2.2.2 29 (by decide) rfl).2.2.1 (hs.2.2.2 29 (by decide) rfl).2.2.2 hc ?_
  refine e_aload_n dX13_pours_70 rfl ?_
  refine e_dupR dX13_pours_71 ?_
  refine e_getI dX13_pours_72 rfl rfl hs.1 hs.2.1 ?_
  refine e_aload_n dX13_pours_75 rfl ?_
  refine e_getI dX13_pours_76 rfl rfl hs.1 hs.2.1 ?_
  refine e_iadd dX13_pours_79 ?_
  refine e_putI dX13_pours_80 rfl ⟨rfl, rfl, fun h => by cases h⟩ (fun h => by cases h) hs.1 hs.2.1 ?_
  refine e_aload_n dX13_pours_83 rfl ?_
  refine e_dupR dX13_pours_84 ?_
  refine e_getI dX13_pours_85 rfl rfl hs.1 hs.2.1 ?_
  refine e_iload dX13_pours_88 rfl ?_
  refine e_iadd dX13_pours_90 ?_
  refine e_putI dX13_pours_91 rfl ⟨rfl, rfl, fun h => by cases h⟩ (fun h => by cases h) hs.1 hs.2.1 ?_
  cases h
  exact e_vret dX13_pours_94 rfl hQ
/-! X13_bathes -/
def F_X13_bathes_c182 (v1 : Int32) (μ : p_M) : Option (Int32 × p_M) :=
  p_ok (¬ v1 < 0 ∧ v1.toNatClampNeg < 40)
  (p_ok (¬ v1 < 0 ∧ v1.toNatClampNeg < 40)
  (some (0, (sI μ (aM 57) v1.toNatClampNeg ((mI μ (aM 57) v1.toNatClampNeg) + (1 : Int32))))))
theorem P_X13_bathes_c182 {v1 : Int32} {μ : p_M} {r : Int32 × p_M} (h : F_X13_bathes_c182 v1 μ = some r) : Sm μ r.2 := by
  unfold F_X13_bathes_c182 at h
  obtain ⟨hc, h⟩ := p_ok_some h
  obtain ⟨hc, h⟩ := p_ok_some h
  cases h
  exact (Sm_set (Sm_refl μ) (by decide))
theorem E_X13_bathes_c182 {X : p_X} {d : Nat} {Q : p_R → Prop} {v1 : Int32} {w2 : Value} {w3 : Value} {w4 : Value} {w5 : Value} {w6 : Value} {w7 : Value} {μ : p_M} {r : Int32 × p_M} (hs : ShM μ) (h : F_X13_bathes_c182 v1 μ = some r) (hQ : Q ((0, none), r.2)) : p_Ev X (d + 2) M_X13_bathes 182 [.ref tM, .int v1, w2, w3, w4, w5, w6, w7] [] μ Q := by
  unfold F_X13_bathes_c182 at h
  refine e_aload_n dX13_bathes_182 rfl ?_
  refine e_getR dX13_bathes_183 rfl rfl hs.1 hs.2.1 (hs.2.2.2 57 (by decide) rfl).1 ?_
  refine e_iload_n dX13_bathes_186 rfl ?_
  refine e_dup2 dX13_bathes_187 ?_
  obtain ⟨hc, h⟩ := p_ok_some h
  refine e_iald dX13_bathes_188 (Nat.lt_trans (hs.2.2.2 57 (by decide) rfl).2.2.2 hs.2.2.1) (hs.2.2.2 57 (by decide) rfl).2.1 (hs.2.2.2 57 (by decide) rfl).2.2.1 (hs.2.2.2 57 (by decide) rfl).2.2.2 hc ?_
  refine e_iconst (v := (1 : Int32)) dX13_bathes_189 rfl ?_
  refine e_iadd dX13_bathes_190 ?_
  obtain ⟨hc, h⟩ := p_ok_some h
  refine e_iast dX13_bathes_191 (hs.2.2.2 57 (by decide) rfl).2.1 (hs.2.2.2 57 (by decide) rfl).2.2.1 (hs.2.2.2 57 (by decide) rfl).2.2.2 hc ?_
  cases h
  exact e_vret dX13_bathes_192 rfl hQ
def F_X13_bathes_c118 (v1 : Int32) (v2 : Int32) (v5 : Int32) (s0 : Int32) (s1 : Int32) (s2 : Int32) (μ : p_M) : Option (Int32 × p_M) :=
  p_ok (¬ ((4 : Int32) + v2) < 0 ∧ ((4 : Int32) + v2).toNatClampNeg < 36)
  ((F_X13_in (mI μ (aM 40) ((4 : Int32) + v2).toNatClampNeg) (0 : Int32) ((mI μ tM 30) - (1 : Int32)) μ).bind fun q3 =>
  if q3.1 = 0
  then (F_X13_bathes_c182 v1 (sI (sI q3.2 tM 32 ((mI q3.2 tM 32) + v5)) tM 34 ((mI (sI q3.2 tM 32 ((mI q3.2 tM 32) + v5)) tM 34) + (s2 + (s1 * s0)))))
  else ((F_X13_pours (mI μ (aM 40) ((4 : Int32) + v2).toNatClampNeg) v5 (s2 + (s1 * s0)) q3.2).bind fun q4 =>
    F_X13_bathes_c182 v1 q4.2))
theorem P_X13_bathes_c118 {v1 : Int32} {v2 : Int32} {v5 : Int32} {s0 : Int32} {s1 : Int32} {s2 : Int32} {μ : p_M} {r : Int32 × p_M} (h : F_X13_bathes_c118 v1 v2 v5 s0 s1 s2 μ = some r) : Sm μ r.2 := by
  unfold F_X13_bathes_c118 at h
  obtain ⟨hc, h⟩ := p_ok_some h
  obtain ⟨q3, hq3, h⟩ := p_bd h
  by_cases hc : q3.1 = 0
  · rw [if_pos hc] at h
    exact Sm_trans (Sm_set (Sm_set (Sm_trans (Sm_refl μ) (P_X13_in (r := q3) hq3)) (by decide)) (by decide)) (P_X13_bathes_c182 h)
  · rw [if_neg hc] at h
    obtain ⟨q4, hq4, h⟩ := p_bd h
    exact Sm_trans (Sm_trans (Sm_trans (Sm_refl μ) (P_X13_in (r := q3) hq3)) (P_X13_pours (r := q4) hq4)) (P_X13_bathes_c182 h)
theorem E_X13_bathes_c118 {X : p_X} {d : Nat} {Q : p_R → Prop} {v1 : Int32} {v2 : Int32} {v5 : Int32} {s0 : Int32} {s1 : Int32} {s2 : Int32} {w3 : Value} {w4 : Value} {w6 : Value} {w7 : Value} {μ : p_M} {r : Int32 × p_M} (hs : ShM μ) (h : F_X13_bathes_c118 v1 v2 v5 s0 s1 s2 μ = some r) (hQ : Q ((0, none), r.2)) : p_Ev X (d + 2) M_X13_bathes 118 [.ref tM, .int v1, .int v2, w3, w4, .int v5, w6, w7] [.int s0, .int s1, .int s2] μ Q := by
  unfold F_X13_bathes_c118 at h
  refine e_imul dX13_bathes_118 ?_
  refine e_iadd dX13_bathes_119 ?_
  refine e_istore dX13_bathes_120 (Nat.le_of_ble_eq_true rfl) rfl ?_
  refine e_aload_n dX13_bathes_122 rfl ?_
  refine e_getR dX13_bathes_123 rfl rfl hs.1 hs.2.1 (hs.2.2.2 40 (by decide) rfl).1 ?_
  refine e_iconst (v := (4 : Int32)) dX13_bathes_126 rfl ?_
  refine e_iload_n dX13_bathes_127 rfl ?_
  refine e_iadd dX13_bathes_128 ?_
  obtain ⟨hc, h⟩ := p_ok_some h
  refine e_iald dX13_bathes_129 (Nat.lt_trans (hs.2.2.2 40 (by decide) rfl).2.2.2 hs.2.2.1) (hs.2.2.2 40 (by decide) rfl).2.1 (hs.2.2.2 40 (by decide) rfl).2.2.1 (hs.2.2.2 40 (by decide) rfl).2.2.2 hc ?_
  refine e_istore dX13_bathes_130 (Nat.le_of_ble_eq_true rfl) rfl ?_
  refine e_iload dX13_bathes_132 rfl ?_
  refine e_iconst (v := (0 : Int32)) dX13_bathes_134 rfl ?_
  refine e_aload_n dX13_bathes_135 rfl ?_
  refine e_getI dX13_bathes_136 rfl rfl hs.1 hs.2.1 ?_
  refine e_iconst (v := (1 : Int32)) dX13_bathes_139 rfl ?_
  refine e_isub dX13_bathes_140 ?_
  obtain ⟨q3, hq3, h⟩ := p_bd h
  refine e_cS dX13_bathes_141 rfl rfl rfl rfl (E_X13_in hs hq3 ⟨rfl, ?_⟩)
  have hs := ShM_of (P_X13_in hq3) hs
  show p_Ev X (d + 2) M_X13_bathes 144 [.ref tM, .int v1, .int v2, w3, w4, .int v5, .int (s2 + (s1 * s0)), .int (mI μ (aM 40) ((4 : Int32) + v2).toNatClampNeg)] [.int q3.1] q3.2 Q
  refine e_if_eq dX13_bathes_144 160 (by decide) (fun hc => ?_) (fun hc => ?_)
  · rw [if_pos hc] at h
    refine e_aload_n dX13_bathes_160 rfl ?_
    refine e_dupR dX13_bathes_161 ?_
    refine e_getI dX13_bathes_162 rfl rfl hs.1 hs.2.1 ?_
    refine e_iload dX13_bathes_165 rfl ?_
    refine e_iadd dX13_bathes_167 ?_
    refine e_putI dX13_bathes_168 rfl ⟨rfl, rfl, fun h => by cases h⟩ (fun h => by cases h) hs.1 hs.2.1 ?_
    refine e_aload_n dX13_bathes_171 rfl ?_
    refine e_dupR dX13_bathes_172 ?_
    refine e_getI dX13_bathes_173 rfl rfl hs.1 hs.2.1 ?_
    refine e_iload dX13_bathes_176 rfl ?_
    refine e_iadd dX13_bathes_178 ?_
    refine e_putI dX13_bathes_179 rfl ⟨rfl, rfl, fun h => by cases h⟩ (fun h => by cases h) hs.1 hs.2.1 ?_
    exact E_X13_bathes_c182 hs h hQ
  · rw [if_neg hc] at h
    refine e_aload_n dX13_bathes_147 rfl ?_
    refine e_iload dX13_bathes_148 rfl ?_
    refine e_iload dX13_bathes_150 rfl ?_
    refine e_iload dX13_bathes_152 rfl ?_
    obtain ⟨q4, hq4, h⟩ := p_bd h
    refine e_cV dX13_bathes_154 rfl rfl ⟨rfl, rfl, by decide⟩ rfl hs.1 hs.2.1 (E_X13_pours hs hq4 ⟨rfl, ?_⟩)
    have hs := ShM_of (P_X13_pours hq4) hs
    show p_Ev X (d + 2) M_X13_bathes 157 [.ref tM, .int v1, .int v2, w3, w4, .int v5, .int (s2 + (s1 * s0)), .int (mI μ (aM 40) ((4 : Int32) + v2).toNatClampNeg)] [] q4.2 Q
    refine e_goto dX13_bathes_157 182 (by decide) ?_
    exact E_X13_bathes_c182 hs h hQ
def F_X13_bathes (v1 : Int32) (μ : p_M) : Option (Int32 × p_M) :=
  p_ok (¬ v1 < 0 ∧ v1.toNatClampNeg < 40)
  (p_ok (¬ (((20 : Int32) * v1) + (mI μ (aM 57) v1.toNatClampNeg)) < 0 ∧ (((20 : Int32) * v1) + (mI μ (aM 57) v1.toNatClampNeg)).toNatClampNeg < 840)
  (p_ok (¬ v1 < 0 ∧ v1.toNatClampNeg < 40)
  (p_ok (¬ (((20 : Int32) * v1) + (mI μ (aM 57) v1.toNatClampNeg)) < 0 ∧ (((20 : Int32) * v1) + (mI μ (aM 57) v1.toNatClampNeg)).toNatClampNeg < 840)
  (p_ok (¬ v1 < 0 ∧ v1.toNatClampNeg < 40)
  (p_ok (¬ (8 : Int32) < 0 ∧ (8 : Int32).toNatClampNeg < 36)
  (p_ok (¬ (mI μ (aM 9) (((20 : Int32) * v1) + (mI μ (aM 57) v1.toNatClampNeg)).toNatClampNeg) < 0 ∧ (mI μ (aM 9) (((20 : Int32) * v1) + (mI μ (aM 57) v1.toNatClampNeg)).toNatClampNeg).toNatClampNeg < 36)
  ((F_X13_draws ((mI μ (aM 49) v1.toNatClampNeg) * (mI μ (aM 40) (8 : Int32).toNatClampNeg)) (mI μ (aM 40) (mI μ (aM 9) (((20 : Int32) * v1) + (mI μ (aM 57) v1.toNatClampNeg)).toNatClampNeg).toNatClampNeg) μ).bind fun q1 =>
  p_ok (¬ v1 < 0 ∧ v1.toNatClampNeg < 40)
  ((F_X13_does v1 (mI q1.2 (aM 48) v1.toNatClampNeg) (mI μ (aM 9) (((20 : Int32) * v1) + (mI μ (aM 57) v1.toNatClampNeg)).toNatClampNeg) (mI μ (aM 10) (((20 : Int32) * v1) + (mI μ (aM 57) v1.toNatClampNeg)).toNatClampNeg) q1.2).bind fun q2 =>
  if ¬ (mI μ (aM 9) (((20 : Int32) * v1) + (mI μ (aM 57) v1.toNatClampNeg)).toNatClampNeg) = 0
  then (if ¬ (mI μ (aM 9) (((20 : Int32) * v1) + (mI μ (aM 57) v1.toNatClampNeg)).toNatClampNeg) = (1 : Int32)
    then (if ¬ (mI μ (aM 9) (((20 : Int32) * v1) + (mI μ (aM 57) v1.toNatClampNeg)).toNatClampNeg) = (2 : Int32)
      then (F_X13_bathes_c118 v1 (mI μ (aM 9) (((20 : Int32) * v1) + (mI μ (aM 57) v1.toNatClampNeg)).toNatClampNeg) ((mI μ (aM 49) v1.toNatClampNeg) * (mI μ (aM 40) (8 : Int32).toNatClampNeg)) (1 : Int32) (mI μ (aM 49) v1.toNatClampNeg) (mI q2.2 tM 36) q2.2)
      else (F_X13_bathes_c118 v1 (mI μ (aM 9) (((20 : Int32) * v1) + (mI μ (aM 57) v1.toNatClampNeg)).toNatClampNeg) ((mI μ (aM 49) v1.toNatClampNeg) * (mI μ (aM 40) (8 : Int32).toNatClampNeg)) (((3 : Int32) * (mI μ (aM 10) (((20 : Int32) * v1) + (mI μ (aM 57) v1.toNatClampNeg)).toNatClampNeg)) + (5 : Int32)) (mI μ (aM 49) v1.toNatClampNeg) (mI q2.2 tM 36) q2.2))
    else (F_X13_bathes_c118 v1 (mI μ (aM 9) (((20 : Int32) * v1) + (mI μ (aM 57) v1.toNatClampNeg)).toNatClampNeg) ((mI μ (aM 49) v1.toNatClampNeg) * (mI μ (aM 40) (8 : Int32).toNatClampNeg)) ((2 : Int32) * (mI μ (aM 10) (((20 : Int32) * v1) + (mI μ (aM 57) v1.toNatClampNeg)).toNatClampNeg)) (mI μ (aM 49) v1.toNatClampNeg) (mI q2.2 tM 36) q2.2))
  else (F_X13_bathes_c118 v1 (mI μ (aM 9) (((20 : Int32) * v1) + (mI μ (aM 57) v1.toNatClampNeg)).toNatClampNeg) ((mI μ (aM 49) v1.toNatClampNeg) * (mI μ (aM 40) (8 : Int32).toNatClampNeg)) (mI μ (aM 10) (((20 : Int32) * v1) + (mI μ (aM 57) v1.toNatClampNeg)).toNatClampNeg) (mI μ (aM 49) v1.toNatClampNeg) (mI q2.2 tM 36) q2.2)))))))))
theorem P_X13_bathes {v1 : Int32} {μ : p_M} {r : Int32 × p_M} (h : F_X13_bathes v1 μ = some r) : Sm μ r.2 := by
  unfold F_X13_bathes at h
  obtain ⟨hc, h⟩ := p_ok_some h
  obtain ⟨hc, h⟩ := p_ok_some h
  obtain ⟨hc, h⟩ := p_ok_some h
  obtain ⟨hc, h⟩ := p_ok_some h
  obtain ⟨hc, h⟩ := p_ok_some h
  obtain ⟨hc, h⟩ := p_ok_some h
  obtain ⟨hc, h⟩ := p_ok_some h
  obtain ⟨q1, hq1, h⟩ := p_bd h
  obtain ⟨hc, h⟩ := p_ok_some h
  obtain ⟨q2, hq2, h⟩ := p_bd h
  by_cases hc : ¬ (mI μ (aM 9) (((20 : Int32) * v1) + (mI μ (aM 57) v1.toNatClampNeg)).toNatClampNeg) = 0
  · rw [if_pos hc] at h
    by_cases hc : ¬ (mI μ (aM 9) (((20 : Int32) * v1) + (mI μ (aM 57) v1.toNatClampNeg)).toNatClampNeg) = (1 : Int32)
    · rw [if_pos hc] at h
      by_cases hc : ¬ (mI μ (aM 9) (((20 : Int32) * v1) + (mI μ (aM 57) v1.toNatClampNeg)).toNatClampNeg) = (2 : Int32)
      · rw [if_pos hc] at h
        exact Sm_trans (Sm_trans (Sm_trans (Sm_refl μ) (P_X13_draws (r := q1) hq1)) (P_X13_does (r := q2) hq2)) (P_X13_bathes_c118 h)
      · rw [if_neg hc] at h
        exact Sm_trans (Sm_trans (Sm_trans (Sm_refl μ) (P_X13_draws (r := q1) hq1)) (P_X13_does (r := q2) hq2)) (P_X13_bathes_c118 h)
    · rw [if_neg hc] at h
      exact Sm_trans (Sm_trans (Sm_trans (Sm_refl μ) (P_X13_draws (r := q1) hq1)) (P_X13_does (r := q2) hq2)) (P_X13_bathes_c118 h)
  · rw [if_neg hc] at h
    exact Sm_trans (Sm_trans (Sm_trans (Sm_refl μ) (P_X13_draws (r := q1) hq1)) (P_X13_does (r := q2) hq2)) (P_X13_bathes_c118 h)
theorem E_X13_bathes {X : p_X} {d : Nat} {Q : p_R → Prop} {v1 : Int32} {μ : p_M} {r : Int32 × p_M} (hs : ShM μ) (h : F_X13_bathes v1 μ = some r) (hQ : Q ((0, none), r.2)) : p_Ev X (d + 2) M_X13_bathes 0 [.ref tM, .int v1, .double 0, .double 0, .double 0, .double 0, .double 0, .double 0] [] μ Q := by
  unfold F_X13_bathes at h
  refine e_aload_n dX13_bathes_0 rfl ?_
  refine e_getR dX13_bathes_1 rfl rfl hs.1 hs.2.1 (hs.2.2.2 9 (by decide) rfl).1 ?_
  refine e_bipush (v := (20 : Int32)) dX13_bathes_4 rfl ?_
  refine e_iload_n dX13_bathes_6 rfl ?_
  refine e_imul dX13_bathes_7 ?_
  refine e_aload_n dX13_bathes_8 rfl ?_
  refine e_getR dX13_bathes_9 rfl rfl hs.1 hs.2.1 (hs.2.2.2 57 (by decide) rfl).1 ?_
  refine e_iload_n dX13_bathes_12 rfl ?_
  obtain ⟨hc, h⟩ := p_ok_some h
  refine e_iald dX13_bathes_13 (Nat.lt_trans (hs.2.2.2 57 (by decide) rfl).2.2.2 hs.2.2.1) (hs.2.2.2 57 (by decide) rfl).2.1 (hs.2.2.2 57 (by decide) rfl).2.2.1 (hs.2.2.2 57 (by decide) rfl).2.2.2 hc ?_
  refine e_iadd dX13_bathes_14 ?_
  obtain ⟨hc, h⟩ := p_ok_some h
  refine e_iald dX13_bathes_15 (Nat.lt_trans (hs.2.2.2 9 (by decide) rfl).2.2.2 hs.2.2.1) (hs.2.2.2 9 (by decide) rfl).2.1 (hs.2.2.2 9 (by decide) rfl).2.2.1 (hs.2.2.2 9 (by decide) rfl).2.2.2 hc ?_
  refine e_istore_n dX13_bathes_16 (Nat.le_of_ble_eq_true rfl) rfl ?_
  refine e_aload_n dX13_bathes_17 rfl ?_
  refine e_getR dX13_bathes_18 rfl rfl hs.1 hs.2.1 (hs.2.2.2 10 (by decide) rfl).1 ?_
  refine e_bipush (v := (20 : Int32)) dX13_bathes_21 rfl ?_
  refine e_iload_n dX13_bathes_23 rfl ?_
  refine e_imul dX13_bathes_24 ?_
  refine e_aload_n dX13_bathes_25 rfl ?_
  refine e_getR dX13_bathes_26 rfl rfl hs.1 hs.2.1 (hs.2.2.2 57 (by decide) rfl).1 ?_
  refine e_iload_n dX13_bathes_29 rfl ?_
  obtain ⟨hc, h⟩ := p_ok_some h
  refine e_iald dX13_bathes_30 (Nat.lt_trans (hs.2.2.2 57 (by decide) rfl).2.2.2 hs.2.2.1) (hs.2.2.2 57 (by decide) rfl).2.1 (hs.2.2.2 57 (by decide) rfl).2.2.1 (hs.2.2.2 57 (by decide) rfl).2.2.2 hc ?_
  refine e_iadd dX13_bathes_31 ?_
  obtain ⟨hc, h⟩ := p_ok_some h
  refine e_iald dX13_bathes_32 (Nat.lt_trans (hs.2.2.2 10 (by decide) rfl).2.2.2 hs.2.2.1) (hs.2.2.2 10 (by decide) rfl).2.1 (hs.2.2.2 10 (by decide) rfl).2.2.1 (hs.2.2.2 10 (by decide) rfl).2.2.2 hc ?_
  refine e_istore_n dX13_bathes_33 (Nat.le_of_ble_eq_true rfl) rfl ?_
  refine e_aload_n dX13_bathes_34 rfl ?_
  refine e_getR dX13_bathes_35 rfl rfl hs.1 hs.2.1 (hs.2.2.2 49 (by decide) rfl).1 ?_
  refine e_iload_n dX13_bathes_38 rfl ?_
  obtain ⟨hc, h⟩ := p_ok_some h
  refine e_iald dX13_bathes_39 (Nat.lt_trans (hs.2.2.2 49 (by decide) rfl).2.2.2 hs.2.2.1) (hs.2.2.2 49 (by decide) rfl).2.1 (hs.2.2.2 49 (by decide) rfl).2.2.1 (hs.2.2.2 49 (by decide) rfl).2.2.2 hc ?_
  refine e_istore dX13_bathes_40 (Nat.le_of_ble_eq_true rfl) rfl ?_
  refine e_iload dX13_bathes_42 rfl ?_
  refine e_aload_n dX13_bathes_44 rfl ?_
  refine e_getR dX13_bathes_45 rfl rfl hs.1 hs.2.1 (hs.2.2.2 40 (by decide) rfl).1 ?_
  refine e_bipush (v := (8 : Int32)) dX13_bathes_48 rfl ?_
  obtain ⟨hc, h⟩ := p_ok_some h
  refine e_iald dX13_bathes_50 (Nat.lt_trans (hs.2.2.2 40 (by decide) rfl).2.2.2 hs.2.2.1) (hs.2.2.2 40 (by decide) rfl).2.1 (hs.2.2.2 40 (by decide) rfl).2.2.1 (hs.2.2.2 40 (by decide) rfl).2.2.2 hc ?_
  refine e_imul dX13_bathes_51 ?_
  refine e_istore dX13_bathes_52 (Nat.le_of_ble_eq_true rfl) rfl ?_
  refine e_aload_n dX13_bathes_54 rfl ?_
  refine e_iload dX13_bathes_55 rfl ?_
  refine e_aload_n dX13_bathes_57 rfl ?_
  refine e_getR dX13_bathes_58 rfl rfl hs.1 hs.2.1 (hs.2.2.2 40 (by decide) rfl).1 ?_
  refine e_iload_n dX13_bathes_61 rfl ?_
  obtain ⟨hc, h⟩ := p_ok_some h
  refine e_iald dX13_bathes_62 (Nat.lt_trans (hs.2.2.2 40 (by decide) rfl).2.2.2 hs.2.2.1) (hs.2.2.2 40 (by decide) rfl).2.1 (hs.2.2.2 40 (by decide) rfl).2.2.1 (hs.2.2.2 40 (by decide) rfl).2.2.2 hc ?_
  obtain ⟨q1, hq1, h⟩ := p_bd h
  refine e_cV dX13_bathes_63 rfl rfl ⟨rfl, rfl, by decide⟩ rfl hs.1 hs.2.1 (E_X13_draws hs hq1 ⟨rfl, ?_⟩)
  have hs := ShM_of (P_X13_draws hq1) hs
  show p_Ev X (d + 2) M_X13_bathes 66 [.ref tM, .int v1, .int (mI μ (aM 9) (((20 : Int32) * v1) + (mI μ (aM 57) v1.toNatClampNeg)).toNatClampNeg), .int (mI μ (aM 10) (((20 : Int32) * v1) + (mI μ (aM 57) v1.toNatClampNeg)).toNatClampNeg), .int (mI μ (aM 49) v1.toNatClampNeg), .int ((mI μ (aM 49) v1.toNatClampNeg) * (mI μ (aM 40) (8 : Int32).toNatClampNeg)), .double 0, .double 0] [] q1.2 Q
  refine e_aload_n dX13_bathes_66 rfl ?_
  refine e_iload_n dX13_bathes_67 rfl ?_
  refine e_aload_n dX13_bathes_68 rfl ?_
  refine e_getR dX13_bathes_69 rfl rfl hs.1 hs.2.1 (hs.2.2.2 48 (by decide) rfl).1 ?_
  refine e_iload_n dX13_bathes_72 rfl ?_
  obtain ⟨hc, h⟩ := p_ok_some h
  refine e_iald dX13_bathes_73 (Nat.lt_trans (hs.2.2.2 48 (by decide) rfl).2.2.2 hs.2.2.1) (hs.2.2.2 48 (by decide) rfl).2.1 (hs.2.2.2 48 (by decide) rfl).2.2.1 (hs.2.2.2 48 (by decide) rfl).2.2.2 hc ?_
  refine e_iload_n dX13_bathes_74 rfl ?_
  refine e_iload_n dX13_bathes_75 rfl ?_
  obtain ⟨q2, hq2, h⟩ := p_bd h
  refine e_cV dX13_bathes_76 rfl rfl ⟨rfl, rfl, by decide⟩ rfl hs.1 hs.2.1 (E_X13_does hs hq2 ⟨rfl, ?_⟩)
  have hs := ShM_of (P_X13_does hq2) hs
  show p_Ev X (d + 2) M_X13_bathes 79 [.ref tM, .int v1, .int (mI μ (aM 9) (((20 : Int32) * v1) + (mI μ (aM 57) v1.toNatClampNeg)).toNatClampNeg), .int (mI μ (aM 10) (((20 : Int32) * v1) + (mI μ (aM 57) v1.toNatClampNeg)).toNatClampNeg), .int (mI μ (aM 49) v1.toNatClampNeg), .int ((mI μ (aM 49) v1.toNatClampNeg) * (mI μ (aM 40) (8 : Int32).toNatClampNeg)), .double 0, .double 0] [] q2.2 Q
  refine e_aload_n dX13_bathes_79 rfl ?_
  refine e_getI dX13_bathes_80 rfl rfl hs.1 hs.2.1 ?_
  refine e_iload dX13_bathes_83 rfl ?_
  refine e_iload_n dX13_bathes_85 rfl ?_
  refine e_if_ne dX13_bathes_86 93 (by decide) (fun hc => ?_) (fun hc => ?_)
  · rw [if_pos hc] at h
    refine e_iload_n dX13_bathes_93 rfl ?_
    refine e_iconst (v := (1 : Int32)) dX13_bathes_94 rfl ?_
    refine e_ic_ne dX13_bathes_95 104 (by decide) (fun hc => ?_) (fun hc => ?_)
    · rw [if_pos hc] at h
      refine e_iload_n dX13_bathes_104 rfl ?_
      refine e_iconst (v := (2 : Int32)) dX13_bathes_105 rfl ?_
      refine e_ic_ne dX13_bathes_106 117 (by decide) (fun hc => ?_) (fun hc => ?_)
      · rw [if_pos hc] at h
        refine e_iconst (v := (1 : Int32)) dX13_bathes_117 rfl ?_
        exact E_X13_bathes_c118 hs h hQ
      · rw [if_neg hc] at h
        refine e_iconst (v := (3 : Int32)) dX13_bathes_109 rfl ?_
        refine e_iload_n dX13_bathes_110 rfl ?_
        refine e_imul dX13_bathes_111 ?_
        refine e_iconst (v := (5 : Int32)) dX13_bathes_112 rfl ?_
        refine e_iadd dX13_bathes_113 ?_
        refine e_goto dX13_bathes_114 118 (by decide) ?_
        exact E_X13_bathes_c118 hs h hQ
    · rw [if_neg hc] at h
      refine e_iconst (v := (2 : Int32)) dX13_bathes_98 rfl ?_
      refine e_iload_n dX13_bathes_99 rfl ?_
      refine e_imul dX13_bathes_100 ?_
      refine e_goto dX13_bathes_101 118 (by decide) ?_
      exact E_X13_bathes_c118 hs h hQ
  · rw [if_neg hc] at h
    refine e_iload_n dX13_bathes_89 rfl ?_
    refine e_goto dX13_bathes_90 118 (by decide) ?_
    exact E_X13_bathes_c118 hs h hQ
/-! X13_isAt -/
def F_X13_isAt_c42 (s0 : Int32) (μ : p_M) : Option (Int32 × p_M) :=
  p_ok (s0 = 0 ∨ s0 = 1) (some (s0, μ))
theorem P_X13_isAt_c42 {s0 : Int32} {μ : p_M} {r : Int32 × p_M} (h : F_X13_isAt_c42 s0 μ = some r) : Sm μ r.2 := by
  unfold F_X13_isAt_c42 at h
  obtain ⟨hc, h⟩ := p_ok_some h
  cases h
  exact (Sm_refl μ)
theorem E_X13_isAt_c42 {X : p_X} {d : Nat} {Q : p_R → Prop} {s0 : Int32} {w0 : Value} {w1 : Value} {w2 : Value} {μ : p_M} {r : Int32 × p_M} (hs : ShM μ) (h : F_X13_isAt_c42 s0 μ = some r) (hQ : Q ((0, some (.int r.1)), r.2)) : p_Ev X (d + 0) M_X13_isAt 42 [w0, w1, w2] [.int s0] μ Q := by
  unfold F_X13_isAt_c42 at h
  obtain ⟨hc, h⟩ := p_ok_some h
  cases h
  exact e_iretz dX13_isAt_42 rfl hc hQ
def F_X13_isAt_c41 (μ : p_M) : Option (Int32 × p_M) :=
  F_X13_isAt_c42 (0 : Int32) μ
theorem P_X13_isAt_c41 {μ : p_M} {r : Int32 × p_M} (h : F_X13_isAt_c41 μ = some r) : Sm μ r.2 := by
  unfold F_X13_isAt_c41 at h
  exact Sm_trans (Sm_refl μ) (P_X13_isAt_c42 h)
theorem E_X13_isAt_c41 {X : p_X} {d : Nat} {Q : p_R → Prop} {w0 : Value} {w1 : Value} {w2 : Value} {μ : p_M} {r : Int32 × p_M} (hs : ShM μ) (h : F_X13_isAt_c41 μ = some r) (hQ : Q ((0, some (.int r.1)), r.2)) : p_Ev X (d + 0) M_X13_isAt 41 [w0, w1, w2] [] μ Q := by
  unfold F_X13_isAt_c41 at h
  refine e_iconst (v := (0 : Int32)) dX13_isAt_41 rfl ?_
  exact E_X13_isAt_c42 hs h hQ
def F_X13_isAt (v1 : Int32) (v2 : Int32) (μ : p_M) : Option (Int32 × p_M) :=
  if (mI μ tM 4) ≤ (mI μ tM 3)
  then (F_X13_isAt_c41 μ)
  else (p_ok (¬ (mI μ tM 3) < 0 ∧ (mI μ tM 3).toNatClampNeg < 400)
    (if (mI μ (aM 1) (mI μ tM 3).toNatClampNeg) < v1
    then (F_X13_isAt_c41 μ)
    else (p_ok (¬ (mI μ tM 3) < 0 ∧ (mI μ tM 3).toNatClampNeg < 400)
      (if v2 < (mI μ (aM 1) (mI μ tM 3).toNatClampNeg)
      then (F_X13_isAt_c41 μ)
      else (F_X13_isAt_c42 (1 : Int32) μ)))))
theorem P_X13_isAt {v1 : Int32} {v2 : Int32} {μ : p_M} {r : Int32 × p_M} (h : F_X13_isAt v1 v2 μ = some r) : Sm μ r.2 := by
  unfold F_X13_isAt at h
  by_cases hc : (mI μ tM 4) ≤ (mI μ tM 3)
  · rw [if_pos hc] at h
    exact Sm_trans (Sm_refl μ) (P_X13_isAt_c41 h)
  · rw [if_neg hc] at h
    obtain ⟨hc, h⟩ := p_ok_some h
    by_cases hc : (mI μ (aM 1) (mI μ tM 3).toNatClampNeg) < v1
    · rw [if_pos hc] at h
      exact Sm_trans (Sm_refl μ) (P_X13_isAt_c41 h)
    · rw [if_neg hc] at h
      obtain ⟨hc, h⟩ := p_ok_some h
      by_cases hc : v2 < (mI μ (aM 1) (mI μ tM 3).toNatClampNeg)
      · rw [if_pos hc] at h
        exact Sm_trans (Sm_refl μ) (P_X13_isAt_c41 h)
      · rw [if_neg hc] at h
        exact Sm_trans (Sm_refl μ) (P_X13_isAt_c42 h)
theorem E_X13_isAt {X : p_X} {d : Nat} {Q : p_R → Prop} {v1 : Int32} {v2 : Int32} {μ : p_M} {r : Int32 × p_M} (hs : ShM μ) (h : F_X13_isAt v1 v2 μ = some r) (hQ : Q ((0, some (.int r.1)), r.2)) : p_Ev X (d + 0) M_X13_isAt 0 [.ref tM, .int v1, .int v2] [] μ Q := by
  unfold F_X13_isAt at h
  refine e_aload_n dX13_isAt_0 rfl ?_
  refine e_getI dX13_isAt_1 rfl rfl hs.1 hs.2.1 ?_
  refine e_aload_n dX13_isAt_4 rfl ?_
  refine e_getI dX13_isAt_5 rfl rfl hs.1 hs.2.1 ?_
  refine e_ic_ge dX13_isAt_8 41 (by decide) (fun hc => ?_) (fun hc => ?_)
  · rw [if_pos hc] at h
    exact E_X13_isAt_c41 hs h hQ
  · rw [if_neg hc] at h
    refine e_aload_n dX13_isAt_11 rfl ?_
    refine e_getR dX13_isAt_12 rfl rfl hs.1 hs.2.1 (hs.2.2.2 1 (by decide) rfl).1 ?_
    refine e_aload_n dX13_isAt_15 rfl ?_
    refine e_getI dX13_isAt_16 rfl rfl hs.1 hs.2.1 ?_
    obtain ⟨hc, h⟩ := p_ok_some h
    refine e_bald dX13_isAt_19 (Nat.lt_trans (hs.2.2.2 1 (by decide) rfl).2.2.2 hs.2.2.1) (hs.2.2.2 1 (by decide) rfl).2.1 (hs.2.2.2 1 (by decide) rfl).2.2.1 (hs.2.2.2 1 (by decide) rfl).2.2.2 hc ?_
    refine e_iload_n dX13_isAt_20 rfl ?_
    refine e_ic_lt dX13_isAt_21 41 (by decide) (fun hc => ?_) (fun hc => ?_)
    · rw [if_pos hc] at h
      exact E_X13_isAt_c41 hs h hQ
    · rw [if_neg hc] at h
      refine e_aload_n dX13_isAt_24 rfl ?_
      refine e_getR dX13_isAt_25 rfl rfl hs.1 hs.2.1 (hs.2.2.2 1 (by decide) rfl).1 ?_
      refine e_aload_n dX13_isAt_28 rfl ?_
      refine e_getI dX13_isAt_29 rfl rfl hs.1 hs.2.1 ?_
      obtain ⟨hc, h⟩ := p_ok_some h
      refine e_bald dX13_isAt_32 (Nat.lt_trans (hs.2.2.2 1 (by decide) rfl).2.2.2 hs.2.2.1) (hs.2.2.2 1 (by decide) rfl).2.1 (hs.2.2.2 1 (by decide) rfl).2.2.1 (hs.2.2.2 1 (by decide) rfl).2.2.2 hc ?_
      refine e_iload_n dX13_isAt_33 rfl ?_
      refine e_ic_gt dX13_isAt_34 41 (by decide) (fun hc => ?_) (fun hc => ?_)
      · rw [if_pos hc] at h
        exact E_X13_isAt_c41 hs h hQ
      · rw [if_neg hc] at h
        refine e_iconst (v := (1 : Int32)) dX13_isAt_37 rfl ?_
        refine e_goto dX13_isAt_38 42 (by decide) ?_
        exact E_X13_isAt_c42 hs h hQ
/-! X13_blanks -/
def F_X13_blanks_c0 : Nat → p_M → Option (Int32 × p_M)
  | 0, _ => none
  | n + 1, μ =>
    (F_X13_isAt (32 : Int32) (32 : Int32) μ).bind fun q1 =>
    if q1.1 = 0
    then (some (0, (sI q1.2 tM 5 (mI q1.2 tM 3))))
    else (F_X13_blanks_c0 n (sI q1.2 tM 3 ((mI q1.2 tM 3) + (1 : Int32))))
theorem P_X13_blanks_c0 : ∀ (n : Nat) (μ : p_M) (r : Int32 × p_M), F_X13_blanks_c0 n μ = some r → Sm μ r.2 := by
  intro n
  induction n with
  | zero => intro μ r h; rw [F_X13_blanks_c0] at h; cases h
  | succ n ih =>
    intro μ r h
    rw [F_X13_blanks_c0] at h
    obtain ⟨q1, hq1, h⟩ := p_bd h
    by_cases hc : q1.1 = 0
    · rw [if_pos hc] at h
      cases h
      exact (Sm_set (Sm_trans (Sm_refl μ) (P_X13_isAt (r := q1) hq1)) (by decide))
    · rw [if_neg hc] at h
      exact Sm_trans (Sm_set (Sm_trans (Sm_refl μ) (P_X13_isAt (r := q1) hq1)) (by decide)) (ih _ _ h)
theorem E_X13_blanks_c0 {X : p_X} {d : Nat} {Q : p_R → Prop} : ∀ (n : Nat) (μ : p_M) (r : Int32 × p_M), ShM μ → F_X13_blanks_c0 n μ = some r → Q ((0, none), r.2) → p_Ev X (d + 1) M_X13_blanks 0 [.ref tM] [] μ Q := by
  intro n
  induction n with
  | zero => intro μ r hs h hQ; rw [F_X13_blanks_c0] at h; cases h
  | succ n ih =>
    intro μ r hs h hQ
    rw [F_X13_blanks_c0] at h
    refine e_aload_n dX13_blanks_0 rfl ?_
    refine e_bipush (v := (32 : Int32)) dX13_blanks_1 rfl ?_
    refine e_bipush (v := (32 : Int32)) dX13_blanks_3 rfl ?_
    obtain ⟨q1, hq1, h⟩ := p_bd h
    refine e_cV dX13_blanks_5 rfl rfl ⟨rfl, rfl, by decide⟩ rfl hs.1 hs.2.1 (E_X13_isAt hs hq1 ⟨rfl, ?_⟩)
    have hs := ShM_of (P_X13_isAt hq1) hs
    show p_Ev X (d + 1) M_X13_blanks 8 [.ref tM] [.int q1.1] q1.2 Q
    refine e_if_eq dX13_blanks_8 24 (by decide) (fun hc => ?_) (fun hc => ?_)
    · rw [if_pos hc] at h
      refine e_aload_n dX13_blanks_24 rfl ?_
      refine e_aload_n dX13_blanks_25 rfl ?_
      refine e_getI dX13_blanks_26 rfl rfl hs.1 hs.2.1 ?_
      refine e_putI dX13_blanks_29 rfl ⟨rfl, rfl, fun h => by cases h⟩ (fun h => by cases h) hs.1 hs.2.1 ?_
      cases h
      exact e_vret dX13_blanks_32 rfl hQ
    · rw [if_neg hc] at h
      refine e_aload_n dX13_blanks_11 rfl ?_
      refine e_dupR dX13_blanks_12 ?_
      refine e_getI dX13_blanks_13 rfl rfl hs.1 hs.2.1 ?_
      refine e_iconst (v := (1 : Int32)) dX13_blanks_16 rfl ?_
      refine e_iadd dX13_blanks_17 ?_
      refine e_putI dX13_blanks_18 rfl ⟨rfl, rfl, fun h => by cases h⟩ (fun h => by cases h) hs.1 hs.2.1 ?_
      refine e_goto dX13_blanks_21 0 (by decide) ?_
      exact ih _ _ hs h hQ
def F_X13_blanks (μ : p_M) : Option (Int32 × p_M) :=
  F_X13_blanks_c0 p_fu μ
theorem P_X13_blanks {μ : p_M} {r : Int32 × p_M} (h : F_X13_blanks μ = some r) : Sm μ r.2 := by
  unfold F_X13_blanks at h
  exact Sm_trans (Sm_refl μ) (P_X13_blanks_c0 p_fu _ _ h)
theorem E_X13_blanks {X : p_X} {d : Nat} {Q : p_R → Prop} {μ : p_M} {r : Int32 × p_M} (hs : ShM μ) (h : F_X13_blanks μ = some r) (hQ : Q ((0, none), r.2)) : p_Ev X (d + 1) M_X13_blanks 0 [.ref tM] [] μ Q := by
  unfold F_X13_blanks at h
  exact E_X13_blanks_c0 p_fu _ _ hs h hQ
/-! X13_burn -/
def F_X13_burn_c58 (μ : p_M) : Option (Int32 × p_M) :=
  some (0, μ)
theorem P_X13_burn_c58 {μ : p_M} {r : Int32 × p_M} (h : F_X13_burn_c58 μ = some r) : Sm μ r.2 := by
  unfold F_X13_burn_c58 at h
  cases h
  exact (Sm_refl μ)
theorem E_X13_burn_c58 {X : p_X} {d : Nat} {Q : p_R → Prop} {w0 : Value} {w1 : Value} {w2 : Value} {w3 : Value} {w4 : Value} {w5 : Value} {w6 : Value} {μ : p_M} {r : Int32 × p_M} (hs : ShM μ) (h : F_X13_burn_c58 μ = some r) (hQ : Q ((0, none), r.2)) : p_Ev X (d + 1) M_X13_burn 58 [w0, w1, w2, w3, w4, w5, w6] [] μ Q := by
  unfold F_X13_burn_c58 at h
  cases h
  exact e_vret dX13_burn_58 rfl hQ
def F_X13_burn_c72 (K62 : Int32 → Int32 → Int32 → Int32 → p_M → Option (Int32 × p_M)) : Nat → Int32 → Int32 → Int32 → Int32 → Int32 → p_M → Option (Int32 × p_M)
  | 0, _, _, _, _, _, _ => none
  | n + 1, v1, v2, v3, v4, v5, μ =>
    if (12 : Int32) ≤ v5
    then (K62 v1 v2 v3 (v4 + (1 : Int32)) μ)
    else (p_ok (¬ (((12 : Int32) * (((8 : Int32) * v1) + v4)) + v5) < 0 ∧ (((12 : Int32) * (((8 : Int32) * v1) + v4)) + v5).toNatClampNeg < 192)
      (p_ok (¬ (mI μ tM 77) = 0)
      (p_ok (¬ (mI μ tM 76) = 0)
      (p_ok (¬ (((6 : Int32) * (p_fm (v4 - v3) (mI μ tM 77))) + (p_fm (v5 - v2) (mI μ tM 76))) < 0 ∧ (((6 : Int32) * (p_fm (v4 - v3) (mI μ tM 77))) + (p_fm (v5 - v2) (mI μ tM 76))).toNatClampNeg < 24)
      (p_ok (¬ (((12 : Int32) * (((8 : Int32) * v1) + v4)) + v5) < 0 ∧ (((12 : Int32) * (((8 : Int32) * v1) + v4)) + v5).toNatClampNeg < 192)
      (F_X13_burn_c72 K62 n v1 v2 v3 v4 (v5 + (1 : Int32)) (sI μ (aM 79) (((12 : Int32) * (((8 : Int32) * v1) + v4)) + v5).toNatClampNeg (if ((mI μ (aM 79) (((12 : Int32) * (((8 : Int32) * v1) + v4)) + v5).toNatClampNeg) + (mI μ (aM 78) (((6 : Int32) * (p_fm (v4 - v3) (mI μ tM 77))) + (p_fm (v5 - v2) (mI μ tM 76))).toNatClampNeg)) < (99 : Int32) then ((mI μ (aM 79) (((12 : Int32) * (((8 : Int32) * v1) + v4)) + v5).toNatClampNeg) + (mI μ (aM 78) (((6 : Int32) * (p_fm (v4 - v3) (mI μ tM 77))) + (p_fm (v5 - v2) (mI μ tM 76))).toNatClampNeg)) else (99 : Int32)))))))))
theorem P_X13_burn_c72 {K62 : Int32 → Int32 → Int32 → Int32 → p_M → Option (Int32 × p_M)} (hP62 : ∀ (v1 : Int32) (v2 : Int32) (v3 : Int32) (v4 : Int32) (μ : p_M) (r : Int32 × p_M), K62 v1 v2 v3 v4 μ = some r → Sm μ r.2) : ∀ (n : Nat) (v1 : Int32) (v2 : Int32) (v3 : Int32) (v4 : Int32) (v5 : Int32) (μ : p_M) (r : Int32 × p_M), F_X13_burn_c72 K62 n v1 v2 v3 v4 v5 μ = some r → Sm μ r.2 := by
  intro n
  induction n with
  | zero => intro v1 v2 v3 v4 v5 μ r h; rw [F_X13_burn_c72] at h; cases h
  | succ n ih =>
    intro v1 v2 v3 v4 v5 μ r h
    rw [F_X13_burn_c72] at h
    by_cases hc : (12 : Int32) ≤ v5
    · rw [if_pos hc] at h
      exact Sm_trans (Sm_refl μ) (hP62 _ _ _ _ _ _ h)
    · rw [if_neg hc] at h
      obtain ⟨hc, h⟩ := p_ok_some h
      obtain ⟨hc, h⟩ := p_ok_some h
      obtain ⟨hc, h⟩ := p_ok_some h
      obtain ⟨hc, h⟩ := p_ok_some h
      obtain ⟨hc, h⟩ := p_ok_some h
      exact Sm_trans (Sm_set (Sm_refl μ) (by decide)) (ih _ _ _ _ _ _ _ h)
theorem E_X13_burn_c72 {X : p_X} {d : Nat} {Q : p_R → Prop} {K62 : Int32 → Int32 → Int32 → Int32 → p_M → Option (Int32 × p_M)} (hK62 : ∀ (v1 : Int32) (v2 : Int32) (v3 : Int32) (v4 : Int32) (μ : p_M) (r : Int32 × p_M) (w5 : Value) (w6 : Value), ShM μ → K62 v1 v2 v3 v4 μ = some r → Q ((0, none), r.2) → p_Ev X (d + 1) M_X13_burn 62 [.ref tM, .int v1, .int v2, .int v3, .int v4, w5, w6] [] μ Q) : ∀ (n : Nat) (v1 : Int32) (v2 : Int32) (v3 : Int32) (v4 : Int32) (v5 : Int32) (μ : p_M) (r : Int32 × p_M) (w6 : Value), ShM μ → F_X13_burn_c72 K62 n v1 v2 v3 v4 v5 μ = some r → Q ((0, none), r.2) → p_Ev X (d + 1) M_X13_burn 72 [.ref tM, .int v1, .int v2, .int v3, .int v4, .int v5, w6] [] μ Q := by
  intro n
  induction n with
  | zero => intro v1 v2 v3 v4 v5 μ r w6 hs h hQ; rw [F_X13_burn_c72] at h; cases h
  | succ n ih =>
    intro v1 v2 v3 v4 v5 μ r w6 hs h hQ
    rw [F_X13_burn_c72] at h
    refine e_iload dX13_burn_72 rfl ?_
    refine e_bipush (v := (12 : Int32)) dX13_burn_74 rfl ?_
    refine e_ic_ge dX13_burn_76 151 (by decide) (fun hc => ?_) (fun hc => ?_)
    · rw [if_pos hc] at h
      refine e_iinc (v := (1 : Int32)) dX13_burn_151 rfl rfl rfl ?_
      refine e_goto dX13_burn_154 62 (by decide) ?_
      exact hK62 _ _ _ _ _ _ _ _ hs h hQ
    · rw [if_neg hc] at h
      refine e_bipush (v := (12 : Int32)) dX13_burn_79 rfl ?_
      refine e_bipush (v := (8 : Int32)) dX13_burn_81 rfl ?_
      refine e_iload_n dX13_burn_83 rfl ?_
      refine e_imul dX13_burn_84 ?_
      refine e_iload dX13_burn_85 rfl ?_
      refine e_iadd dX13_burn_87 ?_
      refine e_imul dX13_burn_88 ?_
      refine e_iload dX13_burn_89 rfl ?_
      refine e_iadd dX13_burn_91 ?_
      refine e_istore dX13_burn_92 (Nat.le_of_ble_eq_true rfl) rfl ?_
      refine e_aload_n dX13_burn_94 rfl ?_
      refine e_getR dX13_burn_95 rfl rfl hs.1 hs.2.1 (hs.2.2.2 79 (by decide) rfl).1 ?_
      refine e_iload dX13_burn_98 rfl ?_
      refine e_bipush (v := (99 : Int32)) dX13_burn_100 rfl ?_
      refine e_aload_n dX13_burn_102 rfl ?_
      refine e_getR dX13_burn_103 rfl rfl hs.1 hs.2.1 (hs.2.2.2 79 (by decide) rfl).1 ?_
      refine e_iload dX13_burn_106 rfl ?_
      obtain ⟨hc, h⟩ := p_ok_some h
      refine e_iald dX13_burn_108 (Nat.lt_trans (hs.2.2.2 79 (by decide) rfl).2.2.2 hs.2.2.1) (hs.2.2.2 79 (by decide) rfl).2.1 (hs.2.2.2 79 (by decide) rfl).2.2.1 (hs.2.2.2 79 (by decide) rfl).2.2.2 hc ?_
      refine e_aload_n dX13_burn_109 rfl ?_
      refine e_getR dX13_burn_110 rfl rfl hs.1 hs.2.1 (hs.2.2.2 78 (by decide) rfl).1 ?_
      refine e_bipush (v := (6 : Int32)) dX13_burn_113 rfl ?_
      refine e_iload dX13_burn_115 rfl ?_
      refine e_iload_n dX13_burn_117 rfl ?_
      refine e_isub dX13_burn_118 ?_
      refine e_aload_n dX13_burn_119 rfl ?_
      refine e_getI dX13_burn_120 rfl rfl hs.1 hs.2.1 ?_
      obtain ⟨hc, h⟩ := p_ok_some h
      refine e_fm dX13_burn_123 rfl (Nat.le_of_ble_eq_true rfl) hc ?_
      refine e_imul dX13_burn_126 ?_
      refine e_iload dX13_burn_127 rfl ?_
      refine e_iload_n dX13_burn_129 rfl ?_
      refine e_isub dX13_burn_130 ?_
      refine e_aload_n dX13_burn_131 rfl ?_
      refine e_getI dX13_burn_132 rfl rfl hs.1 hs.2.1 ?_
      obtain ⟨hc, h⟩ := p_ok_some h
      refine e_fm dX13_burn_135 rfl (Nat.le_of_ble_eq_true rfl) hc ?_
      refine e_iadd dX13_burn_138 ?_
      obtain ⟨hc, h⟩ := p_ok_some h
      refine e_iald dX13_burn_139 (Nat.lt_trans (hs.2.2.2 78 (by decide) rfl).2.2.2 hs.2.2.1) (hs.2.2.2 78 (by decide) rfl).2.1 (hs.2.2.2 78 (by decide) rfl).2.2.1 (hs.2.2.2 78 (by decide) rfl).2.2.2 hc ?_
      refine e_iadd dX13_burn_140 ?_
      refine e_min dX13_burn_141 rfl (Nat.le_of_ble_eq_true rfl) ?_
      obtain ⟨hc, h⟩ := p_ok_some h
      refine e_iast dX13_burn_144 (hs.2.2.2 79 (by decide) rfl).2.1 (hs.2.2.2 79 (by decide) rfl).2.2.1 (hs.2.2.2 79 (by decide) rfl).2.2.2 hc ?_
      refine e_iinc (v := (1 : Int32)) dX13_burn_145 rfl rfl rfl ?_
      refine e_goto dX13_burn_148 72 (by decide) ?_
      exact ih _ _ _ _ _ _ _ _ hs h hQ
def F_X13_burn_c62 : Nat → Int32 → Int32 → Int32 → Int32 → p_M → Option (Int32 × p_M)
  | 0, _, _, _, _, _ => none
  | n + 1, v1, v2, v3, v4, μ =>
    if (8 : Int32) ≤ v4
    then (some (0, μ))
    else (F_X13_burn_c72 (F_X13_burn_c62 n) p_fu v1 v2 v3 v4 (0 : Int32) μ)
theorem P_X13_burn_c62 : ∀ (n : Nat) (v1 : Int32) (v2 : Int32) (v3 : Int32) (v4 : Int32) (μ : p_M) (r : Int32 × p_M), F_X13_burn_c62 n v1 v2 v3 v4 μ = some r → Sm μ r.2 := by
  intro n
  induction n with
  | zero => intro v1 v2 v3 v4 μ r h; rw [F_X13_burn_c62] at h; cases h
  | succ n ih =>
    intro v1 v2 v3 v4 μ r h
    rw [F_X13_burn_c62] at h
    by_cases hc : (8 : Int32) ≤ v4
    · rw [if_pos hc] at h
      cases h
      exact (Sm_refl μ)
    · rw [if_neg hc] at h
      exact Sm_trans (Sm_refl μ) (P_X13_burn_c72 ih p_fu _ _ _ _ _ _ _ h)
theorem E_X13_burn_c62 {X : p_X} {d : Nat} {Q : p_R → Prop} : ∀ (n : Nat) (v1 : Int32) (v2 : Int32) (v3 : Int32) (v4 : Int32) (μ : p_M) (r : Int32 × p_M) (w5 : Value) (w6 : Value), ShM μ → F_X13_burn_c62 n v1 v2 v3 v4 μ = some r → Q ((0, none), r.2) → p_Ev X (d + 1) M_X13_burn 62 [.ref tM, .int v1, .int v2, .int v3, .int v4, w5, w6] [] μ Q := by
  intro n
  induction n with
  | zero => intro v1 v2 v3 v4 μ r w5 w6 hs h hQ; rw [F_X13_burn_c62] at h; cases h
  | succ n ih =>
    intro v1 v2 v3 v4 μ r w5 w6 hs h hQ
    rw [F_X13_burn_c62] at h
    refine e_iload dX13_burn_62 rfl ?_
    refine e_bipush (v := (8 : Int32)) dX13_burn_64 rfl ?_
    refine e_ic_ge dX13_burn_66 157 (by decide) (fun hc => ?_) (fun hc => ?_)
    · rw [if_pos hc] at h
      cases h
      exact e_vret dX13_burn_157 rfl hQ
    · rw [if_neg hc] at h
      refine e_iconst (v := (0 : Int32)) dX13_burn_69 rfl ?_
      refine e_istore dX13_burn_70 (Nat.le_of_ble_eq_true rfl) rfl ?_
      exact E_X13_burn_c72 ih p_fu _ _ _ _ _ _ _ _ hs h hQ
def F_X13_burn_c51 (v1 : Int32) (v2 : Int32) (v3 : Int32) (s0 : Int32) (μ : p_M) : Option (Int32 × p_M) :=
  (F_X13_throwsIf s0 (2 : Int32) μ).bind fun q5 =>
  if q5.1 = 0
  then (F_X13_burn_c62 p_fu v1 v2 v3 (0 : Int32) q5.2)
  else (F_X13_burn_c58 q5.2)
theorem P_X13_burn_c51 {v1 : Int32} {v2 : Int32} {v3 : Int32} {s0 : Int32} {μ : p_M} {r : Int32 × p_M} (h : F_X13_burn_c51 v1 v2 v3 s0 μ = some r) : Sm μ r.2 := by
  unfold F_X13_burn_c51 at h
  obtain ⟨q5, hq5, h⟩ := p_bd h
  by_cases hc : q5.1 = 0
  · rw [if_pos hc] at h
    exact Sm_trans (Sm_trans (Sm_refl μ) (P_X13_throwsIf (r := q5) hq5)) (P_X13_burn_c62 p_fu _ _ _ _ _ _ h)
  · rw [if_neg hc] at h
    exact Sm_trans (Sm_trans (Sm_refl μ) (P_X13_throwsIf (r := q5) hq5)) (P_X13_burn_c58 h)
theorem E_X13_burn_c51 {X : p_X} {d : Nat} {Q : p_R → Prop} {v1 : Int32} {v2 : Int32} {v3 : Int32} {s0 : Int32} {w4 : Value} {w5 : Value} {w6 : Value} {μ : p_M} {r : Int32 × p_M} (hs : ShM μ) (h : F_X13_burn_c51 v1 v2 v3 s0 μ = some r) (hQ : Q ((0, none), r.2)) : p_Ev X (d + 1) M_X13_burn 51 [.ref tM, .int v1, .int v2, .int v3, w4, w5, w6] [.int s0, .ref tM] μ Q := by
  unfold F_X13_burn_c51 at h
  refine e_iconst (v := (2 : Int32)) dX13_burn_51 rfl ?_
  obtain ⟨q5, hq5, h⟩ := p_bd h
  refine e_cV dX13_burn_52 rfl rfl ⟨rfl, rfl, by decide⟩ rfl hs.1 hs.2.1 (E_X13_throwsIf hs hq5 ⟨rfl, ?_⟩)
  have hs := ShM_of (P_X13_throwsIf hq5) hs
  show p_Ev X (d + 1) M_X13_burn 55 [.ref tM, .int v1, .int v2, .int v3, w4, w5, w6] [.int q5.1] q5.2 Q
  refine e_if_eq dX13_burn_55 59 (by decide) (fun hc => ?_) (fun hc => ?_)
  · rw [if_pos hc] at h
    refine e_iconst (v := (0 : Int32)) dX13_burn_59 rfl ?_
    refine e_istore dX13_burn_60 (Nat.le_of_ble_eq_true rfl) rfl ?_
    exact E_X13_burn_c62 p_fu _ _ _ _ _ _ _ _ hs h hQ
  · rw [if_neg hc] at h
    exact E_X13_burn_c58 hs h hQ
def F_X13_burn_c46 (v1 : Int32) (v2 : Int32) (v3 : Int32) (μ : p_M) : Option (Int32 × p_M) :=
  F_X13_burn_c51 v1 v2 v3 (1 : Int32) μ
theorem P_X13_burn_c46 {v1 : Int32} {v2 : Int32} {v3 : Int32} {μ : p_M} {r : Int32 × p_M} (h : F_X13_burn_c46 v1 v2 v3 μ = some r) : Sm μ r.2 := by
  unfold F_X13_burn_c46 at h
  exact Sm_trans (Sm_refl μ) (P_X13_burn_c51 h)
theorem E_X13_burn_c46 {X : p_X} {d : Nat} {Q : p_R → Prop} {v1 : Int32} {v2 : Int32} {v3 : Int32} {w4 : Value} {w5 : Value} {w6 : Value} {μ : p_M} {r : Int32 × p_M} (hs : ShM μ) (h : F_X13_burn_c46 v1 v2 v3 μ = some r) (hQ : Q ((0, none), r.2)) : p_Ev X (d + 1) M_X13_burn 46 [.ref tM, .int v1, .int v2, .int v3, w4, w5, w6] [.ref tM] μ Q := by
  unfold F_X13_burn_c46 at h
  refine e_iconst (v := (1 : Int32)) dX13_burn_46 rfl ?_
  refine e_goto dX13_burn_47 51 (by decide) ?_
  exact E_X13_burn_c51 hs h hQ
def F_X13_burn_c20 (v1 : Int32) (v2 : Int32) (v3 : Int32) (s0 : Int32) (μ : p_M) : Option (Int32 × p_M) :=
  (F_X13_throwsIf s0 (1 : Int32) μ).bind fun q2 =>
  if ¬ q2.1 = 0
  then (F_X13_burn_c58 q2.2)
  else ((F_X13_in v2 (0 : Int32) (5 : Int32) q2.2).bind fun q3 =>
    if q3.1 = 0
    then (F_X13_burn_c46 v1 v2 v3 q3.2)
    else ((F_X13_in v3 (0 : Int32) (3 : Int32) q3.2).bind fun q4 =>
      if ¬ q4.1 = 0
      then (F_X13_burn_c51 v1 v2 v3 (0 : Int32) q4.2)
      else (F_X13_burn_c46 v1 v2 v3 q4.2)))
theorem P_X13_burn_c20 {v1 : Int32} {v2 : Int32} {v3 : Int32} {s0 : Int32} {μ : p_M} {r : Int32 × p_M} (h : F_X13_burn_c20 v1 v2 v3 s0 μ = some r) : Sm μ r.2 := by
  unfold F_X13_burn_c20 at h
  obtain ⟨q2, hq2, h⟩ := p_bd h
  by_cases hc : ¬ q2.1 = 0
  · rw [if_pos hc] at h
    exact Sm_trans (Sm_trans (Sm_refl μ) (P_X13_throwsIf (r := q2) hq2)) (P_X13_burn_c58 h)
  · rw [if_neg hc] at h
    obtain ⟨q3, hq3, h⟩ := p_bd h
    by_cases hc : q3.1 = 0
    · rw [if_pos hc] at h
      exact Sm_trans (Sm_trans (Sm_trans (Sm_refl μ) (P_X13_throwsIf (r := q2) hq2)) (P_X13_in (r := q3) hq3)) (P_X13_burn_c46 h)
    · rw [if_neg hc] at h
      obtain ⟨q4, hq4, h⟩ := p_bd h
      by_cases hc : ¬ q4.1 = 0
      · rw [if_pos hc] at h
        exact Sm_trans (Sm_trans (Sm_trans (Sm_trans (Sm_refl μ) (P_X13_throwsIf (r := q2) hq2)) (P_X13_in (r := q3) hq3)) (P_X13_in (r := q4) hq4)) (P_X13_burn_c51 h)
      · rw [if_neg hc] at h
        exact Sm_trans (Sm_trans (Sm_trans (Sm_trans (Sm_refl μ) (P_X13_throwsIf (r := q2) hq2)) (P_X13_in (r := q3) hq3)) (P_X13_in (r := q4) hq4)) (P_X13_burn_c46 h)
theorem E_X13_burn_c20 {X : p_X} {d : Nat} {Q : p_R → Prop} {v1 : Int32} {v2 : Int32} {v3 : Int32} {s0 : Int32} {w4 : Value} {w5 : Value} {w6 : Value} {μ : p_M} {r : Int32 × p_M} (hs : ShM μ) (h : F_X13_burn_c20 v1 v2 v3 s0 μ = some r) (hQ : Q ((0, none), r.2)) : p_Ev X (d + 1) M_X13_burn 20 [.ref tM, .int v1, .int v2, .int v3, w4, w5, w6] [.int s0, .ref tM] μ Q := by
  unfold F_X13_burn_c20 at h
  refine e_iconst (v := (1 : Int32)) dX13_burn_20 rfl ?_
  obtain ⟨q2, hq2, h⟩ := p_bd h
  refine e_cV dX13_burn_21 rfl rfl ⟨rfl, rfl, by decide⟩ rfl hs.1 hs.2.1 (E_X13_throwsIf hs hq2 ⟨rfl, ?_⟩)
  have hs := ShM_of (P_X13_throwsIf hq2) hs
  show p_Ev X (d + 1) M_X13_burn 24 [.ref tM, .int v1, .int v2, .int v3, w4, w5, w6] [.int q2.1] q2.2 Q
  refine e_if_ne dX13_burn_24 58 (by decide) (fun hc => ?_) (fun hc => ?_)
  · rw [if_pos hc] at h
    exact E_X13_burn_c58 hs h hQ
  · rw [if_neg hc] at h
    refine e_aload_n dX13_burn_27 rfl ?_
    refine e_iload_n dX13_burn_28 rfl ?_
    refine e_iconst (v := (0 : Int32)) dX13_burn_29 rfl ?_
    refine e_iconst (v := (5 : Int32)) dX13_burn_30 rfl ?_
    obtain ⟨q3, hq3, h⟩ := p_bd h
    refine e_cS dX13_burn_31 rfl rfl rfl rfl (E_X13_in hs hq3 ⟨rfl, ?_⟩)
    have hs := ShM_of (P_X13_in hq3) hs
    show p_Ev X (d + 1) M_X13_burn 34 [.ref tM, .int v1, .int v2, .int v3, w4, w5, w6] [.int q3.1, .ref tM] q3.2 Q
    refine e_if_eq dX13_burn_34 46 (by decide) (fun hc => ?_) (fun hc => ?_)
    · rw [if_pos hc] at h
      exact E_X13_burn_c46 hs h hQ
    · rw [if_neg hc] at h
      refine e_iload_n dX13_burn_37 rfl ?_
      refine e_iconst (v := (0 : Int32)) dX13_burn_38 rfl ?_
      refine e_iconst (v := (3 : Int32)) dX13_burn_39 rfl ?_
      obtain ⟨q4, hq4, h⟩ := p_bd h
      refine e_cS dX13_burn_40 rfl rfl rfl rfl (E_X13_in hs hq4 ⟨rfl, ?_⟩)
      have hs := ShM_of (P_X13_in hq4) hs
      show p_Ev X (d + 1) M_X13_burn 43 [.ref tM, .int v1, .int v2, .int v3, w4, w5, w6] [.int q4.1, .ref tM] q4.2 Q
      refine e_if_ne dX13_burn_43 50 (by decide) (fun hc => ?_) (fun hc => ?_)
      · rw [if_pos hc] at h
        refine e_iconst (v := (0 : Int32)) dX13_burn_50 rfl ?_
        exact E_X13_burn_c51 hs h hQ
      · rw [if_neg hc] at h
        exact E_X13_burn_c46 hs h hQ
def F_X13_burn (v1 : Int32) (v2 : Int32) (v3 : Int32) (μ : p_M) : Option (Int32 × p_M) :=
  (F_X13_in v1 (0 : Int32) (1 : Int32) (sI μ tM 0 (0 : Int32))).bind fun q1 =>
  if ¬ q1.1 = 0
  then (F_X13_burn_c20 v1 v2 v3 (0 : Int32) q1.2)
  else (F_X13_burn_c20 v1 v2 v3 (1 : Int32) q1.2)
theorem P_X13_burn {v1 : Int32} {v2 : Int32} {v3 : Int32} {μ : p_M} {r : Int32 × p_M} (h : F_X13_burn v1 v2 v3 μ = some r) : Sm μ r.2 := by
  unfold F_X13_burn at h
  obtain ⟨q1, hq1, h⟩ := p_bd h
  by_cases hc : ¬ q1.1 = 0
  · rw [if_pos hc] at h
    exact Sm_trans (Sm_trans (Sm_set (Sm_refl μ) (by decide)) (P_X13_in (r := q1) hq1)) (P_X13_burn_c20 h)
  · rw [if_neg hc] at h
    exact Sm_trans (Sm_trans (Sm_set (Sm_refl μ) (by decide)) (P_X13_in (r := q1) hq1)) (P_X13_burn_c20 h)
theorem E_X13_burn {X : p_X} {d : Nat} {Q : p_R → Prop} {v1 : Int32} {v2 : Int32} {v3 : Int32} {μ : p_M} {r : Int32 × p_M} (hs : ShM μ) (h : F_X13_burn v1 v2 v3 μ = some r) (hQ : Q ((0, none), r.2)) : p_Ev X (d + 1) M_X13_burn 0 [.ref tM, .int v1, .int v2, .int v3, .double 0, .double 0, .double 0] [] μ Q := by
  unfold F_X13_burn at h
  refine e_aload_n dX13_burn_0 rfl ?_
  refine e_iconst (v := (0 : Int32)) dX13_burn_1 rfl ?_
  refine e_putI dX13_burn_2 rfl ⟨rfl, rfl, fun h => by cases h⟩ (fun h => by cases h) hs.1 hs.2.1 ?_
  refine e_aload_n dX13_burn_5 rfl ?_
  refine e_iload_n dX13_burn_6 rfl ?_
  refine e_iconst (v := (0 : Int32)) dX13_burn_7 rfl ?_
  refine e_iconst (v := (1 : Int32)) dX13_burn_8 rfl ?_
  obtain ⟨q1, hq1, h⟩ := p_bd h
  refine e_cS dX13_burn_9 rfl rfl rfl rfl (E_X13_in hs hq1 ⟨rfl, ?_⟩)
  have hs := ShM_of (P_X13_in hq1) hs
  show p_Ev X (d + 1) M_X13_burn 12 [.ref tM, .int v1, .int v2, .int v3, .double 0, .double 0, .double 0] [.int q1.1, .ref tM] q1.2 Q
  refine e_if_ne dX13_burn_12 19 (by decide) (fun hc => ?_) (fun hc => ?_)
  · rw [if_pos hc] at h
    refine e_iconst (v := (0 : Int32)) dX13_burn_19 rfl ?_
    exact E_X13_burn_c20 hs h hQ
  · rw [if_neg hc] at h
    refine e_iconst (v := (1 : Int32)) dX13_burn_15 rfl ?_
    refine e_goto dX13_burn_16 20 (by decide) ?_
    exact E_X13_burn_c20 hs h hQ
/-! X13_burned -/
def F_X13_burned_c60 (μ : p_M) : Option (Int32 × p_M) :=
  some ((0 : Int32), μ)
theorem P_X13_burned_c60 {μ : p_M} {r : Int32 × p_M} (h : F_X13_burned_c60 μ = some r) : Sm μ r.2 := by
  unfold F_X13_burned_c60 at h
  cases h
  exact (Sm_refl μ)
theorem E_X13_burned_c60 {X : p_X} {d : Nat} {Q : p_R → Prop} {w0 : Value} {w1 : Value} {w2 : Value} {w3 : Value} {μ : p_M} {r : Int32 × p_M} (hs : ShM μ) (h : F_X13_burned_c60 μ = some r) (hQ : Q ((0, some (.int r.1)), r.2)) : p_Ev X (d + 1) M_X13_burned 60 [w0, w1, w2, w3] [] μ Q := by
  unfold F_X13_burned_c60 at h
  refine e_iconst (v := (0 : Int32)) dX13_burned_60 rfl ?_
  cases h
  exact e_ireti dX13_burned_61 rfl hQ
def F_X13_burned_c53 (v1 : Int32) (v2 : Int32) (v3 : Int32) (s0 : Int32) (μ : p_M) : Option (Int32 × p_M) :=
  (F_X13_throwsIf s0 (2 : Int32) μ).bind fun q5 =>
  if q5.1 = 0
  then (p_ok (¬ (((12 : Int32) * (((8 : Int32) * v1) + v3)) + v2) < 0 ∧ (((12 : Int32) * (((8 : Int32) * v1) + v3)) + v2).toNatClampNeg < 192)
    (some ((mI q5.2 (aM 79) (((12 : Int32) * (((8 : Int32) * v1) + v3)) + v2).toNatClampNeg), q5.2)))
  else (F_X13_burned_c60 q5.2)
theorem P_X13_burned_c53 {v1 : Int32} {v2 : Int32} {v3 : Int32} {s0 : Int32} {μ : p_M} {r : Int32 × p_M} (h : F_X13_burned_c53 v1 v2 v3 s0 μ = some r) : Sm μ r.2 := by
  unfold F_X13_burned_c53 at h
  obtain ⟨q5, hq5, h⟩ := p_bd h
  by_cases hc : q5.1 = 0
  · rw [if_pos hc] at h
    obtain ⟨hc, h⟩ := p_ok_some h
    cases h
    exact (Sm_trans (Sm_refl μ) (P_X13_throwsIf (r := q5) hq5))
  · rw [if_neg hc] at h
    exact Sm_trans (Sm_trans (Sm_refl μ) (P_X13_throwsIf (r := q5) hq5)) (P_X13_burned_c60 h)
theorem E_X13_burned_c53 {X : p_X} {d : Nat} {Q : p_R → Prop} {v1 : Int32} {v2 : Int32} {v3 : Int32} {s0 : Int32} {μ : p_M} {r : Int32 × p_M} (hs : ShM μ) (h : F_X13_burned_c53 v1 v2 v3 s0 μ = some r) (hQ : Q ((0, some (.int r.1)), r.2)) : p_Ev X (d + 1) M_X13_burned 53 [.ref tM, .int v1, .int v2, .int v3] [.int s0, .ref tM] μ Q := by
  unfold F_X13_burned_c53 at h
  refine e_iconst (v := (2 : Int32)) dX13_burned_53 rfl ?_
  obtain ⟨q5, hq5, h⟩ := p_bd h
  refine e_cV dX13_burned_54 rfl rfl ⟨rfl, rfl, by decide⟩ rfl hs.1 hs.2.1 (E_X13_throwsIf hs hq5 ⟨rfl, ?_⟩)
  have hs := ShM_of (P_X13_throwsIf hq5) hs
  show p_Ev X (d + 1) M_X13_burned 57 [.ref tM, .int v1, .int v2, .int v3] [.int q5.1] q5.2 Q
  refine e_if_eq dX13_burned_57 62 (by decide) (fun hc => ?_) (fun hc => ?_)
  · rw [if_pos hc] at h
    refine e_aload_n dX13_burned_62 rfl ?_
    refine e_getR dX13_burned_63 rfl rfl hs.1 hs.2.1 (hs.2.2.2 79 (by decide) rfl).1 ?_
    refine e_bipush (v := (12 : Int32)) dX13_burned_66 rfl ?_
    refine e_bipush (v := (8 : Int32)) dX13_burned_68 rfl ?_
    refine e_iload_n dX13_burned_70 rfl ?_
    refine e_imul dX13_burned_71 ?_
    refine e_iload_n dX13_burned_72 rfl ?_
    refine e_iadd dX13_burned_73 ?_
    refine e_imul dX13_burned_74 ?_
    refine e_iload_n dX13_burned_75 rfl ?_
    refine e_iadd dX13_burned_76 ?_
    obtain ⟨hc, h⟩ := p_ok_some h
    refine e_iald dX13_burned_77 (Nat.lt_trans (hs.2.2.2 79 (by decide) rfl).2.2.2 hs.2.2.1) (hs.2.2.2 79 (by decide) rfl).2.1 (hs.2.2.2 79 (by decide) rfl).2.2.1 (hs.2.2.2 79 (by decide) rfl).2.2.2 hc ?_
    cases h
    exact e_ireti dX13_burned_78 rfl hQ
  · rw [if_neg hc] at h
    exact E_X13_burned_c60 hs h hQ
def F_X13_burned_c48 (v1 : Int32) (v2 : Int32) (v3 : Int32) (μ : p_M) : Option (Int32 × p_M) :=
  F_X13_burned_c53 v1 v2 v3 (1 : Int32) μ
theorem P_X13_burned_c48 {v1 : Int32} {v2 : Int32} {v3 : Int32} {μ : p_M} {r : Int32 × p_M} (h : F_X13_burned_c48 v1 v2 v3 μ = some r) : Sm μ r.2 := by
  unfold F_X13_burned_c48 at h
  exact Sm_trans (Sm_refl μ) (P_X13_burned_c53 h)
theorem E_X13_burned_c48 {X : p_X} {d : Nat} {Q : p_R → Prop} {v1 : Int32} {v2 : Int32} {v3 : Int32} {μ : p_M} {r : Int32 × p_M} (hs : ShM μ) (h : F_X13_burned_c48 v1 v2 v3 μ = some r) (hQ : Q ((0, some (.int r.1)), r.2)) : p_Ev X (d + 1) M_X13_burned 48 [.ref tM, .int v1, .int v2, .int v3] [.ref tM] μ Q := by
  unfold F_X13_burned_c48 at h
  refine e_iconst (v := (1 : Int32)) dX13_burned_48 rfl ?_
  refine e_goto dX13_burned_49 53 (by decide) ?_
  exact E_X13_burned_c53 hs h hQ
def F_X13_burned_c20 (v1 : Int32) (v2 : Int32) (v3 : Int32) (s0 : Int32) (μ : p_M) : Option (Int32 × p_M) :=
  (F_X13_throwsIf s0 (1 : Int32) μ).bind fun q2 =>
  if ¬ q2.1 = 0
  then (F_X13_burned_c60 q2.2)
  else ((F_X13_in v2 (0 : Int32) (11 : Int32) q2.2).bind fun q3 =>
    if q3.1 = 0
    then (F_X13_burned_c48 v1 v2 v3 q3.2)
    else ((F_X13_in v3 (0 : Int32) (7 : Int32) q3.2).bind fun q4 =>
      if ¬ q4.1 = 0
      then (F_X13_burned_c53 v1 v2 v3 (0 : Int32) q4.2)
      else (F_X13_burned_c48 v1 v2 v3 q4.2)))
theorem P_X13_burned_c20 {v1 : Int32} {v2 : Int32} {v3 : Int32} {s0 : Int32} {μ : p_M} {r : Int32 × p_M} (h : F_X13_burned_c20 v1 v2 v3 s0 μ = some r) : Sm μ r.2 := by
  unfold F_X13_burned_c20 at h
  obtain ⟨q2, hq2, h⟩ := p_bd h
  by_cases hc : ¬ q2.1 = 0
  · rw [if_pos hc] at h
    exact Sm_trans (Sm_trans (Sm_refl μ) (P_X13_throwsIf (r := q2) hq2)) (P_X13_burned_c60 h)
  · rw [if_neg hc] at h
    obtain ⟨q3, hq3, h⟩ := p_bd h
    by_cases hc : q3.1 = 0
    · rw [if_pos hc] at h
      exact Sm_trans (Sm_trans (Sm_trans (Sm_refl μ) (P_X13_throwsIf (r := q2) hq2)) (P_X13_in (r := q3) hq3)) (P_X13_burned_c48 h)
    · rw [if_neg hc] at h
      obtain ⟨q4, hq4, h⟩ := p_bd h
      by_cases hc : ¬ q4.1 = 0
      · rw [if_pos hc] at h
        exact Sm_trans (Sm_trans (Sm_trans (Sm_trans (Sm_refl μ) (P_X13_throwsIf (r := q2) hq2)) (P_X13_in (r := q3) hq3)) (P_X13_in (r := q4) hq4)) (P_X13_burned_c53 h)
      · rw [if_neg hc] at h
        exact Sm_trans (Sm_trans (Sm_trans (Sm_trans (Sm_refl μ) (P_X13_throwsIf (r := q2) hq2)) (P_X13_in (r := q3) hq3)) (P_X13_in (r := q4) hq4)) (P_X13_burned_c48 h)
theorem E_X13_burned_c20 {X : p_X} {d : Nat} {Q : p_R → Prop} {v1 : Int32} {v2 : Int32} {v3 : Int32} {s0 : Int32} {μ : p_M} {r : Int32 × p_M} (hs : ShM μ) (h : F_X13_burned_c20 v1 v2 v3 s0 μ = some r) (hQ : Q ((0, some (.int r.1)), r.2)) : p_Ev X (d + 1) M_X13_burned 20 [.ref tM, .int v1, .int v2, .int v3] [.int s0, .ref tM] μ Q := by
  unfold F_X13_burned_c20 at h
  refine e_iconst (v := (1 : Int32)) dX13_burned_20 rfl ?_
  obtain ⟨q2, hq2, h⟩ := p_bd h
  refine e_cV dX13_burned_21 rfl rfl ⟨rfl, rfl, by decide⟩ rfl hs.1 hs.2.1 (E_X13_throwsIf hs hq2 ⟨rfl, ?_⟩)
  have hs := ShM_of (P_X13_throwsIf hq2) hs
  show p_Ev X (d + 1) M_X13_burned 24 [.ref tM, .int v1, .int v2, .int v3] [.int q2.1] q2.2 Q
  refine e_if_ne dX13_burned_24 60 (by decide) (fun hc => ?_) (fun hc => ?_)
  · rw [if_pos hc] at h
    exact E_X13_burned_c60 hs h hQ
  · rw [if_neg hc] at h
    refine e_aload_n dX13_burned_27 rfl ?_
    refine e_iload_n dX13_burned_28 rfl ?_
    refine e_iconst (v := (0 : Int32)) dX13_burned_29 rfl ?_
    refine e_bipush (v := (11 : Int32)) dX13_burned_30 rfl ?_
    obtain ⟨q3, hq3, h⟩ := p_bd h
    refine e_cS dX13_burned_32 rfl rfl rfl rfl (E_X13_in hs hq3 ⟨rfl, ?_⟩)
    have hs := ShM_of (P_X13_in hq3) hs
    show p_Ev X (d + 1) M_X13_burned 35 [.ref tM, .int v1, .int v2, .int v3] [.int q3.1, .ref tM] q3.2 Q
    refine e_if_eq dX13_burned_35 48 (by decide) (fun hc => ?_) (fun hc => ?_)
    · rw [if_pos hc] at h
      exact E_X13_burned_c48 hs h hQ
    · rw [if_neg hc] at h
      refine e_iload_n dX13_burned_38 rfl ?_
      refine e_iconst (v := (0 : Int32)) dX13_burned_39 rfl ?_
      refine e_bipush (v := (7 : Int32)) dX13_burned_40 rfl ?_
      obtain ⟨q4, hq4, h⟩ := p_bd h
      refine e_cS dX13_burned_42 rfl rfl rfl rfl (E_X13_in hs hq4 ⟨rfl, ?_⟩)
      have hs := ShM_of (P_X13_in hq4) hs
      show p_Ev X (d + 1) M_X13_burned 45 [.ref tM, .int v1, .int v2, .int v3] [.int q4.1, .ref tM] q4.2 Q
      refine e_if_ne dX13_burned_45 52 (by decide) (fun hc => ?_) (fun hc => ?_)
      · rw [if_pos hc] at h
        refine e_iconst (v := (0 : Int32)) dX13_burned_52 rfl ?_
        exact E_X13_burned_c53 hs h hQ
      · rw [if_neg hc] at h
        exact E_X13_burned_c48 hs h hQ
def F_X13_burned (v1 : Int32) (v2 : Int32) (v3 : Int32) (μ : p_M) : Option (Int32 × p_M) :=
  (F_X13_in v1 (0 : Int32) (1 : Int32) (sI μ tM 0 (0 : Int32))).bind fun q1 =>
  if ¬ q1.1 = 0
  then (F_X13_burned_c20 v1 v2 v3 (0 : Int32) q1.2)
  else (F_X13_burned_c20 v1 v2 v3 (1 : Int32) q1.2)
theorem P_X13_burned {v1 : Int32} {v2 : Int32} {v3 : Int32} {μ : p_M} {r : Int32 × p_M} (h : F_X13_burned v1 v2 v3 μ = some r) : Sm μ r.2 := by
  unfold F_X13_burned at h
  obtain ⟨q1, hq1, h⟩ := p_bd h
  by_cases hc : ¬ q1.1 = 0
  · rw [if_pos hc] at h
    exact Sm_trans (Sm_trans (Sm_set (Sm_refl μ) (by decide)) (P_X13_in (r := q1) hq1)) (P_X13_burned_c20 h)
  · rw [if_neg hc] at h
    exact Sm_trans (Sm_trans (Sm_set (Sm_refl μ) (by decide)) (P_X13_in (r := q1) hq1)) (P_X13_burned_c20 h)
theorem E_X13_burned {X : p_X} {d : Nat} {Q : p_R → Prop} {v1 : Int32} {v2 : Int32} {v3 : Int32} {μ : p_M} {r : Int32 × p_M} (hs : ShM μ) (h : F_X13_burned v1 v2 v3 μ = some r) (hQ : Q ((0, some (.int r.1)), r.2)) : p_Ev X (d + 1) M_X13_burned 0 [.ref tM, .int v1, .int v2, .int v3] [] μ Q := by
  unfold F_X13_burned at h
  refine e_aload_n dX13_burned_0 rfl ?_
  refine e_iconst (v := (0 : Int32)) dX13_burned_1 rfl ?_
  refine e_putI dX13_burned_2 rfl ⟨rfl, rfl, fun h => by cases h⟩ (fun h => by cases h) hs.1 hs.2.1 ?_
  refine e_aload_n dX13_burned_5 rfl ?_
  refine e_iload_n dX13_burned_6 rfl ?_
  refine e_iconst (v := (0 : Int32)) dX13_burned_7 rfl ?_
  refine e_iconst (v := (1 : Int32)) dX13_burned_8 rfl ?_
  obtain ⟨q1, hq1, h⟩ := p_bd h
  refine e_cS dX13_burned_9 rfl rfl rfl rfl (E_X13_in hs hq1 ⟨rfl, ?_⟩)
  have hs := ShM_of (P_X13_in hq1) hs
  show p_Ev X (d + 1) M_X13_burned 12 [.ref tM, .int v1, .int v2, .int v3] [.int q1.1, .ref tM] q1.2 Q
  refine e_if_ne dX13_burned_12 19 (by decide) (fun hc => ?_) (fun hc => ?_)
  · rw [if_pos hc] at h
    refine e_iconst (v := (0 : Int32)) dX13_burned_19 rfl ?_
    exact E_X13_burned_c20 hs h hQ
  · rw [if_neg hc] at h
    refine e_iconst (v := (1 : Int32)) dX13_burned_15 rfl ?_
    refine e_goto dX13_burned_16 20 (by decide) ?_
    exact E_X13_burned_c20 hs h hQ
