/-! X12_measure -/
def F_X12_measure_c104 (v5 : Int32) (μ : p_M) : Option (Nat × Int32 × p_M) :=
  some (0, v5, μ)
theorem E_X12_measure_c104 {X : p_X} {d : Nat} {Q : p_R → Prop} {v5 : Int32} {w0 : Value} {w1 : Value} {w2 : Value} {w3 : Value} {w4 : Value} {μ : p_M} {r : Nat × Int32 × p_M} (h : F_X12_measure_c104 v5 μ = some r) (hQ : Q (tI r)) : p_Ev X (d + 2) M_X12_measure 104 [w0, w1, w2, w3, w4, .int v5] [] μ Q := by
  unfold F_X12_measure_c104 at h
  refine e_iload dX12_measure_104 rfl ?_
  cases h
  exact e_ireti dX12_measure_106 rfl hQ
def F_X12_measure (v0 : Nat) (v1 : Int32) (v2 : Int32) (v3 : Int32) (μ : p_M) : Option (Nat × Int32 × p_M) :=
  p_ok (mK μ v0 = 13 ∧ v0 < mN μ)
  ((F_X12_lotAt v0 v1 μ).bind fun q1 =>
  if q1.1 = 0
  then (p_ok (mK q1.2.2 q1.2.1 = 5 ∧ q1.2.1 < mN q1.2.2)
    ((F_X12_needIndex v2 (mI q1.2.2 q1.2.1 1) q1.2.2).bind fun q4 =>
    if q4.1 = 0
    then ((F_X12_needWashed q1.2.1 q4.2.2).bind fun q5 =>
      if q5.1 = 0
      then ((F_X12_within v3 (0 : Int32) (255 : Int32) q5.2.2).bind fun q6 =>
        (F_X12_need q6.1 q6.2).bind fun q7 =>
        if q7.1 = 0
        then (p_ok (mK q7.2.2 v0 = 13 ∧ v0 < mN q7.2.2)
          ((mR q7.2.2 v0 16).bind fun q9 =>
          p_ok (mK q7.2.2 q1.2.1 = 5 ∧ q1.2.1 < mN q7.2.2)
          ((mR q7.2.2 q1.2.1 16).bind fun q11 =>
          p_ok (q11 < p_E ∧ mK q7.2.2 q11 = 20 ∧ q11 < mN q7.2.2)
          (p_ok (¬ v2 < 0 ∧ v2.toNatClampNeg < mL q7.2.2 q11)
          (p_ok (mK q7.2.2 q9 = 7 ∧ q9 < mN q7.2.2)
          ((F_X6_tell q9 v3 (mI q7.2.2 v0 15) (mI q7.2.2 q11 v2.toNatClampNeg) q7.2.2).bind fun q14 =>
          if q14.1 = (-1)
          then (F_X12_measure_c104 q14.1 q14.2)
          else (p_ok (mK q14.2 q1.2.1 = 5 ∧ q1.2.1 < mN q14.2)
            ((mR q14.2 q1.2.1 16).bind fun q17 =>
            p_ok (q17 < p_E ∧ mK q14.2 q17 = 20 ∧ q17 < mN q14.2)
            (p_ok (¬ v2 < 0 ∧ v2.toNatClampNeg < mL q14.2 q17)
            (p_let (sI q14.2 q17 v2.toNatClampNeg q14.1) fun m20 =>
            (mR m20 q1.2.1 8).bind fun q21 =>
            p_ok (mK m20 q21 = 4 ∧ q21 < mN m20)
            ((F_X12_within v3 (mI m20 q21 0) (mI m20 q21 1) m20).bind fun q23 =>
            if ¬ q23.1 = 0
            then (F_X12_measure_c104 q14.1 q23.2)
            else (p_ok (mK q23.2 v0 = 13 ∧ v0 < mN q23.2)
              ((mR q23.2 v0 16).bind fun q25 =>
              p_ok (mK q23.2 q25 = 7 ∧ q25 < mN q23.2)
              (p_let (sI q23.2 q25 4 ((mI q23.2 q25 4) + (1 : Int32))) fun m27 =>
              F_X12_measure_c104 q14.1 m27))))))))))))))
        else (some (q7.1, 0, q7.2.2)))
      else (some (q5.1, 0, q5.2.2)))
    else (some (q4.1, 0, q4.2.2))))
  else (some (q1.1, 0, q1.2.2)))
theorem E_X12_measure {X : p_X} {d : Nat} {Q : p_R → Prop} {v0 : Nat} {v1 : Int32} {v2 : Int32} {v3 : Int32} {μ : p_M} {r : Nat × Int32 × p_M} (h : F_X12_measure v0 v1 v2 v3 μ = some r) (hQ : Q (tI r)) : p_Ev X (d + 2) M_X12_measure 0 [.ref v0, .int v1, .int v2, .int v3, .double 0, .double 0] [] μ Q := by
  unfold F_X12_measure at h
  refine e_aload_n dX12_measure_0 rfl ?_
  refine e_iload_n dX12_measure_1 rfl ?_
  obtain ⟨h2, h⟩ := p_ok_some h
  obtain ⟨q1, hq1, h⟩ := p_bd h
  refine f_tVr dX12_measure_2 rfl rfl ⟨rfl, rfl, by decide⟩ rfl h2 (by decide) rfl (fun Q' hQ' => E_X12_lotAt hq1 hQ') (fun hc => ?_) (fun hc => ?_)
  · rw [if_pos hc] at h
    refine e_astore dX12_measure_5 (Nat.le_of_ble_eq_true rfl) rfl ?_
    refine e_iload_n dX12_measure_7 rfl ?_
    refine e_aload dX12_measure_8 rfl ?_
    obtain ⟨h3, h⟩ := p_ok_some h
    refine e_getI dX12_measure_10 rfl rfl h3.1 h3.2 ?_
    obtain ⟨q4, hq4, h⟩ := p_bd h
    refine f_tSv dX12_measure_13 rfl rfl rfl rfl (by decide) rfl (fun Q' hQ' => E_X12_needIndex hq4 hQ') (fun hc => ?_) (fun hc => ?_)
    · rw [if_pos hc] at h
      refine e_aload dX12_measure_16 rfl ?_
      obtain ⟨q5, hq5, h⟩ := p_bd h
      refine f_tSv dX12_measure_18 rfl rfl rfl rfl (by decide) rfl (fun Q' hQ' => E_X12_needWashed hq5 hQ') (fun hc => ?_) (fun hc => ?_)
      · rw [if_pos hc] at h
        refine e_iload_n dX12_measure_21 rfl ?_
        refine e_iconst (v := (0 : Int32)) dX12_measure_22 rfl ?_
        refine e_sipush (v := (255 : Int32)) dX12_measure_23 rfl ?_
        obtain ⟨q6, hq6, h⟩ := p_bd h
        refine f_cSi dX12_measure_26 rfl rfl rfl rfl (fun Q' hQ' => E_X12_within hq6 hQ') ?_
        obtain ⟨q7, hq7, h⟩ := p_bd h
        refine f_tSv dX12_measure_29 rfl rfl rfl rfl (by decide) rfl (fun Q' hQ' => E_X12_need hq7 hQ') (fun hc => ?_) (fun hc => ?_)
        · rw [if_pos hc] at h
          refine e_aload_n dX12_measure_32 rfl ?_
          obtain ⟨h8, h⟩ := p_ok_some h
          obtain ⟨q9, hq9, h⟩ := p_bd h
          refine e_getR dX12_measure_33 rfl rfl h8.1 h8.2 hq9 ?_
          refine e_iload_n dX12_measure_36 rfl ?_
          refine e_aload_n dX12_measure_37 rfl ?_
          refine e_getI dX12_measure_38 rfl rfl h8.1 h8.2 ?_
          refine e_aload dX12_measure_41 rfl ?_
          obtain ⟨h10, h⟩ := p_ok_some h
          obtain ⟨q11, hq11, h⟩ := p_bd h
          refine e_getR dX12_measure_43 rfl rfl h10.1 h10.2 hq11 ?_
          refine e_iload_n dX12_measure_46 rfl ?_
          obtain ⟨h12, h⟩ := p_ok_some h
          obtain ⟨h13, h⟩ := p_ok_some h
          refine e_iaG dX12_measure_47 h12 h13 ?_
          obtain ⟨h15, h⟩ := p_ok_some h
          obtain ⟨q14, hq14, h⟩ := p_bd h
          refine f_cVi dX12_measure_48 rfl rfl ⟨rfl, rfl, by decide⟩ rfl h15 (fun Q' hQ' => E_X6_tell hq14 hQ') ?_
          refine e_istore dX12_measure_51 (Nat.le_of_ble_eq_true rfl) rfl ?_
          refine e_iload dX12_measure_53 rfl ?_
          refine e_iconst (v := (-1)) dX12_measure_55 rfl ?_
          refine e_ic_eq dX12_measure_56 104 (by decide) (fun hc => ?_) (fun hc => ?_)
          · rw [if_pos hc] at h
            exact E_X12_measure_c104 h hQ
          · rw [if_neg hc] at h
            refine e_aload dX12_measure_59 rfl ?_
            obtain ⟨h16, h⟩ := p_ok_some h
            obtain ⟨q17, hq17, h⟩ := p_bd h
            refine e_getR dX12_measure_61 rfl rfl h16.1 h16.2 hq17 ?_
            refine e_iload_n dX12_measure_64 rfl ?_
            refine e_iload dX12_measure_65 rfl ?_
            obtain ⟨h18, h⟩ := p_ok_some h
            obtain ⟨h19, h⟩ := p_ok_some h
            replace h := p_lt h
            refine e_iaS dX12_measure_67 h18 h19 ?_
            refine e_iload_n dX12_measure_68 rfl ?_
            refine e_aload dX12_measure_69 rfl ?_
            obtain ⟨q21, hq21, h⟩ := p_bd h
            refine e_getR dX12_measure_71 rfl rfl h16.1 h16.2 hq21 ?_
            obtain ⟨h22, h⟩ := p_ok_some h
            refine e_getI dX12_measure_74 rfl rfl h22.1 h22.2 ?_
            refine e_aload dX12_measure_77 rfl ?_
            refine e_getR dX12_measure_79 rfl rfl h16.1 h16.2 hq21 ?_
            refine e_getI dX12_measure_82 rfl rfl h22.1 h22.2 ?_
            obtain ⟨q23, hq23, h⟩ := p_bd h
            refine f_cSi dX12_measure_85 rfl rfl rfl rfl (fun Q' hQ' => E_X12_within hq23 hQ') ?_
            refine e_if_ne dX12_measure_88 104 (by decide) (fun hc => ?_) (fun hc => ?_)
            · rw [if_pos hc] at h
              exact E_X12_measure_c104 h hQ
            · rw [if_neg hc] at h
              refine e_aload_n dX12_measure_91 rfl ?_
              obtain ⟨h24, h⟩ := p_ok_some h
              obtain ⟨q25, hq25, h⟩ := p_bd h
              refine e_getR dX12_measure_92 rfl rfl h24.1 h24.2 hq25 ?_
              refine e_dupR dX12_measure_95 ?_
              obtain ⟨h26, h⟩ := p_ok_some h
              refine e_getI dX12_measure_96 rfl rfl h26.1 h26.2 ?_
              refine e_iconst (v := (1 : Int32)) dX12_measure_99 rfl ?_
              refine e_iadd dX12_measure_100 ?_
              replace h := p_lt h
              refine e_putI dX12_measure_101 rfl ⟨rfl, rfl, (fun _ => rfl)⟩ (fun h => by cases h) h26.1 h26.2 ?_
              exact E_X12_measure_c104 h hQ
        · rw [if_neg hc] at h
          cases h
          exact tI_E hc hQ
      · rw [if_neg hc] at h
        cases h
        exact tI_E hc hQ
    · rw [if_neg hc] at h
      cases h
      exact tI_E hc hQ
  · rw [if_neg hc] at h
    cases h
    exact tI_E hc hQ
/-! L_measure -/
def F_L_measure (v0 : Nat) (v1 : Int32) (v2 : Int32) (v3 : Int32) (v4 : Nat) (μ : p_M) : Option (Int32 × p_M) :=
  p_ok (mK μ v0 = 13 ∧ v0 < mN μ)
  ((F_X12_measure v0 v1 v2 v3 μ).bind fun q1 =>
  if q1.1 = 0
  then (p_ok (mK q1.2.2 v4 = 22 ∧ ¬ (0 : Int32) < 0 ∧ (0 : Int32).toNatClampNeg < mL q1.2.2 v4 ∧ v4 < mN q1.2.2)
    (p_let (sJ q1.2.2 v4 (0 : Int32).toNatClampNeg q1.2.1.toInt64) fun m4 =>
    some ((0 : Int32), m4)))
  else if q1.1 = 3 then (some ((1 : Int32), q1.2.2))
  else if q1.1 = 5 then (some ((2 : Int32), q1.2.2))
  else if q1.1 = 1 then (some ((3 : Int32), q1.2.2))
  else none)
theorem E_L_measure {X : p_X} {d : Nat} {Q : p_R → Prop} {v0 : Nat} {v1 : Int32} {v2 : Int32} {v3 : Int32} {v4 : Nat} {μ : p_M} {r : Int32 × p_M} (h : F_L_measure v0 v1 v2 v3 v4 μ = some r) (hQ : Q ((0, some (.int r.1)), r.2)) : p_Ev X (d + 3) M_L_measure 0 [.ref v0, .int v1, .int v2, .int v3, .ref v4, .double 0] [] μ Q := by
  unfold F_L_measure at h
  refine e_aload dL_measure_0 rfl ?_
  refine e_iconst (v := (0 : Int32)) dL_measure_2 rfl ?_
  refine e_aload_n dL_measure_3 rfl ?_
  refine e_iload_n dL_measure_4 rfl ?_
  refine e_iload_n dL_measure_5 rfl ?_
  refine e_iload_n dL_measure_6 rfl ?_
  obtain ⟨h2, h⟩ := p_ok_some h
  obtain ⟨q1, hq1, h⟩ := p_bd h
  refine f_hVi dL_measure_7 rfl rfl ⟨rfl, rfl, by decide⟩ rfl h2 (by decide) (fun Q' hQ' => E_X12_measure hq1 hQ') (fun hc => ?_) (fun hc => ?_)
  · rw [if_pos hc] at h
    refine e_i2l dL_measure_10 ?_
    obtain ⟨h3, h⟩ := p_ok_some h
    replace h := p_lt h
    refine e_laS dL_measure_11 h3 ?_
    refine e_goto dL_measure_12 27 (by decide) ?_
    refine e_iconst (v := (0 : Int32)) dL_measure_27 rfl ?_
    cases h
    exact e_ireti dL_measure_28 rfl hQ
  · rw [if_neg hc] at h
    by_cases hc : q1.1 = 3
    · rw [if_pos hc] at h
      refine ⟨15, by rw [hc]; rfl, ?_⟩
      refine e_astZ dL_measure_15 (Nat.le_of_ble_eq_true rfl) rfl ?_
      refine e_iconst (v := (1 : Int32)) dL_measure_17 rfl ?_
      cases h
      exact e_ireti dL_measure_18 rfl hQ
    rw [if_neg hc] at h
    by_cases hc : q1.1 = 5
    · rw [if_pos hc] at h
      refine ⟨19, by rw [hc]; rfl, ?_⟩
      refine e_astZ dL_measure_19 (Nat.le_of_ble_eq_true rfl) rfl ?_
      refine e_iconst (v := (2 : Int32)) dL_measure_21 rfl ?_
      cases h
      exact e_ireti dL_measure_22 rfl hQ
    rw [if_neg hc] at h
    by_cases hc : q1.1 = 1
    · rw [if_pos hc] at h
      refine ⟨23, by rw [hc]; rfl, ?_⟩
      refine e_astZ dL_measure_23 (Nat.le_of_ble_eq_true rfl) rfl ?_
      refine e_iconst (v := (3 : Int32)) dL_measure_25 rfl ?_
      cases h
      exact e_ireti dL_measure_26 rfl hQ
    rw [if_neg hc] at h
    cases h
/-! X12_meets -/
def F_X12_meets (v0 : Nat) (v1 : Int32) (v2 : Int32) (v3 : Int32) (v4 : Int32) (μ : p_M) : Option (Nat × Int32 × p_M) :=
  p_ok (mK μ v0 = 13 ∧ v0 < mN μ)
  ((F_X12_needIndex v1 (mI μ v0 2) μ).bind fun q2 =>
  if q2.1 = 0
  then ((F_X12_needWish v2 v3 v4 q2.2.2).bind fun q3 =>
    if q3.1 = 0
    then (p_ok (mK q3.2.2 v0 = 13 ∧ v0 < mN q3.2.2)
      ((mR q3.2.2 v0 3).bind fun q5 =>
      p_ok (mK q3.2.2 q5 = 9 ∧ q5 < mN q3.2.2)
      ((F_X12_tryRecipe v0 v1 (mI q3.2.2 q5 2) q3.2.2).bind fun q7 =>
      p_ok (mK q7.2 v0 = 13 ∧ v0 < mN q7.2)
      ((mR q7.2 v0 7).bind fun q9 =>
      p_ok (mK q7.2 q9 = 4 ∧ q9 < mN q7.2)
      ((F_X3_surelyMeets q9 v2 v3 v4 q7.2).bind fun q10 =>
      p_ok (q10.1 = 0 ∨ q10.1 = 1)
      (some (0, q10.1, q10.2)))))))
    else (some (q3.1, 0, q3.2.2)))
  else (some (q2.1, 0, q2.2.2)))
theorem E_X12_meets {X : p_X} {d : Nat} {Q : p_R → Prop} {v0 : Nat} {v1 : Int32} {v2 : Int32} {v3 : Int32} {v4 : Int32} {μ : p_M} {r : Nat × Int32 × p_M} (h : F_X12_meets v0 v1 v2 v3 v4 μ = some r) (hQ : Q (tI r)) : p_Ev X (d + 3) M_X12_meets 0 [.ref v0, .int v1, .int v2, .int v3, .int v4] [] μ Q := by
  unfold F_X12_meets at h
  refine e_iload_n dX12_meets_0 rfl ?_
  refine e_aload_n dX12_meets_1 rfl ?_
  obtain ⟨h1, h⟩ := p_ok_some h
  refine e_getI dX12_meets_2 rfl rfl h1.1 h1.2 ?_
  obtain ⟨q2, hq2, h⟩ := p_bd h
  refine f_tSv dX12_meets_5 rfl rfl rfl rfl (by decide) rfl (fun Q' hQ' => E_X12_needIndex hq2 hQ') (fun hc => ?_) (fun hc => ?_)
  · rw [if_pos hc] at h
    refine e_iload_n dX12_meets_8 rfl ?_
    refine e_iload_n dX12_meets_9 rfl ?_
    refine e_iload dX12_meets_10 rfl ?_
    obtain ⟨q3, hq3, h⟩ := p_bd h
    refine f_tSv dX12_meets_12 rfl rfl rfl rfl (by decide) rfl (fun Q' hQ' => E_X12_needWish hq3 hQ') (fun hc => ?_) (fun hc => ?_)
    · rw [if_pos hc] at h
      refine e_aload_n dX12_meets_15 rfl ?_
      refine e_iload_n dX12_meets_16 rfl ?_
      refine e_aload_n dX12_meets_17 rfl ?_
      obtain ⟨h4, h⟩ := p_ok_some h
      obtain ⟨q5, hq5, h⟩ := p_bd h
      refine e_getR dX12_meets_18 rfl rfl h4.1 h4.2 hq5 ?_
      obtain ⟨h6, h⟩ := p_ok_some h
      refine e_getI dX12_meets_21 rfl rfl h6.1 h6.2 ?_
      obtain ⟨q7, hq7, h⟩ := p_bd h
      refine f_cVv dX12_meets_24 rfl rfl ⟨rfl, rfl, by decide⟩ rfl h4 (fun Q' hQ' => E_X12_tryRecipe hq7 hQ') ?_
      refine e_aload_n dX12_meets_27 rfl ?_
      obtain ⟨h8, h⟩ := p_ok_some h
      obtain ⟨q9, hq9, h⟩ := p_bd h
      refine e_getR dX12_meets_28 rfl rfl h8.1 h8.2 hq9 ?_
      refine e_iload_n dX12_meets_31 rfl ?_
      refine e_iload_n dX12_meets_32 rfl ?_
      refine e_iload dX12_meets_33 rfl ?_
      obtain ⟨h11, h⟩ := p_ok_some h
      obtain ⟨q10, hq10, h⟩ := p_bd h
      refine f_cVi dX12_meets_35 rfl rfl ⟨rfl, rfl, by decide⟩ rfl h11 (fun Q' hQ' => E_X3_surelyMeets hq10 hQ') ?_
      obtain ⟨h12, h⟩ := p_ok_some h
      cases h
      exact e_iretz dX12_meets_38 rfl h12 hQ
    · rw [if_neg hc] at h
      cases h
      exact tI_E hc hQ
  · rw [if_neg hc] at h
    cases h
    exact tI_E hc hQ
/-! L_meets -/
def F_L_meets_c20 (s0 : Int64) (s1 : Int32) (s2 : Nat) (μ : p_M) : Option (Int32 × p_M) :=
  p_ok (mK μ s2 = 22 ∧ ¬ s1 < 0 ∧ s1.toNatClampNeg < mL μ s2 ∧ s2 < mN μ)
  (p_let (sJ μ s2 s1.toNatClampNeg s0) fun m4 =>
  some ((0 : Int32), m4))
theorem E_L_meets_c20 {X : p_X} {d : Nat} {Q : p_R → Prop} {s0 : Int64} {s1 : Int32} {s2 : Nat} {w0 : Value} {w1 : Value} {w2 : Value} {w3 : Value} {w4 : Value} {w5 : Value} {w6 : Value} {μ : p_M} {r : Int32 × p_M} (h : F_L_meets_c20 s0 s1 s2 μ = some r) (hQ : Q ((0, some (.int r.1)), r.2)) : p_Ev X (d + 4) M_L_meets 20 [w0, w1, w2, w3, w4, w5, w6] [.long s0, .int s1, .ref s2] μ Q := by
  unfold F_L_meets_c20 at h
  obtain ⟨h3, h⟩ := p_ok_some h
  replace h := p_lt h
  refine e_laS dL_meets_20 h3 ?_
  refine e_goto dL_meets_21 32 (by decide) ?_
  refine e_iconst (v := (0 : Int32)) dL_meets_32 rfl ?_
  cases h
  exact e_ireti dL_meets_33 rfl hQ
def F_L_meets (v0 : Nat) (v1 : Int32) (v2 : Int32) (v3 : Int32) (v4 : Int32) (v5 : Nat) (μ : p_M) : Option (Int32 × p_M) :=
  p_ok (mK μ v0 = 13 ∧ v0 < mN μ)
  ((F_X12_meets v0 v1 v2 v3 v4 μ).bind fun q1 =>
  if q1.1 = 0
  then (if q1.2.1 = 0
    then (F_L_meets_c20 (0 : Int64) (0 : Int32) v5 q1.2.2)
    else (F_L_meets_c20 (1 : Int64) (0 : Int32) v5 q1.2.2))
  else if q1.1 = 3 then (some ((1 : Int32), q1.2.2))
  else if q1.1 = 1 then (some ((2 : Int32), q1.2.2))
  else none)
theorem E_L_meets {X : p_X} {d : Nat} {Q : p_R → Prop} {v0 : Nat} {v1 : Int32} {v2 : Int32} {v3 : Int32} {v4 : Int32} {v5 : Nat} {μ : p_M} {r : Int32 × p_M} (h : F_L_meets v0 v1 v2 v3 v4 v5 μ = some r) (hQ : Q ((0, some (.int r.1)), r.2)) : p_Ev X (d + 4) M_L_meets 0 [.ref v0, .int v1, .int v2, .int v3, .int v4, .ref v5, .double 0] [] μ Q := by
  unfold F_L_meets at h
  refine e_aload dL_meets_0 rfl ?_
  refine e_iconst (v := (0 : Int32)) dL_meets_2 rfl ?_
  refine e_aload_n dL_meets_3 rfl ?_
  refine e_iload_n dL_meets_4 rfl ?_
  refine e_iload_n dL_meets_5 rfl ?_
  refine e_iload_n dL_meets_6 rfl ?_
  refine e_iload dL_meets_7 rfl ?_
  obtain ⟨h2, h⟩ := p_ok_some h
  obtain ⟨q1, hq1, h⟩ := p_bd h
  refine f_hVi dL_meets_9 rfl rfl ⟨rfl, rfl, by decide⟩ rfl h2 (by decide) (fun Q' hQ' => E_X12_meets hq1 hQ') (fun hc => ?_) (fun hc => ?_)
  · rw [if_pos hc] at h
    refine e_if_eq dL_meets_12 19 (by decide) (fun hc => ?_) (fun hc => ?_)
    · rw [if_pos hc] at h
      refine e_lconst (v := 0) dL_meets_19 rfl ?_
      exact E_L_meets_c20 h hQ
    · rw [if_neg hc] at h
      refine e_lconst (v := 1) dL_meets_15 rfl ?_
      refine e_goto dL_meets_16 20 (by decide) ?_
      exact E_L_meets_c20 h hQ
  · rw [if_neg hc] at h
    by_cases hc : q1.1 = 3
    · rw [if_pos hc] at h
      refine ⟨24, by rw [hc]; rfl, ?_⟩
      refine e_astZ dL_meets_24 (Nat.le_of_ble_eq_true rfl) rfl ?_
      refine e_iconst (v := (1 : Int32)) dL_meets_26 rfl ?_
      cases h
      exact e_ireti dL_meets_27 rfl hQ
    rw [if_neg hc] at h
    by_cases hc : q1.1 = 1
    · rw [if_pos hc] at h
      refine ⟨28, by rw [hc]; rfl, ?_⟩
      refine e_astZ dL_meets_28 (Nat.le_of_ble_eq_true rfl) rfl ?_
      refine e_iconst (v := (2 : Int32)) dL_meets_30 rfl ?_
      cases h
      exact e_ireti dL_meets_31 rfl hQ
    rw [if_neg hc] at h
    cases h
/-! X0_fullPacks -/
def F_X0_fullPacks_c65 (K14 : Nat → Int32 → Int32 → Int32 → Int32 → Int32 → p_M → Option (Int32 × p_M)) (v0 : Nat) (v1 : Int32) (v2 : Int32) (v3 : Int32) (v4 : Int32) (v5 : Int32) (μ : p_M) : Option (Int32 × p_M) :=
  K14 v0 v1 v2 v3 v4 (v5 + (1 : Int32)) μ
theorem E_X0_fullPacks_c65 {X : p_X} {d : Nat} {Q : p_R → Prop} {K14 : Nat → Int32 → Int32 → Int32 → Int32 → Int32 → p_M → Option (Int32 × p_M)} (hK14 : ∀ (v0 : Nat) (v1 : Int32) (v2 : Int32) (v3 : Int32) (v4 : Int32) (v5 : Int32) (μ : p_M) (r : Int32 × p_M), K14 v0 v1 v2 v3 v4 v5 μ = some r → Q ((0, some (.int r.1)), r.2) → p_Ev X (d + 0) M_X0_fullPacks 14 [.ref v0, .int v1, .int v2, .int v3, .int v4, .int v5] [] μ Q) {v0 : Nat} {v1 : Int32} {v2 : Int32} {v3 : Int32} {v4 : Int32} {v5 : Int32} {μ : p_M} {r : Int32 × p_M} (h : F_X0_fullPacks_c65 K14 v0 v1 v2 v3 v4 v5 μ = some r) (hQ : Q ((0, some (.int r.1)), r.2)) : p_Ev X (d + 0) M_X0_fullPacks 65 [.ref v0, .int v1, .int v2, .int v3, .int v4, .int v5] [] μ Q := by
  unfold F_X0_fullPacks_c65 at h
  refine e_iinc (v := (1 : Int32)) dX0_fullPacks_65 rfl rfl rfl ?_
  refine e_goto dX0_fullPacks_68 14 (by decide) ?_
  exact hK14 _ _ _ _ _ _ _ _ h hQ
def F_X0_fullPacks_c51 (K14 : Nat → Int32 → Int32 → Int32 → Int32 → Int32 → p_M → Option (Int32 × p_M)) (v0 : Nat) (v1 : Int32) (v2 : Int32) (v3 : Int32) (v4 : Int32) (v5 : Int32) (μ : p_M) : Option (Int32 × p_M) :=
  p_ok (¬ v1 = 0)
  (F_X0_fullPacks_c65 K14 v0 v1 v2 (v3 + ((v5 - v4) / v1)) v5 v5 μ)
theorem E_X0_fullPacks_c51 {X : p_X} {d : Nat} {Q : p_R → Prop} {K14 : Nat → Int32 → Int32 → Int32 → Int32 → Int32 → p_M → Option (Int32 × p_M)} (hK14 : ∀ (v0 : Nat) (v1 : Int32) (v2 : Int32) (v3 : Int32) (v4 : Int32) (v5 : Int32) (μ : p_M) (r : Int32 × p_M), K14 v0 v1 v2 v3 v4 v5 μ = some r → Q ((0, some (.int r.1)), r.2) → p_Ev X (d + 0) M_X0_fullPacks 14 [.ref v0, .int v1, .int v2, .int v3, .int v4, .int v5] [] μ Q) {v0 : Nat} {v1 : Int32} {v2 : Int32} {v3 : Int32} {v4 : Int32} {v5 : Int32} {μ : p_M} {r : Int32 × p_M} (h : F_X0_fullPacks_c51 K14 v0 v1 v2 v3 v4 v5 μ = some r) (hQ : Q ((0, some (.int r.1)), r.2)) : p_Ev X (d + 0) M_X0_fullPacks 51 [.ref v0, .int v1, .int v2, .int v3, .int v4, .int v5] [] μ Q := by
  unfold F_X0_fullPacks_c51 at h
  refine e_iload_n dX0_fullPacks_51 rfl ?_
  refine e_iload dX0_fullPacks_52 rfl ?_
  refine e_iload dX0_fullPacks_54 rfl ?_
  refine e_isub dX0_fullPacks_56 ?_
  refine e_iload_n dX0_fullPacks_57 rfl ?_
  obtain ⟨h6, h⟩ := p_ok_some h
  refine e_idiv dX0_fullPacks_58 h6 ?_
  refine e_iadd dX0_fullPacks_59 ?_
  refine e_istore_n dX0_fullPacks_60 (Nat.le_of_ble_eq_true rfl) rfl ?_
  refine e_iload dX0_fullPacks_61 rfl ?_
  refine e_istore dX0_fullPacks_63 (Nat.le_of_ble_eq_true rfl) rfl ?_
  exact E_X0_fullPacks_c65 hK14 h hQ
def F_X0_fullPacks_c14 : Nat → Nat → Int32 → Int32 → Int32 → Int32 → Int32 → p_M → Option (Int32 × p_M)
  | 0, _, _, _, _, _, _, _ => none
  | n + 1, v0, v1, v2, v3, v4, v5, μ =>
    p_ok (mK μ v0 = 1 ∧ v0 < mN μ)
    (if (mI μ v0 1) < v5
    then (some (v3, μ))
    else (if v5 = (mI μ v0 1)
      then (F_X0_fullPacks_c51 (F_X0_fullPacks_c14 n) v0 v1 v2 v3 v4 v5 μ)
      else ((mR μ v0 0).bind fun q2 =>
        p_ok (q2 < p_E ∧ mK μ q2 = 20 ∧ q2 < mN μ)
        (p_ok (¬ v5 < 0 ∧ v5.toNatClampNeg < mL μ q2)
        (p_ok (¬ v4 < 0 ∧ v4.toNatClampNeg < mL μ q2)
        (if ((mI μ q2 v5.toNatClampNeg) - (mI μ q2 v4.toNatClampNeg)) ≤ v2
        then (F_X0_fullPacks_c65 (F_X0_fullPacks_c14 n) v0 v1 v2 v3 v4 v5 μ)
        else (F_X0_fullPacks_c51 (F_X0_fullPacks_c14 n) v0 v1 v2 v3 v4 v5 μ)))))))
theorem E_X0_fullPacks_c14 {X : p_X} {d : Nat} {Q : p_R → Prop} : ∀ (n : Nat) (v0 : Nat) (v1 : Int32) (v2 : Int32) (v3 : Int32) (v4 : Int32) (v5 : Int32) (μ : p_M) (r : Int32 × p_M), F_X0_fullPacks_c14 n v0 v1 v2 v3 v4 v5 μ = some r → Q ((0, some (.int r.1)), r.2) → p_Ev X (d + 0) M_X0_fullPacks 14 [.ref v0, .int v1, .int v2, .int v3, .int v4, .int v5] [] μ Q := by
  intro n
  induction n with
  | zero => intro v0 v1 v2 v3 v4 v5 μ r h hQ; rw [F_X0_fullPacks_c14] at h; cases h
  | succ n ih =>
    intro v0 v1 v2 v3 v4 v5 μ r h hQ
    rw [F_X0_fullPacks_c14] at h
    refine e_iload dX0_fullPacks_14 rfl ?_
    refine e_aload_n dX0_fullPacks_16 rfl ?_
    obtain ⟨h1, h⟩ := p_ok_some h
    refine e_getI dX0_fullPacks_17 rfl rfl h1.1 h1.2 ?_
    refine e_ic_gt dX0_fullPacks_20 71 (by decide) (fun hc => ?_) (fun hc => ?_)
    · rw [if_pos hc] at h
      refine e_iload_n dX0_fullPacks_71 rfl ?_
      cases h
      exact e_ireti dX0_fullPacks_72 rfl hQ
    · rw [if_neg hc] at h
      refine e_iload dX0_fullPacks_23 rfl ?_
      refine e_aload_n dX0_fullPacks_25 rfl ?_
      refine e_getI dX0_fullPacks_26 rfl rfl h1.1 h1.2 ?_
      refine e_ic_eq dX0_fullPacks_29 51 (by decide) (fun hc => ?_) (fun hc => ?_)
      · rw [if_pos hc] at h
        exact E_X0_fullPacks_c51 ih h hQ
      · rw [if_neg hc] at h
        refine e_aload_n dX0_fullPacks_32 rfl ?_
        obtain ⟨q2, hq2, h⟩ := p_bd h
        refine e_getR dX0_fullPacks_33 rfl rfl h1.1 h1.2 hq2 ?_
        refine e_iload dX0_fullPacks_36 rfl ?_
        obtain ⟨h3, h⟩ := p_ok_some h
        obtain ⟨h4, h⟩ := p_ok_some h
        refine e_iaG dX0_fullPacks_38 h3 h4 ?_
        refine e_aload_n dX0_fullPacks_39 rfl ?_
        refine e_getR dX0_fullPacks_40 rfl rfl h1.1 h1.2 hq2 ?_
        refine e_iload dX0_fullPacks_43 rfl ?_
        obtain ⟨h5, h⟩ := p_ok_some h
        refine e_iaG dX0_fullPacks_45 h3 h5 ?_
        refine e_isub dX0_fullPacks_46 ?_
        refine e_iload_n dX0_fullPacks_47 rfl ?_
        refine e_ic_le dX0_fullPacks_48 65 (by decide) (fun hc => ?_) (fun hc => ?_)
        · rw [if_pos hc] at h
          exact E_X0_fullPacks_c65 ih h hQ
        · rw [if_neg hc] at h
          exact E_X0_fullPacks_c51 ih h hQ
def F_X0_fullPacks (v0 : Nat) (v1 : Int32) (v2 : Int32) (μ : p_M) : Option (Int32 × p_M) :=
  if 0 < v1
  then (F_X0_fullPacks_c14 p_fu v0 v1 v2 (0 : Int32) (0 : Int32) (1 : Int32) μ)
  else (some ((0 : Int32), μ))
theorem E_X0_fullPacks {X : p_X} {d : Nat} {Q : p_R → Prop} {v0 : Nat} {v1 : Int32} {v2 : Int32} {μ : p_M} {r : Int32 × p_M} (h : F_X0_fullPacks v0 v1 v2 μ = some r) (hQ : Q ((0, some (.int r.1)), r.2)) : p_Ev X (d + 0) M_X0_fullPacks 0 [.ref v0, .int v1, .int v2, .double 0, .double 0, .double 0] [] μ Q := by
  unfold F_X0_fullPacks at h
  refine e_iload_n dX0_fullPacks_0 rfl ?_
  refine e_if_gt dX0_fullPacks_1 6 (by decide) (fun hc => ?_) (fun hc => ?_)
  · rw [if_pos hc] at h
    refine e_iconst (v := (0 : Int32)) dX0_fullPacks_6 rfl ?_
    refine e_istore_n dX0_fullPacks_7 (Nat.le_of_ble_eq_true rfl) rfl ?_
    refine e_iconst (v := (0 : Int32)) dX0_fullPacks_8 rfl ?_
    refine e_istore dX0_fullPacks_9 (Nat.le_of_ble_eq_true rfl) rfl ?_
    refine e_iconst (v := (1 : Int32)) dX0_fullPacks_11 rfl ?_
    refine e_istore dX0_fullPacks_12 (Nat.le_of_ble_eq_true rfl) rfl ?_
    exact E_X0_fullPacks_c14 p_fu _ _ _ _ _ _ _ _ h hQ
  · rw [if_neg hc] at h
    refine e_iconst (v := (0 : Int32)) dX0_fullPacks_4 rfl ?_
    cases h
    exact e_ireti dX0_fullPacks_5 rfl hQ
/-! X12_packs -/
def F_X12_packs_c54 (s0 : Int32) (μ : p_M) : Option (Nat × Int32 × p_M) :=
  some (0, s0, μ)
theorem E_X12_packs_c54 {X : p_X} {d : Nat} {Q : p_R → Prop} {s0 : Int32} {w0 : Value} {w1 : Value} {w2 : Value} {w3 : Value} {w4 : Value} {μ : p_M} {r : Nat × Int32 × p_M} (h : F_X12_packs_c54 s0 μ = some r) (hQ : Q (tI r)) : p_Ev X (d + 1) M_X12_packs 54 [w0, w1, w2, w3, w4] [.int s0] μ Q := by
  unfold F_X12_packs_c54 at h
  cases h
  exact e_ireti dX12_packs_54 rfl hQ
def F_X12_packs_c19 (v0 : Nat) (v1 : Int32) (v2 : Int32) (v3 : Int32) (s0 : Int32) (μ : p_M) : Option (Nat × Int32 × p_M) :=
  (F_X12_need s0 μ).bind fun q2 =>
  if q2.1 = 0
  then (p_ok (mK q2.2.2 v0 = 13 ∧ v0 < mN q2.2.2)
    ((mR q2.2.2 v0 11).bind fun q4 =>
    p_ok (mK q2.2.2 q4 = 1 ∧ q4 < mN q2.2.2)
    ((F_X0_fullPacks q4 v1 v2 q2.2.2).bind fun q5 =>
    if v3 = 0
    then (F_X12_packs_c54 q5.1 q5.2)
    else (p_ok (mK q5.2 v0 = 13 ∧ v0 < mN q5.2)
      ((mR q5.2 v0 11).bind fun q8 =>
      p_ok (mK q5.2 q8 = 1 ∧ q8 < mN q5.2)
      (F_X12_packs_c54 ((mI q5.2 q8 1) - (q5.1 * v1)) q5.2))))))
  else (some (q2.1, 0, q2.2.2))
theorem E_X12_packs_c19 {X : p_X} {d : Nat} {Q : p_R → Prop} {v0 : Nat} {v1 : Int32} {v2 : Int32} {v3 : Int32} {s0 : Int32} {w4 : Value} {μ : p_M} {r : Nat × Int32 × p_M} (h : F_X12_packs_c19 v0 v1 v2 v3 s0 μ = some r) (hQ : Q (tI r)) : p_Ev X (d + 1) M_X12_packs 19 [.ref v0, .int v1, .int v2, .int v3, w4] [.int s0] μ Q := by
  unfold F_X12_packs_c19 at h
  obtain ⟨q2, hq2, h⟩ := p_bd h
  refine f_tSv dX12_packs_19 rfl rfl rfl rfl (by decide) rfl (fun Q' hQ' => E_X12_need hq2 hQ') (fun hc => ?_) (fun hc => ?_)
  · rw [if_pos hc] at h
    refine e_aload_n dX12_packs_22 rfl ?_
    obtain ⟨h3, h⟩ := p_ok_some h
    obtain ⟨q4, hq4, h⟩ := p_bd h
    refine e_getR dX12_packs_23 rfl rfl h3.1 h3.2 hq4 ?_
    refine e_iload_n dX12_packs_26 rfl ?_
    refine e_iload_n dX12_packs_27 rfl ?_
    obtain ⟨h6, h⟩ := p_ok_some h
    obtain ⟨q5, hq5, h⟩ := p_bd h
    refine f_cVi dX12_packs_28 rfl rfl ⟨rfl, rfl, by decide⟩ rfl h6 (fun Q' hQ' => E_X0_fullPacks hq5 hQ') ?_
    refine e_istore dX12_packs_31 (Nat.le_of_ble_eq_true rfl) rfl ?_
    refine e_iload_n dX12_packs_33 rfl ?_
    refine e_if_eq dX12_packs_34 52 (by decide) (fun hc => ?_) (fun hc => ?_)
    · rw [if_pos hc] at h
      refine e_iload dX12_packs_52 rfl ?_
      exact E_X12_packs_c54 h hQ
    · rw [if_neg hc] at h
      refine e_aload_n dX12_packs_37 rfl ?_
      obtain ⟨h7, h⟩ := p_ok_some h
      obtain ⟨q8, hq8, h⟩ := p_bd h
      refine e_getR dX12_packs_38 rfl rfl h7.1 h7.2 hq8 ?_
      obtain ⟨h9, h⟩ := p_ok_some h
      refine e_getI dX12_packs_41 rfl rfl h9.1 h9.2 ?_
      refine e_iload dX12_packs_44 rfl ?_
      refine e_iload_n dX12_packs_46 rfl ?_
      refine e_imul dX12_packs_47 ?_
      refine e_isub dX12_packs_48 ?_
      refine e_goto dX12_packs_49 54 (by decide) ?_
      exact E_X12_packs_c54 h hQ
  · rw [if_neg hc] at h
    cases h
    exact tI_E hc hQ
def F_X12_packs_c18 (v0 : Nat) (v1 : Int32) (v2 : Int32) (v3 : Int32) (μ : p_M) : Option (Nat × Int32 × p_M) :=
  F_X12_packs_c19 v0 v1 v2 v3 (0 : Int32) μ
theorem E_X12_packs_c18 {X : p_X} {d : Nat} {Q : p_R → Prop} {v0 : Nat} {v1 : Int32} {v2 : Int32} {v3 : Int32} {w4 : Value} {μ : p_M} {r : Nat × Int32 × p_M} (h : F_X12_packs_c18 v0 v1 v2 v3 μ = some r) (hQ : Q (tI r)) : p_Ev X (d + 1) M_X12_packs 18 [.ref v0, .int v1, .int v2, .int v3, w4] [] μ Q := by
  unfold F_X12_packs_c18 at h
  refine e_iconst (v := (0 : Int32)) dX12_packs_18 rfl ?_
  exact E_X12_packs_c19 h hQ
def F_X12_packs (v0 : Nat) (v1 : Int32) (v2 : Int32) (v3 : Int32) (μ : p_M) : Option (Nat × Int32 × p_M) :=
  (F_X12_within v1 (1 : Int32) (20 : Int32) μ).bind fun q1 =>
  if q1.1 = 0
  then (F_X12_packs_c18 v0 v1 v2 v3 q1.2)
  else (if v2 < 0
    then (F_X12_packs_c18 v0 v1 v2 v3 q1.2)
    else (F_X12_packs_c19 v0 v1 v2 v3 (1 : Int32) q1.2))
theorem E_X12_packs {X : p_X} {d : Nat} {Q : p_R → Prop} {v0 : Nat} {v1 : Int32} {v2 : Int32} {v3 : Int32} {μ : p_M} {r : Nat × Int32 × p_M} (h : F_X12_packs v0 v1 v2 v3 μ = some r) (hQ : Q (tI r)) : p_Ev X (d + 1) M_X12_packs 0 [.ref v0, .int v1, .int v2, .int v3, .double 0] [] μ Q := by
  unfold F_X12_packs at h
  refine e_iload_n dX12_packs_0 rfl ?_
  refine e_iconst (v := (1 : Int32)) dX12_packs_1 rfl ?_
  refine e_bipush (v := (20 : Int32)) dX12_packs_2 rfl ?_
  obtain ⟨q1, hq1, h⟩ := p_bd h
  refine f_cSi dX12_packs_4 rfl rfl rfl rfl (fun Q' hQ' => E_X12_within hq1 hQ') ?_
  refine e_if_eq dX12_packs_7 18 (by decide) (fun hc => ?_) (fun hc => ?_)
  · rw [if_pos hc] at h
    exact E_X12_packs_c18 h hQ
  · rw [if_neg hc] at h
    refine e_iload_n dX12_packs_10 rfl ?_
    refine e_if_lt dX12_packs_11 18 (by decide) (fun hc => ?_) (fun hc => ?_)
    · rw [if_pos hc] at h
      exact E_X12_packs_c18 h hQ
    · rw [if_neg hc] at h
      refine e_iconst (v := (1 : Int32)) dX12_packs_14 rfl ?_
      refine e_goto dX12_packs_15 19 (by decide) ?_
      exact E_X12_packs_c19 h hQ
/-! L_packs -/
def F_L_packs (v0 : Nat) (v1 : Int32) (v2 : Int32) (v3 : Int32) (v4 : Nat) (μ : p_M) : Option (Int32 × p_M) :=
  p_ok (mK μ v0 = 13 ∧ v0 < mN μ)
  ((F_X12_packs v0 v1 v2 v3 μ).bind fun q1 =>
  if q1.1 = 0
  then (p_ok (mK q1.2.2 v4 = 22 ∧ ¬ (0 : Int32) < 0 ∧ (0 : Int32).toNatClampNeg < mL q1.2.2 v4 ∧ v4 < mN q1.2.2)
    (p_let (sJ q1.2.2 v4 (0 : Int32).toNatClampNeg q1.2.1.toInt64) fun m4 =>
    some ((0 : Int32), m4)))
  else if q1.1 = 1 then (some ((1 : Int32), q1.2.2))
  else none)
theorem E_L_packs {X : p_X} {d : Nat} {Q : p_R → Prop} {v0 : Nat} {v1 : Int32} {v2 : Int32} {v3 : Int32} {v4 : Nat} {μ : p_M} {r : Int32 × p_M} (h : F_L_packs v0 v1 v2 v3 v4 μ = some r) (hQ : Q ((0, some (.int r.1)), r.2)) : p_Ev X (d + 2) M_L_packs 0 [.ref v0, .int v1, .int v2, .int v3, .ref v4, .double 0] [] μ Q := by
  unfold F_L_packs at h
  refine e_aload dL_packs_0 rfl ?_
  refine e_iconst (v := (0 : Int32)) dL_packs_2 rfl ?_
  refine e_aload_n dL_packs_3 rfl ?_
  refine e_iload_n dL_packs_4 rfl ?_
  refine e_iload_n dL_packs_5 rfl ?_
  refine e_iload_n dL_packs_6 rfl ?_
  obtain ⟨h2, h⟩ := p_ok_some h
  obtain ⟨q1, hq1, h⟩ := p_bd h
  refine f_hVi dL_packs_7 rfl rfl ⟨rfl, rfl, by decide⟩ rfl h2 (by decide) (fun Q' hQ' => E_X12_packs hq1 hQ') (fun hc => ?_) (fun hc => ?_)
  · rw [if_pos hc] at h
    refine e_i2l dL_packs_10 ?_
    obtain ⟨h3, h⟩ := p_ok_some h
    replace h := p_lt h
    refine e_laS dL_packs_11 h3 ?_
    refine e_goto dL_packs_12 19 (by decide) ?_
    refine e_iconst (v := (0 : Int32)) dL_packs_19 rfl ?_
    cases h
    exact e_ireti dL_packs_20 rfl hQ
  · rw [if_neg hc] at h
    by_cases hc : q1.1 = 1
    · rw [if_pos hc] at h
      refine ⟨15, by rw [hc]; rfl, ?_⟩
      refine e_astZ dL_packs_15 (Nat.le_of_ble_eq_true rfl) rfl ?_
      refine e_iconst (v := (1 : Int32)) dL_packs_17 rfl ?_
      cases h
      exact e_ireti dL_packs_18 rfl hQ
    rw [if_neg hc] at h
    cases h
/-! X7_beginPattern -/
def F_X7_beginPattern (v0 : Nat) (v1 : Int32) (v2 : Int32) (μ : p_M) : Option (Int32 × p_M) :=
  p_ok (mK μ v0 = 8 ∧ v0 < mN μ)
  (p_let (sI μ v0 1 v1) fun m2 =>
  p_let (sI m2 v0 2 v2) fun m3 =>
  (mR m3 v0 0).bind fun q4 =>
  (F_J7_fill_53178 q4 (0 : Int32) m3).bind fun q5 =>
  some (0, q5.2))
theorem E_X7_beginPattern {X : p_X} {d : Nat} {Q : p_R → Prop} {v0 : Nat} {v1 : Int32} {v2 : Int32} {μ : p_M} {r : Int32 × p_M} (h : F_X7_beginPattern v0 v1 v2 μ = some r) (hQ : Q ((0, none), r.2)) : p_Ev X (d + 1) M_X7_beginPattern 0 [.ref v0, .int v1, .int v2] [] μ Q := by
  unfold F_X7_beginPattern at h
  refine e_aload_n dX7_beginPattern_0 rfl ?_
  refine e_iload_n dX7_beginPattern_1 rfl ?_
  obtain ⟨h1, h⟩ := p_ok_some h
  replace h := p_lt h
  refine e_putI dX7_beginPattern_2 rfl ⟨rfl, rfl, (fun h => by cases h)⟩ (fun h => by cases h) h1.1 h1.2 ?_
  refine e_aload_n dX7_beginPattern_5 rfl ?_
  refine e_iload_n dX7_beginPattern_6 rfl ?_
  replace h := p_lt h
  refine e_putI dX7_beginPattern_7 rfl ⟨rfl, rfl, (fun h => by cases h)⟩ (fun h => by cases h) h1.1 h1.2 ?_
  refine e_aload_n dX7_beginPattern_10 rfl ?_
  obtain ⟨q4, hq4, h⟩ := p_bd h
  refine e_getR dX7_beginPattern_11 rfl rfl h1.1 h1.2 hq4 ?_
  refine e_iconst (v := (0 : Int32)) dX7_beginPattern_14 rfl ?_
  obtain ⟨q5, hq5, h⟩ := p_bd h
  refine f_cSv dX7_beginPattern_15 rfl rfl rfl rfl (fun Q' hQ' => E_J7_fill_53178 hq5 hQ') ?_
  cases h
  exact e_vret dX7_beginPattern_18 rfl hQ
/-! X12_pattern -/
def F_X12_pattern_c24 (v0 : Nat) (v1 : Int32) (v2 : Int32) (s0 : Int32) (μ : p_M) : Option (Nat × Int32 × p_M) :=
  (F_X12_need s0 μ).bind fun q3 =>
  if q3.1 = 0
  then (p_ok (mK q3.2.2 v0 = 13 ∧ v0 < mN q3.2.2)
    ((mR q3.2.2 v0 19).bind fun q5 =>
    p_ok (mK q3.2.2 q5 = 8 ∧ q5 < mN q3.2.2)
    ((F_X7_beginPattern q5 v1 v2 q3.2.2).bind fun q6 =>
    some (0, 0, q6.2))))
  else (some (q3.1, 0, q3.2.2))
theorem E_X12_pattern_c24 {X : p_X} {d : Nat} {Q : p_R → Prop} {v0 : Nat} {v1 : Int32} {v2 : Int32} {s0 : Int32} {μ : p_M} {r : Nat × Int32 × p_M} (h : F_X12_pattern_c24 v0 v1 v2 s0 μ = some r) (hQ : Q (tV r)) : p_Ev X (d + 2) M_X12_pattern 24 [.ref v0, .int v1, .int v2] [.int s0] μ Q := by
  unfold F_X12_pattern_c24 at h
  obtain ⟨q3, hq3, h⟩ := p_bd h
  refine f_tSv dX12_pattern_24 rfl rfl rfl rfl (by decide) rfl (fun Q' hQ' => E_X12_need hq3 hQ') (fun hc => ?_) (fun hc => ?_)
  · rw [if_pos hc] at h
    refine e_aload_n dX12_pattern_27 rfl ?_
    obtain ⟨h4, h⟩ := p_ok_some h
    obtain ⟨q5, hq5, h⟩ := p_bd h
    refine e_getR dX12_pattern_28 rfl rfl h4.1 h4.2 hq5 ?_
    refine e_iload_n dX12_pattern_31 rfl ?_
    refine e_iload_n dX12_pattern_32 rfl ?_
    obtain ⟨h7, h⟩ := p_ok_some h
    obtain ⟨q6, hq6, h⟩ := p_bd h
    refine f_cVv dX12_pattern_33 rfl rfl ⟨rfl, rfl, by decide⟩ rfl h7 (fun Q' hQ' => E_X7_beginPattern hq6 hQ') ?_
    cases h
    exact e_vret dX12_pattern_36 rfl hQ
  · rw [if_neg hc] at h
    cases h
    exact hQ
def F_X12_pattern_c23 (v0 : Nat) (v1 : Int32) (v2 : Int32) (μ : p_M) : Option (Nat × Int32 × p_M) :=
  F_X12_pattern_c24 v0 v1 v2 (0 : Int32) μ
theorem E_X12_pattern_c23 {X : p_X} {d : Nat} {Q : p_R → Prop} {v0 : Nat} {v1 : Int32} {v2 : Int32} {μ : p_M} {r : Nat × Int32 × p_M} (h : F_X12_pattern_c23 v0 v1 v2 μ = some r) (hQ : Q (tV r)) : p_Ev X (d + 2) M_X12_pattern 23 [.ref v0, .int v1, .int v2] [] μ Q := by
  unfold F_X12_pattern_c23 at h
  refine e_iconst (v := (0 : Int32)) dX12_pattern_23 rfl ?_
  exact E_X12_pattern_c24 h hQ
def F_X12_pattern (v0 : Nat) (v1 : Int32) (v2 : Int32) (μ : p_M) : Option (Nat × Int32 × p_M) :=
  (F_X12_within v1 (1 : Int32) (6 : Int32) μ).bind fun q1 =>
  if q1.1 = 0
  then (F_X12_pattern_c23 v0 v1 v2 q1.2)
  else ((F_X12_within v2 (1 : Int32) (4 : Int32) q1.2).bind fun q2 =>
    if q2.1 = 0
    then (F_X12_pattern_c23 v0 v1 v2 q2.2)
    else (F_X12_pattern_c24 v0 v1 v2 (1 : Int32) q2.2))
theorem E_X12_pattern {X : p_X} {d : Nat} {Q : p_R → Prop} {v0 : Nat} {v1 : Int32} {v2 : Int32} {μ : p_M} {r : Nat × Int32 × p_M} (h : F_X12_pattern v0 v1 v2 μ = some r) (hQ : Q (tV r)) : p_Ev X (d + 2) M_X12_pattern 0 [.ref v0, .int v1, .int v2] [] μ Q := by
  unfold F_X12_pattern at h
  refine e_iload_n dX12_pattern_0 rfl ?_
  refine e_iconst (v := (1 : Int32)) dX12_pattern_1 rfl ?_
  refine e_bipush (v := (6 : Int32)) dX12_pattern_2 rfl ?_
  obtain ⟨q1, hq1, h⟩ := p_bd h
  refine f_cSi dX12_pattern_4 rfl rfl rfl rfl (fun Q' hQ' => E_X12_within hq1 hQ') ?_
  refine e_if_eq dX12_pattern_7 23 (by decide) (fun hc => ?_) (fun hc => ?_)
  · rw [if_pos hc] at h
    exact E_X12_pattern_c23 h hQ
  · rw [if_neg hc] at h
    refine e_iload_n dX12_pattern_10 rfl ?_
    refine e_iconst (v := (1 : Int32)) dX12_pattern_11 rfl ?_
    refine e_iconst (v := (4 : Int32)) dX12_pattern_12 rfl ?_
    obtain ⟨q2, hq2, h⟩ := p_bd h
    refine f_cSi dX12_pattern_13 rfl rfl rfl rfl (fun Q' hQ' => E_X12_within hq2 hQ') ?_
    refine e_if_eq dX12_pattern_16 23 (by decide) (fun hc => ?_) (fun hc => ?_)
    · rw [if_pos hc] at h
      exact E_X12_pattern_c23 h hQ
    · rw [if_neg hc] at h
      refine e_iconst (v := (1 : Int32)) dX12_pattern_19 rfl ?_
      refine e_goto dX12_pattern_20 24 (by decide) ?_
      exact E_X12_pattern_c24 h hQ
/-! L_pattern -/
def F_L_pattern (v0 : Nat) (v1 : Int32) (v2 : Int32) (μ : p_M) : Option (Int32 × p_M) :=
  p_ok (mK μ v0 = 13 ∧ v0 < mN μ)
  ((F_X12_pattern v0 v1 v2 μ).bind fun q1 =>
  if q1.1 = 0
  then (some ((0 : Int32), q1.2.2))
  else if q1.1 = 1 then (some ((1 : Int32), q1.2.2))
  else none)
theorem E_L_pattern {X : p_X} {d : Nat} {Q : p_R → Prop} {v0 : Nat} {v1 : Int32} {v2 : Int32} {μ : p_M} {r : Int32 × p_M} (h : F_L_pattern v0 v1 v2 μ = some r) (hQ : Q ((0, some (.int r.1)), r.2)) : p_Ev X (d + 3) M_L_pattern 0 [.ref v0, .int v1, .int v2, .double 0] [] μ Q := by
  unfold F_L_pattern at h
  refine e_aload_n dL_pattern_0 rfl ?_
  refine e_iload_n dL_pattern_1 rfl ?_
  refine e_iload_n dL_pattern_2 rfl ?_
  obtain ⟨h2, h⟩ := p_ok_some h
  obtain ⟨q1, hq1, h⟩ := p_bd h
  refine f_hVv dL_pattern_3 rfl rfl ⟨rfl, rfl, by decide⟩ rfl h2 (by decide) (fun Q' hQ' => E_X12_pattern hq1 hQ') (fun hc => ?_) (fun hc => ?_)
  · rw [if_pos hc] at h
    refine e_goto dL_pattern_6 12 (by decide) ?_
    refine e_iconst (v := (0 : Int32)) dL_pattern_12 rfl ?_
    cases h
    exact e_ireti dL_pattern_13 rfl hQ
  · rw [if_neg hc] at h
    by_cases hc : q1.1 = 1
    · rw [if_pos hc] at h
      refine ⟨9, by rw [hc]; rfl, ?_⟩
      refine e_astZ_n dL_pattern_9 (Nat.le_of_ble_eq_true rfl) rfl ?_
      refine e_iconst (v := (1 : Int32)) dL_pattern_10 rfl ?_
      cases h
      exact e_ireti dL_pattern_11 rfl hQ
    rw [if_neg hc] at h
    cases h
/-! X12_pour -/
def F_X12_pour_c37 (v0 : Nat) (v1 : Int32) (v2 : Int32) (v3 : Int32) (s0 : Int32) (μ : p_M) : Option (Nat × Int32 × p_M) :=
  (F_X12_need s0 μ).bind fun q7 =>
  if q7.1 = 0
  then (p_ok (mK q7.2.2 v0 = 13 ∧ v0 < mN q7.2.2)
    ((mR q7.2.2 v0 10).bind fun q9 =>
    p_ok (mK q7.2.2 q9 = 12 ∧ q9 < mN q7.2.2)
    ((F_X11_putIn q9 v1 v2 v3 q7.2.2).bind fun q10 =>
    some (0, q10.1, q10.2))))
  else (some (q7.1, 0, q7.2.2))
theorem E_X12_pour_c37 {X : p_X} {d : Nat} {Q : p_R → Prop} {v0 : Nat} {v1 : Int32} {v2 : Int32} {v3 : Int32} {s0 : Int32} {μ : p_M} {r : Nat × Int32 × p_M} (h : F_X12_pour_c37 v0 v1 v2 v3 s0 μ = some r) (hQ : Q (tI r)) : p_Ev X (d + 2) M_X12_pour 37 [.ref v0, .int v1, .int v2, .int v3] [.int s0] μ Q := by
  unfold F_X12_pour_c37 at h
  obtain ⟨q7, hq7, h⟩ := p_bd h
  refine f_tSv dX12_pour_37 rfl rfl rfl rfl (by decide) rfl (fun Q' hQ' => E_X12_need hq7 hQ') (fun hc => ?_) (fun hc => ?_)
  · rw [if_pos hc] at h
    refine e_aload_n dX12_pour_40 rfl ?_
    obtain ⟨h8, h⟩ := p_ok_some h
    obtain ⟨q9, hq9, h⟩ := p_bd h
    refine e_getR dX12_pour_41 rfl rfl h8.1 h8.2 hq9 ?_
    refine e_iload_n dX12_pour_44 rfl ?_
    refine e_iload_n dX12_pour_45 rfl ?_
    refine e_iload_n dX12_pour_46 rfl ?_
    obtain ⟨h11, h⟩ := p_ok_some h
    obtain ⟨q10, hq10, h⟩ := p_bd h
    refine f_cVi dX12_pour_47 rfl rfl ⟨rfl, rfl, by decide⟩ rfl h11 (fun Q' hQ' => E_X11_putIn hq10 hQ') ?_
    cases h
    exact e_ireti dX12_pour_50 rfl hQ
  · rw [if_neg hc] at h
    cases h
    exact tI_E hc hQ
def F_X12_pour_c36 (v0 : Nat) (v1 : Int32) (v2 : Int32) (v3 : Int32) (μ : p_M) : Option (Nat × Int32 × p_M) :=
  F_X12_pour_c37 v0 v1 v2 v3 (0 : Int32) μ
theorem E_X12_pour_c36 {X : p_X} {d : Nat} {Q : p_R → Prop} {v0 : Nat} {v1 : Int32} {v2 : Int32} {v3 : Int32} {μ : p_M} {r : Nat × Int32 × p_M} (h : F_X12_pour_c36 v0 v1 v2 v3 μ = some r) (hQ : Q (tI r)) : p_Ev X (d + 2) M_X12_pour 36 [.ref v0, .int v1, .int v2, .int v3] [] μ Q := by
  unfold F_X12_pour_c36 at h
  refine e_iconst (v := (0 : Int32)) dX12_pour_36 rfl ?_
  exact E_X12_pour_c37 h hQ
def F_X12_pour (v0 : Nat) (v1 : Int32) (v2 : Int32) (v3 : Int32) (μ : p_M) : Option (Nat × Int32 × p_M) :=
  p_ok (mK μ v0 = 13 ∧ v0 < mN μ)
  ((mR μ v0 10).bind fun q2 =>
  p_ok (mK μ q2 = 12 ∧ q2 < mN μ)
  ((F_X12_needIndex v1 (mI μ q2 3) μ).bind fun q4 =>
  if q4.1 = 0
  then ((F_X12_within v2 (1 : Int32) (1000 : Int32) q4.2.2).bind fun q5 =>
    if q5.1 = 0
    then (F_X12_pour_c36 v0 v1 v2 v3 q5.2)
    else ((F_X12_within v3 (0 : Int32) (100000 : Int32) q5.2).bind fun q6 =>
      if q6.1 = 0
      then (F_X12_pour_c36 v0 v1 v2 v3 q6.2)
      else (F_X12_pour_c37 v0 v1 v2 v3 (1 : Int32) q6.2)))
  else (some (q4.1, 0, q4.2.2))))
theorem E_X12_pour {X : p_X} {d : Nat} {Q : p_R → Prop} {v0 : Nat} {v1 : Int32} {v2 : Int32} {v3 : Int32} {μ : p_M} {r : Nat × Int32 × p_M} (h : F_X12_pour v0 v1 v2 v3 μ = some r) (hQ : Q (tI r)) : p_Ev X (d + 2) M_X12_pour 0 [.ref v0, .int v1, .int v2, .int v3] [] μ Q := by
  unfold F_X12_pour at h
  refine e_iload_n dX12_pour_0 rfl ?_
  refine e_aload_n dX12_pour_1 rfl ?_
  obtain ⟨h1, h⟩ := p_ok_some h
  obtain ⟨q2, hq2, h⟩ := p_bd h
  refine e_getR dX12_pour_2 rfl rfl h1.1 h1.2 hq2 ?_
  obtain ⟨h3, h⟩ := p_ok_some h
  refine e_getI dX12_pour_5 rfl rfl h3.1 h3.2 ?_
  obtain ⟨q4, hq4, h⟩ := p_bd h
  refine f_tSv dX12_pour_8 rfl rfl rfl rfl (by decide) rfl (fun Q' hQ' => E_X12_needIndex hq4 hQ') (fun hc => ?_) (fun hc => ?_)
  · rw [if_pos hc] at h
    refine e_iload_n dX12_pour_11 rfl ?_
    refine e_iconst (v := (1 : Int32)) dX12_pour_12 rfl ?_
    refine e_sipush (v := (1000 : Int32)) dX12_pour_13 rfl ?_
    obtain ⟨q5, hq5, h⟩ := p_bd h
    refine f_cSi dX12_pour_16 rfl rfl rfl rfl (fun Q' hQ' => E_X12_within hq5 hQ') ?_
    refine e_if_eq dX12_pour_19 36 (by decide) (fun hc => ?_) (fun hc => ?_)
    · rw [if_pos hc] at h
      exact E_X12_pour_c36 h hQ
    · rw [if_neg hc] at h
      refine e_iload_n dX12_pour_22 rfl ?_
      refine e_iconst (v := (0 : Int32)) dX12_pour_23 rfl ?_
      refine e_ldc (v := (100000 : Int32)) dX12_pour_24 rfl ?_
      obtain ⟨q6, hq6, h⟩ := p_bd h
      refine f_cSi dX12_pour_26 rfl rfl rfl rfl (fun Q' hQ' => E_X12_within hq6 hQ') ?_
      refine e_if_eq dX12_pour_29 36 (by decide) (fun hc => ?_) (fun hc => ?_)
      · rw [if_pos hc] at h
        exact E_X12_pour_c36 h hQ
      · rw [if_neg hc] at h
        refine e_iconst (v := (1 : Int32)) dX12_pour_32 rfl ?_
        refine e_goto dX12_pour_33 37 (by decide) ?_
        exact E_X12_pour_c37 h hQ
  · rw [if_neg hc] at h
    cases h
    exact tI_E hc hQ
/-! L_pour -/
def F_L_pour (v0 : Nat) (v1 : Int32) (v2 : Int32) (v3 : Int32) (v4 : Nat) (μ : p_M) : Option (Int32 × p_M) :=
  p_ok (mK μ v0 = 13 ∧ v0 < mN μ)
  ((F_X12_pour v0 v1 v2 v3 μ).bind fun q1 =>
  if q1.1 = 0
  then (p_ok (mK q1.2.2 v4 = 22 ∧ ¬ (0 : Int32) < 0 ∧ (0 : Int32).toNatClampNeg < mL q1.2.2 v4 ∧ v4 < mN q1.2.2)
    (p_let (sJ q1.2.2 v4 (0 : Int32).toNatClampNeg q1.2.1.toInt64) fun m4 =>
    some ((0 : Int32), m4)))
  else if q1.1 = 3 then (some ((1 : Int32), q1.2.2))
  else if q1.1 = 1 then (some ((2 : Int32), q1.2.2))
  else none)
theorem E_L_pour {X : p_X} {d : Nat} {Q : p_R → Prop} {v0 : Nat} {v1 : Int32} {v2 : Int32} {v3 : Int32} {v4 : Nat} {μ : p_M} {r : Int32 × p_M} (h : F_L_pour v0 v1 v2 v3 v4 μ = some r) (hQ : Q ((0, some (.int r.1)), r.2)) : p_Ev X (d + 3) M_L_pour 0 [.ref v0, .int v1, .int v2, .int v3, .ref v4, .double 0] [] μ Q := by
  unfold F_L_pour at h
  refine e_aload dL_pour_0 rfl ?_
  refine e_iconst (v := (0 : Int32)) dL_pour_2 rfl ?_
  refine e_aload_n dL_pour_3 rfl ?_
  refine e_iload_n dL_pour_4 rfl ?_
  refine e_iload_n dL_pour_5 rfl ?_
  refine e_iload_n dL_pour_6 rfl ?_
  obtain ⟨h2, h⟩ := p_ok_some h
  obtain ⟨q1, hq1, h⟩ := p_bd h
  refine f_hVi dL_pour_7 rfl rfl ⟨rfl, rfl, by decide⟩ rfl h2 (by decide) (fun Q' hQ' => E_X12_pour hq1 hQ') (fun hc => ?_) (fun hc => ?_)
  · rw [if_pos hc] at h
    refine e_i2l dL_pour_10 ?_
    obtain ⟨h3, h⟩ := p_ok_some h
    replace h := p_lt h
    refine e_laS dL_pour_11 h3 ?_
    refine e_goto dL_pour_12 23 (by decide) ?_
    refine e_iconst (v := (0 : Int32)) dL_pour_23 rfl ?_
    cases h
    exact e_ireti dL_pour_24 rfl hQ
  · rw [if_neg hc] at h
    by_cases hc : q1.1 = 3
    · rw [if_pos hc] at h
      refine ⟨15, by rw [hc]; rfl, ?_⟩
      refine e_astZ dL_pour_15 (Nat.le_of_ble_eq_true rfl) rfl ?_
      refine e_iconst (v := (1 : Int32)) dL_pour_17 rfl ?_
      cases h
      exact e_ireti dL_pour_18 rfl hQ
    rw [if_neg hc] at h
    by_cases hc : q1.1 = 1
    · rw [if_pos hc] at h
      refine ⟨19, by rw [hc]; rfl, ?_⟩
      refine e_astZ dL_pour_19 (Nat.le_of_ble_eq_true rfl) rfl ?_
      refine e_iconst (v := (2 : Int32)) dL_pour_21 rfl ?_
      cases h
      exact e_ireti dL_pour_22 rfl hQ
    rw [if_neg hc] at h
    cases h
/-! X12_ready -/
def F_X12_ready (v0 : Nat) (v1 : Int32) (μ : p_M) : Option (Nat × Int32 × p_M) :=
  p_ok (mK μ v0 = 13 ∧ v0 < mN μ)
  ((F_X12_needIndex v1 (mI μ v0 2) μ).bind fun q2 =>
  if q2.1 = 0
  then (p_ok (mK q2.2.2 v0 = 13 ∧ v0 < mN q2.2.2)
    ((F_X12_findPacks v0 v1 q2.2.2).bind fun q3 =>
    some (0, q3.1, q3.2)))
  else (some (q2.1, 0, q2.2.2)))
theorem E_X12_ready {X : p_X} {d : Nat} {Q : p_R → Prop} {v0 : Nat} {v1 : Int32} {μ : p_M} {r : Nat × Int32 × p_M} (h : F_X12_ready v0 v1 μ = some r) (hQ : Q (tI r)) : p_Ev X (d + 4) M_X12_ready 0 [.ref v0, .int v1] [] μ Q := by
  unfold F_X12_ready at h
  refine e_iload_n dX12_ready_0 rfl ?_
  refine e_aload_n dX12_ready_1 rfl ?_
  obtain ⟨h1, h⟩ := p_ok_some h
  refine e_getI dX12_ready_2 rfl rfl h1.1 h1.2 ?_
  obtain ⟨q2, hq2, h⟩ := p_bd h
  refine f_tSv dX12_ready_5 rfl rfl rfl rfl (by decide) rfl (fun Q' hQ' => E_X12_needIndex hq2 hQ') (fun hc => ?_) (fun hc => ?_)
  · rw [if_pos hc] at h
    refine e_aload_n dX12_ready_8 rfl ?_
    refine e_iload_n dX12_ready_9 rfl ?_
    obtain ⟨h4, h⟩ := p_ok_some h
    obtain ⟨q3, hq3, h⟩ := p_bd h
    refine f_cVi dX12_ready_10 rfl rfl ⟨rfl, rfl, by decide⟩ rfl h4 (fun Q' hQ' => E_X12_findPacks hq3 hQ') ?_
    cases h
    exact e_ireti dX12_ready_13 rfl hQ
  · rw [if_neg hc] at h
    cases h
    exact tI_E hc hQ
/-! L_ready -/
def F_L_ready (v0 : Nat) (v1 : Int32) (v2 : Nat) (μ : p_M) : Option (Int32 × p_M) :=
  p_ok (mK μ v0 = 13 ∧ v0 < mN μ)
  ((F_X12_ready v0 v1 μ).bind fun q1 =>
  if q1.1 = 0
  then (p_ok (mK q1.2.2 v2 = 22 ∧ ¬ (0 : Int32) < 0 ∧ (0 : Int32).toNatClampNeg < mL q1.2.2 v2 ∧ v2 < mN q1.2.2)
    (p_let (sJ q1.2.2 v2 (0 : Int32).toNatClampNeg q1.2.1.toInt64) fun m4 =>
    some ((0 : Int32), m4)))
  else if q1.1 = 3 then (some ((1 : Int32), q1.2.2))
  else none)
theorem E_L_ready {X : p_X} {d : Nat} {Q : p_R → Prop} {v0 : Nat} {v1 : Int32} {v2 : Nat} {μ : p_M} {r : Int32 × p_M} (h : F_L_ready v0 v1 v2 μ = some r) (hQ : Q ((0, some (.int r.1)), r.2)) : p_Ev X (d + 5) M_L_ready 0 [.ref v0, .int v1, .ref v2, .double 0] [] μ Q := by
  unfold F_L_ready at h
  refine e_aload_n dL_ready_0 rfl ?_
  refine e_iconst (v := (0 : Int32)) dL_ready_1 rfl ?_
  refine e_aload_n dL_ready_2 rfl ?_
  refine e_iload_n dL_ready_3 rfl ?_
  obtain ⟨h2, h⟩ := p_ok_some h
  obtain ⟨q1, hq1, h⟩ := p_bd h
  refine f_hVi dL_ready_4 rfl rfl ⟨rfl, rfl, by decide⟩ rfl h2 (by decide) (fun Q' hQ' => E_X12_ready hq1 hQ') (fun hc => ?_) (fun hc => ?_)
  · rw [if_pos hc] at h
    refine e_i2l dL_ready_7 ?_
    obtain ⟨h3, h⟩ := p_ok_some h
    replace h := p_lt h
    refine e_laS dL_ready_8 h3 ?_
    refine e_goto dL_ready_9 15 (by decide) ?_
    refine e_iconst (v := (0 : Int32)) dL_ready_15 rfl ?_
    cases h
    exact e_ireti dL_ready_16 rfl hQ
  · rw [if_neg hc] at h
    by_cases hc : q1.1 = 3
    · rw [if_pos hc] at h
      refine ⟨12, by rw [hc]; rfl, ?_⟩
      refine e_astZ_n dL_ready_12 (Nat.le_of_ble_eq_true rfl) rfl ?_
      refine e_iconst (v := (1 : Int32)) dL_ready_13 rfl ?_
      cases h
      exact e_ireti dL_ready_14 rfl hQ
    rw [if_neg hc] at h
    cases h
/-! X8_readBath -/
def F_X8_readBath_c56 (μ : p_M) : Option (Int32 × p_M) :=
  some (0, μ)
theorem E_X8_readBath_c56 {X : p_X} {d : Nat} {Q : p_R → Prop} {w0 : Value} {w1 : Value} {w2 : Value} {w3 : Value} {μ : p_M} {r : Int32 × p_M} (h : F_X8_readBath_c56 μ = some r) (hQ : Q ((0, none), r.2)) : p_Ev X (d + 2) M_X8_readBath 56 [w0, w1, w2, w3] [] μ Q := by
  unfold F_X8_readBath_c56 at h
  cases h
  exact e_vret dX8_readBath_56 rfl hQ
def F_X8_readBath_c41 (v0 : Nat) (v1 : Nat) (v2 : Int32) (s0 : Int32) (μ : p_M) : Option (Int32 × p_M) :=
  p_ok (mK μ v1 = 11 ∧ v1 < mN μ)
  (if ¬ (mI μ v1 3) = (-1)
  then (F_X8_readBath_c56 μ)
  else (p_ok (mK μ v0 = 9 ∧ v0 < mN μ)
    ((F_X8_add v0 v2 s0 μ).bind fun q11 =>
    F_X8_readBath_c56 q11.2)))
theorem E_X8_readBath_c41 {X : p_X} {d : Nat} {Q : p_R → Prop} {v0 : Nat} {v1 : Nat} {v2 : Int32} {s0 : Int32} {w3 : Value} {μ : p_M} {r : Int32 × p_M} (h : F_X8_readBath_c41 v0 v1 v2 s0 μ = some r) (hQ : Q ((0, none), r.2)) : p_Ev X (d + 2) M_X8_readBath 41 [.ref v0, .ref v1, .int v2, w3] [.int s0] μ Q := by
  unfold F_X8_readBath_c41 at h
  refine e_istore_n dX8_readBath_41 (Nat.le_of_ble_eq_true rfl) rfl ?_
  refine e_aload_n dX8_readBath_42 rfl ?_
  obtain ⟨h10, h⟩ := p_ok_some h
  refine e_getI dX8_readBath_43 rfl rfl h10.1 h10.2 ?_
  refine e_iconst (v := (-1)) dX8_readBath_46 rfl ?_
  refine e_ic_ne dX8_readBath_47 56 (by decide) (fun hc => ?_) (fun hc => ?_)
  · rw [if_pos hc] at h
    exact E_X8_readBath_c56 h hQ
  · rw [if_neg hc] at h
    refine e_aload_n dX8_readBath_50 rfl ?_
    refine e_iload_n dX8_readBath_51 rfl ?_
    refine e_iload_n dX8_readBath_52 rfl ?_
    obtain ⟨h12, h⟩ := p_ok_some h
    obtain ⟨q11, hq11, h⟩ := p_bd h
    refine f_cVv dX8_readBath_53 rfl rfl ⟨rfl, rfl, by decide⟩ rfl h12 (fun Q' hQ' => E_X8_add hq11 hQ') ?_
    exact E_X8_readBath_c56 h hQ
def F_X8_readBath (v0 : Nat) (v1 : Nat) (μ : p_M) : Option (Int32 × p_M) :=
  p_ok (mK μ v0 = 9 ∧ v0 < mN μ)
  ((mR μ v0 0).bind fun q2 =>
  p_ok (q2 < p_E ∧ 20 ≤ mK μ q2 ∧ mK μ q2 ≤ 26 ∧ q2 < mN μ)
  (if (mI μ v0 2) < (nI (mL μ q2))
  then (p_ok (mK μ v1 = 11 ∧ v1 < mN μ)
    ((F_X10_pick v1 (p_E + 10 + 22) μ).bind fun q4 =>
    if ¬ q4.1 = (3 : Int32)
    then (p_ok (mK q4.2 v1 = 11 ∧ v1 < mN q4.2)
      ((F_X10_number v1 (2 : Int32) (1 : Int32) (20 : Int32) q4.2).bind fun q6 =>
      F_X8_readBath_c41 v0 v1 q4.1 q6.1 q6.2))
    else (F_X8_readBath_c41 v0 v1 q4.1 (1 : Int32) q4.2)))
  else (p_ok (mK μ v1 = 11 ∧ v1 < mN μ)
    ((F_X10_refuseNext v1 μ).bind fun q8 =>
    some (0, q8.2)))))
theorem E_X8_readBath {X : p_X} {d : Nat} {Q : p_R → Prop} {v0 : Nat} {v1 : Nat} {μ : p_M} {r : Int32 × p_M} (h : F_X8_readBath v0 v1 μ = some r) (hQ : Q ((0, none), r.2)) : p_Ev X (d + 2) M_X8_readBath 0 [.ref v0, .ref v1, .double 0, .double 0] [] μ Q := by
  unfold F_X8_readBath at h
  refine e_aload_n dX8_readBath_0 rfl ?_
  obtain ⟨h1, h⟩ := p_ok_some h
  refine e_getI dX8_readBath_1 rfl rfl h1.1 h1.2 ?_
  refine e_aload_n dX8_readBath_4 rfl ?_
  obtain ⟨q2, hq2, h⟩ := p_bd h
  refine e_getR dX8_readBath_5 rfl rfl h1.1 h1.2 hq2 ?_
  obtain ⟨h3, h⟩ := p_ok_some h
  refine e_alen dX8_readBath_8 h3 ?_
  refine e_ic_lt dX8_readBath_9 17 (by decide) (fun hc => ?_) (fun hc => ?_)
  · rw [if_pos hc] at h
    refine e_aload_n dX8_readBath_17 rfl ?_
    refine e_ldcS dX8_readBath_18 rfl rfl ?_
    obtain ⟨h5, h⟩ := p_ok_some h
    obtain ⟨q4, hq4, h⟩ := p_bd h
    refine f_cVi dX8_readBath_20 rfl rfl ⟨rfl, rfl, by decide⟩ rfl h5 (fun Q' hQ' => E_X10_pick hq4 hQ') ?_
    refine e_istore_n dX8_readBath_23 (Nat.le_of_ble_eq_true rfl) rfl ?_
    refine e_iload_n dX8_readBath_24 rfl ?_
    refine e_iconst (v := (3 : Int32)) dX8_readBath_25 rfl ?_
    refine e_ic_ne dX8_readBath_26 33 (by decide) (fun hc => ?_) (fun hc => ?_)
    · rw [if_pos hc] at h
      refine e_aload_n dX8_readBath_33 rfl ?_
      refine e_iconst (v := (2 : Int32)) dX8_readBath_34 rfl ?_
      refine e_iconst (v := (1 : Int32)) dX8_readBath_35 rfl ?_
      refine e_bipush (v := (20 : Int32)) dX8_readBath_36 rfl ?_
      obtain ⟨h7, h⟩ := p_ok_some h
      obtain ⟨q6, hq6, h⟩ := p_bd h
      refine f_cVi dX8_readBath_38 rfl rfl ⟨rfl, rfl, by decide⟩ rfl h7 (fun Q' hQ' => E_X10_number hq6 hQ') ?_
      exact E_X8_readBath_c41 h hQ
    · rw [if_neg hc] at h
      refine e_iconst (v := (1 : Int32)) dX8_readBath_29 rfl ?_
      refine e_goto dX8_readBath_30 41 (by decide) ?_
      exact E_X8_readBath_c41 h hQ
  · rw [if_neg hc] at h
    refine e_aload_n dX8_readBath_12 rfl ?_
    obtain ⟨h9, h⟩ := p_ok_some h
    obtain ⟨q8, hq8, h⟩ := p_bd h
    refine f_cVv dX8_readBath_13 rfl rfl ⟨rfl, rfl, by decide⟩ rfl h9 (fun Q' hQ' => E_X10_refuseNext hq8 hQ') ?_
    cases h
    exact e_vret dX8_readBath_16 rfl hQ
/-! X8_read -/
def F_X8_read_c46 (μ : p_M) : Option (Int32 × p_M) :=
  some (0, μ)
theorem E_X8_read_c46 {X : p_X} {d : Nat} {Q : p_R → Prop} {w0 : Value} {w1 : Value} {w2 : Value} {w3 : Value} {μ : p_M} {r : Int32 × p_M} (h : F_X8_read_c46 μ = some r) (hQ : Q ((0, none), r.2)) : p_Ev X (d + 3) M_X8_read 46 [w0, w1, w2, w3] [] μ Q := by
  unfold F_X8_read_c46 at h
  cases h
  exact e_vret dX8_read_46 rfl hQ
def F_X8_read_c20 : Nat → Nat → Nat → Int32 → Int32 → p_M → Option (Int32 × p_M)
  | 0, _, _, _, _, _ => none
  | n + 1, v0, v1, v2, v3, μ =>
    if (20 : Int32) < v3
    then (F_X8_read_c46 μ)
    else (if v2 = 0
      then (F_X8_read_c46 μ)
      else (p_ok (mK μ v0 = 9 ∧ v0 < mN μ)
        ((F_X8_readBath v0 v1 μ).bind fun q5 =>
        p_ok (mK q5.2 v1 = 11 ∧ v1 < mN q5.2)
        ((F_X10_goesOn v1 q5.2).bind fun q7 =>
        F_X8_read_c20 n v0 v1 q7.1 (v3 + (1 : Int32)) q7.2))))
theorem E_X8_read_c20 {X : p_X} {d : Nat} {Q : p_R → Prop} : ∀ (n : Nat) (v0 : Nat) (v1 : Nat) (v2 : Int32) (v3 : Int32) (μ : p_M) (r : Int32 × p_M), F_X8_read_c20 n v0 v1 v2 v3 μ = some r → Q ((0, none), r.2) → p_Ev X (d + 3) M_X8_read 20 [.ref v0, .ref v1, .int v2, .int v3] [] μ Q := by
  intro n
  induction n with
  | zero => intro v0 v1 v2 v3 μ r h hQ; rw [F_X8_read_c20] at h; cases h
  | succ n ih =>
    intro v0 v1 v2 v3 μ r h hQ
    rw [F_X8_read_c20] at h
    refine e_iload_n dX8_read_20 rfl ?_
    refine e_bipush (v := (20 : Int32)) dX8_read_21 rfl ?_
    refine e_ic_gt dX8_read_23 46 (by decide) (fun hc => ?_) (fun hc => ?_)
    · rw [if_pos hc] at h
      exact E_X8_read_c46 h hQ
    · rw [if_neg hc] at h
      refine e_iload_n dX8_read_26 rfl ?_
      refine e_if_eq dX8_read_27 46 (by decide) (fun hc => ?_) (fun hc => ?_)
      · rw [if_pos hc] at h
        exact E_X8_read_c46 h hQ
      · rw [if_neg hc] at h
        refine e_aload_n dX8_read_30 rfl ?_
        refine e_aload_n dX8_read_31 rfl ?_
        obtain ⟨h6, h⟩ := p_ok_some h
        obtain ⟨q5, hq5, h⟩ := p_bd h
        refine f_cVv dX8_read_32 rfl rfl ⟨rfl, rfl, by decide⟩ rfl h6 (fun Q' hQ' => E_X8_readBath hq5 hQ') ?_
        refine e_aload_n dX8_read_35 rfl ?_
        obtain ⟨h8, h⟩ := p_ok_some h
        obtain ⟨q7, hq7, h⟩ := p_bd h
        refine f_cVi dX8_read_36 rfl rfl ⟨rfl, rfl, by decide⟩ rfl h8 (fun Q' hQ' => E_X10_goesOn hq7 hQ') ?_
        refine e_istore_n dX8_read_39 (Nat.le_of_ble_eq_true rfl) rfl ?_
        refine e_iinc (v := (1 : Int32)) dX8_read_40 rfl rfl rfl ?_
        refine e_goto dX8_read_43 20 (by decide) ?_
        exact ih _ _ _ _ _ _ h hQ
def F_X8_read_c17 (v0 : Nat) (v1 : Nat) (s0 : Int32) (μ : p_M) : Option (Int32 × p_M) :=
  F_X8_read_c20 p_fu v0 v1 s0 (0 : Int32) μ
theorem E_X8_read_c17 {X : p_X} {d : Nat} {Q : p_R → Prop} {v0 : Nat} {v1 : Nat} {s0 : Int32} {w2 : Value} {w3 : Value} {μ : p_M} {r : Int32 × p_M} (h : F_X8_read_c17 v0 v1 s0 μ = some r) (hQ : Q ((0, none), r.2)) : p_Ev X (d + 3) M_X8_read 17 [.ref v0, .ref v1, w2, w3] [.int s0] μ Q := by
  unfold F_X8_read_c17 at h
  refine e_istore_n dX8_read_17 (Nat.le_of_ble_eq_true rfl) rfl ?_
  refine e_iconst (v := (0 : Int32)) dX8_read_18 rfl ?_
  refine e_istore_n dX8_read_19 (Nat.le_of_ble_eq_true rfl) rfl ?_
  exact E_X8_read_c20 p_fu _ _ _ _ _ _ h hQ
def F_X8_read (v0 : Nat) (v1 : Nat) (μ : p_M) : Option (Int32 × p_M) :=
  p_ok (mK μ v0 = 9 ∧ v0 < mN μ)
  (p_let (sI μ v0 2 (0 : Int32)) fun m2 =>
  p_ok (mK m2 v1 = 11 ∧ v1 < mN m2)
  ((F_X10_isBlank v1 m2).bind fun q3 =>
  if ¬ q3.1 = 0
  then (F_X8_read_c17 v0 v1 (0 : Int32) q3.2)
  else (F_X8_read_c17 v0 v1 (1 : Int32) q3.2)))
theorem E_X8_read {X : p_X} {d : Nat} {Q : p_R → Prop} {v0 : Nat} {v1 : Nat} {μ : p_M} {r : Int32 × p_M} (h : F_X8_read v0 v1 μ = some r) (hQ : Q ((0, none), r.2)) : p_Ev X (d + 3) M_X8_read 0 [.ref v0, .ref v1, .double 0, .double 0] [] μ Q := by
  unfold F_X8_read at h
  refine e_aload_n dX8_read_0 rfl ?_
  refine e_iconst (v := (0 : Int32)) dX8_read_1 rfl ?_
  obtain ⟨h1, h⟩ := p_ok_some h
  replace h := p_lt h
  refine e_putI dX8_read_2 rfl ⟨rfl, rfl, (fun h => by cases h)⟩ (fun h => by cases h) h1.1 h1.2 ?_
  refine e_aload_n dX8_read_5 rfl ?_
  obtain ⟨h4, h⟩ := p_ok_some h
  obtain ⟨q3, hq3, h⟩ := p_bd h
  refine f_cVi dX8_read_6 rfl rfl ⟨rfl, rfl, by decide⟩ rfl h4 (fun Q' hQ' => E_X10_isBlank hq3 hQ') ?_
  refine e_if_ne dX8_read_9 16 (by decide) (fun hc => ?_) (fun hc => ?_)
  · rw [if_pos hc] at h
    refine e_iconst (v := (0 : Int32)) dX8_read_16 rfl ?_
    exact E_X8_read_c17 h hQ
  · rw [if_neg hc] at h
    refine e_iconst (v := (1 : Int32)) dX8_read_12 rfl ?_
    refine e_goto dX8_read_13 17 (by decide) ?_
    exact E_X8_read_c17 h hQ
/-! X12_recipe -/
def F_X12_recipe_c42 (v0 : Nat) (s0 : Int32) (μ : p_M) : Option (Nat × Int32 × p_M) :=
  (F_X12_need s0 μ).bind fun q14 =>
  if q14.1 = 0
  then (p_ok (mK q14.2.2 v0 = 13 ∧ v0 < mN q14.2.2)
    ((mR q14.2.2 v0 3).bind fun q16 =>
    (mR q14.2.2 v0 4).bind fun q17 =>
    p_let (sR q14.2.2 v0 3 (some q17)) fun m18 =>
    p_let (sR m18 v0 4 (some q16)) fun m19 =>
    (mR m19 v0 3).bind fun q20 =>
    p_ok (mK m19 q20 = 9 ∧ q20 < mN m19)
    (some (0, (mI m19 q20 2), m19))))
  else (some (q14.1, 0, q14.2.2))
theorem E_X12_recipe_c42 {X : p_X} {d : Nat} {Q : p_R → Prop} {v0 : Nat} {s0 : Int32} {w1 : Value} {μ : p_M} {r : Nat × Int32 × p_M} (h : F_X12_recipe_c42 v0 s0 μ = some r) (hQ : Q (tI r)) : p_Ev X (d + 4) M_X12_recipe 42 [.ref v0, w1] [.int s0] μ Q := by
  unfold F_X12_recipe_c42 at h
  obtain ⟨q14, hq14, h⟩ := p_bd h
  refine f_tSv dX12_recipe_42 rfl rfl rfl rfl (by decide) rfl (fun Q' hQ' => E_X12_need hq14 hQ') (fun hc => ?_) (fun hc => ?_)
  · rw [if_pos hc] at h
    refine e_aload_n dX12_recipe_45 rfl ?_
    obtain ⟨h15, h⟩ := p_ok_some h
    obtain ⟨q16, hq16, h⟩ := p_bd h
    refine e_getR dX12_recipe_46 rfl rfl h15.1 h15.2 hq16 ?_
    refine e_astore_n dX12_recipe_49 (Nat.le_of_ble_eq_true rfl) rfl ?_
    refine e_aload_n dX12_recipe_50 rfl ?_
    refine e_aload_n dX12_recipe_51 rfl ?_
    obtain ⟨q17, hq17, h⟩ := p_bd h
    refine e_getR dX12_recipe_52 rfl rfl h15.1 h15.2 hq17 ?_
    replace h := p_lt h
    refine e_putR dX12_recipe_55 rfl ⟨rfl, rfl, (fun h => by cases h)⟩ h15 ?_
    refine e_aload_n dX12_recipe_58 rfl ?_
    refine e_aload_n dX12_recipe_59 rfl ?_
    replace h := p_lt h
    refine e_putR dX12_recipe_60 rfl ⟨rfl, rfl, (fun h => by cases h)⟩ h15 ?_
    refine e_aload_n dX12_recipe_63 rfl ?_
    obtain ⟨q20, hq20, h⟩ := p_bd h
    refine e_getR dX12_recipe_64 rfl rfl h15.1 h15.2 hq20 ?_
    obtain ⟨h21, h⟩ := p_ok_some h
    refine e_getI dX12_recipe_67 rfl rfl h21.1 h21.2 ?_
    cases h
    exact e_ireti dX12_recipe_70 rfl hQ
  · rw [if_neg hc] at h
    cases h
    exact tI_E hc hQ
def F_X12_recipe (v0 : Nat) (μ : p_M) : Option (Nat × Int32 × p_M) :=
  p_ok (mK μ v0 = 13 ∧ v0 < mN μ)
  ((mR μ v0 0).bind fun q2 =>
  p_ok (mK μ q2 = 11 ∧ q2 < mN μ)
  ((F_X10_open q2 μ).bind fun q3 =>
  p_ok (mK q3.2 v0 = 13 ∧ v0 < mN q3.2)
  ((mR q3.2 v0 4).bind fun q6 =>
  (mR q3.2 v0 0).bind fun q7 =>
  p_ok (mK q3.2 q6 = 9 ∧ q6 < mN q3.2)
  ((F_X8_read q6 q7 q3.2).bind fun q8 =>
  p_ok (mK q8.2 v0 = 13 ∧ v0 < mN q8.2)
  ((mR q8.2 v0 0).bind fun q11 =>
  p_ok (mK q8.2 q11 = 11 ∧ q11 < mN q8.2)
  (p_let (sI q8.2 q11 1 (0 : Int32)) fun m13 =>
  if ¬ (mI m13 q11 3) = (-1)
  then (F_X12_recipe_c42 v0 (0 : Int32) m13)
  else (F_X12_recipe_c42 v0 (1 : Int32) m13)))))))
theorem E_X12_recipe {X : p_X} {d : Nat} {Q : p_R → Prop} {v0 : Nat} {μ : p_M} {r : Nat × Int32 × p_M} (h : F_X12_recipe v0 μ = some r) (hQ : Q (tI r)) : p_Ev X (d + 4) M_X12_recipe 0 [.ref v0, .double 0] [] μ Q := by
  unfold F_X12_recipe at h
  refine e_aload_n dX12_recipe_0 rfl ?_
  obtain ⟨h1, h⟩ := p_ok_some h
  obtain ⟨q2, hq2, h⟩ := p_bd h
  refine e_getR dX12_recipe_1 rfl rfl h1.1 h1.2 hq2 ?_
  obtain ⟨h4, h⟩ := p_ok_some h
  obtain ⟨q3, hq3, h⟩ := p_bd h
  refine f_cVv dX12_recipe_4 rfl rfl ⟨rfl, rfl, by decide⟩ rfl h4 (fun Q' hQ' => E_X10_open hq3 hQ') ?_
  refine e_aload_n dX12_recipe_7 rfl ?_
  obtain ⟨h5, h⟩ := p_ok_some h
  obtain ⟨q6, hq6, h⟩ := p_bd h
  refine e_getR dX12_recipe_8 rfl rfl h5.1 h5.2 hq6 ?_
  refine e_aload_n dX12_recipe_11 rfl ?_
  obtain ⟨q7, hq7, h⟩ := p_bd h
  refine e_getR dX12_recipe_12 rfl rfl h5.1 h5.2 hq7 ?_
  obtain ⟨h9, h⟩ := p_ok_some h
  obtain ⟨q8, hq8, h⟩ := p_bd h
  refine f_cVv dX12_recipe_15 rfl rfl ⟨rfl, rfl, by decide⟩ rfl h9 (fun Q' hQ' => E_X8_read hq8 hQ') ?_
  refine e_aload_n dX12_recipe_18 rfl ?_
  obtain ⟨h10, h⟩ := p_ok_some h
  obtain ⟨q11, hq11, h⟩ := p_bd h
  refine e_getR dX12_recipe_19 rfl rfl h10.1 h10.2 hq11 ?_
  refine e_iconst (v := (0 : Int32)) dX12_recipe_22 rfl ?_
  obtain ⟨h12, h⟩ := p_ok_some h
  replace h := p_lt h
  refine e_putI dX12_recipe_23 rfl ⟨rfl, rfl, (fun _ => rfl)⟩ (fun h => by cases h) h12.1 h12.2 ?_
  refine e_aload_n dX12_recipe_26 rfl ?_
  refine e_getR dX12_recipe_27 rfl rfl h10.1 h10.2 hq11 ?_
  refine e_getI dX12_recipe_30 rfl rfl h12.1 h12.2 ?_
  refine e_iconst (v := (-1)) dX12_recipe_33 rfl ?_
  refine e_ic_ne dX12_recipe_34 41 (by decide) (fun hc => ?_) (fun hc => ?_)
  · rw [if_pos hc] at h
    refine e_iconst (v := (0 : Int32)) dX12_recipe_41 rfl ?_
    exact E_X12_recipe_c42 h hQ
  · rw [if_neg hc] at h
    refine e_iconst (v := (1 : Int32)) dX12_recipe_37 rfl ?_
    refine e_goto dX12_recipe_38 42 (by decide) ?_
    exact E_X12_recipe_c42 h hQ
