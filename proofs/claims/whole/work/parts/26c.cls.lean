/-! X9_bestBath -/
def F_X9_bestBath_c30 (s0 : Int32) (μ : p_M) : Option (Int32 × p_M) :=
  some (s0, μ)
theorem E_X9_bestBath_c30 {X : p_X} {d : Nat} {Q : p_R → Prop} {s0 : Int32} {w0 : Value} {w1 : Value} {μ : p_M} {r : Int32 × p_M} (h : F_X9_bestBath_c30 s0 μ = some r) (hQ : Q ((0, some (.int r.1)), r.2)) : p_Ev X (d + 0) M_X9_bestBath 30 [w0, w1] [.int s0] μ Q := by
  unfold F_X9_bestBath_c30 at h
  cases h
  exact e_ireti dX9_bestBath_30 rfl hQ
def F_X9_bestBath_c29 (μ : p_M) : Option (Int32 × p_M) :=
  F_X9_bestBath_c30 (-1) μ
theorem E_X9_bestBath_c29 {X : p_X} {d : Nat} {Q : p_R → Prop} {w0 : Value} {w1 : Value} {μ : p_M} {r : Int32 × p_M} (h : F_X9_bestBath_c29 μ = some r) (hQ : Q ((0, some (.int r.1)), r.2)) : p_Ev X (d + 0) M_X9_bestBath 29 [w0, w1] [] μ Q := by
  unfold F_X9_bestBath_c29 at h
  refine e_iconst (v := (-1)) dX9_bestBath_29 rfl ?_
  exact E_X9_bestBath_c30 h hQ
def F_X9_bestBath (v0 : Nat) (v1 : Int32) (μ : p_M) : Option (Int32 × p_M) :=
  p_ok (mK μ v0 = 10 ∧ v0 < mN μ)
  (if (mI μ v0 3) = (-1)
  then (F_X9_bestBath_c29 μ)
  else (if v1 < 0
    then (F_X9_bestBath_c29 μ)
    else (if (mI μ v0 4) ≤ v1
      then (F_X9_bestBath_c29 μ)
      else ((mR μ v0 2).bind fun q2 =>
        p_ok (q2 < p_E ∧ mK μ q2 = 20 ∧ q2 < mN μ)
        (p_ok (¬ v1 < 0 ∧ v1.toNatClampNeg < mL μ q2)
        (F_X9_bestBath_c30 (mI μ q2 v1.toNatClampNeg) μ))))))
theorem E_X9_bestBath {X : p_X} {d : Nat} {Q : p_R → Prop} {v0 : Nat} {v1 : Int32} {μ : p_M} {r : Int32 × p_M} (h : F_X9_bestBath v0 v1 μ = some r) (hQ : Q ((0, some (.int r.1)), r.2)) : p_Ev X (d + 0) M_X9_bestBath 0 [.ref v0, .int v1] [] μ Q := by
  unfold F_X9_bestBath at h
  refine e_aload_n dX9_bestBath_0 rfl ?_
  obtain ⟨h1, h⟩ := p_ok_some h
  refine e_getI dX9_bestBath_1 rfl rfl h1.1 h1.2 ?_
  refine e_iconst (v := (-1)) dX9_bestBath_4 rfl ?_
  refine e_ic_eq dX9_bestBath_5 29 (by decide) (fun hc => ?_) (fun hc => ?_)
  · rw [if_pos hc] at h
    exact E_X9_bestBath_c29 h hQ
  · rw [if_neg hc] at h
    refine e_iload_n dX9_bestBath_8 rfl ?_
    refine e_if_lt dX9_bestBath_9 29 (by decide) (fun hc => ?_) (fun hc => ?_)
    · rw [if_pos hc] at h
      exact E_X9_bestBath_c29 h hQ
    · rw [if_neg hc] at h
      refine e_iload_n dX9_bestBath_12 rfl ?_
      refine e_aload_n dX9_bestBath_13 rfl ?_
      refine e_getI dX9_bestBath_14 rfl rfl h1.1 h1.2 ?_
      refine e_ic_ge dX9_bestBath_17 29 (by decide) (fun hc => ?_) (fun hc => ?_)
      · rw [if_pos hc] at h
        exact E_X9_bestBath_c29 h hQ
      · rw [if_neg hc] at h
        refine e_aload_n dX9_bestBath_20 rfl ?_
        obtain ⟨q2, hq2, h⟩ := p_bd h
        refine e_getR dX9_bestBath_21 rfl rfl h1.1 h1.2 hq2 ?_
        refine e_iload_n dX9_bestBath_24 rfl ?_
        obtain ⟨h3, h⟩ := p_ok_some h
        obtain ⟨h4, h⟩ := p_ok_some h
        refine e_iaG dX9_bestBath_25 h3 h4 ?_
        refine e_goto dX9_bestBath_26 30 (by decide) ?_
        exact E_X9_bestBath_c30 h hQ
/-! X12_bath -/
def F_X12_bath (X : p_X) (v0 : Nat) (v1 : Int32) (v2 : Int32) (v3 : Int32) (v4 : Int32) (v5 : Int32) (v6 : Int32) (μ : p_M) : Option (Nat × Int32 × p_M) :=
  p_ok (mK μ v0 = 13 ∧ v0 < mN μ)
  ((F_X12_searchFor X v0 v1 v2 v3 v4 v5 μ).bind fun q1 =>
  if q1.1 = 0
  then (p_ok (mK q1.2.2 v0 = 13 ∧ v0 < mN q1.2.2)
    ((mR q1.2.2 v0 8).bind fun q4 =>
    p_ok (mK q1.2.2 q4 = 10 ∧ q4 < mN q1.2.2)
    ((F_X9_bestBath q4 v6 q1.2.2).bind fun q5 =>
    some (0, q5.1, q5.2))))
  else (some (q1.1, 0, q1.2.2)))
theorem E_X12_bath {X : p_X} {d : Nat} {Q : p_R → Prop} {v0 : Nat} {v1 : Int32} {v2 : Int32} {v3 : Int32} {v4 : Int32} {v5 : Int32} {v6 : Int32} {μ : p_M} {r : Nat × Int32 × p_M} (h : F_X12_bath X v0 v1 v2 v3 v4 v5 v6 μ = some r) (hQ : Q (tI r)) : p_Ev X (d + 13) M_X12_bath 0 [.ref v0, .int v1, .int v2, .int v3, .int v4, .int v5, .int v6] [] μ Q := by
  unfold F_X12_bath at h
  refine e_aload_n dX12_bath_0 rfl ?_
  refine e_iload_n dX12_bath_1 rfl ?_
  refine e_iload_n dX12_bath_2 rfl ?_
  refine e_iload_n dX12_bath_3 rfl ?_
  refine e_iload dX12_bath_4 rfl ?_
  refine e_iload dX12_bath_6 rfl ?_
  obtain ⟨h2, h⟩ := p_ok_some h
  obtain ⟨q1, hq1, h⟩ := p_bd h
  refine f_tVv dX12_bath_8 rfl rfl ⟨rfl, rfl, by decide⟩ rfl h2 (by decide) rfl (fun Q' hQ' => E_X12_searchFor hq1 hQ') (fun hc => ?_) (fun hc => ?_)
  · rw [if_pos hc] at h
    refine e_aload_n dX12_bath_11 rfl ?_
    obtain ⟨h3, h⟩ := p_ok_some h
    obtain ⟨q4, hq4, h⟩ := p_bd h
    refine e_getR dX12_bath_12 rfl rfl h3.1 h3.2 hq4 ?_
    refine e_iload dX12_bath_15 rfl ?_
    obtain ⟨h6, h⟩ := p_ok_some h
    obtain ⟨q5, hq5, h⟩ := p_bd h
    refine f_cVi dX12_bath_17 rfl rfl ⟨rfl, rfl, by decide⟩ rfl h6 (fun Q' hQ' => E_X9_bestBath hq5 hQ') ?_
    cases h
    exact e_ireti dX12_bath_20 rfl hQ
  · rw [if_neg hc] at h
    cases h
    exact tI_E hc hQ
/-! L_bath -/
def F_L_bath (X : p_X) (v0 : Nat) (v1 : Int32) (v2 : Int32) (v3 : Int32) (v4 : Int32) (v5 : Int32) (v6 : Int32) (v7 : Nat) (μ : p_M) : Option (Int32 × p_M) :=
  p_ok (mK μ v0 = 13 ∧ v0 < mN μ)
  ((F_X12_bath X v0 v1 v2 v3 v4 v5 v6 μ).bind fun q1 =>
  if q1.1 = 0
  then (p_ok (mK q1.2.2 v7 = 22 ∧ ¬ (0 : Int32) < 0 ∧ (0 : Int32).toNatClampNeg < mL q1.2.2 v7 ∧ v7 < mN q1.2.2)
    (p_let (sJ q1.2.2 v7 (0 : Int32).toNatClampNeg q1.2.1.toInt64) fun m4 =>
    some ((0 : Int32), m4)))
  else if q1.1 = 3 then (some ((1 : Int32), q1.2.2))
  else if q1.1 = 1 then (some ((2 : Int32), q1.2.2))
  else none)
theorem E_L_bath {X : p_X} {d : Nat} {Q : p_R → Prop} {v0 : Nat} {v1 : Int32} {v2 : Int32} {v3 : Int32} {v4 : Int32} {v5 : Int32} {v6 : Int32} {v7 : Nat} {μ : p_M} {r : Int32 × p_M} (h : F_L_bath X v0 v1 v2 v3 v4 v5 v6 v7 μ = some r) (hQ : Q ((0, some (.int r.1)), r.2)) : p_Ev X (d + 14) M_L_bath 0 [.ref v0, .int v1, .int v2, .int v3, .int v4, .int v5, .int v6, .ref v7, .double 0] [] μ Q := by
  unfold F_L_bath at h
  refine e_aload dL_bath_0 rfl ?_
  refine e_iconst (v := (0 : Int32)) dL_bath_2 rfl ?_
  refine e_aload_n dL_bath_3 rfl ?_
  refine e_iload_n dL_bath_4 rfl ?_
  refine e_iload_n dL_bath_5 rfl ?_
  refine e_iload_n dL_bath_6 rfl ?_
  refine e_iload dL_bath_7 rfl ?_
  refine e_iload dL_bath_9 rfl ?_
  refine e_iload dL_bath_11 rfl ?_
  obtain ⟨h2, h⟩ := p_ok_some h
  obtain ⟨q1, hq1, h⟩ := p_bd h
  refine f_hVi dL_bath_13 rfl rfl ⟨rfl, rfl, by decide⟩ rfl h2 (by decide) (fun Q' hQ' => E_X12_bath hq1 hQ') (fun hc => ?_) (fun hc => ?_)
  · rw [if_pos hc] at h
    refine e_i2l dL_bath_16 ?_
    obtain ⟨h3, h⟩ := p_ok_some h
    replace h := p_lt h
    refine e_laS dL_bath_17 h3 ?_
    refine e_goto dL_bath_18 29 (by decide) ?_
    refine e_iconst (v := (0 : Int32)) dL_bath_29 rfl ?_
    cases h
    exact e_ireti dL_bath_30 rfl hQ
  · rw [if_neg hc] at h
    by_cases hc : q1.1 = 3
    · rw [if_pos hc] at h
      refine ⟨21, by rw [hc]; rfl, ?_⟩
      refine e_astZ dL_bath_21 (Nat.le_of_ble_eq_true rfl) rfl ?_
      refine e_iconst (v := (1 : Int32)) dL_bath_23 rfl ?_
      cases h
      exact e_ireti dL_bath_24 rfl hQ
    rw [if_neg hc] at h
    by_cases hc : q1.1 = 1
    · rw [if_pos hc] at h
      refine ⟨25, by rw [hc]; rfl, ?_⟩
      refine e_astZ dL_bath_25 (Nat.le_of_ble_eq_true rfl) rfl ?_
      refine e_iconst (v := (2 : Int32)) dL_bath_27 rfl ?_
      cases h
      exact e_ireti dL_bath_28 rfl hQ
    rw [if_neg hc] at h
    cases h
/-! X7_heatAt -/
def F_X7_heatAt_c14 (μ : p_M) : Option (Int32 × p_M) :=
  some ((0 : Int32), μ)
theorem E_X7_heatAt_c14 {X : p_X} {d : Nat} {Q : p_R → Prop} {w0 : Value} {w1 : Value} {w2 : Value} {μ : p_M} {r : Int32 × p_M} (h : F_X7_heatAt_c14 μ = some r) (hQ : Q ((0, some (.int r.1)), r.2)) : p_Ev X (d + 0) M_X7_heatAt 14 [w0, w1, w2] [] μ Q := by
  unfold F_X7_heatAt_c14 at h
  refine e_iconst (v := (0 : Int32)) dX7_heatAt_14 rfl ?_
  cases h
  exact e_ireti dX7_heatAt_15 rfl hQ
def F_X7_heatAt (v0 : Nat) (v1 : Int32) (v2 : Int32) (μ : p_M) : Option (Int32 × p_M) :=
  p_ok (mK μ v0 = 8 ∧ v0 < mN μ)
  (if (mI μ v0 1) ≤ 0
  then (F_X7_heatAt_c14 μ)
  else (if 0 < (mI μ v0 2)
    then ((mR μ v0 0).bind fun q2 =>
      p_ok (¬ (mI μ v0 2) = 0)
      (p_ok (¬ (mI μ v0 1) = 0)
      (p_ok (q2 < p_E ∧ mK μ q2 = 20 ∧ q2 < mN μ)
      (p_ok (¬ (((p_fm v2 (mI μ v0 2)) * (6 : Int32)) + (p_fm v1 (mI μ v0 1))) < 0 ∧ (((p_fm v2 (mI μ v0 2)) * (6 : Int32)) + (p_fm v1 (mI μ v0 1))).toNatClampNeg < mL μ q2)
      (some ((mI μ q2 (((p_fm v2 (mI μ v0 2)) * (6 : Int32)) + (p_fm v1 (mI μ v0 1))).toNatClampNeg), μ))))))
    else (F_X7_heatAt_c14 μ)))
theorem E_X7_heatAt {X : p_X} {d : Nat} {Q : p_R → Prop} {v0 : Nat} {v1 : Int32} {v2 : Int32} {μ : p_M} {r : Int32 × p_M} (h : F_X7_heatAt v0 v1 v2 μ = some r) (hQ : Q ((0, some (.int r.1)), r.2)) : p_Ev X (d + 0) M_X7_heatAt 0 [.ref v0, .int v1, .int v2] [] μ Q := by
  unfold F_X7_heatAt at h
  refine e_aload_n dX7_heatAt_0 rfl ?_
  obtain ⟨h1, h⟩ := p_ok_some h
  refine e_getI dX7_heatAt_1 rfl rfl h1.1 h1.2 ?_
  refine e_if_le dX7_heatAt_4 14 (by decide) (fun hc => ?_) (fun hc => ?_)
  · rw [if_pos hc] at h
    exact E_X7_heatAt_c14 h hQ
  · rw [if_neg hc] at h
    refine e_aload_n dX7_heatAt_7 rfl ?_
    refine e_getI dX7_heatAt_8 rfl rfl h1.1 h1.2 ?_
    refine e_if_gt dX7_heatAt_11 16 (by decide) (fun hc => ?_) (fun hc => ?_)
    · rw [if_pos hc] at h
      refine e_aload_n dX7_heatAt_16 rfl ?_
      obtain ⟨q2, hq2, h⟩ := p_bd h
      refine e_getR dX7_heatAt_17 rfl rfl h1.1 h1.2 hq2 ?_
      refine e_iload_n dX7_heatAt_20 rfl ?_
      refine e_aload_n dX7_heatAt_21 rfl ?_
      refine e_getI dX7_heatAt_22 rfl rfl h1.1 h1.2 ?_
      obtain ⟨h3, h⟩ := p_ok_some h
      refine e_fm dX7_heatAt_25 rfl (Nat.le_of_ble_eq_true rfl) h3 ?_
      refine e_bipush (v := (6 : Int32)) dX7_heatAt_28 rfl ?_
      refine e_imul dX7_heatAt_30 ?_
      refine e_iload_n dX7_heatAt_31 rfl ?_
      refine e_aload_n dX7_heatAt_32 rfl ?_
      refine e_getI dX7_heatAt_33 rfl rfl h1.1 h1.2 ?_
      obtain ⟨h4, h⟩ := p_ok_some h
      refine e_fm dX7_heatAt_36 rfl (Nat.le_of_ble_eq_true rfl) h4 ?_
      refine e_iadd dX7_heatAt_39 ?_
      obtain ⟨h5, h⟩ := p_ok_some h
      obtain ⟨h6, h⟩ := p_ok_some h
      refine e_iaG dX7_heatAt_40 h5 h6 ?_
      cases h
      exact e_ireti dX7_heatAt_41 rfl hQ
    · rw [if_neg hc] at h
      exact E_X7_heatAt_c14 h hQ
/-! X7_burnOne -/
def F_X7_burnOne_c21 (K11 : Nat → Int32 → Int32 → Nat → Int32 → p_M → Option (Int32 × p_M)) : Nat → Nat → Int32 → Int32 → Nat → Int32 → Int32 → p_M → Option (Int32 × p_M)
  | 0, _, _, _, _, _, _, _ => none
  | n + 1, v0, v2, v3, v4, v5, v6, μ =>
    if (12 : Int32) ≤ v6
    then (K11 v0 v2 v3 v4 (v5 + (1 : Int32)) μ)
    else (p_ok (v4 < p_E ∧ mK μ v4 = 20 ∧ v4 < mN μ)
      (p_ok (¬ ((v5 * (12 : Int32)) + v6) < 0 ∧ ((v5 * (12 : Int32)) + v6).toNatClampNeg < mL μ v4)
      (p_ok (mK μ v0 = 8 ∧ v0 < mN μ)
      ((F_X7_heatAt v0 (v6 - v2) (v5 - v3) μ).bind fun q7 =>
      p_ok (v4 < p_E ∧ mK q7.2 v4 = 20 ∧ v4 < mN q7.2)
      (p_ok (¬ ((v5 * (12 : Int32)) + v6) < 0 ∧ ((v5 * (12 : Int32)) + v6).toNatClampNeg < mL q7.2 v4)
      (p_let (sI q7.2 v4 ((v5 * (12 : Int32)) + v6).toNatClampNeg (if ((mI μ v4 ((v5 * (12 : Int32)) + v6).toNatClampNeg) + q7.1) < (99 : Int32) then ((mI μ v4 ((v5 * (12 : Int32)) + v6).toNatClampNeg) + q7.1) else (99 : Int32))) fun m11 =>
      F_X7_burnOne_c21 K11 n v0 v2 v3 v4 v5 (v6 + (1 : Int32)) m11))))))
theorem E_X7_burnOne_c21 {X : p_X} {d : Nat} {Q : p_R → Prop} {K11 : Nat → Int32 → Int32 → Nat → Int32 → p_M → Option (Int32 × p_M)} (hK11 : ∀ (v0 : Nat) (v2 : Int32) (v3 : Int32) (v4 : Nat) (v5 : Int32) (μ : p_M) (r : Int32 × p_M) (w1 : Value) (w6 : Value) (w7 : Value), K11 v0 v2 v3 v4 v5 μ = some r → Q ((0, none), r.2) → p_Ev X (d + 1) M_X7_burnOne 11 [.ref v0, w1, .int v2, .int v3, .ref v4, .int v5, w6, w7] [] μ Q) : ∀ (n : Nat) (v0 : Nat) (v2 : Int32) (v3 : Int32) (v4 : Nat) (v5 : Int32) (v6 : Int32) (μ : p_M) (r : Int32 × p_M) (w1 : Value) (w7 : Value), F_X7_burnOne_c21 K11 n v0 v2 v3 v4 v5 v6 μ = some r → Q ((0, none), r.2) → p_Ev X (d + 1) M_X7_burnOne 21 [.ref v0, w1, .int v2, .int v3, .ref v4, .int v5, .int v6, w7] [] μ Q := by
  intro n
  induction n with
  | zero => intro v0 v2 v3 v4 v5 v6 μ r w1 w7 h hQ; rw [F_X7_burnOne_c21] at h; cases h
  | succ n ih =>
    intro v0 v2 v3 v4 v5 v6 μ r w1 w7 h hQ
    rw [F_X7_burnOne_c21] at h
    refine e_iload dX7_burnOne_21 rfl ?_
    refine e_bipush (v := (12 : Int32)) dX7_burnOne_23 rfl ?_
    refine e_ic_ge dX7_burnOne_25 72 (by decide) (fun hc => ?_) (fun hc => ?_)
    · rw [if_pos hc] at h
      refine e_iinc (v := (1 : Int32)) dX7_burnOne_72 rfl rfl rfl ?_
      refine e_goto dX7_burnOne_75 11 (by decide) ?_
      exact hK11 _ _ _ _ _ _ _ _ _ _ h hQ
    · rw [if_neg hc] at h
      refine e_iload dX7_burnOne_28 rfl ?_
      refine e_bipush (v := (12 : Int32)) dX7_burnOne_30 rfl ?_
      refine e_imul dX7_burnOne_32 ?_
      refine e_iload dX7_burnOne_33 rfl ?_
      refine e_iadd dX7_burnOne_35 ?_
      refine e_istore dX7_burnOne_36 (Nat.le_of_ble_eq_true rfl) rfl ?_
      refine e_aload dX7_burnOne_38 rfl ?_
      refine e_iload dX7_burnOne_40 rfl ?_
      refine e_bipush (v := (99 : Int32)) dX7_burnOne_42 rfl ?_
      refine e_aload dX7_burnOne_44 rfl ?_
      refine e_iload dX7_burnOne_46 rfl ?_
      obtain ⟨h5, h⟩ := p_ok_some h
      obtain ⟨h6, h⟩ := p_ok_some h
      refine e_iaG dX7_burnOne_48 h5 h6 ?_
      refine e_aload_n dX7_burnOne_49 rfl ?_
      refine e_iload dX7_burnOne_50 rfl ?_
      refine e_iload_n dX7_burnOne_52 rfl ?_
      refine e_isub dX7_burnOne_53 ?_
      refine e_iload dX7_burnOne_54 rfl ?_
      refine e_iload_n dX7_burnOne_56 rfl ?_
      refine e_isub dX7_burnOne_57 ?_
      obtain ⟨h8, h⟩ := p_ok_some h
      obtain ⟨q7, hq7, h⟩ := p_bd h
      refine f_cVi dX7_burnOne_58 rfl rfl ⟨rfl, rfl, by decide⟩ rfl h8 (fun Q' hQ' => E_X7_heatAt hq7 hQ') ?_
      refine e_iadd dX7_burnOne_61 ?_
      refine e_min dX7_burnOne_62 rfl (Nat.le_of_ble_eq_true rfl) ?_
      obtain ⟨h9, h⟩ := p_ok_some h
      obtain ⟨h10, h⟩ := p_ok_some h
      replace h := p_lt h
      refine e_iaS dX7_burnOne_65 h9 h10 ?_
      refine e_iinc (v := (1 : Int32)) dX7_burnOne_66 rfl rfl rfl ?_
      refine e_goto dX7_burnOne_69 21 (by decide) ?_
      exact ih _ _ _ _ _ _ _ _ _ _ h hQ
def F_X7_burnOne_c11 : Nat → Nat → Int32 → Int32 → Nat → Int32 → p_M → Option (Int32 × p_M)
  | 0, _, _, _, _, _, _ => none
  | n + 1, v0, v2, v3, v4, v5, μ =>
    if (8 : Int32) ≤ v5
    then (some (0, μ))
    else (F_X7_burnOne_c21 (F_X7_burnOne_c11 n) p_fu v0 v2 v3 v4 v5 (0 : Int32) μ)
theorem E_X7_burnOne_c11 {X : p_X} {d : Nat} {Q : p_R → Prop} : ∀ (n : Nat) (v0 : Nat) (v2 : Int32) (v3 : Int32) (v4 : Nat) (v5 : Int32) (μ : p_M) (r : Int32 × p_M) (w1 : Value) (w6 : Value) (w7 : Value), F_X7_burnOne_c11 n v0 v2 v3 v4 v5 μ = some r → Q ((0, none), r.2) → p_Ev X (d + 1) M_X7_burnOne 11 [.ref v0, w1, .int v2, .int v3, .ref v4, .int v5, w6, w7] [] μ Q := by
  intro n
  induction n with
  | zero => intro v0 v2 v3 v4 v5 μ r w1 w6 w7 h hQ; rw [F_X7_burnOne_c11] at h; cases h
  | succ n ih =>
    intro v0 v2 v3 v4 v5 μ r w1 w6 w7 h hQ
    rw [F_X7_burnOne_c11] at h
    refine e_iload dX7_burnOne_11 rfl ?_
    refine e_bipush (v := (8 : Int32)) dX7_burnOne_13 rfl ?_
    refine e_ic_ge dX7_burnOne_15 78 (by decide) (fun hc => ?_) (fun hc => ?_)
    · rw [if_pos hc] at h
      cases h
      exact e_vret dX7_burnOne_78 rfl hQ
    · rw [if_neg hc] at h
      refine e_iconst (v := (0 : Int32)) dX7_burnOne_18 rfl ?_
      refine e_istore dX7_burnOne_19 (Nat.le_of_ble_eq_true rfl) rfl ?_
      exact E_X7_burnOne_c21 ih p_fu _ _ _ _ _ _ _ _ _ _ h hQ
def F_X7_burnOne (v0 : Nat) (v1 : Int32) (v2 : Int32) (v3 : Int32) (μ : p_M) : Option (Int32 × p_M) :=
  p_ok (mK μ v0 = 8 ∧ v0 < mN μ)
  ((mR μ v0 3).bind fun q2 =>
  p_ok (23 ≤ mK μ q2 ∧ mK μ q2 ≤ 26 ∧ ¬ v1 < 0 ∧ v1.toNatClampNeg < mL μ q2 ∧ q2 < mN μ)
  ((mR μ q2 v1.toNatClampNeg).bind fun q4 =>
  F_X7_burnOne_c11 p_fu v0 v2 v3 q4 (0 : Int32) μ))
theorem E_X7_burnOne {X : p_X} {d : Nat} {Q : p_R → Prop} {v0 : Nat} {v1 : Int32} {v2 : Int32} {v3 : Int32} {μ : p_M} {r : Int32 × p_M} (h : F_X7_burnOne v0 v1 v2 v3 μ = some r) (hQ : Q ((0, none), r.2)) : p_Ev X (d + 1) M_X7_burnOne 0 [.ref v0, .int v1, .int v2, .int v3, .double 0, .double 0, .double 0, .double 0] [] μ Q := by
  unfold F_X7_burnOne at h
  refine e_aload_n dX7_burnOne_0 rfl ?_
  obtain ⟨h1, h⟩ := p_ok_some h
  obtain ⟨q2, hq2, h⟩ := p_bd h
  refine e_getR dX7_burnOne_1 rfl rfl h1.1 h1.2 hq2 ?_
  refine e_iload_n dX7_burnOne_4 rfl ?_
  obtain ⟨h3, h⟩ := p_ok_some h
  obtain ⟨q4, hq4, h⟩ := p_bd h
  refine e_aald dX7_burnOne_5 h3 hq4 ?_
  refine e_astore dX7_burnOne_6 (Nat.le_of_ble_eq_true rfl) rfl ?_
  refine e_iconst (v := (0 : Int32)) dX7_burnOne_8 rfl ?_
  refine e_istore dX7_burnOne_9 (Nat.le_of_ble_eq_true rfl) rfl ?_
  exact E_X7_burnOne_c11 p_fu _ _ _ _ _ _ _ _ _ _ h hQ
/-! X12_burn -/
def F_X12_burn_c28 (v0 : Nat) (v1 : Int32) (v2 : Int32) (v3 : Int32) (s0 : Int32) (μ : p_M) : Option (Nat × Int32 × p_M) :=
  (F_X12_need s0 μ).bind fun q4 =>
  if q4.1 = 0
  then (p_ok (mK q4.2.2 v0 = 13 ∧ v0 < mN q4.2.2)
    ((mR q4.2.2 v0 19).bind fun q6 =>
    p_ok (mK q4.2.2 q6 = 8 ∧ q6 < mN q4.2.2)
    ((F_X7_burnOne q6 v1 v2 v3 q4.2.2).bind fun q7 =>
    some (0, 0, q7.2))))
  else (some (q4.1, 0, q4.2.2))
theorem E_X12_burn_c28 {X : p_X} {d : Nat} {Q : p_R → Prop} {v0 : Nat} {v1 : Int32} {v2 : Int32} {v3 : Int32} {s0 : Int32} {μ : p_M} {r : Nat × Int32 × p_M} (h : F_X12_burn_c28 v0 v1 v2 v3 s0 μ = some r) (hQ : Q (tV r)) : p_Ev X (d + 2) M_X12_burn 28 [.ref v0, .int v1, .int v2, .int v3] [.int s0] μ Q := by
  unfold F_X12_burn_c28 at h
  obtain ⟨q4, hq4, h⟩ := p_bd h
  refine f_tSv dX12_burn_28 rfl rfl rfl rfl (by decide) rfl (fun Q' hQ' => E_X12_need hq4 hQ') (fun hc => ?_) (fun hc => ?_)
  · rw [if_pos hc] at h
    refine e_aload_n dX12_burn_31 rfl ?_
    obtain ⟨h5, h⟩ := p_ok_some h
    obtain ⟨q6, hq6, h⟩ := p_bd h
    refine e_getR dX12_burn_32 rfl rfl h5.1 h5.2 hq6 ?_
    refine e_iload_n dX12_burn_35 rfl ?_
    refine e_iload_n dX12_burn_36 rfl ?_
    refine e_iload_n dX12_burn_37 rfl ?_
    obtain ⟨h8, h⟩ := p_ok_some h
    obtain ⟨q7, hq7, h⟩ := p_bd h
    refine f_cVv dX12_burn_38 rfl rfl ⟨rfl, rfl, by decide⟩ rfl h8 (fun Q' hQ' => E_X7_burnOne hq7 hQ') ?_
    cases h
    exact e_vret dX12_burn_41 rfl hQ
  · rw [if_neg hc] at h
    cases h
    exact hQ
def F_X12_burn_c27 (v0 : Nat) (v1 : Int32) (v2 : Int32) (v3 : Int32) (μ : p_M) : Option (Nat × Int32 × p_M) :=
  F_X12_burn_c28 v0 v1 v2 v3 (0 : Int32) μ
theorem E_X12_burn_c27 {X : p_X} {d : Nat} {Q : p_R → Prop} {v0 : Nat} {v1 : Int32} {v2 : Int32} {v3 : Int32} {μ : p_M} {r : Nat × Int32 × p_M} (h : F_X12_burn_c27 v0 v1 v2 v3 μ = some r) (hQ : Q (tV r)) : p_Ev X (d + 2) M_X12_burn 27 [.ref v0, .int v1, .int v2, .int v3] [] μ Q := by
  unfold F_X12_burn_c27 at h
  refine e_iconst (v := (0 : Int32)) dX12_burn_27 rfl ?_
  exact E_X12_burn_c28 h hQ
def F_X12_burn (v0 : Nat) (v1 : Int32) (v2 : Int32) (v3 : Int32) (μ : p_M) : Option (Nat × Int32 × p_M) :=
  (F_X12_needIndex v1 (2 : Int32) μ).bind fun q1 =>
  if q1.1 = 0
  then ((F_X12_within v2 (0 : Int32) (5 : Int32) q1.2.2).bind fun q2 =>
    if q2.1 = 0
    then (F_X12_burn_c27 v0 v1 v2 v3 q2.2)
    else ((F_X12_within v3 (0 : Int32) (3 : Int32) q2.2).bind fun q3 =>
      if q3.1 = 0
      then (F_X12_burn_c27 v0 v1 v2 v3 q3.2)
      else (F_X12_burn_c28 v0 v1 v2 v3 (1 : Int32) q3.2)))
  else (some (q1.1, 0, q1.2.2))
theorem E_X12_burn {X : p_X} {d : Nat} {Q : p_R → Prop} {v0 : Nat} {v1 : Int32} {v2 : Int32} {v3 : Int32} {μ : p_M} {r : Nat × Int32 × p_M} (h : F_X12_burn v0 v1 v2 v3 μ = some r) (hQ : Q (tV r)) : p_Ev X (d + 2) M_X12_burn 0 [.ref v0, .int v1, .int v2, .int v3] [] μ Q := by
  unfold F_X12_burn at h
  refine e_iload_n dX12_burn_0 rfl ?_
  refine e_iconst (v := (2 : Int32)) dX12_burn_1 rfl ?_
  obtain ⟨q1, hq1, h⟩ := p_bd h
  refine f_tSv dX12_burn_2 rfl rfl rfl rfl (by decide) rfl (fun Q' hQ' => E_X12_needIndex hq1 hQ') (fun hc => ?_) (fun hc => ?_)
  · rw [if_pos hc] at h
    refine e_iload_n dX12_burn_5 rfl ?_
    refine e_iconst (v := (0 : Int32)) dX12_burn_6 rfl ?_
    refine e_iconst (v := (5 : Int32)) dX12_burn_7 rfl ?_
    obtain ⟨q2, hq2, h⟩ := p_bd h
    refine f_cSi dX12_burn_8 rfl rfl rfl rfl (fun Q' hQ' => E_X12_within hq2 hQ') ?_
    refine e_if_eq dX12_burn_11 27 (by decide) (fun hc => ?_) (fun hc => ?_)
    · rw [if_pos hc] at h
      exact E_X12_burn_c27 h hQ
    · rw [if_neg hc] at h
      refine e_iload_n dX12_burn_14 rfl ?_
      refine e_iconst (v := (0 : Int32)) dX12_burn_15 rfl ?_
      refine e_iconst (v := (3 : Int32)) dX12_burn_16 rfl ?_
      obtain ⟨q3, hq3, h⟩ := p_bd h
      refine f_cSi dX12_burn_17 rfl rfl rfl rfl (fun Q' hQ' => E_X12_within hq3 hQ') ?_
      refine e_if_eq dX12_burn_20 27 (by decide) (fun hc => ?_) (fun hc => ?_)
      · rw [if_pos hc] at h
        exact E_X12_burn_c27 h hQ
      · rw [if_neg hc] at h
        refine e_iconst (v := (1 : Int32)) dX12_burn_23 rfl ?_
        refine e_goto dX12_burn_24 28 (by decide) ?_
        exact E_X12_burn_c28 h hQ
  · rw [if_neg hc] at h
    cases h
    exact hQ
/-! L_burn -/
def F_L_burn (v0 : Nat) (v1 : Int32) (v2 : Int32) (v3 : Int32) (μ : p_M) : Option (Int32 × p_M) :=
  p_ok (mK μ v0 = 13 ∧ v0 < mN μ)
  ((F_X12_burn v0 v1 v2 v3 μ).bind fun q1 =>
  if q1.1 = 0
  then (some ((0 : Int32), q1.2.2))
  else if q1.1 = 3 then (some ((1 : Int32), q1.2.2))
  else if q1.1 = 1 then (some ((2 : Int32), q1.2.2))
  else none)
theorem E_L_burn {X : p_X} {d : Nat} {Q : p_R → Prop} {v0 : Nat} {v1 : Int32} {v2 : Int32} {v3 : Int32} {μ : p_M} {r : Int32 × p_M} (h : F_L_burn v0 v1 v2 v3 μ = some r) (hQ : Q ((0, some (.int r.1)), r.2)) : p_Ev X (d + 3) M_L_burn 0 [.ref v0, .int v1, .int v2, .int v3, .double 0] [] μ Q := by
  unfold F_L_burn at h
  refine e_aload_n dL_burn_0 rfl ?_
  refine e_iload_n dL_burn_1 rfl ?_
  refine e_iload_n dL_burn_2 rfl ?_
  refine e_iload_n dL_burn_3 rfl ?_
  obtain ⟨h2, h⟩ := p_ok_some h
  obtain ⟨q1, hq1, h⟩ := p_bd h
  refine f_hVv dL_burn_4 rfl rfl ⟨rfl, rfl, by decide⟩ rfl h2 (by decide) (fun Q' hQ' => E_X12_burn hq1 hQ') (fun hc => ?_) (fun hc => ?_)
  · rw [if_pos hc] at h
    refine e_goto dL_burn_7 18 (by decide) ?_
    refine e_iconst (v := (0 : Int32)) dL_burn_18 rfl ?_
    cases h
    exact e_ireti dL_burn_19 rfl hQ
  · rw [if_neg hc] at h
    by_cases hc : q1.1 = 3
    · rw [if_pos hc] at h
      refine ⟨10, by rw [hc]; rfl, ?_⟩
      refine e_astZ dL_burn_10 (Nat.le_of_ble_eq_true rfl) rfl ?_
      refine e_iconst (v := (1 : Int32)) dL_burn_12 rfl ?_
      cases h
      exact e_ireti dL_burn_13 rfl hQ
    rw [if_neg hc] at h
    by_cases hc : q1.1 = 1
    · rw [if_pos hc] at h
      refine ⟨14, by rw [hc]; rfl, ?_⟩
      refine e_astZ dL_burn_14 (Nat.le_of_ble_eq_true rfl) rfl ?_
      refine e_iconst (v := (2 : Int32)) dL_burn_16 rfl ?_
      cases h
      exact e_ireti dL_burn_17 rfl hQ
    rw [if_neg hc] at h
    cases h
/-! X12_burned -/
def F_X12_burned_c30 (v0 : Nat) (v1 : Int32) (v2 : Int32) (v3 : Int32) (s0 : Int32) (μ : p_M) : Option (Nat × Int32 × p_M) :=
  (F_X12_need s0 μ).bind fun q4 =>
  if q4.1 = 0
  then (p_ok (mK q4.2.2 v0 = 13 ∧ v0 < mN q4.2.2)
    ((mR q4.2.2 v0 19).bind fun q6 =>
    p_ok (mK q4.2.2 q6 = 8 ∧ q6 < mN q4.2.2)
    ((mR q4.2.2 q6 3).bind fun q8 =>
    p_ok (23 ≤ mK q4.2.2 q8 ∧ mK q4.2.2 q8 ≤ 26 ∧ ¬ v1 < 0 ∧ v1.toNatClampNeg < mL q4.2.2 q8 ∧ q8 < mN q4.2.2)
    ((mR q4.2.2 q8 v1.toNatClampNeg).bind fun q10 =>
    p_ok (q10 < p_E ∧ mK q4.2.2 q10 = 20 ∧ q10 < mN q4.2.2)
    (p_ok (¬ ((v3 * (12 : Int32)) + v2) < 0 ∧ ((v3 * (12 : Int32)) + v2).toNatClampNeg < mL q4.2.2 q10)
    (some (0, (mI q4.2.2 q10 ((v3 * (12 : Int32)) + v2).toNatClampNeg), q4.2.2)))))))
  else (some (q4.1, 0, q4.2.2))
theorem E_X12_burned_c30 {X : p_X} {d : Nat} {Q : p_R → Prop} {v0 : Nat} {v1 : Int32} {v2 : Int32} {v3 : Int32} {s0 : Int32} {μ : p_M} {r : Nat × Int32 × p_M} (h : F_X12_burned_c30 v0 v1 v2 v3 s0 μ = some r) (hQ : Q (tI r)) : p_Ev X (d + 1) M_X12_burned 30 [.ref v0, .int v1, .int v2, .int v3] [.int s0] μ Q := by
  unfold F_X12_burned_c30 at h
  obtain ⟨q4, hq4, h⟩ := p_bd h
  refine f_tSv dX12_burned_30 rfl rfl rfl rfl (by decide) rfl (fun Q' hQ' => E_X12_need hq4 hQ') (fun hc => ?_) (fun hc => ?_)
  · rw [if_pos hc] at h
    refine e_aload_n dX12_burned_33 rfl ?_
    obtain ⟨h5, h⟩ := p_ok_some h
    obtain ⟨q6, hq6, h⟩ := p_bd h
    refine e_getR dX12_burned_34 rfl rfl h5.1 h5.2 hq6 ?_
    obtain ⟨h7, h⟩ := p_ok_some h
    obtain ⟨q8, hq8, h⟩ := p_bd h
    refine e_getR dX12_burned_37 rfl rfl h7.1 h7.2 hq8 ?_
    refine e_iload_n dX12_burned_40 rfl ?_
    obtain ⟨h9, h⟩ := p_ok_some h
    obtain ⟨q10, hq10, h⟩ := p_bd h
    refine e_aald dX12_burned_41 h9 hq10 ?_
    refine e_iload_n dX12_burned_42 rfl ?_
    refine e_bipush (v := (12 : Int32)) dX12_burned_43 rfl ?_
    refine e_imul dX12_burned_45 ?_
    refine e_iload_n dX12_burned_46 rfl ?_
    refine e_iadd dX12_burned_47 ?_
    obtain ⟨h11, h⟩ := p_ok_some h
    obtain ⟨h12, h⟩ := p_ok_some h
    refine e_iaG dX12_burned_48 h11 h12 ?_
    cases h
    exact e_ireti dX12_burned_49 rfl hQ
  · rw [if_neg hc] at h
    cases h
    exact tI_E hc hQ
def F_X12_burned_c29 (v0 : Nat) (v1 : Int32) (v2 : Int32) (v3 : Int32) (μ : p_M) : Option (Nat × Int32 × p_M) :=
  F_X12_burned_c30 v0 v1 v2 v3 (0 : Int32) μ
theorem E_X12_burned_c29 {X : p_X} {d : Nat} {Q : p_R → Prop} {v0 : Nat} {v1 : Int32} {v2 : Int32} {v3 : Int32} {μ : p_M} {r : Nat × Int32 × p_M} (h : F_X12_burned_c29 v0 v1 v2 v3 μ = some r) (hQ : Q (tI r)) : p_Ev X (d + 1) M_X12_burned 29 [.ref v0, .int v1, .int v2, .int v3] [] μ Q := by
  unfold F_X12_burned_c29 at h
  refine e_iconst (v := (0 : Int32)) dX12_burned_29 rfl ?_
  exact E_X12_burned_c30 h hQ
def F_X12_burned (v0 : Nat) (v1 : Int32) (v2 : Int32) (v3 : Int32) (μ : p_M) : Option (Nat × Int32 × p_M) :=
  (F_X12_needIndex v1 (2 : Int32) μ).bind fun q1 =>
  if q1.1 = 0
  then ((F_X12_within v2 (0 : Int32) (11 : Int32) q1.2.2).bind fun q2 =>
    if q2.1 = 0
    then (F_X12_burned_c29 v0 v1 v2 v3 q2.2)
    else ((F_X12_within v3 (0 : Int32) (7 : Int32) q2.2).bind fun q3 =>
      if q3.1 = 0
      then (F_X12_burned_c29 v0 v1 v2 v3 q3.2)
      else (F_X12_burned_c30 v0 v1 v2 v3 (1 : Int32) q3.2)))
  else (some (q1.1, 0, q1.2.2))
theorem E_X12_burned {X : p_X} {d : Nat} {Q : p_R → Prop} {v0 : Nat} {v1 : Int32} {v2 : Int32} {v3 : Int32} {μ : p_M} {r : Nat × Int32 × p_M} (h : F_X12_burned v0 v1 v2 v3 μ = some r) (hQ : Q (tI r)) : p_Ev X (d + 1) M_X12_burned 0 [.ref v0, .int v1, .int v2, .int v3] [] μ Q := by
  unfold F_X12_burned at h
  refine e_iload_n dX12_burned_0 rfl ?_
  refine e_iconst (v := (2 : Int32)) dX12_burned_1 rfl ?_
  obtain ⟨q1, hq1, h⟩ := p_bd h
  refine f_tSv dX12_burned_2 rfl rfl rfl rfl (by decide) rfl (fun Q' hQ' => E_X12_needIndex hq1 hQ') (fun hc => ?_) (fun hc => ?_)
  · rw [if_pos hc] at h
    refine e_iload_n dX12_burned_5 rfl ?_
    refine e_iconst (v := (0 : Int32)) dX12_burned_6 rfl ?_
    refine e_bipush (v := (11 : Int32)) dX12_burned_7 rfl ?_
    obtain ⟨q2, hq2, h⟩ := p_bd h
    refine f_cSi dX12_burned_9 rfl rfl rfl rfl (fun Q' hQ' => E_X12_within hq2 hQ') ?_
    refine e_if_eq dX12_burned_12 29 (by decide) (fun hc => ?_) (fun hc => ?_)
    · rw [if_pos hc] at h
      exact E_X12_burned_c29 h hQ
    · rw [if_neg hc] at h
      refine e_iload_n dX12_burned_15 rfl ?_
      refine e_iconst (v := (0 : Int32)) dX12_burned_16 rfl ?_
      refine e_bipush (v := (7 : Int32)) dX12_burned_17 rfl ?_
      obtain ⟨q3, hq3, h⟩ := p_bd h
      refine f_cSi dX12_burned_19 rfl rfl rfl rfl (fun Q' hQ' => E_X12_within hq3 hQ') ?_
      refine e_if_eq dX12_burned_22 29 (by decide) (fun hc => ?_) (fun hc => ?_)
      · rw [if_pos hc] at h
        exact E_X12_burned_c29 h hQ
      · rw [if_neg hc] at h
        refine e_iconst (v := (1 : Int32)) dX12_burned_25 rfl ?_
        refine e_goto dX12_burned_26 30 (by decide) ?_
        exact E_X12_burned_c30 h hQ
  · rw [if_neg hc] at h
    cases h
    exact tI_E hc hQ
/-! L_burned -/
def F_L_burned (v0 : Nat) (v1 : Int32) (v2 : Int32) (v3 : Int32) (v4 : Nat) (μ : p_M) : Option (Int32 × p_M) :=
  p_ok (mK μ v0 = 13 ∧ v0 < mN μ)
  ((F_X12_burned v0 v1 v2 v3 μ).bind fun q1 =>
  if q1.1 = 0
  then (p_ok (mK q1.2.2 v4 = 22 ∧ ¬ (0 : Int32) < 0 ∧ (0 : Int32).toNatClampNeg < mL q1.2.2 v4 ∧ v4 < mN q1.2.2)
    (p_let (sJ q1.2.2 v4 (0 : Int32).toNatClampNeg q1.2.1.toInt64) fun m4 =>
    some ((0 : Int32), m4)))
  else if q1.1 = 3 then (some ((1 : Int32), q1.2.2))
  else if q1.1 = 1 then (some ((2 : Int32), q1.2.2))
  else none)
theorem E_L_burned {X : p_X} {d : Nat} {Q : p_R → Prop} {v0 : Nat} {v1 : Int32} {v2 : Int32} {v3 : Int32} {v4 : Nat} {μ : p_M} {r : Int32 × p_M} (h : F_L_burned v0 v1 v2 v3 v4 μ = some r) (hQ : Q ((0, some (.int r.1)), r.2)) : p_Ev X (d + 2) M_L_burned 0 [.ref v0, .int v1, .int v2, .int v3, .ref v4, .double 0] [] μ Q := by
  unfold F_L_burned at h
  refine e_aload dL_burned_0 rfl ?_
  refine e_iconst (v := (0 : Int32)) dL_burned_2 rfl ?_
  refine e_aload_n dL_burned_3 rfl ?_
  refine e_iload_n dL_burned_4 rfl ?_
  refine e_iload_n dL_burned_5 rfl ?_
  refine e_iload_n dL_burned_6 rfl ?_
  obtain ⟨h2, h⟩ := p_ok_some h
  obtain ⟨q1, hq1, h⟩ := p_bd h
  refine f_hVi dL_burned_7 rfl rfl ⟨rfl, rfl, by decide⟩ rfl h2 (by decide) (fun Q' hQ' => E_X12_burned hq1 hQ') (fun hc => ?_) (fun hc => ?_)
  · rw [if_pos hc] at h
    refine e_i2l dL_burned_10 ?_
    obtain ⟨h3, h⟩ := p_ok_some h
    replace h := p_lt h
    refine e_laS dL_burned_11 h3 ?_
    refine e_goto dL_burned_12 23 (by decide) ?_
    refine e_iconst (v := (0 : Int32)) dL_burned_23 rfl ?_
    cases h
    exact e_ireti dL_burned_24 rfl hQ
  · rw [if_neg hc] at h
    by_cases hc : q1.1 = 3
    · rw [if_pos hc] at h
      refine ⟨15, by rw [hc]; rfl, ?_⟩
      refine e_astZ dL_burned_15 (Nat.le_of_ble_eq_true rfl) rfl ?_
      refine e_iconst (v := (1 : Int32)) dL_burned_17 rfl ?_
      cases h
      exact e_ireti dL_burned_18 rfl hQ
    rw [if_neg hc] at h
    by_cases hc : q1.1 = 1
    · rw [if_pos hc] at h
      refine ⟨19, by rw [hc]; rfl, ?_⟩
      refine e_astZ dL_burned_19 (Nat.le_of_ble_eq_true rfl) rfl ?_
      refine e_iconst (v := (2 : Int32)) dL_burned_21 rfl ?_
      cases h
      exact e_ireti dL_burned_22 rfl hQ
    rw [if_neg hc] at h
    cases h
/-! X2_tell -/
def F_X2_tell (v0 : Nat) (v1 : Int32) (v2 : Int32) (v3 : Int32) (μ : p_M) : Option (Int32 × p_M) :=
  p_ok (mK μ v0 = 3 ∧ v0 < mN μ)
  ((mR μ v0 0).bind fun q2 =>
  p_ok (q2 < p_E ∧ mK μ q2 = 20 ∧ q2 < mN μ)
  (p_ok (¬ ((v1 * (6 : Int32)) + v2) < 0 ∧ ((v1 * (6 : Int32)) + v2).toNatClampNeg < mL μ q2)
  (p_let (sI μ q2 ((v1 * (6 : Int32)) + v2).toNatClampNeg v3) fun m5 =>
  some (0, m5))))
theorem E_X2_tell {X : p_X} {d : Nat} {Q : p_R → Prop} {v0 : Nat} {v1 : Int32} {v2 : Int32} {v3 : Int32} {μ : p_M} {r : Int32 × p_M} (h : F_X2_tell v0 v1 v2 v3 μ = some r) (hQ : Q ((0, none), r.2)) : p_Ev X (d + 0) M_X2_tell 0 [.ref v0, .int v1, .int v2, .int v3] [] μ Q := by
  unfold F_X2_tell at h
  refine e_aload_n dX2_tell_0 rfl ?_
  obtain ⟨h1, h⟩ := p_ok_some h
  obtain ⟨q2, hq2, h⟩ := p_bd h
  refine e_getR dX2_tell_1 rfl rfl h1.1 h1.2 hq2 ?_
  refine e_iload_n dX2_tell_4 rfl ?_
  refine e_bipush (v := (6 : Int32)) dX2_tell_5 rfl ?_
  refine e_imul dX2_tell_7 ?_
  refine e_iload_n dX2_tell_8 rfl ?_
  refine e_iadd dX2_tell_9 ?_
  refine e_iload_n dX2_tell_10 rfl ?_
  obtain ⟨h3, h⟩ := p_ok_some h
  obtain ⟨h4, h⟩ := p_ok_some h
  replace h := p_lt h
  refine e_iaS dX2_tell_11 h3 h4 ?_
  cases h
  exact e_vret dX2_tell_12 rfl hQ
/-! X12_carry -/
def F_X12_carry_c32 (v0 : Nat) (v1 : Int32) (v2 : Int32) (v3 : Int32) (s0 : Int32) (μ : p_M) : Option (Nat × Int32 × p_M) :=
  (F_X12_need s0 μ).bind fun q4 =>
  if q4.1 = 0
  then (p_ok (mK q4.2.2 v0 = 13 ∧ v0 < mN q4.2.2)
    ((mR q4.2.2 v0 9).bind fun q6 =>
    p_ok (mK q4.2.2 q6 = 3 ∧ q6 < mN q4.2.2)
    ((F_X2_tell q6 v1 v2 v3 q4.2.2).bind fun q7 =>
    some (0, 0, q7.2))))
  else (some (q4.1, 0, q4.2.2))
theorem E_X12_carry_c32 {X : p_X} {d : Nat} {Q : p_R → Prop} {v0 : Nat} {v1 : Int32} {v2 : Int32} {v3 : Int32} {s0 : Int32} {μ : p_M} {r : Nat × Int32 × p_M} (h : F_X12_carry_c32 v0 v1 v2 v3 s0 μ = some r) (hQ : Q (tV r)) : p_Ev X (d + 1) M_X12_carry 32 [.ref v0, .int v1, .int v2, .int v3] [.int s0] μ Q := by
  unfold F_X12_carry_c32 at h
  obtain ⟨q4, hq4, h⟩ := p_bd h
  refine f_tSv dX12_carry_32 rfl rfl rfl rfl (by decide) rfl (fun Q' hQ' => E_X12_need hq4 hQ') (fun hc => ?_) (fun hc => ?_)
  · rw [if_pos hc] at h
    refine e_aload_n dX12_carry_35 rfl ?_
    obtain ⟨h5, h⟩ := p_ok_some h
    obtain ⟨q6, hq6, h⟩ := p_bd h
    refine e_getR dX12_carry_36 rfl rfl h5.1 h5.2 hq6 ?_
    refine e_iload_n dX12_carry_39 rfl ?_
    refine e_iload_n dX12_carry_40 rfl ?_
    refine e_iload_n dX12_carry_41 rfl ?_
    obtain ⟨h8, h⟩ := p_ok_some h
    obtain ⟨q7, hq7, h⟩ := p_bd h
    refine f_cVv dX12_carry_42 rfl rfl ⟨rfl, rfl, by decide⟩ rfl h8 (fun Q' hQ' => E_X2_tell hq7 hQ') ?_
    cases h
    exact e_vret dX12_carry_45 rfl hQ
  · rw [if_neg hc] at h
    cases h
    exact hQ
def F_X12_carry_c31 (v0 : Nat) (v1 : Int32) (v2 : Int32) (v3 : Int32) (μ : p_M) : Option (Nat × Int32 × p_M) :=
  F_X12_carry_c32 v0 v1 v2 v3 (0 : Int32) μ
theorem E_X12_carry_c31 {X : p_X} {d : Nat} {Q : p_R → Prop} {v0 : Nat} {v1 : Int32} {v2 : Int32} {v3 : Int32} {μ : p_M} {r : Nat × Int32 × p_M} (h : F_X12_carry_c31 v0 v1 v2 v3 μ = some r) (hQ : Q (tV r)) : p_Ev X (d + 1) M_X12_carry 31 [.ref v0, .int v1, .int v2, .int v3] [] μ Q := by
  unfold F_X12_carry_c31 at h
  refine e_iconst (v := (0 : Int32)) dX12_carry_31 rfl ?_
  exact E_X12_carry_c32 h hQ
def F_X12_carry (v0 : Nat) (v1 : Int32) (v2 : Int32) (v3 : Int32) (μ : p_M) : Option (Nat × Int32 × p_M) :=
  (F_X12_needIndex v1 (6 : Int32) μ).bind fun q1 =>
  if q1.1 = 0
  then ((F_X12_needIndex v2 (6 : Int32) q1.2.2).bind fun q2 =>
    if q2.1 = 0
    then ((F_X12_within v3 (-1) (100 : Int32) q2.2.2).bind fun q3 =>
      if q3.1 = 0
      then (F_X12_carry_c31 v0 v1 v2 v3 q3.2)
      else (if v1 = v2
        then (F_X12_carry_c31 v0 v1 v2 v3 q3.2)
        else (F_X12_carry_c32 v0 v1 v2 v3 (1 : Int32) q3.2)))
    else (some (q2.1, 0, q2.2.2)))
  else (some (q1.1, 0, q1.2.2))
theorem E_X12_carry {X : p_X} {d : Nat} {Q : p_R → Prop} {v0 : Nat} {v1 : Int32} {v2 : Int32} {v3 : Int32} {μ : p_M} {r : Nat × Int32 × p_M} (h : F_X12_carry v0 v1 v2 v3 μ = some r) (hQ : Q (tV r)) : p_Ev X (d + 1) M_X12_carry 0 [.ref v0, .int v1, .int v2, .int v3] [] μ Q := by
  unfold F_X12_carry at h
  refine e_iload_n dX12_carry_0 rfl ?_
  refine e_bipush (v := (6 : Int32)) dX12_carry_1 rfl ?_
  obtain ⟨q1, hq1, h⟩ := p_bd h
  refine f_tSv dX12_carry_3 rfl rfl rfl rfl (by decide) rfl (fun Q' hQ' => E_X12_needIndex hq1 hQ') (fun hc => ?_) (fun hc => ?_)
  · rw [if_pos hc] at h
    refine e_iload_n dX12_carry_6 rfl ?_
    refine e_bipush (v := (6 : Int32)) dX12_carry_7 rfl ?_
    obtain ⟨q2, hq2, h⟩ := p_bd h
    refine f_tSv dX12_carry_9 rfl rfl rfl rfl (by decide) rfl (fun Q' hQ' => E_X12_needIndex hq2 hQ') (fun hc => ?_) (fun hc => ?_)
    · rw [if_pos hc] at h
      refine e_iload_n dX12_carry_12 rfl ?_
      refine e_iconst (v := (-1)) dX12_carry_13 rfl ?_
      refine e_bipush (v := (100 : Int32)) dX12_carry_14 rfl ?_
      obtain ⟨q3, hq3, h⟩ := p_bd h
      refine f_cSi dX12_carry_16 rfl rfl rfl rfl (fun Q' hQ' => E_X12_within hq3 hQ') ?_
      refine e_if_eq dX12_carry_19 31 (by decide) (fun hc => ?_) (fun hc => ?_)
      · rw [if_pos hc] at h
        exact E_X12_carry_c31 h hQ
      · rw [if_neg hc] at h
        refine e_iload_n dX12_carry_22 rfl ?_
        refine e_iload_n dX12_carry_23 rfl ?_
        refine e_ic_eq dX12_carry_24 31 (by decide) (fun hc => ?_) (fun hc => ?_)
        · rw [if_pos hc] at h
          exact E_X12_carry_c31 h hQ
        · rw [if_neg hc] at h
          refine e_iconst (v := (1 : Int32)) dX12_carry_27 rfl ?_
          refine e_goto dX12_carry_28 32 (by decide) ?_
          exact E_X12_carry_c32 h hQ
    · rw [if_neg hc] at h
      cases h
      exact hQ
  · rw [if_neg hc] at h
    cases h
    exact hQ
/-! L_carry -/
def F_L_carry (v0 : Nat) (v1 : Int32) (v2 : Int32) (v3 : Int32) (μ : p_M) : Option (Int32 × p_M) :=
  p_ok (mK μ v0 = 13 ∧ v0 < mN μ)
  ((F_X12_carry v0 v1 v2 v3 μ).bind fun q1 =>
  if q1.1 = 0
  then (some ((0 : Int32), q1.2.2))
  else if q1.1 = 3 then (some ((1 : Int32), q1.2.2))
  else if q1.1 = 1 then (some ((2 : Int32), q1.2.2))
  else none)
theorem E_L_carry {X : p_X} {d : Nat} {Q : p_R → Prop} {v0 : Nat} {v1 : Int32} {v2 : Int32} {v3 : Int32} {μ : p_M} {r : Int32 × p_M} (h : F_L_carry v0 v1 v2 v3 μ = some r) (hQ : Q ((0, some (.int r.1)), r.2)) : p_Ev X (d + 2) M_L_carry 0 [.ref v0, .int v1, .int v2, .int v3, .double 0] [] μ Q := by
  unfold F_L_carry at h
  refine e_aload_n dL_carry_0 rfl ?_
  refine e_iload_n dL_carry_1 rfl ?_
  refine e_iload_n dL_carry_2 rfl ?_
  refine e_iload_n dL_carry_3 rfl ?_
  obtain ⟨h2, h⟩ := p_ok_some h
  obtain ⟨q1, hq1, h⟩ := p_bd h
  refine f_hVv dL_carry_4 rfl rfl ⟨rfl, rfl, by decide⟩ rfl h2 (by decide) (fun Q' hQ' => E_X12_carry hq1 hQ') (fun hc => ?_) (fun hc => ?_)
  · rw [if_pos hc] at h
    refine e_goto dL_carry_7 18 (by decide) ?_
    refine e_iconst (v := (0 : Int32)) dL_carry_18 rfl ?_
    cases h
    exact e_ireti dL_carry_19 rfl hQ
  · rw [if_neg hc] at h
    by_cases hc : q1.1 = 3
    · rw [if_pos hc] at h
      refine ⟨10, by rw [hc]; rfl, ?_⟩
      refine e_astZ dL_carry_10 (Nat.le_of_ble_eq_true rfl) rfl ?_
      refine e_iconst (v := (1 : Int32)) dL_carry_12 rfl ?_
      cases h
      exact e_ireti dL_carry_13 rfl hQ
    rw [if_neg hc] at h
    by_cases hc : q1.1 = 1
    · rw [if_pos hc] at h
      refine ⟨14, by rw [hc]; rfl, ?_⟩
      refine e_astZ dL_carry_14 (Nat.le_of_ble_eq_true rfl) rfl ?_
      refine e_iconst (v := (2 : Int32)) dL_carry_16 rfl ?_
      cases h
      exact e_ireti dL_carry_17 rfl hQ
    rw [if_neg hc] at h
    cases h
/-! X12_cheapest -/
def F_X12_cheapest (X : p_X) (v0 : Nat) (v1 : Int32) (v2 : Int32) (v3 : Int32) (v4 : Int32) (v5 : Int32) (μ : p_M) : Option (Nat × Int32 × p_M) :=
  p_ok (mK μ v0 = 13 ∧ v0 < mN μ)
  ((F_X12_searchFor X v0 v1 v2 v3 v4 v5 μ).bind fun q1 =>
  if q1.1 = 0
  then (p_ok (mK q1.2.2 v0 = 13 ∧ v0 < mN q1.2.2)
    ((mR q1.2.2 v0 8).bind fun q4 =>
    p_ok (mK q1.2.2 q4 = 10 ∧ q4 < mN q1.2.2)
    (some (0, (mI q1.2.2 q4 3), q1.2.2))))
  else (some (q1.1, 0, q1.2.2)))
theorem E_X12_cheapest {X : p_X} {d : Nat} {Q : p_R → Prop} {v0 : Nat} {v1 : Int32} {v2 : Int32} {v3 : Int32} {v4 : Int32} {v5 : Int32} {μ : p_M} {r : Nat × Int32 × p_M} (h : F_X12_cheapest X v0 v1 v2 v3 v4 v5 μ = some r) (hQ : Q (tI r)) : p_Ev X (d + 13) M_X12_cheapest 0 [.ref v0, .int v1, .int v2, .int v3, .int v4, .int v5] [] μ Q := by
  unfold F_X12_cheapest at h
  refine e_aload_n dX12_cheapest_0 rfl ?_
  refine e_iload_n dX12_cheapest_1 rfl ?_
  refine e_iload_n dX12_cheapest_2 rfl ?_
  refine e_iload_n dX12_cheapest_3 rfl ?_
  refine e_iload dX12_cheapest_4 rfl ?_
  refine e_iload dX12_cheapest_6 rfl ?_
  obtain ⟨h2, h⟩ := p_ok_some h
  obtain ⟨q1, hq1, h⟩ := p_bd h
  refine f_tVv dX12_cheapest_8 rfl rfl ⟨rfl, rfl, by decide⟩ rfl h2 (by decide) rfl (fun Q' hQ' => E_X12_searchFor hq1 hQ') (fun hc => ?_) (fun hc => ?_)
  · rw [if_pos hc] at h
    refine e_aload_n dX12_cheapest_11 rfl ?_
    obtain ⟨h3, h⟩ := p_ok_some h
    obtain ⟨q4, hq4, h⟩ := p_bd h
    refine e_getR dX12_cheapest_12 rfl rfl h3.1 h3.2 hq4 ?_
    obtain ⟨h5, h⟩ := p_ok_some h
    refine e_getI dX12_cheapest_15 rfl rfl h5.1 h5.2 ?_
    cases h
    exact e_ireti dX12_cheapest_18 rfl hQ
  · rw [if_neg hc] at h
    cases h
    exact tI_E hc hQ
/-! L_cheapest -/
def F_L_cheapest (X : p_X) (v0 : Nat) (v1 : Int32) (v2 : Int32) (v3 : Int32) (v4 : Int32) (v5 : Int32) (v6 : Nat) (μ : p_M) : Option (Int32 × p_M) :=
  p_ok (mK μ v0 = 13 ∧ v0 < mN μ)
  ((F_X12_cheapest X v0 v1 v2 v3 v4 v5 μ).bind fun q1 =>
  if q1.1 = 0
  then (p_ok (mK q1.2.2 v6 = 22 ∧ ¬ (0 : Int32) < 0 ∧ (0 : Int32).toNatClampNeg < mL q1.2.2 v6 ∧ v6 < mN q1.2.2)
    (p_let (sJ q1.2.2 v6 (0 : Int32).toNatClampNeg q1.2.1.toInt64) fun m4 =>
    some ((0 : Int32), m4)))
  else if q1.1 = 3 then (some ((1 : Int32), q1.2.2))
  else if q1.1 = 1 then (some ((2 : Int32), q1.2.2))
  else none)
theorem E_L_cheapest {X : p_X} {d : Nat} {Q : p_R → Prop} {v0 : Nat} {v1 : Int32} {v2 : Int32} {v3 : Int32} {v4 : Int32} {v5 : Int32} {v6 : Nat} {μ : p_M} {r : Int32 × p_M} (h : F_L_cheapest X v0 v1 v2 v3 v4 v5 v6 μ = some r) (hQ : Q ((0, some (.int r.1)), r.2)) : p_Ev X (d + 14) M_L_cheapest 0 [.ref v0, .int v1, .int v2, .int v3, .int v4, .int v5, .ref v6, .double 0] [] μ Q := by
  unfold F_L_cheapest at h
  refine e_aload dL_cheapest_0 rfl ?_
  refine e_iconst (v := (0 : Int32)) dL_cheapest_2 rfl ?_
  refine e_aload_n dL_cheapest_3 rfl ?_
  refine e_iload_n dL_cheapest_4 rfl ?_
  refine e_iload_n dL_cheapest_5 rfl ?_
  refine e_iload_n dL_cheapest_6 rfl ?_
  refine e_iload dL_cheapest_7 rfl ?_
  refine e_iload dL_cheapest_9 rfl ?_
  obtain ⟨h2, h⟩ := p_ok_some h
  obtain ⟨q1, hq1, h⟩ := p_bd h
  refine f_hVi dL_cheapest_11 rfl rfl ⟨rfl, rfl, by decide⟩ rfl h2 (by decide) (fun Q' hQ' => E_X12_cheapest hq1 hQ') (fun hc => ?_) (fun hc => ?_)
  · rw [if_pos hc] at h
    refine e_i2l dL_cheapest_14 ?_
    obtain ⟨h3, h⟩ := p_ok_some h
    replace h := p_lt h
    refine e_laS dL_cheapest_15 h3 ?_
    refine e_goto dL_cheapest_16 27 (by decide) ?_
    refine e_iconst (v := (0 : Int32)) dL_cheapest_27 rfl ?_
    cases h
    exact e_ireti dL_cheapest_28 rfl hQ
  · rw [if_neg hc] at h
    by_cases hc : q1.1 = 3
    · rw [if_pos hc] at h
      refine ⟨19, by rw [hc]; rfl, ?_⟩
      refine e_astZ dL_cheapest_19 (Nat.le_of_ble_eq_true rfl) rfl ?_
      refine e_iconst (v := (1 : Int32)) dL_cheapest_21 rfl ?_
      cases h
      exact e_ireti dL_cheapest_22 rfl hQ
    rw [if_neg hc] at h
    by_cases hc : q1.1 = 1
    · rw [if_pos hc] at h
      refine ⟨23, by rw [hc]; rfl, ?_⟩
      refine e_astZ dL_cheapest_23 (Nat.le_of_ble_eq_true rfl) rfl ?_
      refine e_iconst (v := (2 : Int32)) dL_cheapest_25 rfl ?_
      cases h
      exact e_ireti dL_cheapest_26 rfl hQ
    rw [if_neg hc] at h
    cases h
/-! X12_needRoom -/
def F_X12_needRoom (v0 : Int32) (v1 : Int32) (μ : p_M) : Option (Nat × Int32 × p_M) :=
  if v0 < v1
  then (some (0, 0, μ))
  else (some (2, 0, sG μ 1 6))
theorem E_X12_needRoom {X : p_X} {d : Nat} {Q : p_R → Prop} {v0 : Int32} {v1 : Int32} {μ : p_M} {r : Nat × Int32 × p_M} (h : F_X12_needRoom v0 v1 μ = some r) (hQ : Q (tV r)) : p_Ev X (d + 0) M_X12_needRoom 0 [.int v0, .int v1] [] μ Q := by
  unfold F_X12_needRoom at h
  refine e_iload_n dX12_needRoom_0 rfl ?_
  refine e_iload_n dX12_needRoom_1 rfl ?_
  refine e_ic_lt dX12_needRoom_2 16 (by decide) (fun hc => ?_) (fun hc => ?_)
  · rw [if_pos hc] at h
    cases h
    exact e_vret dX12_needRoom_16 rfl hQ
  · rw [if_neg hc] at h
    cases h
    exact e_thr dX12_needRoom_5 rfl rfl rfl dX12_needRoom_8 dX12_needRoom_9 dX12_needRoom_12 dX12_needRoom_15 hQ
/-! X3_begin -/
def F_X3_begin (v0 : Nat) (v1 : Int32) (v2 : Int32) (v3 : Int32) (μ : p_M) : Option (Int32 × p_M) :=
  p_ok (mK μ v0 = 4 ∧ v0 < mN μ)
  (p_let (sI μ v0 0 v1) fun m2 =>
  p_let (sI m2 v0 1 v1) fun m3 =>
  p_let (sI m3 v0 2 v2) fun m4 =>
  p_let (sI m4 v0 3 v2) fun m5 =>
  p_let (sI m5 v0 4 (0 : Int32)) fun m6 =>
  p_let (sI m6 v0 5 v3) fun m7 =>
  some (0, m7))
theorem E_X3_begin {X : p_X} {d : Nat} {Q : p_R → Prop} {v0 : Nat} {v1 : Int32} {v2 : Int32} {v3 : Int32} {μ : p_M} {r : Int32 × p_M} (h : F_X3_begin v0 v1 v2 v3 μ = some r) (hQ : Q ((0, none), r.2)) : p_Ev X (d + 0) M_X3_begin 0 [.ref v0, .int v1, .int v2, .int v3] [] μ Q := by
  unfold F_X3_begin at h
  refine e_aload_n dX3_begin_0 rfl ?_
  refine e_iload_n dX3_begin_1 rfl ?_
  obtain ⟨h1, h⟩ := p_ok_some h
  replace h := p_lt h
  refine e_putI dX3_begin_2 rfl ⟨rfl, rfl, (fun h => by cases h)⟩ (fun h => by cases h) h1.1 h1.2 ?_
  refine e_aload_n dX3_begin_5 rfl ?_
  refine e_iload_n dX3_begin_6 rfl ?_
  replace h := p_lt h
  refine e_putI dX3_begin_7 rfl ⟨rfl, rfl, (fun h => by cases h)⟩ (fun h => by cases h) h1.1 h1.2 ?_
  refine e_aload_n dX3_begin_10 rfl ?_
  refine e_iload_n dX3_begin_11 rfl ?_
  replace h := p_lt h
  refine e_putI dX3_begin_12 rfl ⟨rfl, rfl, (fun h => by cases h)⟩ (fun h => by cases h) h1.1 h1.2 ?_
  refine e_aload_n dX3_begin_15 rfl ?_
  refine e_iload_n dX3_begin_16 rfl ?_
  replace h := p_lt h
  refine e_putI dX3_begin_17 rfl ⟨rfl, rfl, (fun h => by cases h)⟩ (fun h => by cases h) h1.1 h1.2 ?_
  refine e_aload_n dX3_begin_20 rfl ?_
  refine e_iconst (v := (0 : Int32)) dX3_begin_21 rfl ?_
  replace h := p_lt h
  refine e_putI dX3_begin_22 rfl ⟨rfl, rfl, (fun h => by cases h)⟩ (fun _ => by decide) h1.1 h1.2 ?_
  refine e_aload_n dX3_begin_25 rfl ?_
  refine e_iload_n dX3_begin_26 rfl ?_
  replace h := p_lt h
  refine e_putI dX3_begin_27 rfl ⟨rfl, rfl, (fun h => by cases h)⟩ (fun h => by cases h) h1.1 h1.2 ?_
  cases h
  exact e_vret dX3_begin_30 rfl hQ
/-! X12_cloth -/
def F_X12_cloth_c37 (v0 : Nat) (v1 : Int32) (v2 : Int32) (v3 : Int32) (s0 : Int32) (μ : p_M) : Option (Nat × Int32 × p_M) :=
  (F_X12_need s0 μ).bind fun q4 =>
  if q4.1 = 0
  then (p_ok (mK q4.2.2 v0 = 13 ∧ v0 < mN q4.2.2)
    ((F_X12_needRoom (mI q4.2.2 v0 2) (6 : Int32) q4.2.2).bind fun q6 =>
    if q6.1 = 0
    then (p_ok (mK q6.2.2 v0 = 13 ∧ v0 < mN q6.2.2)
      ((mR q6.2.2 v0 1).bind fun q8 =>
      p_ok (23 ≤ mK q6.2.2 q8 ∧ mK q6.2.2 q8 ≤ 26 ∧ ¬ (mI q6.2.2 v0 2) < 0 ∧ (mI q6.2.2 v0 2).toNatClampNeg < mL q6.2.2 q8 ∧ q8 < mN q6.2.2)
      ((mR q6.2.2 q8 (mI q6.2.2 v0 2).toNatClampNeg).bind fun q10 =>
      p_ok (mK q6.2.2 q10 = 4 ∧ q10 < mN q6.2.2)
      ((F_X3_begin q10 v1 v2 v3 q6.2.2).bind fun q11 =>
      p_ok (mK q11.2 v0 = 13 ∧ v0 < mN q11.2)
      (p_let (sI q11.2 v0 2 ((mI q11.2 v0 2) + (1 : Int32))) fun m14 =>
      some (0, (mI q11.2 v0 2), m14))))))
    else (some (q6.1, 0, q6.2.2))))
  else (some (q4.1, 0, q4.2.2))
theorem E_X12_cloth_c37 {X : p_X} {d : Nat} {Q : p_R → Prop} {v0 : Nat} {v1 : Int32} {v2 : Int32} {v3 : Int32} {s0 : Int32} {μ : p_M} {r : Nat × Int32 × p_M} (h : F_X12_cloth_c37 v0 v1 v2 v3 s0 μ = some r) (hQ : Q (tI r)) : p_Ev X (d + 1) M_X12_cloth 37 [.ref v0, .int v1, .int v2, .int v3] [.int s0] μ Q := by
  unfold F_X12_cloth_c37 at h
  obtain ⟨q4, hq4, h⟩ := p_bd h
  refine f_tSv dX12_cloth_37 rfl rfl rfl rfl (by decide) rfl (fun Q' hQ' => E_X12_need hq4 hQ') (fun hc => ?_) (fun hc => ?_)
  · rw [if_pos hc] at h
    refine e_aload_n dX12_cloth_40 rfl ?_
    obtain ⟨h5, h⟩ := p_ok_some h
    refine e_getI dX12_cloth_41 rfl rfl h5.1 h5.2 ?_
    refine e_bipush (v := (6 : Int32)) dX12_cloth_44 rfl ?_
    obtain ⟨q6, hq6, h⟩ := p_bd h
    refine f_tSv dX12_cloth_46 rfl rfl rfl rfl (by decide) rfl (fun Q' hQ' => E_X12_needRoom hq6 hQ') (fun hc => ?_) (fun hc => ?_)
    · rw [if_pos hc] at h
      refine e_aload_n dX12_cloth_49 rfl ?_
      obtain ⟨h7, h⟩ := p_ok_some h
      obtain ⟨q8, hq8, h⟩ := p_bd h
      refine e_getR dX12_cloth_50 rfl rfl h7.1 h7.2 hq8 ?_
      refine e_aload_n dX12_cloth_53 rfl ?_
      refine e_getI dX12_cloth_54 rfl rfl h7.1 h7.2 ?_
      obtain ⟨h9, h⟩ := p_ok_some h
      obtain ⟨q10, hq10, h⟩ := p_bd h
      refine e_aald dX12_cloth_57 h9 hq10 ?_
      refine e_iload_n dX12_cloth_58 rfl ?_
      refine e_iload_n dX12_cloth_59 rfl ?_
      refine e_iload_n dX12_cloth_60 rfl ?_
      obtain ⟨h12, h⟩ := p_ok_some h
      obtain ⟨q11, hq11, h⟩ := p_bd h
      refine f_cVv dX12_cloth_61 rfl rfl ⟨rfl, rfl, by decide⟩ rfl h12 (fun Q' hQ' => E_X3_begin hq11 hQ') ?_
      refine e_aload_n dX12_cloth_64 rfl ?_
      refine e_dupR dX12_cloth_65 ?_
      obtain ⟨h13, h⟩ := p_ok_some h
      refine e_getI dX12_cloth_66 rfl rfl h13.1 h13.2 ?_
      refine e_dup_x1 dX12_cloth_69 ?_
      refine e_iconst (v := (1 : Int32)) dX12_cloth_70 rfl ?_
      refine e_iadd dX12_cloth_71 ?_
      replace h := p_lt h
      refine e_putI dX12_cloth_72 rfl ⟨rfl, rfl, (fun h => by cases h)⟩ (fun h => by cases h) h13.1 h13.2 ?_
      cases h
      exact e_ireti dX12_cloth_75 rfl hQ
    · rw [if_neg hc] at h
      cases h
      exact tI_E hc hQ
  · rw [if_neg hc] at h
    cases h
    exact tI_E hc hQ
def F_X12_cloth_c36 (v0 : Nat) (v1 : Int32) (v2 : Int32) (v3 : Int32) (μ : p_M) : Option (Nat × Int32 × p_M) :=
  F_X12_cloth_c37 v0 v1 v2 v3 (0 : Int32) μ
theorem E_X12_cloth_c36 {X : p_X} {d : Nat} {Q : p_R → Prop} {v0 : Nat} {v1 : Int32} {v2 : Int32} {v3 : Int32} {μ : p_M} {r : Nat × Int32 × p_M} (h : F_X12_cloth_c36 v0 v1 v2 v3 μ = some r) (hQ : Q (tI r)) : p_Ev X (d + 1) M_X12_cloth 36 [.ref v0, .int v1, .int v2, .int v3] [] μ Q := by
  unfold F_X12_cloth_c36 at h
  refine e_iconst (v := (0 : Int32)) dX12_cloth_36 rfl ?_
  exact E_X12_cloth_c37 h hQ
def F_X12_cloth (v0 : Nat) (v1 : Int32) (v2 : Int32) (v3 : Int32) (μ : p_M) : Option (Nat × Int32 × p_M) :=
  (F_X12_within v1 (0 : Int32) (255 : Int32) μ).bind fun q1 =>
  if q1.1 = 0
  then (F_X12_cloth_c36 v0 v1 v2 v3 q1.2)
  else ((F_X12_within v2 (0 : Int32) (255 : Int32) q1.2).bind fun q2 =>
    if q2.1 = 0
    then (F_X12_cloth_c36 v0 v1 v2 v3 q2.2)
    else ((F_X12_within v3 (0 : Int32) (9 : Int32) q2.2).bind fun q3 =>
      if q3.1 = 0
      then (F_X12_cloth_c36 v0 v1 v2 v3 q3.2)
      else (F_X12_cloth_c37 v0 v1 v2 v3 (1 : Int32) q3.2)))
theorem E_X12_cloth {X : p_X} {d : Nat} {Q : p_R → Prop} {v0 : Nat} {v1 : Int32} {v2 : Int32} {v3 : Int32} {μ : p_M} {r : Nat × Int32 × p_M} (h : F_X12_cloth v0 v1 v2 v3 μ = some r) (hQ : Q (tI r)) : p_Ev X (d + 1) M_X12_cloth 0 [.ref v0, .int v1, .int v2, .int v3] [] μ Q := by
  unfold F_X12_cloth at h
  refine e_iload_n dX12_cloth_0 rfl ?_
  refine e_iconst (v := (0 : Int32)) dX12_cloth_1 rfl ?_
  refine e_sipush (v := (255 : Int32)) dX12_cloth_2 rfl ?_
  obtain ⟨q1, hq1, h⟩ := p_bd h
  refine f_cSi dX12_cloth_5 rfl rfl rfl rfl (fun Q' hQ' => E_X12_within hq1 hQ') ?_
  refine e_if_eq dX12_cloth_8 36 (by decide) (fun hc => ?_) (fun hc => ?_)
  · rw [if_pos hc] at h
    exact E_X12_cloth_c36 h hQ
  · rw [if_neg hc] at h
    refine e_iload_n dX12_cloth_11 rfl ?_
    refine e_iconst (v := (0 : Int32)) dX12_cloth_12 rfl ?_
    refine e_sipush (v := (255 : Int32)) dX12_cloth_13 rfl ?_
    obtain ⟨q2, hq2, h⟩ := p_bd h
    refine f_cSi dX12_cloth_16 rfl rfl rfl rfl (fun Q' hQ' => E_X12_within hq2 hQ') ?_
    refine e_if_eq dX12_cloth_19 36 (by decide) (fun hc => ?_) (fun hc => ?_)
    · rw [if_pos hc] at h
      exact E_X12_cloth_c36 h hQ
    · rw [if_neg hc] at h
      refine e_iload_n dX12_cloth_22 rfl ?_
      refine e_iconst (v := (0 : Int32)) dX12_cloth_23 rfl ?_
      refine e_bipush (v := (9 : Int32)) dX12_cloth_24 rfl ?_
      obtain ⟨q3, hq3, h⟩ := p_bd h
      refine f_cSi dX12_cloth_26 rfl rfl rfl rfl (fun Q' hQ' => E_X12_within hq3 hQ') ?_
      refine e_if_eq dX12_cloth_29 36 (by decide) (fun hc => ?_) (fun hc => ?_)
      · rw [if_pos hc] at h
        exact E_X12_cloth_c36 h hQ
      · rw [if_neg hc] at h
        refine e_iconst (v := (1 : Int32)) dX12_cloth_32 rfl ?_
        refine e_goto dX12_cloth_33 37 (by decide) ?_
        exact E_X12_cloth_c37 h hQ
/-! L_cloth -/
def F_L_cloth (v0 : Nat) (v1 : Int32) (v2 : Int32) (v3 : Int32) (v4 : Nat) (μ : p_M) : Option (Int32 × p_M) :=
  p_ok (mK μ v0 = 13 ∧ v0 < mN μ)
  ((F_X12_cloth v0 v1 v2 v3 μ).bind fun q1 =>
  if q1.1 = 0
  then (p_ok (mK q1.2.2 v4 = 22 ∧ ¬ (0 : Int32) < 0 ∧ (0 : Int32).toNatClampNeg < mL q1.2.2 v4 ∧ v4 < mN q1.2.2)
    (p_let (sJ q1.2.2 v4 (0 : Int32).toNatClampNeg q1.2.1.toInt64) fun m4 =>
    some ((0 : Int32), m4)))
  else if q1.1 = 1 then (some ((1 : Int32), q1.2.2))
  else if q1.1 = 2 then (some ((2 : Int32), q1.2.2))
  else none)
theorem E_L_cloth {X : p_X} {d : Nat} {Q : p_R → Prop} {v0 : Nat} {v1 : Int32} {v2 : Int32} {v3 : Int32} {v4 : Nat} {μ : p_M} {r : Int32 × p_M} (h : F_L_cloth v0 v1 v2 v3 v4 μ = some r) (hQ : Q ((0, some (.int r.1)), r.2)) : p_Ev X (d + 2) M_L_cloth 0 [.ref v0, .int v1, .int v2, .int v3, .ref v4, .double 0] [] μ Q := by
  unfold F_L_cloth at h
  refine e_aload dL_cloth_0 rfl ?_
  refine e_iconst (v := (0 : Int32)) dL_cloth_2 rfl ?_
  refine e_aload_n dL_cloth_3 rfl ?_
  refine e_iload_n dL_cloth_4 rfl ?_
  refine e_iload_n dL_cloth_5 rfl ?_
  refine e_iload_n dL_cloth_6 rfl ?_
  obtain ⟨h2, h⟩ := p_ok_some h
  obtain ⟨q1, hq1, h⟩ := p_bd h
  refine f_hVi dL_cloth_7 rfl rfl ⟨rfl, rfl, by decide⟩ rfl h2 (by decide) (fun Q' hQ' => E_X12_cloth hq1 hQ') (fun hc => ?_) (fun hc => ?_)
  · rw [if_pos hc] at h
    refine e_i2l dL_cloth_10 ?_
    obtain ⟨h3, h⟩ := p_ok_some h
    replace h := p_lt h
    refine e_laS dL_cloth_11 h3 ?_
    refine e_goto dL_cloth_12 23 (by decide) ?_
    refine e_iconst (v := (0 : Int32)) dL_cloth_23 rfl ?_
    cases h
    exact e_ireti dL_cloth_24 rfl hQ
  · rw [if_neg hc] at h
    by_cases hc : q1.1 = 1
    · rw [if_pos hc] at h
      refine ⟨15, by rw [hc]; rfl, ?_⟩
      refine e_astZ dL_cloth_15 (Nat.le_of_ble_eq_true rfl) rfl ?_
      refine e_iconst (v := (1 : Int32)) dL_cloth_17 rfl ?_
      cases h
      exact e_ireti dL_cloth_18 rfl hQ
    rw [if_neg hc] at h
    by_cases hc : q1.1 = 2
    · rw [if_pos hc] at h
      refine ⟨19, by rw [hc]; rfl, ?_⟩
      refine e_astZ dL_cloth_19 (Nat.le_of_ble_eq_true rfl) rfl ?_
      refine e_iconst (v := (2 : Int32)) dL_cloth_21 rfl ?_
      cases h
      exact e_ireti dL_cloth_22 rfl hQ
    rw [if_neg hc] at h
    cases h
/-! X11_partUp -/
def F_X11_partUp_c22 (s0 : Int32) (μ : p_M) : Option (Int32 × p_M) :=
  some (s0, μ)
theorem E_X11_partUp_c22 {X : p_X} {d : Nat} {Q : p_R → Prop} {s0 : Int32} {w0 : Value} {w1 : Value} {w2 : Value} {μ : p_M} {r : Int32 × p_M} (h : F_X11_partUp_c22 s0 μ = some r) (hQ : Q ((0, some (.int r.1)), r.2)) : p_Ev X (d + 0) M_X11_partUp 22 [w0, w1, w2] [.int s0] μ Q := by
  unfold F_X11_partUp_c22 at h
  cases h
  exact e_ireti dX11_partUp_22 rfl hQ
def F_X11_partUp (v0 : Int32) (v1 : Int32) (v2 : Int32) (μ : p_M) : Option (Int32 × p_M) :=
  if 0 < v2
  then (p_ok (¬ v2.toInt64 = 0)
    (F_X11_partUp_c22 ((((v0.toInt64 * v1.toInt64) + v2.toInt64) - (1 : Int64)) / v2.toInt64).toInt32 μ))
  else (F_X11_partUp_c22 (0 : Int32) μ)
theorem E_X11_partUp {X : p_X} {d : Nat} {Q : p_R → Prop} {v0 : Int32} {v1 : Int32} {v2 : Int32} {μ : p_M} {r : Int32 × p_M} (h : F_X11_partUp v0 v1 v2 μ = some r) (hQ : Q ((0, some (.int r.1)), r.2)) : p_Ev X (d + 0) M_X11_partUp 0 [.int v0, .int v1, .int v2] [] μ Q := by
  unfold F_X11_partUp at h
  refine e_iload_n dX11_partUp_0 rfl ?_
  refine e_if_gt dX11_partUp_1 8 (by decide) (fun hc => ?_) (fun hc => ?_)
  · rw [if_pos hc] at h
    refine e_iload_n dX11_partUp_8 rfl ?_
    refine e_i2l dX11_partUp_9 ?_
    refine e_iload_n dX11_partUp_10 rfl ?_
    refine e_i2l dX11_partUp_11 ?_
    refine e_lmul dX11_partUp_12 ?_
    refine e_iload_n dX11_partUp_13 rfl ?_
    refine e_i2l dX11_partUp_14 ?_
    refine e_ladd dX11_partUp_15 ?_
    refine e_lconst (v := 1) dX11_partUp_16 rfl ?_
    refine e_lsub dX11_partUp_17 ?_
    refine e_iload_n dX11_partUp_18 rfl ?_
    refine e_i2l dX11_partUp_19 ?_
    obtain ⟨h1, h⟩ := p_ok_some h
    refine e_ldiv dX11_partUp_20 h1 ?_
    refine e_l2i dX11_partUp_21 ?_
    exact E_X11_partUp_c22 h hQ
  · rw [if_neg hc] at h
    refine e_iconst (v := (0 : Int32)) dX11_partUp_4 rfl ?_
    refine e_goto dX11_partUp_5 22 (by decide) ?_
    exact E_X11_partUp_c22 h hQ
/-! X11_runOff -/
def F_X11_runOff (v0 : Nat) (v1 : Int32) (v2 : Int32) (μ : p_M) : Option (Int32 × p_M) :=
  p_ok (mK μ v0 = 12 ∧ v0 < mN μ)
  (p_let (sI μ v0 6 ((mI μ v0 6) + v1)) fun m2 =>
  p_let (sI m2 v0 8 ((mI m2 v0 8) + v2)) fun m3 =>
  some (0, m3))
theorem E_X11_runOff {X : p_X} {d : Nat} {Q : p_R → Prop} {v0 : Nat} {v1 : Int32} {v2 : Int32} {μ : p_M} {r : Int32 × p_M} (h : F_X11_runOff v0 v1 v2 μ = some r) (hQ : Q ((0, none), r.2)) : p_Ev X (d + 0) M_X11_runOff 0 [.ref v0, .int v1, .int v2] [] μ Q := by
  unfold F_X11_runOff at h
  refine e_aload_n dX11_runOff_0 rfl ?_
  refine e_dupR dX11_runOff_1 ?_
  obtain ⟨h1, h⟩ := p_ok_some h
  refine e_getI dX11_runOff_2 rfl rfl h1.1 h1.2 ?_
  refine e_iload_n dX11_runOff_5 rfl ?_
  refine e_iadd dX11_runOff_6 ?_
  replace h := p_lt h
  refine e_putI dX11_runOff_7 rfl ⟨rfl, rfl, (fun h => by cases h)⟩ (fun h => by cases h) h1.1 h1.2 ?_
  refine e_aload_n dX11_runOff_10 rfl ?_
  refine e_dupR dX11_runOff_11 ?_
  refine e_getI dX11_runOff_12 rfl rfl h1.1 h1.2 ?_
  refine e_iload_n dX11_runOff_15 rfl ?_
  refine e_iadd dX11_runOff_16 ?_
  replace h := p_lt h
  refine e_putI dX11_runOff_17 rfl ⟨rfl, rfl, (fun h => by cases h)⟩ (fun h => by cases h) h1.1 h1.2 ?_
  cases h
  exact e_vret dX11_runOff_20 rfl hQ
/-! X11_putIn -/
def F_X11_putIn (v0 : Nat) (v1 : Int32) (v2 : Int32) (v3 : Int32) (μ : p_M) : Option (Int32 × p_M) :=
  p_ok (mK μ v0 = 12 ∧ v0 < mN μ)
  ((mR μ v0 1).bind fun q2 =>
  p_ok (q2 < p_E ∧ mK μ q2 = 20 ∧ q2 < mN μ)
  (p_ok (¬ v1 < 0 ∧ v1.toNatClampNeg < mL μ q2)
  ((mR μ v0 0).bind fun q5 =>
  p_ok (q5 < p_E ∧ mK μ q5 = 20 ∧ q5 < mN μ)
  (p_ok (¬ v1 < 0 ∧ v1.toNatClampNeg < mL μ q5)
  ((F_X11_partUp v3 (if (0 : Int32) < (((mI μ q2 v1.toNatClampNeg) + v2) - (mI μ q5 v1.toNatClampNeg)) then (((mI μ q2 v1.toNatClampNeg) + v2) - (mI μ q5 v1.toNatClampNeg)) else (0 : Int32)) v2 μ).bind fun q8 =>
  p_ok (mK q8.2 v0 = 12 ∧ v0 < mN q8.2)
  ((mR q8.2 v0 1).bind fun q10 =>
  p_ok (q10 < p_E ∧ mK q8.2 q10 = 20 ∧ q10 < mN q8.2)
  (p_ok (¬ v1 < 0 ∧ v1.toNatClampNeg < mL q8.2 q10)
  (p_let (sI q8.2 q10 v1.toNatClampNeg ((mI q8.2 q10 v1.toNatClampNeg) + (v2 - (if (0 : Int32) < (((mI μ q2 v1.toNatClampNeg) + v2) - (mI μ q5 v1.toNatClampNeg)) then (((mI μ q2 v1.toNatClampNeg) + v2) - (mI μ q5 v1.toNatClampNeg)) else (0 : Int32))))) fun m13 =>
  (mR m13 v0 2).bind fun q14 =>
  p_ok (q14 < p_E ∧ mK m13 q14 = 20 ∧ q14 < mN m13)
  (p_ok (¬ v1 < 0 ∧ v1.toNatClampNeg < mL m13 q14)
  (p_let (sI m13 q14 v1.toNatClampNeg ((mI m13 q14 v1.toNatClampNeg) + (v3 - q8.1))) fun m17 =>
  (F_X11_runOff v0 (if (0 : Int32) < (((mI μ q2 v1.toNatClampNeg) + v2) - (mI μ q5 v1.toNatClampNeg)) then (((mI μ q2 v1.toNatClampNeg) + v2) - (mI μ q5 v1.toNatClampNeg)) else (0 : Int32)) q8.1 m17).bind fun q18 =>
  some ((if (0 : Int32) < (((mI μ q2 v1.toNatClampNeg) + v2) - (mI μ q5 v1.toNatClampNeg)) then (((mI μ q2 v1.toNatClampNeg) + v2) - (mI μ q5 v1.toNatClampNeg)) else (0 : Int32)), q18.2)))))))))))
theorem E_X11_putIn {X : p_X} {d : Nat} {Q : p_R → Prop} {v0 : Nat} {v1 : Int32} {v2 : Int32} {v3 : Int32} {μ : p_M} {r : Int32 × p_M} (h : F_X11_putIn v0 v1 v2 v3 μ = some r) (hQ : Q ((0, some (.int r.1)), r.2)) : p_Ev X (d + 1) M_X11_putIn 0 [.ref v0, .int v1, .int v2, .int v3, .double 0, .double 0] [] μ Q := by
  unfold F_X11_putIn at h
  refine e_iconst (v := (0 : Int32)) dX11_putIn_0 rfl ?_
  refine e_aload_n dX11_putIn_1 rfl ?_
  obtain ⟨h1, h⟩ := p_ok_some h
  obtain ⟨q2, hq2, h⟩ := p_bd h
  refine e_getR dX11_putIn_2 rfl rfl h1.1 h1.2 hq2 ?_
  refine e_iload_n dX11_putIn_5 rfl ?_
  obtain ⟨h3, h⟩ := p_ok_some h
  obtain ⟨h4, h⟩ := p_ok_some h
  refine e_iaG dX11_putIn_6 h3 h4 ?_
  refine e_iload_n dX11_putIn_7 rfl ?_
  refine e_iadd dX11_putIn_8 ?_
  refine e_aload_n dX11_putIn_9 rfl ?_
  obtain ⟨q5, hq5, h⟩ := p_bd h
  refine e_getR dX11_putIn_10 rfl rfl h1.1 h1.2 hq5 ?_
  refine e_iload_n dX11_putIn_13 rfl ?_
  obtain ⟨h6, h⟩ := p_ok_some h
  obtain ⟨h7, h⟩ := p_ok_some h
  refine e_iaG dX11_putIn_14 h6 h7 ?_
  refine e_isub dX11_putIn_15 ?_
  refine e_max dX11_putIn_16 rfl (Nat.le_of_ble_eq_true rfl) ?_
  refine e_istore dX11_putIn_19 (Nat.le_of_ble_eq_true rfl) rfl ?_
  refine e_iload_n dX11_putIn_21 rfl ?_
  refine e_iload dX11_putIn_22 rfl ?_
  refine e_iload_n dX11_putIn_24 rfl ?_
  obtain ⟨q8, hq8, h⟩ := p_bd h
  refine f_cSi dX11_putIn_25 rfl rfl rfl rfl (fun Q' hQ' => E_X11_partUp hq8 hQ') ?_
  refine e_istore dX11_putIn_28 (Nat.le_of_ble_eq_true rfl) rfl ?_
  refine e_aload_n dX11_putIn_30 rfl ?_
  obtain ⟨h9, h⟩ := p_ok_some h
  obtain ⟨q10, hq10, h⟩ := p_bd h
  refine e_getR dX11_putIn_31 rfl rfl h9.1 h9.2 hq10 ?_
  refine e_iload_n dX11_putIn_34 rfl ?_
  refine e_dup2 dX11_putIn_35 ?_
  obtain ⟨h11, h⟩ := p_ok_some h
  obtain ⟨h12, h⟩ := p_ok_some h
  refine e_iaG dX11_putIn_36 h11 h12 ?_
  refine e_iload_n dX11_putIn_37 rfl ?_
  refine e_iload dX11_putIn_38 rfl ?_
  refine e_isub dX11_putIn_40 ?_
  refine e_iadd dX11_putIn_41 ?_
  replace h := p_lt h
  refine e_iaS dX11_putIn_42 h11 h12 ?_
  refine e_aload_n dX11_putIn_43 rfl ?_
  obtain ⟨q14, hq14, h⟩ := p_bd h
  refine e_getR dX11_putIn_44 rfl rfl h9.1 h9.2 hq14 ?_
  refine e_iload_n dX11_putIn_47 rfl ?_
  refine e_dup2 dX11_putIn_48 ?_
  obtain ⟨h15, h⟩ := p_ok_some h
  obtain ⟨h16, h⟩ := p_ok_some h
  refine e_iaG dX11_putIn_49 h15 h16 ?_
  refine e_iload_n dX11_putIn_50 rfl ?_
  refine e_iload dX11_putIn_51 rfl ?_
  refine e_isub dX11_putIn_53 ?_
  refine e_iadd dX11_putIn_54 ?_
  replace h := p_lt h
  refine e_iaS dX11_putIn_55 h15 h16 ?_
  refine e_aload_n dX11_putIn_56 rfl ?_
  refine e_iload dX11_putIn_57 rfl ?_
  refine e_iload dX11_putIn_59 rfl ?_
  obtain ⟨q18, hq18, h⟩ := p_bd h
  refine f_cVv dX11_putIn_61 rfl rfl ⟨rfl, rfl, by decide⟩ rfl h9 (fun Q' hQ' => E_X11_runOff hq18 hQ') ?_
  refine e_iload dX11_putIn_64 rfl ?_
  cases h
  exact e_ireti dX11_putIn_66 rfl hQ
