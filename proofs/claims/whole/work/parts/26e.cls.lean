/-! X12_workDay -/
def F_X12_workDay_c41 (K6 : Nat → Nat → Int32 → Int32 → p_M → Option (Nat × Int32 × p_M)) (v0 : Nat) (v1 : Nat) (v3 : Int32) (s0 : Int32) (μ : p_M) : Option (Nat × Int32 × p_M) :=
  K6 v0 v1 s0 (v3 + (1 : Int32)) μ
theorem E_X12_workDay_c41 {X : p_X} {d : Nat} {Q : p_R → Prop} {K6 : Nat → Nat → Int32 → Int32 → p_M → Option (Nat × Int32 × p_M)} (hK6 : ∀ (v0 : Nat) (v1 : Nat) (v2 : Int32) (v3 : Int32) (μ : p_M) (r : Nat × Int32 × p_M), K6 v0 v1 v2 v3 μ = some r → Q (tV r) → p_Ev X (d + 4) M_X12_workDay 6 [.ref v0, .ref v1, .int v2, .int v3] [] μ Q) {v0 : Nat} {v1 : Nat} {v3 : Int32} {s0 : Int32} {w2 : Value} {μ : p_M} {r : Nat × Int32 × p_M} (h : F_X12_workDay_c41 K6 v0 v1 v3 s0 μ = some r) (hQ : Q (tV r)) : p_Ev X (d + 4) M_X12_workDay 41 [.ref v0, .ref v1, w2, .int v3] [.int s0] μ Q := by
  unfold F_X12_workDay_c41 at h
  refine e_istore_n dX12_workDay_41 (Nat.le_of_ble_eq_true rfl) rfl ?_
  refine e_iinc (v := (1 : Int32)) dX12_workDay_42 rfl rfl rfl ?_
  refine e_goto dX12_workDay_45 6 (by decide) ?_
  exact hK6 _ _ _ _ _ _ h hQ
def F_X12_workDay_c48 (μ : p_M) : Option (Nat × Int32 × p_M) :=
  some (0, 0, μ)
theorem E_X12_workDay_c48 {X : p_X} {d : Nat} {Q : p_R → Prop} {w0 : Value} {w1 : Value} {w2 : Value} {w3 : Value} {μ : p_M} {r : Nat × Int32 × p_M} (h : F_X12_workDay_c48 μ = some r) (hQ : Q (tV r)) : p_Ev X (d + 4) M_X12_workDay 48 [w0, w1, w2, w3] [] μ Q := by
  unfold F_X12_workDay_c48 at h
  cases h
  exact e_vret dX12_workDay_48 rfl hQ
def F_X12_workDay_c6 : Nat → Nat → Nat → Int32 → Int32 → p_M → Option (Nat × Int32 × p_M)
  | 0, _, _, _, _, _ => none
  | n + 1, v0, v1, v2, v3, μ =>
    if (1000 : Int32) ≤ v3
    then (F_X12_workDay_c48 μ)
    else (if v2 = (-1)
      then (F_X12_workDay_c48 μ)
      else (p_ok (mK μ v1 = 6 ∧ v1 < mN μ)
        (if ¬ (mI μ v1 3) = (-1)
        then (p_ok (mK μ v0 = 13 ∧ v0 < mN μ)
          ((F_X12_doNextBath v0 v1 v2 μ).bind fun q2 =>
          if q2.1 = 0
          then (F_X12_workDay_c41 (F_X12_workDay_c6 n) v0 v1 v3 q2.2.1 q2.2.2)
          else (some (q2.1, 0, q2.2.2))))
        else (p_ok (mK μ v0 = 13 ∧ v0 < mN μ)
          ((F_X12_takeNext v0 v1 v2 μ).bind fun q4 =>
          if q4.1 = 0
          then (F_X12_workDay_c41 (F_X12_workDay_c6 n) v0 v1 v3 q4.2.1 q4.2.2)
          else (some (q4.1, 0, q4.2.2)))))))
theorem E_X12_workDay_c6 {X : p_X} {d : Nat} {Q : p_R → Prop} : ∀ (n : Nat) (v0 : Nat) (v1 : Nat) (v2 : Int32) (v3 : Int32) (μ : p_M) (r : Nat × Int32 × p_M), F_X12_workDay_c6 n v0 v1 v2 v3 μ = some r → Q (tV r) → p_Ev X (d + 4) M_X12_workDay 6 [.ref v0, .ref v1, .int v2, .int v3] [] μ Q := by
  intro n
  induction n with
  | zero => intro v0 v1 v2 v3 μ r h hQ; rw [F_X12_workDay_c6] at h; cases h
  | succ n ih =>
    intro v0 v1 v2 v3 μ r h hQ
    rw [F_X12_workDay_c6] at h
    refine e_iload_n dX12_workDay_6 rfl ?_
    refine e_sipush (v := (1000 : Int32)) dX12_workDay_7 rfl ?_
    refine e_ic_ge dX12_workDay_10 48 (by decide) (fun hc => ?_) (fun hc => ?_)
    · rw [if_pos hc] at h
      exact E_X12_workDay_c48 h hQ
    · rw [if_neg hc] at h
      refine e_iload_n dX12_workDay_13 rfl ?_
      refine e_iconst (v := (-1)) dX12_workDay_14 rfl ?_
      refine e_ic_eq dX12_workDay_15 48 (by decide) (fun hc => ?_) (fun hc => ?_)
      · rw [if_pos hc] at h
        exact E_X12_workDay_c48 h hQ
      · rw [if_neg hc] at h
        refine e_aload_n dX12_workDay_18 rfl ?_
        obtain ⟨h1, h⟩ := p_ok_some h
        refine e_getI dX12_workDay_19 rfl rfl h1.1 h1.2 ?_
        refine e_iconst (v := (-1)) dX12_workDay_22 rfl ?_
        refine e_ic_ne dX12_workDay_23 35 (by decide) (fun hc => ?_) (fun hc => ?_)
        · rw [if_pos hc] at h
          refine e_aload_n dX12_workDay_35 rfl ?_
          refine e_aload_n dX12_workDay_36 rfl ?_
          refine e_iload_n dX12_workDay_37 rfl ?_
          obtain ⟨h3, h⟩ := p_ok_some h
          obtain ⟨q2, hq2, h⟩ := p_bd h
          refine f_tVi dX12_workDay_38 rfl rfl ⟨rfl, rfl, by decide⟩ rfl h3 (by decide) rfl (fun Q' hQ' => E_X12_doNextBath hq2 hQ') (fun hc => ?_) (fun hc => ?_)
          · rw [if_pos hc] at h
            exact E_X12_workDay_c41 ih h hQ
          · rw [if_neg hc] at h
            cases h
            exact hQ
        · rw [if_neg hc] at h
          refine e_aload_n dX12_workDay_26 rfl ?_
          refine e_aload_n dX12_workDay_27 rfl ?_
          refine e_iload_n dX12_workDay_28 rfl ?_
          obtain ⟨h5, h⟩ := p_ok_some h
          obtain ⟨q4, hq4, h⟩ := p_bd h
          refine f_tVi dX12_workDay_29 rfl rfl ⟨rfl, rfl, by decide⟩ rfl h5 (by decide) rfl (fun Q' hQ' => E_X12_takeNext hq4 hQ') (fun hc => ?_) (fun hc => ?_)
          · rw [if_pos hc] at h
            refine e_goto dX12_workDay_32 41 (by decide) ?_
            exact E_X12_workDay_c41 ih h hQ
          · rw [if_neg hc] at h
            cases h
            exact hQ
def F_X12_workDay (v0 : Nat) (v1 : Nat) (μ : p_M) : Option (Nat × Int32 × p_M) :=
  F_X12_workDay_c6 p_fu v0 v1 (480 : Int32) (0 : Int32) μ
theorem E_X12_workDay {X : p_X} {d : Nat} {Q : p_R → Prop} {v0 : Nat} {v1 : Nat} {μ : p_M} {r : Nat × Int32 × p_M} (h : F_X12_workDay v0 v1 μ = some r) (hQ : Q (tV r)) : p_Ev X (d + 4) M_X12_workDay 0 [.ref v0, .ref v1, .double 0, .double 0] [] μ Q := by
  unfold F_X12_workDay at h
  refine e_sipush (v := (480 : Int32)) dX12_workDay_0 rfl ?_
  refine e_istore_n dX12_workDay_3 (Nat.le_of_ble_eq_true rfl) rfl ?_
  refine e_iconst (v := (0 : Int32)) dX12_workDay_4 rfl ?_
  refine e_istore_n dX12_workDay_5 (Nat.le_of_ble_eq_true rfl) rfl ?_
  exact E_X12_workDay_c6 p_fu _ _ _ _ _ _ h hQ
/-! X12_days -/
def F_X12_days_c39 (K12 : Nat → Int32 → Int32 → p_M → Option (Nat × Int32 × p_M)) : Nat → Nat → Int32 → Int32 → Int32 → p_M → Option (Nat × Int32 × p_M)
  | 0, _, _, _, _, _ => none
  | n + 1, v0, v1, v2, v3, μ =>
    p_ok (mK μ v0 = 13 ∧ v0 < mN μ)
    (if (mI μ v0 13) ≤ v3
    then (K12 v0 v1 (v2 + (1 : Int32)) μ)
    else ((mR μ v0 12).bind fun q6 =>
      p_ok (23 ≤ mK μ q6 ∧ mK μ q6 ≤ 26 ∧ ¬ v3 < 0 ∧ v3.toNatClampNeg < mL μ q6 ∧ q6 < mN μ)
      ((mR μ q6 v3.toNatClampNeg).bind fun q8 =>
      (F_X12_workDay v0 q8 μ).bind fun q9 =>
      if q9.1 = 0
      then (F_X12_days_c39 K12 n v0 v1 v2 (v3 + (1 : Int32)) q9.2.2)
      else (some (q9.1, 0, q9.2.2)))))
theorem E_X12_days_c39 {X : p_X} {d : Nat} {Q : p_R → Prop} {K12 : Nat → Int32 → Int32 → p_M → Option (Nat × Int32 × p_M)} (hK12 : ∀ (v0 : Nat) (v1 : Int32) (v2 : Int32) (μ : p_M) (r : Nat × Int32 × p_M) (w3 : Value), K12 v0 v1 v2 μ = some r → Q (tI r) → p_Ev X (d + 5) M_X12_days 12 [.ref v0, .int v1, .int v2, w3] [] μ Q) : ∀ (n : Nat) (v0 : Nat) (v1 : Int32) (v2 : Int32) (v3 : Int32) (μ : p_M) (r : Nat × Int32 × p_M), F_X12_days_c39 K12 n v0 v1 v2 v3 μ = some r → Q (tI r) → p_Ev X (d + 5) M_X12_days 39 [.ref v0, .int v1, .int v2, .int v3] [] μ Q := by
  intro n
  induction n with
  | zero => intro v0 v1 v2 v3 μ r h hQ; rw [F_X12_days_c39] at h; cases h
  | succ n ih =>
    intro v0 v1 v2 v3 μ r h hQ
    rw [F_X12_days_c39] at h
    refine e_iload_n dX12_days_39 rfl ?_
    refine e_aload_n dX12_days_40 rfl ?_
    obtain ⟨h5, h⟩ := p_ok_some h
    refine e_getI dX12_days_41 rfl rfl h5.1 h5.2 ?_
    refine e_ic_ge dX12_days_44 63 (by decide) (fun hc => ?_) (fun hc => ?_)
    · rw [if_pos hc] at h
      refine e_iinc (v := (1 : Int32)) dX12_days_63 rfl rfl rfl ?_
      refine e_goto dX12_days_66 12 (by decide) ?_
      exact hK12 _ _ _ _ _ _ h hQ
    · rw [if_neg hc] at h
      refine e_aload_n dX12_days_47 rfl ?_
      refine e_aload_n dX12_days_48 rfl ?_
      obtain ⟨q6, hq6, h⟩ := p_bd h
      refine e_getR dX12_days_49 rfl rfl h5.1 h5.2 hq6 ?_
      refine e_iload_n dX12_days_52 rfl ?_
      obtain ⟨h7, h⟩ := p_ok_some h
      obtain ⟨q8, hq8, h⟩ := p_bd h
      refine e_aald dX12_days_53 h7 hq8 ?_
      obtain ⟨q9, hq9, h⟩ := p_bd h
      refine f_tVv dX12_days_54 rfl rfl ⟨rfl, rfl, by decide⟩ rfl h5 (by decide) rfl (fun Q' hQ' => E_X12_workDay hq9 hQ') (fun hc => ?_) (fun hc => ?_)
      · rw [if_pos hc] at h
        refine e_iinc (v := (1 : Int32)) dX12_days_57 rfl rfl rfl ?_
        refine e_goto dX12_days_60 39 (by decide) ?_
        exact ih _ _ _ _ _ _ h hQ
      · rw [if_neg hc] at h
        cases h
        exact tI_E hc hQ
def F_X12_days_c69 (v0 : Nat) (μ : p_M) : Option (Nat × Int32 × p_M) :=
  p_ok (mK μ v0 = 13 ∧ v0 < mN μ)
  (some (0, (mI μ v0 15), μ))
theorem E_X12_days_c69 {X : p_X} {d : Nat} {Q : p_R → Prop} {v0 : Nat} {w1 : Value} {w2 : Value} {w3 : Value} {μ : p_M} {r : Nat × Int32 × p_M} (h : F_X12_days_c69 v0 μ = some r) (hQ : Q (tI r)) : p_Ev X (d + 5) M_X12_days 69 [.ref v0, w1, w2, w3] [] μ Q := by
  unfold F_X12_days_c69 at h
  refine e_aload_n dX12_days_69 rfl ?_
  obtain ⟨h10, h⟩ := p_ok_some h
  refine e_getI dX12_days_70 rfl rfl h10.1 h10.2 ?_
  cases h
  exact e_ireti dX12_days_73 rfl hQ
def F_X12_days_c12 : Nat → Nat → Int32 → Int32 → p_M → Option (Nat × Int32 × p_M)
  | 0, _, _, _, _ => none
  | n + 1, v0, v1, v2, μ =>
    if v1 ≤ v2
    then (F_X12_days_c69 v0 μ)
    else (p_ok (mK μ v0 = 13 ∧ v0 < mN μ)
      (if (400 : Int32) ≤ (mI μ v0 15)
      then (F_X12_days_c69 v0 μ)
      else (p_let (sI μ v0 15 ((mI μ v0 15) + (1 : Int32))) fun m4 =>
        F_X12_days_c39 (F_X12_days_c12 n) p_fu v0 v1 v2 (0 : Int32) m4)))
theorem E_X12_days_c12 {X : p_X} {d : Nat} {Q : p_R → Prop} : ∀ (n : Nat) (v0 : Nat) (v1 : Int32) (v2 : Int32) (μ : p_M) (r : Nat × Int32 × p_M) (w3 : Value), F_X12_days_c12 n v0 v1 v2 μ = some r → Q (tI r) → p_Ev X (d + 5) M_X12_days 12 [.ref v0, .int v1, .int v2, w3] [] μ Q := by
  intro n
  induction n with
  | zero => intro v0 v1 v2 μ r w3 h hQ; rw [F_X12_days_c12] at h; cases h
  | succ n ih =>
    intro v0 v1 v2 μ r w3 h hQ
    rw [F_X12_days_c12] at h
    refine e_iload_n dX12_days_12 rfl ?_
    refine e_iload_n dX12_days_13 rfl ?_
    refine e_ic_ge dX12_days_14 69 (by decide) (fun hc => ?_) (fun hc => ?_)
    · rw [if_pos hc] at h
      exact E_X12_days_c69 h hQ
    · rw [if_neg hc] at h
      refine e_aload_n dX12_days_17 rfl ?_
      obtain ⟨h3, h⟩ := p_ok_some h
      refine e_getI dX12_days_18 rfl rfl h3.1 h3.2 ?_
      refine e_sipush (v := (400 : Int32)) dX12_days_21 rfl ?_
      refine e_ic_ge dX12_days_24 69 (by decide) (fun hc => ?_) (fun hc => ?_)
      · rw [if_pos hc] at h
        exact E_X12_days_c69 h hQ
      · rw [if_neg hc] at h
        refine e_aload_n dX12_days_27 rfl ?_
        refine e_dupR dX12_days_28 ?_
        refine e_getI dX12_days_29 rfl rfl h3.1 h3.2 ?_
        refine e_iconst (v := (1 : Int32)) dX12_days_32 rfl ?_
        refine e_iadd dX12_days_33 ?_
        replace h := p_lt h
        refine e_putI dX12_days_34 rfl ⟨rfl, rfl, (fun h => by cases h)⟩ (fun h => by cases h) h3.1 h3.2 ?_
        refine e_iconst (v := (0 : Int32)) dX12_days_37 rfl ?_
        refine e_istore_n dX12_days_38 (Nat.le_of_ble_eq_true rfl) rfl ?_
        exact E_X12_days_c39 ih p_fu _ _ _ _ _ _ h hQ
def F_X12_days (v0 : Nat) (v1 : Int32) (μ : p_M) : Option (Nat × Int32 × p_M) :=
  (F_X12_within v1 (0 : Int32) (60 : Int32) μ).bind fun q1 =>
  (F_X12_need q1.1 q1.2).bind fun q2 =>
  if q2.1 = 0
  then (F_X12_days_c12 p_fu v0 v1 (0 : Int32) q2.2.2)
  else (some (q2.1, 0, q2.2.2))
theorem E_X12_days {X : p_X} {d : Nat} {Q : p_R → Prop} {v0 : Nat} {v1 : Int32} {μ : p_M} {r : Nat × Int32 × p_M} (h : F_X12_days v0 v1 μ = some r) (hQ : Q (tI r)) : p_Ev X (d + 5) M_X12_days 0 [.ref v0, .int v1, .double 0, .double 0] [] μ Q := by
  unfold F_X12_days at h
  refine e_iload_n dX12_days_0 rfl ?_
  refine e_iconst (v := (0 : Int32)) dX12_days_1 rfl ?_
  refine e_bipush (v := (60 : Int32)) dX12_days_2 rfl ?_
  obtain ⟨q1, hq1, h⟩ := p_bd h
  refine f_cSi dX12_days_4 rfl rfl rfl rfl (fun Q' hQ' => E_X12_within hq1 hQ') ?_
  obtain ⟨q2, hq2, h⟩ := p_bd h
  refine f_tSv dX12_days_7 rfl rfl rfl rfl (by decide) rfl (fun Q' hQ' => E_X12_need hq2 hQ') (fun hc => ?_) (fun hc => ?_)
  · rw [if_pos hc] at h
    refine e_iconst (v := (0 : Int32)) dX12_days_10 rfl ?_
    refine e_istore_n dX12_days_11 (Nat.le_of_ble_eq_true rfl) rfl ?_
    exact E_X12_days_c12 p_fu _ _ _ _ _ _ h hQ
  · rw [if_neg hc] at h
    cases h
    exact tI_E hc hQ
/-! L_days -/
def F_L_days (v0 : Nat) (v1 : Int32) (v2 : Nat) (μ : p_M) : Option (Int32 × p_M) :=
  p_ok (mK μ v0 = 13 ∧ v0 < mN μ)
  ((F_X12_days v0 v1 μ).bind fun q1 =>
  if q1.1 = 0
  then (p_ok (mK q1.2.2 v2 = 22 ∧ ¬ (0 : Int32) < 0 ∧ (0 : Int32).toNatClampNeg < mL q1.2.2 v2 ∧ v2 < mN q1.2.2)
    (p_let (sJ q1.2.2 v2 (0 : Int32).toNatClampNeg q1.2.1.toInt64) fun m4 =>
    some ((0 : Int32), m4)))
  else if q1.1 = 1 then (some ((1 : Int32), q1.2.2))
  else none)
theorem E_L_days {X : p_X} {d : Nat} {Q : p_R → Prop} {v0 : Nat} {v1 : Int32} {v2 : Nat} {μ : p_M} {r : Int32 × p_M} (h : F_L_days v0 v1 v2 μ = some r) (hQ : Q ((0, some (.int r.1)), r.2)) : p_Ev X (d + 6) M_L_days 0 [.ref v0, .int v1, .ref v2, .double 0] [] μ Q := by
  unfold F_L_days at h
  refine e_aload_n dL_days_0 rfl ?_
  refine e_iconst (v := (0 : Int32)) dL_days_1 rfl ?_
  refine e_aload_n dL_days_2 rfl ?_
  refine e_iload_n dL_days_3 rfl ?_
  obtain ⟨h2, h⟩ := p_ok_some h
  obtain ⟨q1, hq1, h⟩ := p_bd h
  refine f_hVi dL_days_4 rfl rfl ⟨rfl, rfl, by decide⟩ rfl h2 (by decide) (fun Q' hQ' => E_X12_days hq1 hQ') (fun hc => ?_) (fun hc => ?_)
  · rw [if_pos hc] at h
    refine e_i2l dL_days_7 ?_
    obtain ⟨h3, h⟩ := p_ok_some h
    replace h := p_lt h
    refine e_laS dL_days_8 h3 ?_
    refine e_goto dL_days_9 15 (by decide) ?_
    refine e_iconst (v := (0 : Int32)) dL_days_15 rfl ?_
    cases h
    exact e_ireti dL_days_16 rfl hQ
  · rw [if_neg hc] at h
    by_cases hc : q1.1 = 1
    · rw [if_pos hc] at h
      refine ⟨12, by rw [hc]; rfl, ?_⟩
      refine e_astZ_n dL_days_12 (Nat.le_of_ble_eq_true rfl) rfl ?_
      refine e_iconst (v := (1 : Int32)) dL_days_13 rfl ?_
      cases h
      exact e_ireti dL_days_14 rfl hQ
    rw [if_neg hc] at h
    cases h
/-! X4_setDelivered -/
def F_X4_setDelivered_c19 (μ : p_M) : Option (Int32 × p_M) :=
  some (0, μ)
theorem E_X4_setDelivered_c19 {X : p_X} {d : Nat} {Q : p_R → Prop} {w0 : Value} {w1 : Value} {μ : p_M} {r : Int32 × p_M} (h : F_X4_setDelivered_c19 μ = some r) (hQ : Q ((0, none), r.2)) : p_Ev X (d + 0) M_X4_setDelivered 19 [w0, w1] [] μ Q := by
  unfold F_X4_setDelivered_c19 at h
  cases h
  exact e_vret dX4_setDelivered_19 rfl hQ
def F_X4_setDelivered (v0 : Nat) (v1 : Int32) (μ : p_M) : Option (Int32 × p_M) :=
  if v1 < 0
  then (F_X4_setDelivered_c19 μ)
  else (p_ok (mK μ v0 = 5 ∧ v0 < mN μ)
    (if (mI μ v0 1) ≤ v1
    then (F_X4_setDelivered_c19 μ)
    else ((mR μ v0 15).bind fun q2 =>
      p_ok (q2 < p_E ∧ mK μ q2 = 20 ∧ q2 < mN μ)
      (p_ok (¬ v1 < 0 ∧ v1.toNatClampNeg < mL μ q2)
      (p_let (sI μ q2 v1.toNatClampNeg (2 : Int32)) fun m5 =>
      F_X4_setDelivered_c19 m5)))))
theorem E_X4_setDelivered {X : p_X} {d : Nat} {Q : p_R → Prop} {v0 : Nat} {v1 : Int32} {μ : p_M} {r : Int32 × p_M} (h : F_X4_setDelivered v0 v1 μ = some r) (hQ : Q ((0, none), r.2)) : p_Ev X (d + 0) M_X4_setDelivered 0 [.ref v0, .int v1] [] μ Q := by
  unfold F_X4_setDelivered at h
  refine e_iload_n dX4_setDelivered_0 rfl ?_
  refine e_if_lt dX4_setDelivered_1 19 (by decide) (fun hc => ?_) (fun hc => ?_)
  · rw [if_pos hc] at h
    exact E_X4_setDelivered_c19 h hQ
  · rw [if_neg hc] at h
    refine e_iload_n dX4_setDelivered_4 rfl ?_
    refine e_aload_n dX4_setDelivered_5 rfl ?_
    obtain ⟨h1, h⟩ := p_ok_some h
    refine e_getI dX4_setDelivered_6 rfl rfl h1.1 h1.2 ?_
    refine e_ic_ge dX4_setDelivered_9 19 (by decide) (fun hc => ?_) (fun hc => ?_)
    · rw [if_pos hc] at h
      exact E_X4_setDelivered_c19 h hQ
    · rw [if_neg hc] at h
      refine e_aload_n dX4_setDelivered_12 rfl ?_
      obtain ⟨q2, hq2, h⟩ := p_bd h
      refine e_getR dX4_setDelivered_13 rfl rfl h1.1 h1.2 hq2 ?_
      refine e_iload_n dX4_setDelivered_16 rfl ?_
      refine e_iconst (v := (2 : Int32)) dX4_setDelivered_17 rfl ?_
      obtain ⟨h3, h⟩ := p_ok_some h
      obtain ⟨h4, h⟩ := p_ok_some h
      replace h := p_lt h
      refine e_iaS dX4_setDelivered_18 h3 h4 ?_
      exact E_X4_setDelivered_c19 h hQ
/-! X6_lotOf -/
def F_X6_lotOf_c28 (s0 : Int32) (μ : p_M) : Option (Int32 × p_M) :=
  some (s0, μ)
theorem E_X6_lotOf_c28 {X : p_X} {d : Nat} {Q : p_R → Prop} {s0 : Int32} {w0 : Value} {w1 : Value} {μ : p_M} {r : Int32 × p_M} (h : F_X6_lotOf_c28 s0 μ = some r) (hQ : Q ((0, some (.int r.1)), r.2)) : p_Ev X (d + 0) M_X6_lotOf 28 [w0, w1] [.int s0] μ Q := by
  unfold F_X6_lotOf_c28 at h
  cases h
  exact e_ireti dX6_lotOf_28 rfl hQ
def F_X6_lotOf_c27 (μ : p_M) : Option (Int32 × p_M) :=
  F_X6_lotOf_c28 (-1) μ
theorem E_X6_lotOf_c27 {X : p_X} {d : Nat} {Q : p_R → Prop} {w0 : Value} {w1 : Value} {μ : p_M} {r : Int32 × p_M} (h : F_X6_lotOf_c27 μ = some r) (hQ : Q ((0, some (.int r.1)), r.2)) : p_Ev X (d + 0) M_X6_lotOf 27 [w0, w1] [] μ Q := by
  unfold F_X6_lotOf_c27 at h
  refine e_iconst (v := (-1)) dX6_lotOf_27 rfl ?_
  exact E_X6_lotOf_c28 h hQ
def F_X6_lotOf (v0 : Nat) (v1 : Int32) (μ : p_M) : Option (Int32 × p_M) :=
  if v1 < 0
  then (F_X6_lotOf_c27 μ)
  else (p_ok (mK μ v0 = 7 ∧ v0 < mN μ)
    (if (mI μ v0 9) ≤ v1
    then (F_X6_lotOf_c27 μ)
    else ((mR μ v0 6).bind fun q2 =>
      p_ok (q2 < p_E ∧ mK μ q2 = 20 ∧ q2 < mN μ)
      (p_ok (¬ v1 < 0 ∧ v1.toNatClampNeg < mL μ q2)
      (F_X6_lotOf_c28 ((((mI μ q2 v1.toNatClampNeg).toUInt32 >>> ((6 : Int32).toUInt32 &&& Int32.toUInt32 31)).toInt32) &&& (63 : Int32)) μ)))))
theorem E_X6_lotOf {X : p_X} {d : Nat} {Q : p_R → Prop} {v0 : Nat} {v1 : Int32} {μ : p_M} {r : Int32 × p_M} (h : F_X6_lotOf v0 v1 μ = some r) (hQ : Q ((0, some (.int r.1)), r.2)) : p_Ev X (d + 0) M_X6_lotOf 0 [.ref v0, .int v1] [] μ Q := by
  unfold F_X6_lotOf at h
  refine e_iload_n dX6_lotOf_0 rfl ?_
  refine e_if_lt dX6_lotOf_1 27 (by decide) (fun hc => ?_) (fun hc => ?_)
  · rw [if_pos hc] at h
    exact E_X6_lotOf_c27 h hQ
  · rw [if_neg hc] at h
    refine e_iload_n dX6_lotOf_4 rfl ?_
    refine e_aload_n dX6_lotOf_5 rfl ?_
    obtain ⟨h1, h⟩ := p_ok_some h
    refine e_getI dX6_lotOf_6 rfl rfl h1.1 h1.2 ?_
    refine e_ic_ge dX6_lotOf_9 27 (by decide) (fun hc => ?_) (fun hc => ?_)
    · rw [if_pos hc] at h
      exact E_X6_lotOf_c27 h hQ
    · rw [if_neg hc] at h
      refine e_aload_n dX6_lotOf_12 rfl ?_
      obtain ⟨q2, hq2, h⟩ := p_bd h
      refine e_getR dX6_lotOf_13 rfl rfl h1.1 h1.2 hq2 ?_
      refine e_iload_n dX6_lotOf_16 rfl ?_
      obtain ⟨h3, h⟩ := p_ok_some h
      obtain ⟨h4, h⟩ := p_ok_some h
      refine e_iaG dX6_lotOf_17 h3 h4 ?_
      refine e_bipush (v := (6 : Int32)) dX6_lotOf_18 rfl ?_
      refine e_iushr dX6_lotOf_20 ?_
      refine e_bipush (v := (63 : Int32)) dX6_lotOf_21 rfl ?_
      refine e_iand dX6_lotOf_23 ?_
      refine e_goto dX6_lotOf_24 28 (by decide) ?_
      exact E_X6_lotOf_c28 h hQ
/-! X6_pieceOf -/
def F_X6_pieceOf_c25 (s0 : Int32) (μ : p_M) : Option (Int32 × p_M) :=
  some (s0, μ)
theorem E_X6_pieceOf_c25 {X : p_X} {d : Nat} {Q : p_R → Prop} {s0 : Int32} {w0 : Value} {w1 : Value} {μ : p_M} {r : Int32 × p_M} (h : F_X6_pieceOf_c25 s0 μ = some r) (hQ : Q ((0, some (.int r.1)), r.2)) : p_Ev X (d + 0) M_X6_pieceOf 25 [w0, w1] [.int s0] μ Q := by
  unfold F_X6_pieceOf_c25 at h
  cases h
  exact e_ireti dX6_pieceOf_25 rfl hQ
def F_X6_pieceOf_c24 (μ : p_M) : Option (Int32 × p_M) :=
  F_X6_pieceOf_c25 (-1) μ
theorem E_X6_pieceOf_c24 {X : p_X} {d : Nat} {Q : p_R → Prop} {w0 : Value} {w1 : Value} {μ : p_M} {r : Int32 × p_M} (h : F_X6_pieceOf_c24 μ = some r) (hQ : Q ((0, some (.int r.1)), r.2)) : p_Ev X (d + 0) M_X6_pieceOf 24 [w0, w1] [] μ Q := by
  unfold F_X6_pieceOf_c24 at h
  refine e_iconst (v := (-1)) dX6_pieceOf_24 rfl ?_
  exact E_X6_pieceOf_c25 h hQ
def F_X6_pieceOf (v0 : Nat) (v1 : Int32) (μ : p_M) : Option (Int32 × p_M) :=
  if v1 < 0
  then (F_X6_pieceOf_c24 μ)
  else (p_ok (mK μ v0 = 7 ∧ v0 < mN μ)
    (if (mI μ v0 9) ≤ v1
    then (F_X6_pieceOf_c24 μ)
    else ((mR μ v0 6).bind fun q2 =>
      p_ok (q2 < p_E ∧ mK μ q2 = 20 ∧ q2 < mN μ)
      (p_ok (¬ v1 < 0 ∧ v1.toNatClampNeg < mL μ q2)
      (F_X6_pieceOf_c25 ((mI μ q2 v1.toNatClampNeg) &&& (63 : Int32)) μ)))))
theorem E_X6_pieceOf {X : p_X} {d : Nat} {Q : p_R → Prop} {v0 : Nat} {v1 : Int32} {μ : p_M} {r : Int32 × p_M} (h : F_X6_pieceOf v0 v1 μ = some r) (hQ : Q ((0, some (.int r.1)), r.2)) : p_Ev X (d + 0) M_X6_pieceOf 0 [.ref v0, .int v1] [] μ Q := by
  unfold F_X6_pieceOf at h
  refine e_iload_n dX6_pieceOf_0 rfl ?_
  refine e_if_lt dX6_pieceOf_1 24 (by decide) (fun hc => ?_) (fun hc => ?_)
  · rw [if_pos hc] at h
    exact E_X6_pieceOf_c24 h hQ
  · rw [if_neg hc] at h
    refine e_iload_n dX6_pieceOf_4 rfl ?_
    refine e_aload_n dX6_pieceOf_5 rfl ?_
    obtain ⟨h1, h⟩ := p_ok_some h
    refine e_getI dX6_pieceOf_6 rfl rfl h1.1 h1.2 ?_
    refine e_ic_ge dX6_pieceOf_9 24 (by decide) (fun hc => ?_) (fun hc => ?_)
    · rw [if_pos hc] at h
      exact E_X6_pieceOf_c24 h hQ
    · rw [if_neg hc] at h
      refine e_aload_n dX6_pieceOf_12 rfl ?_
      obtain ⟨q2, hq2, h⟩ := p_bd h
      refine e_getR dX6_pieceOf_13 rfl rfl h1.1 h1.2 hq2 ?_
      refine e_iload_n dX6_pieceOf_16 rfl ?_
      obtain ⟨h3, h⟩ := p_ok_some h
      obtain ⟨h4, h⟩ := p_ok_some h
      refine e_iaG dX6_pieceOf_17 h3 h4 ?_
      refine e_bipush (v := (63 : Int32)) dX6_pieceOf_18 rfl ?_
      refine e_iand dX6_pieceOf_20 ?_
      refine e_goto dX6_pieceOf_21 25 (by decide) ?_
      exact E_X6_pieceOf_c25 h hQ
/-! X12_deliverPack -/
def F_X12_deliverPack_c67 (K17 : Nat → Int32 → Int32 → Int32 → p_M → Option (Nat × Int32 × p_M)) (v0 : Nat) (v2 : Int32) (v3 : Int32) (v4 : Int32) (μ : p_M) : Option (Nat × Int32 × p_M) :=
  K17 v0 v2 v3 (v4 + (1 : Int32)) μ
theorem E_X12_deliverPack_c67 {X : p_X} {d : Nat} {Q : p_R → Prop} {K17 : Nat → Int32 → Int32 → Int32 → p_M → Option (Nat × Int32 × p_M)} (hK17 : ∀ (v0 : Nat) (v2 : Int32) (v3 : Int32) (v4 : Int32) (μ : p_M) (r : Nat × Int32 × p_M) (w1 : Value) (w5 : Value), K17 v0 v2 v3 v4 μ = some r → Q (tI r) → p_Ev X (d + 2) M_X12_deliverPack 17 [.ref v0, w1, .int v2, .int v3, .int v4, w5] [] μ Q) {v0 : Nat} {v2 : Int32} {v3 : Int32} {v4 : Int32} {w1 : Value} {w5 : Value} {μ : p_M} {r : Nat × Int32 × p_M} (h : F_X12_deliverPack_c67 K17 v0 v2 v3 v4 μ = some r) (hQ : Q (tI r)) : p_Ev X (d + 2) M_X12_deliverPack 67 [.ref v0, w1, .int v2, .int v3, .int v4, w5] [] μ Q := by
  unfold F_X12_deliverPack_c67 at h
  refine e_iinc (v := (1 : Int32)) dX12_deliverPack_67 rfl rfl rfl ?_
  refine e_goto dX12_deliverPack_70 17 (by decide) ?_
  exact hK17 _ _ _ _ _ _ _ _ h hQ
def F_X12_deliverPack_c17 : Nat → Nat → Int32 → Int32 → Int32 → p_M → Option (Nat × Int32 × p_M)
  | 0, _, _, _, _, _ => none
  | n + 1, v0, v2, v3, v4, μ =>
    if v3 ≤ v4
    then (some (0, v2, μ))
    else (p_ok (mK μ v0 = 13 ∧ v0 < mN μ)
      ((mR μ v0 16).bind fun q6 =>
      p_ok (mK μ q6 = 7 ∧ q6 < mN μ)
      ((F_X6_lotOf q6 v4 μ).bind fun q7 =>
      p_ok (mK q7.2 v0 = 13 ∧ v0 < mN q7.2)
      ((F_X12_lotAt v0 q7.1 q7.2).bind fun q9 =>
      if q9.1 = 0
      then (p_ok (mK q9.2.2 v0 = 13 ∧ v0 < mN q9.2.2)
        ((mR q9.2.2 v0 16).bind fun q12 =>
        p_ok (mK q9.2.2 q12 = 7 ∧ q12 < mN q9.2.2)
        ((F_X6_pieceOf q12 v4 q9.2.2).bind fun q13 =>
        p_ok (mK q13.2 q9.2.1 = 5 ∧ q9.2.1 < mN q13.2)
        ((F_X4_setDelivered q9.2.1 q13.1 q13.2).bind fun q15 =>
        p_ok (mK q15.2 v0 = 13 ∧ v0 < mN q15.2)
        (p_ok (mK q15.2 q9.2.1 = 5 ∧ q9.2.1 < mN q15.2)
        (if (mI q15.2 v0 15) ≤ (mI q15.2 q9.2.1 3)
        then (F_X12_deliverPack_c67 (F_X12_deliverPack_c17 n) v0 v2 v3 v4 q15.2)
        else (F_X12_deliverPack_c67 (F_X12_deliverPack_c17 n) v0 (v2 + (1 : Int32)) v3 v4 q15.2)))))))
      else (some (q9.1, 0, q9.2.2))))))
theorem E_X12_deliverPack_c17 {X : p_X} {d : Nat} {Q : p_R → Prop} : ∀ (n : Nat) (v0 : Nat) (v2 : Int32) (v3 : Int32) (v4 : Int32) (μ : p_M) (r : Nat × Int32 × p_M) (w1 : Value) (w5 : Value), F_X12_deliverPack_c17 n v0 v2 v3 v4 μ = some r → Q (tI r) → p_Ev X (d + 2) M_X12_deliverPack 17 [.ref v0, w1, .int v2, .int v3, .int v4, w5] [] μ Q := by
  intro n
  induction n with
  | zero => intro v0 v2 v3 v4 μ r w1 w5 h hQ; rw [F_X12_deliverPack_c17] at h; cases h
  | succ n ih =>
    intro v0 v2 v3 v4 μ r w1 w5 h hQ
    rw [F_X12_deliverPack_c17] at h
    refine e_iload dX12_deliverPack_17 rfl ?_
    refine e_iload_n dX12_deliverPack_19 rfl ?_
    refine e_ic_ge dX12_deliverPack_20 73 (by decide) (fun hc => ?_) (fun hc => ?_)
    · rw [if_pos hc] at h
      refine e_iload_n dX12_deliverPack_73 rfl ?_
      cases h
      exact e_ireti dX12_deliverPack_74 rfl hQ
    · rw [if_neg hc] at h
      refine e_aload_n dX12_deliverPack_23 rfl ?_
      refine e_aload_n dX12_deliverPack_24 rfl ?_
      obtain ⟨h5, h⟩ := p_ok_some h
      obtain ⟨q6, hq6, h⟩ := p_bd h
      refine e_getR dX12_deliverPack_25 rfl rfl h5.1 h5.2 hq6 ?_
      refine e_iload dX12_deliverPack_28 rfl ?_
      obtain ⟨h8, h⟩ := p_ok_some h
      obtain ⟨q7, hq7, h⟩ := p_bd h
      refine f_cVi dX12_deliverPack_30 rfl rfl ⟨rfl, rfl, by decide⟩ rfl h8 (fun Q' hQ' => E_X6_lotOf hq7 hQ') ?_
      obtain ⟨h10, h⟩ := p_ok_some h
      obtain ⟨q9, hq9, h⟩ := p_bd h
      refine f_tVr dX12_deliverPack_33 rfl rfl ⟨rfl, rfl, by decide⟩ rfl h10 (by decide) rfl (fun Q' hQ' => E_X12_lotAt hq9 hQ') (fun hc => ?_) (fun hc => ?_)
      · rw [if_pos hc] at h
        refine e_astore dX12_deliverPack_36 (Nat.le_of_ble_eq_true rfl) rfl ?_
        refine e_aload dX12_deliverPack_38 rfl ?_
        refine e_aload_n dX12_deliverPack_40 rfl ?_
        obtain ⟨h11, h⟩ := p_ok_some h
        obtain ⟨q12, hq12, h⟩ := p_bd h
        refine e_getR dX12_deliverPack_41 rfl rfl h11.1 h11.2 hq12 ?_
        refine e_iload dX12_deliverPack_44 rfl ?_
        obtain ⟨h14, h⟩ := p_ok_some h
        obtain ⟨q13, hq13, h⟩ := p_bd h
        refine f_cVi dX12_deliverPack_46 rfl rfl ⟨rfl, rfl, by decide⟩ rfl h14 (fun Q' hQ' => E_X6_pieceOf hq13 hQ') ?_
        obtain ⟨h16, h⟩ := p_ok_some h
        obtain ⟨q15, hq15, h⟩ := p_bd h
        refine f_cVv dX12_deliverPack_49 rfl rfl ⟨rfl, rfl, by decide⟩ rfl h16 (fun Q' hQ' => E_X4_setDelivered hq15 hQ') ?_
        refine e_aload_n dX12_deliverPack_52 rfl ?_
        obtain ⟨h17, h⟩ := p_ok_some h
        refine e_getI dX12_deliverPack_53 rfl rfl h17.1 h17.2 ?_
        refine e_aload dX12_deliverPack_56 rfl ?_
        obtain ⟨h18, h⟩ := p_ok_some h
        refine e_getI dX12_deliverPack_58 rfl rfl h18.1 h18.2 ?_
        refine e_ic_le dX12_deliverPack_61 67 (by decide) (fun hc => ?_) (fun hc => ?_)
        · rw [if_pos hc] at h
          exact E_X12_deliverPack_c67 ih h hQ
        · rw [if_neg hc] at h
          refine e_iinc (v := (1 : Int32)) dX12_deliverPack_64 rfl rfl rfl ?_
          exact E_X12_deliverPack_c67 ih h hQ
      · rw [if_neg hc] at h
        cases h
        exact tI_E hc hQ
def F_X12_deliverPack (v0 : Nat) (v1 : Int32) (μ : p_M) : Option (Nat × Int32 × p_M) :=
  p_ok (mK μ v0 = 13 ∧ v0 < mN μ)
  ((mR μ v0 5).bind fun q2 =>
  p_ok (mK μ q2 = 2 ∧ q2 < mN μ)
  ((F_X1_value q2 (16 : Int32) μ).bind fun q3 =>
  F_X12_deliverPack_c17 p_fu v0 (0 : Int32) (v1 + q3.1) v1 q3.2))
theorem E_X12_deliverPack {X : p_X} {d : Nat} {Q : p_R → Prop} {v0 : Nat} {v1 : Int32} {μ : p_M} {r : Nat × Int32 × p_M} (h : F_X12_deliverPack v0 v1 μ = some r) (hQ : Q (tI r)) : p_Ev X (d + 2) M_X12_deliverPack 0 [.ref v0, .int v1, .double 0, .double 0, .double 0, .double 0] [] μ Q := by
  unfold F_X12_deliverPack at h
  refine e_iconst (v := (0 : Int32)) dX12_deliverPack_0 rfl ?_
  refine e_istore_n dX12_deliverPack_1 (Nat.le_of_ble_eq_true rfl) rfl ?_
  refine e_iload_n dX12_deliverPack_2 rfl ?_
  refine e_aload_n dX12_deliverPack_3 rfl ?_
  obtain ⟨h1, h⟩ := p_ok_some h
  obtain ⟨q2, hq2, h⟩ := p_bd h
  refine e_getR dX12_deliverPack_4 rfl rfl h1.1 h1.2 hq2 ?_
  refine e_bipush (v := (16 : Int32)) dX12_deliverPack_7 rfl ?_
  obtain ⟨h4, h⟩ := p_ok_some h
  obtain ⟨q3, hq3, h⟩ := p_bd h
  refine f_cVi dX12_deliverPack_9 rfl rfl ⟨rfl, rfl, by decide⟩ rfl h4 (fun Q' hQ' => E_X1_value hq3 hQ') ?_
  refine e_iadd dX12_deliverPack_12 ?_
  refine e_istore_n dX12_deliverPack_13 (Nat.le_of_ble_eq_true rfl) rfl ?_
  refine e_iload_n dX12_deliverPack_14 rfl ?_
  refine e_istore dX12_deliverPack_15 (Nat.le_of_ble_eq_true rfl) rfl ?_
  exact E_X12_deliverPack_c17 p_fu _ _ _ _ _ _ _ _ h hQ
/-! X6_gather -/
def F_X6_gather_c40 (μ : p_M) : Option (Int32 × p_M) :=
  some (0, μ)
theorem E_X6_gather_c40 {X : p_X} {d : Nat} {Q : p_R → Prop} {w0 : Value} {w1 : Value} {w2 : Value} {w3 : Value} {μ : p_M} {r : Int32 × p_M} (h : F_X6_gather_c40 μ = some r) (hQ : Q ((0, none), r.2)) : p_Ev X (d + 0) M_X6_gather 40 [w0, w1, w2, w3] [] μ Q := by
  unfold F_X6_gather_c40 at h
  cases h
  exact e_vret dX6_gather_40 rfl hQ
def F_X6_gather (v0 : Nat) (v1 : Int32) (v2 : Int32) (v3 : Int32) (μ : p_M) : Option (Int32 × p_M) :=
  p_ok (mK μ v0 = 7 ∧ v0 < mN μ)
  (if (250 : Int32) ≤ (mI μ v0 9)
  then (F_X6_gather_c40 μ)
  else ((mR μ v0 5).bind fun q2 =>
    p_ok (q2 < p_E ∧ mK μ q2 = 20 ∧ q2 < mN μ)
    (p_ok (¬ (mI μ v0 9) < 0 ∧ (mI μ v0 9).toNatClampNeg < mL μ q2)
    (p_let (sI μ q2 (mI μ v0 9).toNatClampNeg (((v1 <<< ((12 : Int32) &&& 31)) + (v2 <<< ((6 : Int32) &&& 31))) + v3)) fun m5 =>
    p_let (sI m5 v0 9 ((mI m5 v0 9) + (1 : Int32))) fun m6 =>
    F_X6_gather_c40 m6))))
theorem E_X6_gather {X : p_X} {d : Nat} {Q : p_R → Prop} {v0 : Nat} {v1 : Int32} {v2 : Int32} {v3 : Int32} {μ : p_M} {r : Int32 × p_M} (h : F_X6_gather v0 v1 v2 v3 μ = some r) (hQ : Q ((0, none), r.2)) : p_Ev X (d + 0) M_X6_gather 0 [.ref v0, .int v1, .int v2, .int v3] [] μ Q := by
  unfold F_X6_gather at h
  refine e_aload_n dX6_gather_0 rfl ?_
  obtain ⟨h1, h⟩ := p_ok_some h
  refine e_getI dX6_gather_1 rfl rfl h1.1 h1.2 ?_
  refine e_sipush (v := (250 : Int32)) dX6_gather_4 rfl ?_
  refine e_ic_ge dX6_gather_7 40 (by decide) (fun hc => ?_) (fun hc => ?_)
  · rw [if_pos hc] at h
    exact E_X6_gather_c40 h hQ
  · rw [if_neg hc] at h
    refine e_aload_n dX6_gather_10 rfl ?_
    obtain ⟨q2, hq2, h⟩ := p_bd h
    refine e_getR dX6_gather_11 rfl rfl h1.1 h1.2 hq2 ?_
    refine e_aload_n dX6_gather_14 rfl ?_
    refine e_getI dX6_gather_15 rfl rfl h1.1 h1.2 ?_
    refine e_iload_n dX6_gather_18 rfl ?_
    refine e_bipush (v := (12 : Int32)) dX6_gather_19 rfl ?_
    refine e_ishl dX6_gather_21 ?_
    refine e_iload_n dX6_gather_22 rfl ?_
    refine e_bipush (v := (6 : Int32)) dX6_gather_23 rfl ?_
    refine e_ishl dX6_gather_25 ?_
    refine e_iadd dX6_gather_26 ?_
    refine e_iload_n dX6_gather_27 rfl ?_
    refine e_iadd dX6_gather_28 ?_
    obtain ⟨h3, h⟩ := p_ok_some h
    obtain ⟨h4, h⟩ := p_ok_some h
    replace h := p_lt h
    refine e_iaS dX6_gather_29 h3 h4 ?_
    refine e_aload_n dX6_gather_30 rfl ?_
    refine e_dupR dX6_gather_31 ?_
    refine e_getI dX6_gather_32 rfl rfl h1.1 h1.2 ?_
    refine e_iconst (v := (1 : Int32)) dX6_gather_35 rfl ?_
    refine e_iadd dX6_gather_36 ?_
    replace h := p_lt h
    refine e_putI dX6_gather_37 rfl ⟨rfl, rfl, (fun h => by cases h)⟩ (fun h => by cases h) h1.1 h1.2 ?_
    exact E_X6_gather_c40 h hQ
/-! X12_gatherGood -/
def F_X12_gatherGood_c58 (K2 : Nat → Int32 → Nat → Int32 → p_M → Option (Int32 × p_M)) (v0 : Nat) (v1 : Int32) (v2 : Nat) (v3 : Int32) (μ : p_M) : Option (Int32 × p_M) :=
  K2 v0 v1 v2 (v3 + (1 : Int32)) μ
theorem E_X12_gatherGood_c58 {X : p_X} {d : Nat} {Q : p_R → Prop} {K2 : Nat → Int32 → Nat → Int32 → p_M → Option (Int32 × p_M)} (hK2 : ∀ (v0 : Nat) (v1 : Int32) (v2 : Nat) (v3 : Int32) (μ : p_M) (r : Int32 × p_M), K2 v0 v1 v2 v3 μ = some r → Q ((0, none), r.2) → p_Ev X (d + 2) M_X12_gatherGood 2 [.ref v0, .int v1, .ref v2, .int v3] [] μ Q) {v0 : Nat} {v1 : Int32} {v2 : Nat} {v3 : Int32} {μ : p_M} {r : Int32 × p_M} (h : F_X12_gatherGood_c58 K2 v0 v1 v2 v3 μ = some r) (hQ : Q ((0, none), r.2)) : p_Ev X (d + 2) M_X12_gatherGood 58 [.ref v0, .int v1, .ref v2, .int v3] [] μ Q := by
  unfold F_X12_gatherGood_c58 at h
  refine e_iinc (v := (1 : Int32)) dX12_gatherGood_58 rfl rfl rfl ?_
  refine e_goto dX12_gatherGood_61 2 (by decide) ?_
  exact hK2 _ _ _ _ _ _ h hQ
def F_X12_gatherGood_c2 : Nat → Nat → Int32 → Nat → Int32 → p_M → Option (Int32 × p_M)
  | 0, _, _, _, _, _ => none
  | n + 1, v0, v1, v2, v3, μ =>
    p_ok (mK μ v2 = 5 ∧ v2 < mN μ)
    (if (mI μ v2 1) ≤ v3
    then (some (0, μ))
    else ((F_X4_isStillHere v2 v3 μ).bind fun q2 =>
      if q2.1 = 0
      then (F_X12_gatherGood_c58 (F_X12_gatherGood_c2 n) v0 v1 v2 v3 q2.2)
      else (p_ok (mK q2.2 v0 = 13 ∧ v0 < mN q2.2)
        ((F_X12_judged v0 v2 v3 (mI q2.2 v0 15) q2.2).bind fun q4 =>
        if ¬ q4.1 = (2 : Int32)
        then (F_X12_gatherGood_c58 (F_X12_gatherGood_c2 n) v0 v1 v2 v3 q4.2)
        else (p_ok (mK q4.2 v0 = 13 ∧ v0 < mN q4.2)
          ((mR q4.2 v0 16).bind fun q6 =>
          p_ok (mK q4.2 v2 = 5 ∧ v2 < mN q4.2)
          ((mR q4.2 v2 16).bind fun q8 =>
          p_ok (q8 < p_E ∧ mK q4.2 q8 = 20 ∧ q8 < mN q4.2)
          (p_ok (¬ v3 < 0 ∧ v3.toNatClampNeg < mL q4.2 q8)
          (p_ok (mK q4.2 q6 = 7 ∧ q6 < mN q4.2)
          ((F_X6_shadeOn q6 (mI q4.2 q8 v3.toNatClampNeg) (mI q4.2 v0 15) q4.2).bind fun q11 =>
          p_ok (mK q11.2 q6 = 7 ∧ q6 < mN q11.2)
          ((F_X6_gather q6 q11.1 v1 v3 q11.2).bind fun q13 =>
          F_X12_gatherGood_c58 (F_X12_gatherGood_c2 n) v0 v1 v2 v3 q13.2)))))))))))
theorem E_X12_gatherGood_c2 {X : p_X} {d : Nat} {Q : p_R → Prop} : ∀ (n : Nat) (v0 : Nat) (v1 : Int32) (v2 : Nat) (v3 : Int32) (μ : p_M) (r : Int32 × p_M), F_X12_gatherGood_c2 n v0 v1 v2 v3 μ = some r → Q ((0, none), r.2) → p_Ev X (d + 2) M_X12_gatherGood 2 [.ref v0, .int v1, .ref v2, .int v3] [] μ Q := by
  intro n
  induction n with
  | zero => intro v0 v1 v2 v3 μ r h hQ; rw [F_X12_gatherGood_c2] at h; cases h
  | succ n ih =>
    intro v0 v1 v2 v3 μ r h hQ
    rw [F_X12_gatherGood_c2] at h
    refine e_iload_n dX12_gatherGood_2 rfl ?_
    refine e_aload_n dX12_gatherGood_3 rfl ?_
    obtain ⟨h1, h⟩ := p_ok_some h
    refine e_getI dX12_gatherGood_4 rfl rfl h1.1 h1.2 ?_
    refine e_ic_ge dX12_gatherGood_7 64 (by decide) (fun hc => ?_) (fun hc => ?_)
    · rw [if_pos hc] at h
      cases h
      exact e_vret dX12_gatherGood_64 rfl hQ
    · rw [if_neg hc] at h
      refine e_aload_n dX12_gatherGood_10 rfl ?_
      refine e_iload_n dX12_gatherGood_11 rfl ?_
      obtain ⟨q2, hq2, h⟩ := p_bd h
      refine f_cVi dX12_gatherGood_12 rfl rfl ⟨rfl, rfl, by decide⟩ rfl h1 (fun Q' hQ' => E_X4_isStillHere hq2 hQ') ?_
      refine e_if_eq dX12_gatherGood_15 58 (by decide) (fun hc => ?_) (fun hc => ?_)
      · rw [if_pos hc] at h
        exact E_X12_gatherGood_c58 ih h hQ
      · rw [if_neg hc] at h
        refine e_aload_n dX12_gatherGood_18 rfl ?_
        refine e_aload_n dX12_gatherGood_19 rfl ?_
        refine e_iload_n dX12_gatherGood_20 rfl ?_
        refine e_aload_n dX12_gatherGood_21 rfl ?_
        obtain ⟨h3, h⟩ := p_ok_some h
        refine e_getI dX12_gatherGood_22 rfl rfl h3.1 h3.2 ?_
        obtain ⟨q4, hq4, h⟩ := p_bd h
        refine f_cVi dX12_gatherGood_25 rfl rfl ⟨rfl, rfl, by decide⟩ rfl h3 (fun Q' hQ' => E_X12_judged hq4 hQ') ?_
        refine e_iconst (v := (2 : Int32)) dX12_gatherGood_28 rfl ?_
        refine e_ic_ne dX12_gatherGood_29 58 (by decide) (fun hc => ?_) (fun hc => ?_)
        · rw [if_pos hc] at h
          exact E_X12_gatherGood_c58 ih h hQ
        · rw [if_neg hc] at h
          refine e_aload_n dX12_gatherGood_32 rfl ?_
          obtain ⟨h5, h⟩ := p_ok_some h
          obtain ⟨q6, hq6, h⟩ := p_bd h
          refine e_getR dX12_gatherGood_33 rfl rfl h5.1 h5.2 hq6 ?_
          refine e_aload_n dX12_gatherGood_36 rfl ?_
          refine e_getR dX12_gatherGood_37 rfl rfl h5.1 h5.2 hq6 ?_
          refine e_aload_n dX12_gatherGood_40 rfl ?_
          obtain ⟨h7, h⟩ := p_ok_some h
          obtain ⟨q8, hq8, h⟩ := p_bd h
          refine e_getR dX12_gatherGood_41 rfl rfl h7.1 h7.2 hq8 ?_
          refine e_iload_n dX12_gatherGood_44 rfl ?_
          obtain ⟨h9, h⟩ := p_ok_some h
          obtain ⟨h10, h⟩ := p_ok_some h
          refine e_iaG dX12_gatherGood_45 h9 h10 ?_
          refine e_aload_n dX12_gatherGood_46 rfl ?_
          refine e_getI dX12_gatherGood_47 rfl rfl h5.1 h5.2 ?_
          obtain ⟨h12, h⟩ := p_ok_some h
          obtain ⟨q11, hq11, h⟩ := p_bd h
          refine f_cVi dX12_gatherGood_50 rfl rfl ⟨rfl, rfl, by decide⟩ rfl h12 (fun Q' hQ' => E_X6_shadeOn hq11 hQ') ?_
          refine e_iload_n dX12_gatherGood_53 rfl ?_
          refine e_iload_n dX12_gatherGood_54 rfl ?_
          obtain ⟨h14, h⟩ := p_ok_some h
          obtain ⟨q13, hq13, h⟩ := p_bd h
          refine f_cVv dX12_gatherGood_55 rfl rfl ⟨rfl, rfl, by decide⟩ rfl h14 (fun Q' hQ' => E_X6_gather hq13 hQ') ?_
          exact E_X12_gatherGood_c58 ih h hQ
def F_X12_gatherGood (v0 : Nat) (v1 : Int32) (v2 : Nat) (μ : p_M) : Option (Int32 × p_M) :=
  F_X12_gatherGood_c2 p_fu v0 v1 v2 (0 : Int32) μ
theorem E_X12_gatherGood {X : p_X} {d : Nat} {Q : p_R → Prop} {v0 : Nat} {v1 : Int32} {v2 : Nat} {μ : p_M} {r : Int32 × p_M} (h : F_X12_gatherGood v0 v1 v2 μ = some r) (hQ : Q ((0, none), r.2)) : p_Ev X (d + 2) M_X12_gatherGood 0 [.ref v0, .int v1, .ref v2, .double 0] [] μ Q := by
  unfold F_X12_gatherGood at h
  refine e_iconst (v := (0 : Int32)) dX12_gatherGood_0 rfl ?_
  refine e_istore_n dX12_gatherGood_1 (Nat.le_of_ble_eq_true rfl) rfl ?_
  exact E_X12_gatherGood_c2 p_fu _ _ _ _ _ _ h hQ
/-! X6_shadeOf -/
def F_X6_shadeOf (v0 : Int32) (μ : p_M) : Option (Int32 × p_M) :=
  some ((((v0.toUInt32 >>> ((12 : Int32).toUInt32 &&& Int32.toUInt32 31)).toInt32) &&& (255 : Int32)), μ)
theorem E_X6_shadeOf {X : p_X} {d : Nat} {Q : p_R → Prop} {v0 : Int32} {μ : p_M} {r : Int32 × p_M} (h : F_X6_shadeOf v0 μ = some r) (hQ : Q ((0, some (.int r.1)), r.2)) : p_Ev X (d + 0) M_X6_shadeOf 0 [.int v0] [] μ Q := by
  unfold F_X6_shadeOf at h
  refine e_iload_n dX6_shadeOf_0 rfl ?_
  refine e_bipush (v := (12 : Int32)) dX6_shadeOf_1 rfl ?_
  refine e_iushr dX6_shadeOf_3 ?_
  refine e_sipush (v := (255 : Int32)) dX6_shadeOf_4 rfl ?_
  refine e_iand dX6_shadeOf_7 ?_
  cases h
  exact e_ireti dX6_shadeOf_8 rfl hQ
/-! X6_putInOrder -/
def F_X6_putInOrder_c78 : Nat → Nat → Int32 → p_M → Option (Int32 × p_M)
  | 0, _, _, _ => none
  | n + 1, v0, v1, μ =>
    p_ok (mK μ v0 = 7 ∧ v0 < mN μ)
    (if (mI μ v0 9) ≤ v1
    then (some (0, μ))
    else ((mR μ v0 5).bind fun q20 =>
      p_ok (q20 < p_E ∧ mK μ q20 = 20 ∧ q20 < mN μ)
      (p_ok (¬ v1 < 0 ∧ v1.toNatClampNeg < mL μ q20)
      ((F_X6_shadeOf (mI μ q20 v1.toNatClampNeg) μ).bind fun q23 =>
      p_ok (mK q23.2 v0 = 7 ∧ v0 < mN q23.2)
      ((mR q23.2 v0 6).bind fun q25 =>
      (mR q23.2 v0 8).bind fun q26 =>
      p_ok (q26 < p_E ∧ mK q23.2 q26 = 20 ∧ q26 < mN q23.2)
      (p_ok (¬ q23.1 < 0 ∧ q23.1.toNatClampNeg < mL q23.2 q26)
      ((mR q23.2 v0 5).bind fun q29 =>
      p_ok (q29 < p_E ∧ mK q23.2 q29 = 20 ∧ q29 < mN q23.2)
      (p_ok (¬ v1 < 0 ∧ v1.toNatClampNeg < mL q23.2 q29)
      (p_ok (q25 < p_E ∧ mK q23.2 q25 = 20 ∧ q25 < mN q23.2)
      (p_ok (¬ (mI q23.2 q26 q23.1.toNatClampNeg) < 0 ∧ (mI q23.2 q26 q23.1.toNatClampNeg).toNatClampNeg < mL q23.2 q25)
      (p_let (sI q23.2 q25 (mI q23.2 q26 q23.1.toNatClampNeg).toNatClampNeg (mI q23.2 q29 v1.toNatClampNeg)) fun m34 =>
      p_let (sI m34 q26 q23.1.toNatClampNeg ((mI m34 q26 q23.1.toNatClampNeg) + (1 : Int32))) fun m35 =>
      F_X6_putInOrder_c78 n v0 (v1 + (1 : Int32)) m35)))))))))))
theorem E_X6_putInOrder_c78 {X : p_X} {d : Nat} {Q : p_R → Prop} : ∀ (n : Nat) (v0 : Nat) (v1 : Int32) (μ : p_M) (r : Int32 × p_M) (w2 : Value), F_X6_putInOrder_c78 n v0 v1 μ = some r → Q ((0, none), r.2) → p_Ev X (d + 1) M_X6_putInOrder 78 [.ref v0, .int v1, w2] [] μ Q := by
  intro n
  induction n with
  | zero => intro v0 v1 μ r w2 h hQ; rw [F_X6_putInOrder_c78] at h; cases h
  | succ n ih =>
    intro v0 v1 μ r w2 h hQ
    rw [F_X6_putInOrder_c78] at h
    refine e_iload_n dX6_putInOrder_78 rfl ?_
    refine e_aload_n dX6_putInOrder_79 rfl ?_
    obtain ⟨h19, h⟩ := p_ok_some h
    refine e_getI dX6_putInOrder_80 rfl rfl h19.1 h19.2 ?_
    refine e_ic_ge dX6_putInOrder_83 129 (by decide) (fun hc => ?_) (fun hc => ?_)
    · rw [if_pos hc] at h
      cases h
      exact e_vret dX6_putInOrder_129 rfl hQ
    · rw [if_neg hc] at h
      refine e_aload_n dX6_putInOrder_86 rfl ?_
      obtain ⟨q20, hq20, h⟩ := p_bd h
      refine e_getR dX6_putInOrder_87 rfl rfl h19.1 h19.2 hq20 ?_
      refine e_iload_n dX6_putInOrder_90 rfl ?_
      obtain ⟨h21, h⟩ := p_ok_some h
      obtain ⟨h22, h⟩ := p_ok_some h
      refine e_iaG dX6_putInOrder_91 h21 h22 ?_
      obtain ⟨q23, hq23, h⟩ := p_bd h
      refine f_cSi dX6_putInOrder_92 rfl rfl rfl rfl (fun Q' hQ' => E_X6_shadeOf hq23 hQ') ?_
      refine e_istore_n dX6_putInOrder_95 (Nat.le_of_ble_eq_true rfl) rfl ?_
      refine e_aload_n dX6_putInOrder_96 rfl ?_
      obtain ⟨h24, h⟩ := p_ok_some h
      obtain ⟨q25, hq25, h⟩ := p_bd h
      refine e_getR dX6_putInOrder_97 rfl rfl h24.1 h24.2 hq25 ?_
      refine e_aload_n dX6_putInOrder_100 rfl ?_
      obtain ⟨q26, hq26, h⟩ := p_bd h
      refine e_getR dX6_putInOrder_101 rfl rfl h24.1 h24.2 hq26 ?_
      refine e_iload_n dX6_putInOrder_104 rfl ?_
      obtain ⟨h27, h⟩ := p_ok_some h
      obtain ⟨h28, h⟩ := p_ok_some h
      refine e_iaG dX6_putInOrder_105 h27 h28 ?_
      refine e_aload_n dX6_putInOrder_106 rfl ?_
      obtain ⟨q29, hq29, h⟩ := p_bd h
      refine e_getR dX6_putInOrder_107 rfl rfl h24.1 h24.2 hq29 ?_
      refine e_iload_n dX6_putInOrder_110 rfl ?_
      obtain ⟨h30, h⟩ := p_ok_some h
      obtain ⟨h31, h⟩ := p_ok_some h
      refine e_iaG dX6_putInOrder_111 h30 h31 ?_
      obtain ⟨h32, h⟩ := p_ok_some h
      obtain ⟨h33, h⟩ := p_ok_some h
      replace h := p_lt h
      refine e_iaS dX6_putInOrder_112 h32 h33 ?_
      refine e_aload_n dX6_putInOrder_113 rfl ?_
      refine e_getR dX6_putInOrder_114 rfl rfl h24.1 h24.2 hq26 ?_
      refine e_iload_n dX6_putInOrder_117 rfl ?_
      refine e_dup2 dX6_putInOrder_118 ?_
      refine e_iaG dX6_putInOrder_119 h27 h28 ?_
      refine e_iconst (v := (1 : Int32)) dX6_putInOrder_120 rfl ?_
      refine e_iadd dX6_putInOrder_121 ?_
      replace h := p_lt h
      refine e_iaS dX6_putInOrder_122 h27 h28 ?_
      refine e_iinc (v := (1 : Int32)) dX6_putInOrder_123 rfl rfl rfl ?_
      refine e_goto dX6_putInOrder_126 78 (by decide) ?_
      exact ih _ _ _ _ _ h hQ
def F_X6_putInOrder_c46 : Nat → Nat → Int32 → p_M → Option (Int32 × p_M)
  | 0, _, _, _ => none
  | n + 1, v0, v1, μ =>
    if (255 : Int32) < v1
    then (F_X6_putInOrder_c78 p_fu v0 (0 : Int32) μ)
    else (p_ok (mK μ v0 = 7 ∧ v0 < mN μ)
      ((mR μ v0 8).bind fun q14 =>
      p_ok (q14 < p_E ∧ mK μ q14 = 20 ∧ q14 < mN μ)
      (p_ok (¬ v1 < 0 ∧ v1.toNatClampNeg < mL μ q14)
      (p_ok (¬ (v1 - (1 : Int32)) < 0 ∧ (v1 - (1 : Int32)).toNatClampNeg < mL μ q14)
      (p_let (sI μ q14 v1.toNatClampNeg ((mI μ q14 v1.toNatClampNeg) + (mI μ q14 (v1 - (1 : Int32)).toNatClampNeg))) fun m18 =>
      F_X6_putInOrder_c46 n v0 (v1 + (1 : Int32)) m18)))))
theorem E_X6_putInOrder_c46 {X : p_X} {d : Nat} {Q : p_R → Prop} : ∀ (n : Nat) (v0 : Nat) (v1 : Int32) (μ : p_M) (r : Int32 × p_M) (w2 : Value), F_X6_putInOrder_c46 n v0 v1 μ = some r → Q ((0, none), r.2) → p_Ev X (d + 1) M_X6_putInOrder 46 [.ref v0, .int v1, w2] [] μ Q := by
  intro n
  induction n with
  | zero => intro v0 v1 μ r w2 h hQ; rw [F_X6_putInOrder_c46] at h; cases h
  | succ n ih =>
    intro v0 v1 μ r w2 h hQ
    rw [F_X6_putInOrder_c46] at h
    refine e_iload_n dX6_putInOrder_46 rfl ?_
    refine e_sipush (v := (255 : Int32)) dX6_putInOrder_47 rfl ?_
    refine e_ic_gt dX6_putInOrder_50 76 (by decide) (fun hc => ?_) (fun hc => ?_)
    · rw [if_pos hc] at h
      refine e_iconst (v := (0 : Int32)) dX6_putInOrder_76 rfl ?_
      refine e_istore_n dX6_putInOrder_77 (Nat.le_of_ble_eq_true rfl) rfl ?_
      exact E_X6_putInOrder_c78 p_fu _ _ _ _ _ h hQ
    · rw [if_neg hc] at h
      refine e_aload_n dX6_putInOrder_53 rfl ?_
      obtain ⟨h13, h⟩ := p_ok_some h
      obtain ⟨q14, hq14, h⟩ := p_bd h
      refine e_getR dX6_putInOrder_54 rfl rfl h13.1 h13.2 hq14 ?_
      refine e_iload_n dX6_putInOrder_57 rfl ?_
      refine e_dup2 dX6_putInOrder_58 ?_
      obtain ⟨h15, h⟩ := p_ok_some h
      obtain ⟨h16, h⟩ := p_ok_some h
      refine e_iaG dX6_putInOrder_59 h15 h16 ?_
      refine e_aload_n dX6_putInOrder_60 rfl ?_
      refine e_getR dX6_putInOrder_61 rfl rfl h13.1 h13.2 hq14 ?_
      refine e_iload_n dX6_putInOrder_64 rfl ?_
      refine e_iconst (v := (1 : Int32)) dX6_putInOrder_65 rfl ?_
      refine e_isub dX6_putInOrder_66 ?_
      obtain ⟨h17, h⟩ := p_ok_some h
      refine e_iaG dX6_putInOrder_67 h15 h17 ?_
      refine e_iadd dX6_putInOrder_68 ?_
      replace h := p_lt h
      refine e_iaS dX6_putInOrder_69 h15 h16 ?_
      refine e_iinc (v := (1 : Int32)) dX6_putInOrder_70 rfl rfl rfl ?_
      refine e_goto dX6_putInOrder_73 46 (by decide) ?_
      exact ih _ _ _ _ _ h hQ
def F_X6_putInOrder_c10 : Nat → Nat → Int32 → p_M → Option (Int32 × p_M)
  | 0, _, _, _ => none
  | n + 1, v0, v1, μ =>
    p_ok (mK μ v0 = 7 ∧ v0 < mN μ)
    (if (mI μ v0 9) ≤ v1
    then (F_X6_putInOrder_c46 p_fu v0 (1 : Int32) μ)
    else ((mR μ v0 8).bind fun q5 =>
      (mR μ v0 5).bind fun q6 =>
      p_ok (q6 < p_E ∧ mK μ q6 = 20 ∧ q6 < mN μ)
      (p_ok (¬ v1 < 0 ∧ v1.toNatClampNeg < mL μ q6)
      ((F_X6_shadeOf (mI μ q6 v1.toNatClampNeg) μ).bind fun q9 =>
      p_ok (q5 < p_E ∧ mK q9.2 q5 = 20 ∧ q5 < mN q9.2)
      (p_ok (¬ (q9.1 + (1 : Int32)) < 0 ∧ (q9.1 + (1 : Int32)).toNatClampNeg < mL q9.2 q5)
      (p_let (sI q9.2 q5 (q9.1 + (1 : Int32)).toNatClampNeg ((mI q9.2 q5 (q9.1 + (1 : Int32)).toNatClampNeg) + (1 : Int32))) fun m12 =>
      F_X6_putInOrder_c10 n v0 (v1 + (1 : Int32)) m12))))))
theorem E_X6_putInOrder_c10 {X : p_X} {d : Nat} {Q : p_R → Prop} : ∀ (n : Nat) (v0 : Nat) (v1 : Int32) (μ : p_M) (r : Int32 × p_M) (w2 : Value), F_X6_putInOrder_c10 n v0 v1 μ = some r → Q ((0, none), r.2) → p_Ev X (d + 1) M_X6_putInOrder 10 [.ref v0, .int v1, w2] [] μ Q := by
  intro n
  induction n with
  | zero => intro v0 v1 μ r w2 h hQ; rw [F_X6_putInOrder_c10] at h; cases h
  | succ n ih =>
    intro v0 v1 μ r w2 h hQ
    rw [F_X6_putInOrder_c10] at h
    refine e_iload_n dX6_putInOrder_10 rfl ?_
    refine e_aload_n dX6_putInOrder_11 rfl ?_
    obtain ⟨h4, h⟩ := p_ok_some h
    refine e_getI dX6_putInOrder_12 rfl rfl h4.1 h4.2 ?_
    refine e_ic_ge dX6_putInOrder_15 44 (by decide) (fun hc => ?_) (fun hc => ?_)
    · rw [if_pos hc] at h
      refine e_iconst (v := (1 : Int32)) dX6_putInOrder_44 rfl ?_
      refine e_istore_n dX6_putInOrder_45 (Nat.le_of_ble_eq_true rfl) rfl ?_
      exact E_X6_putInOrder_c46 p_fu _ _ _ _ _ h hQ
    · rw [if_neg hc] at h
      refine e_aload_n dX6_putInOrder_18 rfl ?_
      obtain ⟨q5, hq5, h⟩ := p_bd h
      refine e_getR dX6_putInOrder_19 rfl rfl h4.1 h4.2 hq5 ?_
      refine e_aload_n dX6_putInOrder_22 rfl ?_
      obtain ⟨q6, hq6, h⟩ := p_bd h
      refine e_getR dX6_putInOrder_23 rfl rfl h4.1 h4.2 hq6 ?_
      refine e_iload_n dX6_putInOrder_26 rfl ?_
      obtain ⟨h7, h⟩ := p_ok_some h
      obtain ⟨h8, h⟩ := p_ok_some h
      refine e_iaG dX6_putInOrder_27 h7 h8 ?_
      obtain ⟨q9, hq9, h⟩ := p_bd h
      refine f_cSi dX6_putInOrder_28 rfl rfl rfl rfl (fun Q' hQ' => E_X6_shadeOf hq9 hQ') ?_
      refine e_iconst (v := (1 : Int32)) dX6_putInOrder_31 rfl ?_
      refine e_iadd dX6_putInOrder_32 ?_
      refine e_dup2 dX6_putInOrder_33 ?_
      obtain ⟨h10, h⟩ := p_ok_some h
      obtain ⟨h11, h⟩ := p_ok_some h
      refine e_iaG dX6_putInOrder_34 h10 h11 ?_
      refine e_iconst (v := (1 : Int32)) dX6_putInOrder_35 rfl ?_
      refine e_iadd dX6_putInOrder_36 ?_
      replace h := p_lt h
      refine e_iaS dX6_putInOrder_37 h10 h11 ?_
      refine e_iinc (v := (1 : Int32)) dX6_putInOrder_38 rfl rfl rfl ?_
      refine e_goto dX6_putInOrder_41 10 (by decide) ?_
      exact ih _ _ _ _ _ h hQ
def F_X6_putInOrder (v0 : Nat) (μ : p_M) : Option (Int32 × p_M) :=
  p_ok (mK μ v0 = 7 ∧ v0 < mN μ)
  ((mR μ v0 8).bind fun q2 =>
  (F_J7_fill_53178 q2 (0 : Int32) μ).bind fun q3 =>
  F_X6_putInOrder_c10 p_fu v0 (0 : Int32) q3.2)
theorem E_X6_putInOrder {X : p_X} {d : Nat} {Q : p_R → Prop} {v0 : Nat} {μ : p_M} {r : Int32 × p_M} (h : F_X6_putInOrder v0 μ = some r) (hQ : Q ((0, none), r.2)) : p_Ev X (d + 1) M_X6_putInOrder 0 [.ref v0, .double 0, .double 0] [] μ Q := by
  unfold F_X6_putInOrder at h
  refine e_aload_n dX6_putInOrder_0 rfl ?_
  obtain ⟨h1, h⟩ := p_ok_some h
  obtain ⟨q2, hq2, h⟩ := p_bd h
  refine e_getR dX6_putInOrder_1 rfl rfl h1.1 h1.2 hq2 ?_
  refine e_iconst (v := (0 : Int32)) dX6_putInOrder_4 rfl ?_
  obtain ⟨q3, hq3, h⟩ := p_bd h
  refine f_cSv dX6_putInOrder_5 rfl rfl rfl rfl (fun Q' hQ' => E_J7_fill_53178 hq3 hQ') ?_
  refine e_iconst (v := (0 : Int32)) dX6_putInOrder_8 rfl ?_
  refine e_istore_n dX6_putInOrder_9 (Nat.le_of_ble_eq_true rfl) rfl ?_
  exact E_X6_putInOrder_c10 p_fu _ _ _ _ _ h hQ
/-! X6_formPacks -/
def F_X6_formPacks_c16 : Nat → Nat → Int32 → Int32 → Int32 → Int32 → p_M → Option (Int32 × p_M)
  | 0, _, _, _, _, _, _ => none
  | n + 1, v0, v2, v3, v4, v5, μ =>
    p_ok (mK μ v0 = 7 ∧ v0 < mN μ)
    (if (mI μ v0 9) < (v5 + v3)
    then (some (v4, μ))
    else ((mR μ v0 6).bind fun q4 =>
      p_ok (q4 < p_E ∧ mK μ q4 = 20 ∧ q4 < mN μ)
      (p_ok (¬ ((v5 + v3) - (1 : Int32)) < 0 ∧ ((v5 + v3) - (1 : Int32)).toNatClampNeg < mL μ q4)
      ((F_X6_shadeOf (mI μ q4 ((v5 + v3) - (1 : Int32)).toNatClampNeg) μ).bind fun q7 =>
      p_ok (mK q7.2 v0 = 7 ∧ v0 < mN q7.2)
      ((mR q7.2 v0 6).bind fun q9 =>
      p_ok (q9 < p_E ∧ mK q7.2 q9 = 20 ∧ q9 < mN q7.2)
      (p_ok (¬ v5 < 0 ∧ v5.toNatClampNeg < mL q7.2 q9)
      ((F_X6_shadeOf (mI q7.2 q9 v5.toNatClampNeg) q7.2).bind fun q12 =>
      if v2 < (q7.1 - q12.1)
      then (F_X6_formPacks_c16 n v0 v2 v3 v4 (v5 + (1 : Int32)) q12.2)
      else (p_ok (mK q12.2 v0 = 7 ∧ v0 < mN q12.2)
        ((mR q12.2 v0 7).bind fun q14 =>
        p_ok (q14 < p_E ∧ mK q12.2 q14 = 20 ∧ q14 < mN q12.2)
        (p_ok (¬ v4 < 0 ∧ v4.toNatClampNeg < mL q12.2 q14)
        (p_let (sI q12.2 q14 v4.toNatClampNeg v5) fun m17 =>
        F_X6_formPacks_c16 n v0 v2 v3 (v4 + (1 : Int32)) (v5 + v3) m17)))))))))))
theorem E_X6_formPacks_c16 {X : p_X} {d : Nat} {Q : p_R → Prop} : ∀ (n : Nat) (v0 : Nat) (v2 : Int32) (v3 : Int32) (v4 : Int32) (v5 : Int32) (μ : p_M) (r : Int32 × p_M) (w1 : Value), F_X6_formPacks_c16 n v0 v2 v3 v4 v5 μ = some r → Q ((0, some (.int r.1)), r.2) → p_Ev X (d + 2) M_X6_formPacks 16 [.ref v0, w1, .int v2, .int v3, .int v4, .int v5] [] μ Q := by
  intro n
  induction n with
  | zero => intro v0 v2 v3 v4 v5 μ r w1 h hQ; rw [F_X6_formPacks_c16] at h; cases h
  | succ n ih =>
    intro v0 v2 v3 v4 v5 μ r w1 h hQ
    rw [F_X6_formPacks_c16] at h
    refine e_iload dX6_formPacks_16 rfl ?_
    refine e_iload_n dX6_formPacks_18 rfl ?_
    refine e_iadd dX6_formPacks_19 ?_
    refine e_aload_n dX6_formPacks_20 rfl ?_
    obtain ⟨h3, h⟩ := p_ok_some h
    refine e_getI dX6_formPacks_21 rfl rfl h3.1 h3.2 ?_
    refine e_ic_gt dX6_formPacks_24 83 (by decide) (fun hc => ?_) (fun hc => ?_)
    · rw [if_pos hc] at h
      refine e_iload dX6_formPacks_83 rfl ?_
      cases h
      exact e_ireti dX6_formPacks_85 rfl hQ
    · rw [if_neg hc] at h
      refine e_aload_n dX6_formPacks_27 rfl ?_
      obtain ⟨q4, hq4, h⟩ := p_bd h
      refine e_getR dX6_formPacks_28 rfl rfl h3.1 h3.2 hq4 ?_
      refine e_iload dX6_formPacks_31 rfl ?_
      refine e_iload_n dX6_formPacks_33 rfl ?_
      refine e_iadd dX6_formPacks_34 ?_
      refine e_iconst (v := (1 : Int32)) dX6_formPacks_35 rfl ?_
      refine e_isub dX6_formPacks_36 ?_
      obtain ⟨h5, h⟩ := p_ok_some h
      obtain ⟨h6, h⟩ := p_ok_some h
      refine e_iaG dX6_formPacks_37 h5 h6 ?_
      obtain ⟨q7, hq7, h⟩ := p_bd h
      refine f_cSi dX6_formPacks_38 rfl rfl rfl rfl (fun Q' hQ' => E_X6_shadeOf hq7 hQ') ?_
      refine e_aload_n dX6_formPacks_41 rfl ?_
      obtain ⟨h8, h⟩ := p_ok_some h
      obtain ⟨q9, hq9, h⟩ := p_bd h
      refine e_getR dX6_formPacks_42 rfl rfl h8.1 h8.2 hq9 ?_
      refine e_iload dX6_formPacks_45 rfl ?_
      obtain ⟨h10, h⟩ := p_ok_some h
      obtain ⟨h11, h⟩ := p_ok_some h
      refine e_iaG dX6_formPacks_47 h10 h11 ?_
      obtain ⟨q12, hq12, h⟩ := p_bd h
      refine f_cSi dX6_formPacks_48 rfl rfl rfl rfl (fun Q' hQ' => E_X6_shadeOf hq12 hQ') ?_
      refine e_isub dX6_formPacks_51 ?_
      refine e_iload_n dX6_formPacks_52 rfl ?_
      refine e_ic_gt dX6_formPacks_53 77 (by decide) (fun hc => ?_) (fun hc => ?_)
      · rw [if_pos hc] at h
        refine e_iinc (v := (1 : Int32)) dX6_formPacks_77 rfl rfl rfl ?_
        refine e_goto dX6_formPacks_80 16 (by decide) ?_
        exact ih _ _ _ _ _ _ _ _ h hQ
      · rw [if_neg hc] at h
        refine e_aload_n dX6_formPacks_56 rfl ?_
        obtain ⟨h13, h⟩ := p_ok_some h
        obtain ⟨q14, hq14, h⟩ := p_bd h
        refine e_getR dX6_formPacks_57 rfl rfl h13.1 h13.2 hq14 ?_
        refine e_iload dX6_formPacks_60 rfl ?_
        refine e_iload dX6_formPacks_62 rfl ?_
        obtain ⟨h15, h⟩ := p_ok_some h
        obtain ⟨h16, h⟩ := p_ok_some h
        replace h := p_lt h
        refine e_iaS dX6_formPacks_64 h15 h16 ?_
        refine e_iinc (v := (1 : Int32)) dX6_formPacks_65 rfl rfl rfl ?_
        refine e_iload dX6_formPacks_68 rfl ?_
        refine e_iload_n dX6_formPacks_70 rfl ?_
        refine e_iadd dX6_formPacks_71 ?_
        refine e_istore dX6_formPacks_72 (Nat.le_of_ble_eq_true rfl) rfl ?_
        refine e_goto dX6_formPacks_74 16 (by decide) ?_
        exact ih _ _ _ _ _ _ _ _ h hQ
def F_X6_formPacks (v0 : Nat) (v1 : Int32) (v2 : Int32) (μ : p_M) : Option (Int32 × p_M) :=
  p_ok (mK μ v0 = 7 ∧ v0 < mN μ)
  ((F_X6_putInOrder v0 μ).bind fun q1 =>
  F_X6_formPacks_c16 p_fu v0 v2 (if (1 : Int32) < v1 then v1 else (1 : Int32)) (0 : Int32) (0 : Int32) q1.2)
theorem E_X6_formPacks {X : p_X} {d : Nat} {Q : p_R → Prop} {v0 : Nat} {v1 : Int32} {v2 : Int32} {μ : p_M} {r : Int32 × p_M} (h : F_X6_formPacks v0 v1 v2 μ = some r) (hQ : Q ((0, some (.int r.1)), r.2)) : p_Ev X (d + 2) M_X6_formPacks 0 [.ref v0, .int v1, .int v2, .double 0, .double 0, .double 0] [] μ Q := by
  unfold F_X6_formPacks at h
  refine e_aload_n dX6_formPacks_0 rfl ?_
  obtain ⟨h2, h⟩ := p_ok_some h
  obtain ⟨q1, hq1, h⟩ := p_bd h
  refine f_cVv dX6_formPacks_1 rfl rfl ⟨rfl, rfl, by decide⟩ rfl h2 (fun Q' hQ' => E_X6_putInOrder hq1 hQ') ?_
  refine e_iconst (v := (1 : Int32)) dX6_formPacks_4 rfl ?_
  refine e_iload_n dX6_formPacks_5 rfl ?_
  refine e_max dX6_formPacks_6 rfl (Nat.le_of_ble_eq_true rfl) ?_
  refine e_istore_n dX6_formPacks_9 (Nat.le_of_ble_eq_true rfl) rfl ?_
  refine e_iconst (v := (0 : Int32)) dX6_formPacks_10 rfl ?_
  refine e_istore dX6_formPacks_11 (Nat.le_of_ble_eq_true rfl) rfl ?_
  refine e_iconst (v := (0 : Int32)) dX6_formPacks_13 rfl ?_
  refine e_istore dX6_formPacks_14 (Nat.le_of_ble_eq_true rfl) rfl ?_
  exact E_X6_formPacks_c16 p_fu _ _ _ _ _ _ _ _ h hQ
/-! X6_gatherNone -/
def F_X6_gatherNone (v0 : Nat) (μ : p_M) : Option (Int32 × p_M) :=
  p_ok (mK μ v0 = 7 ∧ v0 < mN μ)
  (p_let (sI μ v0 9 (0 : Int32)) fun m2 =>
  some (0, m2))
theorem E_X6_gatherNone {X : p_X} {d : Nat} {Q : p_R → Prop} {v0 : Nat} {μ : p_M} {r : Int32 × p_M} (h : F_X6_gatherNone v0 μ = some r) (hQ : Q ((0, none), r.2)) : p_Ev X (d + 0) M_X6_gatherNone 0 [.ref v0] [] μ Q := by
  unfold F_X6_gatherNone at h
  refine e_aload_n dX6_gatherNone_0 rfl ?_
  refine e_iconst (v := (0 : Int32)) dX6_gatherNone_1 rfl ?_
  obtain ⟨h1, h⟩ := p_ok_some h
  replace h := p_lt h
  refine e_putI dX6_gatherNone_2 rfl ⟨rfl, rfl, (fun h => by cases h)⟩ (fun h => by cases h) h1.1 h1.2 ?_
  cases h
  exact e_vret dX6_gatherNone_5 rfl hQ
/-! X12_findPacks -/
def F_X12_findPacks_c54 (K9 : Nat → Int32 → Int32 → p_M → Option (Int32 × p_M)) (v0 : Nat) (v1 : Int32) (v2 : Int32) (μ : p_M) : Option (Int32 × p_M) :=
  K9 v0 v1 (v2 + (1 : Int32)) μ
theorem E_X12_findPacks_c54 {X : p_X} {d : Nat} {Q : p_R → Prop} {K9 : Nat → Int32 → Int32 → p_M → Option (Int32 × p_M)} (hK9 : ∀ (v0 : Nat) (v1 : Int32) (v2 : Int32) (μ : p_M) (r : Int32 × p_M) (w3 : Value), K9 v0 v1 v2 μ = some r → Q ((0, some (.int r.1)), r.2) → p_Ev X (d + 3) M_X12_findPacks 9 [.ref v0, .int v1, .int v2, w3] [] μ Q) {v0 : Nat} {v1 : Int32} {v2 : Int32} {w3 : Value} {μ : p_M} {r : Int32 × p_M} (h : F_X12_findPacks_c54 K9 v0 v1 v2 μ = some r) (hQ : Q ((0, some (.int r.1)), r.2)) : p_Ev X (d + 3) M_X12_findPacks 54 [.ref v0, .int v1, .int v2, w3] [] μ Q := by
  unfold F_X12_findPacks_c54 at h
  refine e_iinc (v := (1 : Int32)) dX12_findPacks_54 rfl rfl rfl ?_
  refine e_goto dX12_findPacks_57 9 (by decide) ?_
  exact hK9 _ _ _ _ _ _ h hQ
def F_X12_findPacks_c9 : Nat → Nat → Int32 → Int32 → p_M → Option (Int32 × p_M)
  | 0, _, _, _, _ => none
  | n + 1, v0, v1, v2, μ =>
    p_ok (mK μ v0 = 13 ∧ v0 < mN μ)
    ((mR μ v0 14).bind fun q6 =>
    p_ok (q6 < mN μ ∧ mK μ q6 = 0)
    (if (mI μ q6 2) ≤ v2
    then ((mR μ v0 16).bind fun q8 =>
      (mR μ v0 5).bind fun q9 =>
      p_ok (mK μ q9 = 2 ∧ q9 < mN μ)
      ((F_X1_value q9 (16 : Int32) μ).bind fun q10 =>
      p_ok (mK q10.2 v0 = 13 ∧ v0 < mN q10.2)
      ((mR q10.2 v0 5).bind fun q13 =>
      p_ok (mK q10.2 q13 = 2 ∧ q13 < mN q10.2)
      ((F_X1_value q13 (17 : Int32) q10.2).bind fun q14 =>
      p_ok (mK q14.2 q8 = 7 ∧ q8 < mN q14.2)
      ((F_X6_formPacks q8 q10.1 q14.1 q14.2).bind fun q16 =>
      some (q16.1, q16.2))))))
    else (p_ok (q6 < mN μ ∧ mK μ q6 = 0 ∧ ¬ v2 < 0 ∧ v2 < mI μ q6 2)
      ((mR μ q6 1).bind fun q18 =>
      p_ok (q18 < mN μ ∧ mK μ q18 = 25 ∧ v2.toNatClampNeg < mL μ q18)
      ((mR μ q18 v2.toNatClampNeg).bind fun q19 =>
      p_ok (mK μ q19 = 5 ∧ q19 < mN μ)
      (if ¬ (mI μ q19 0) = v1
      then (F_X12_findPacks_c54 (F_X12_findPacks_c9 n) v0 v1 v2 μ)
      else (if ¬ (mI μ q19 9) = (3 : Int32)
        then (F_X12_findPacks_c54 (F_X12_findPacks_c9 n) v0 v1 v2 μ)
        else ((F_X12_gatherGood v0 v2 q19 μ).bind fun q23 =>
          F_X12_findPacks_c54 (F_X12_findPacks_c9 n) v0 v1 v2 q23.2))))))))
theorem E_X12_findPacks_c9 {X : p_X} {d : Nat} {Q : p_R → Prop} : ∀ (n : Nat) (v0 : Nat) (v1 : Int32) (v2 : Int32) (μ : p_M) (r : Int32 × p_M) (w3 : Value), F_X12_findPacks_c9 n v0 v1 v2 μ = some r → Q ((0, some (.int r.1)), r.2) → p_Ev X (d + 3) M_X12_findPacks 9 [.ref v0, .int v1, .int v2, w3] [] μ Q := by
  intro n
  induction n with
  | zero => intro v0 v1 v2 μ r w3 h hQ; rw [F_X12_findPacks_c9] at h; cases h
  | succ n ih =>
    intro v0 v1 v2 μ r w3 h hQ
    rw [F_X12_findPacks_c9] at h
    refine e_iload_n dX12_findPacks_9 rfl ?_
    refine e_aload_n dX12_findPacks_10 rfl ?_
    obtain ⟨h5, h⟩ := p_ok_some h
    obtain ⟨q6, hq6, h⟩ := p_bd h
    refine e_getR dX12_findPacks_11 rfl rfl h5.1 h5.2 hq6 ?_
    obtain ⟨h7, h⟩ := p_ok_some h
    refine e_lsz dX12_findPacks_14 rfl (Nat.le_of_ble_eq_true rfl) h7 ?_
    refine e_ic_ge dX12_findPacks_17 60 (by decide) (fun hc => ?_) (fun hc => ?_)
    · rw [if_pos hc] at h
      refine e_aload_n dX12_findPacks_60 rfl ?_
      obtain ⟨q8, hq8, h⟩ := p_bd h
      refine e_getR dX12_findPacks_61 rfl rfl h5.1 h5.2 hq8 ?_
      refine e_aload_n dX12_findPacks_64 rfl ?_
      obtain ⟨q9, hq9, h⟩ := p_bd h
      refine e_getR dX12_findPacks_65 rfl rfl h5.1 h5.2 hq9 ?_
      refine e_bipush (v := (16 : Int32)) dX12_findPacks_68 rfl ?_
      obtain ⟨h11, h⟩ := p_ok_some h
      obtain ⟨q10, hq10, h⟩ := p_bd h
      refine f_cVi dX12_findPacks_70 rfl rfl ⟨rfl, rfl, by decide⟩ rfl h11 (fun Q' hQ' => E_X1_value hq10 hQ') ?_
      refine e_aload_n dX12_findPacks_73 rfl ?_
      obtain ⟨h12, h⟩ := p_ok_some h
      obtain ⟨q13, hq13, h⟩ := p_bd h
      refine e_getR dX12_findPacks_74 rfl rfl h12.1 h12.2 hq13 ?_
      refine e_bipush (v := (17 : Int32)) dX12_findPacks_77 rfl ?_
      obtain ⟨h15, h⟩ := p_ok_some h
      obtain ⟨q14, hq14, h⟩ := p_bd h
      refine f_cVi dX12_findPacks_79 rfl rfl ⟨rfl, rfl, by decide⟩ rfl h15 (fun Q' hQ' => E_X1_value hq14 hQ') ?_
      obtain ⟨h17, h⟩ := p_ok_some h
      obtain ⟨q16, hq16, h⟩ := p_bd h
      refine f_cVi dX12_findPacks_82 rfl rfl ⟨rfl, rfl, by decide⟩ rfl h17 (fun Q' hQ' => E_X6_formPacks hq16 hQ') ?_
      cases h
      exact e_ireti dX12_findPacks_85 rfl hQ
    · rw [if_neg hc] at h
      refine e_aload_n dX12_findPacks_20 rfl ?_
      refine e_getR dX12_findPacks_21 rfl rfl h5.1 h5.2 hq6 ?_
      refine e_iload_n dX12_findPacks_24 rfl ?_
      obtain ⟨h20, h⟩ := p_ok_some h
      obtain ⟨q18, hq18, h⟩ := p_bd h
      obtain ⟨h21, h⟩ := p_ok_some h
      obtain ⟨q19, hq19, h⟩ := p_bd h
      refine e_lget dX12_findPacks_25 rfl (Nat.le_of_ble_eq_true rfl) h20 hq18 h21 hq19 ?_
      obtain ⟨h22, h⟩ := p_ok_some h
      refine e_cast dX12_findPacks_28 (Or.inr ⟨rfl, h22⟩) ?_
      refine e_astore_n dX12_findPacks_31 (Nat.le_of_ble_eq_true rfl) rfl ?_
      refine e_aload_n dX12_findPacks_32 rfl ?_
      refine e_getI dX12_findPacks_33 rfl rfl h22.1 h22.2 ?_
      refine e_iload_n dX12_findPacks_36 rfl ?_
      refine e_ic_ne dX12_findPacks_37 54 (by decide) (fun hc => ?_) (fun hc => ?_)
      · rw [if_pos hc] at h
        exact E_X12_findPacks_c54 ih h hQ
      · rw [if_neg hc] at h
        refine e_aload_n dX12_findPacks_40 rfl ?_
        refine e_getI dX12_findPacks_41 rfl rfl h22.1 h22.2 ?_
        refine e_iconst (v := (3 : Int32)) dX12_findPacks_44 rfl ?_
        refine e_ic_ne dX12_findPacks_45 54 (by decide) (fun hc => ?_) (fun hc => ?_)
        · rw [if_pos hc] at h
          exact E_X12_findPacks_c54 ih h hQ
        · rw [if_neg hc] at h
          refine e_aload_n dX12_findPacks_48 rfl ?_
          refine e_iload_n dX12_findPacks_49 rfl ?_
          refine e_aload_n dX12_findPacks_50 rfl ?_
          obtain ⟨q23, hq23, h⟩ := p_bd h
          refine f_cVv dX12_findPacks_51 rfl rfl ⟨rfl, rfl, by decide⟩ rfl h5 (fun Q' hQ' => E_X12_gatherGood hq23 hQ') ?_
          exact E_X12_findPacks_c54 ih h hQ
def F_X12_findPacks (v0 : Nat) (v1 : Int32) (μ : p_M) : Option (Int32 × p_M) :=
  p_ok (mK μ v0 = 13 ∧ v0 < mN μ)
  ((mR μ v0 16).bind fun q2 =>
  p_ok (mK μ q2 = 7 ∧ q2 < mN μ)
  ((F_X6_gatherNone q2 μ).bind fun q3 =>
  F_X12_findPacks_c9 p_fu v0 v1 (0 : Int32) q3.2))
theorem E_X12_findPacks {X : p_X} {d : Nat} {Q : p_R → Prop} {v0 : Nat} {v1 : Int32} {μ : p_M} {r : Int32 × p_M} (h : F_X12_findPacks v0 v1 μ = some r) (hQ : Q ((0, some (.int r.1)), r.2)) : p_Ev X (d + 3) M_X12_findPacks 0 [.ref v0, .int v1, .double 0, .double 0] [] μ Q := by
  unfold F_X12_findPacks at h
  refine e_aload_n dX12_findPacks_0 rfl ?_
  obtain ⟨h1, h⟩ := p_ok_some h
  obtain ⟨q2, hq2, h⟩ := p_bd h
  refine e_getR dX12_findPacks_1 rfl rfl h1.1 h1.2 hq2 ?_
  obtain ⟨h4, h⟩ := p_ok_some h
  obtain ⟨q3, hq3, h⟩ := p_bd h
  refine f_cVv dX12_findPacks_4 rfl rfl ⟨rfl, rfl, by decide⟩ rfl h4 (fun Q' hQ' => E_X6_gatherNone hq3 hQ') ?_
  refine e_iconst (v := (0 : Int32)) dX12_findPacks_7 rfl ?_
  refine e_istore_n dX12_findPacks_8 (Nat.le_of_ble_eq_true rfl) rfl ?_
  exact E_X12_findPacks_c9 p_fu _ _ _ _ _ _ h hQ
