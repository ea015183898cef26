/-! L_recipe -/
def F_L_recipe (v0 : Nat) (v1 : Nat) (μ : p_M) : Option (Int32 × p_M) :=
  p_ok (mK μ v0 = 13 ∧ v0 < mN μ)
  ((F_X12_recipe v0 μ).bind fun q1 =>
  if q1.1 = 0
  then (p_ok (mK q1.2.2 v1 = 22 ∧ ¬ (0 : Int32) < 0 ∧ (0 : Int32).toNatClampNeg < mL q1.2.2 v1 ∧ v1 < mN q1.2.2)
    (p_let (sJ q1.2.2 v1 (0 : Int32).toNatClampNeg q1.2.1.toInt64) fun m4 =>
    some ((0 : Int32), m4)))
  else if q1.1 = 1 then (some ((1 : Int32), q1.2.2))
  else none)
theorem E_L_recipe {X : p_X} {d : Nat} {Q : p_R → Prop} {v0 : Nat} {v1 : Nat} {μ : p_M} {r : Int32 × p_M} (h : F_L_recipe v0 v1 μ = some r) (hQ : Q ((0, some (.int r.1)), r.2)) : p_Ev X (d + 5) M_L_recipe 0 [.ref v0, .ref v1, .double 0] [] μ Q := by
  unfold F_L_recipe at h
  refine e_aload_n dL_recipe_0 rfl ?_
  refine e_iconst (v := (0 : Int32)) dL_recipe_1 rfl ?_
  refine e_aload_n dL_recipe_2 rfl ?_
  obtain ⟨h2, h⟩ := p_ok_some h
  obtain ⟨q1, hq1, h⟩ := p_bd h
  refine f_hVi dL_recipe_3 rfl rfl ⟨rfl, rfl, by decide⟩ rfl h2 (by decide) (fun Q' hQ' => E_X12_recipe hq1 hQ') (fun hc => ?_) (fun hc => ?_)
  · rw [if_pos hc] at h
    refine e_i2l dL_recipe_6 ?_
    obtain ⟨h3, h⟩ := p_ok_some h
    replace h := p_lt h
    refine e_laS dL_recipe_7 h3 ?_
    refine e_goto dL_recipe_8 14 (by decide) ?_
    refine e_iconst (v := (0 : Int32)) dL_recipe_14 rfl ?_
    cases h
    exact e_ireti dL_recipe_15 rfl hQ
  · rw [if_neg hc] at h
    by_cases hc : q1.1 = 1
    · rw [if_pos hc] at h
      refine ⟨11, by rw [hc]; rfl, ?_⟩
      refine e_astZ_n dL_recipe_11 (Nat.le_of_ble_eq_true rfl) rfl ?_
      refine e_iconst (v := (1 : Int32)) dL_recipe_12 rfl ?_
      cases h
      exact e_ireti dL_recipe_13 rfl hQ
    rw [if_neg hc] at h
    cases h
/-! X7_unlike -/
def F_X7_unlike_c56 (K4 : Nat → Int32 → Int32 → Int32 → p_M → Option (Int32 × p_M)) (v0 : Nat) (v1 : Int32) (v2 : Int32) (v3 : Int32) (μ : p_M) : Option (Int32 × p_M) :=
  K4 v0 v1 v2 (v3 + (1 : Int32)) μ
theorem E_X7_unlike_c56 {X : p_X} {d : Nat} {Q : p_R → Prop} {K4 : Nat → Int32 → Int32 → Int32 → p_M → Option (Int32 × p_M)} (hK4 : ∀ (v0 : Nat) (v1 : Int32) (v2 : Int32) (v3 : Int32) (μ : p_M) (r : Int32 × p_M) (w4 : Value) (w5 : Value), K4 v0 v1 v2 v3 μ = some r → Q ((0, some (.int r.1)), r.2) → p_Ev X (d + 0) M_X7_unlike 4 [.ref v0, .int v1, .int v2, .int v3, w4, w5] [] μ Q) {v0 : Nat} {v1 : Int32} {v2 : Int32} {v3 : Int32} {w4 : Value} {w5 : Value} {μ : p_M} {r : Int32 × p_M} (h : F_X7_unlike_c56 K4 v0 v1 v2 v3 μ = some r) (hQ : Q ((0, some (.int r.1)), r.2)) : p_Ev X (d + 0) M_X7_unlike 56 [.ref v0, .int v1, .int v2, .int v3, w4, w5] [] μ Q := by
  unfold F_X7_unlike_c56 at h
  refine e_iinc (v := (1 : Int32)) dX7_unlike_56 rfl rfl rfl ?_
  refine e_goto dX7_unlike_59 4 (by decide) ?_
  exact hK4 _ _ _ _ _ _ _ _ h hQ
def F_X7_unlike_c4 : Nat → Nat → Int32 → Int32 → Int32 → p_M → Option (Int32 × p_M)
  | 0, _, _, _, _, _ => none
  | n + 1, v0, v1, v2, v3, μ =>
    if (8 : Int32) ≤ v3
    then (some (v2, μ))
    else (p_ok (mK μ v0 = 8 ∧ v0 < mN μ)
      ((mR μ v0 3).bind fun q2 =>
      p_ok (23 ≤ mK μ q2 ∧ mK μ q2 ≤ 26 ∧ ¬ (0 : Int32) < 0 ∧ (0 : Int32).toNatClampNeg < mL μ q2 ∧ q2 < mN μ)
      ((mR μ q2 (0 : Int32).toNatClampNeg).bind fun q4 =>
      p_ok (q4 < p_E ∧ mK μ q4 = 20 ∧ q4 < mN μ)
      (p_ok (¬ (((v3 * (12 : Int32)) + (12 : Int32)) - (1 : Int32)) < 0 ∧ (((v3 * (12 : Int32)) + (12 : Int32)) - (1 : Int32)).toNatClampNeg < mL μ q4)
      (p_ok (23 ≤ mK μ q2 ∧ mK μ q2 ≤ 26 ∧ ¬ (1 : Int32) < 0 ∧ (1 : Int32).toNatClampNeg < mL μ q2 ∧ q2 < mN μ)
      ((mR μ q2 (1 : Int32).toNatClampNeg).bind fun q8 =>
      p_ok (¬ (8 : Int32) = 0)
      (p_ok (q8 < p_E ∧ mK μ q8 = 20 ∧ q8 < mN μ)
      (p_ok (¬ (((v3 + v1) - (v3 + v1) / (8 : Int32) * (8 : Int32)) * (12 : Int32)) < 0 ∧ (((v3 + v1) - (v3 + v1) / (8 : Int32) * (8 : Int32)) * (12 : Int32)).toNatClampNeg < mL μ q8)
      (if (mI μ q4 (((v3 * (12 : Int32)) + (12 : Int32)) - (1 : Int32)).toNatClampNeg) = (mI μ q8 (((v3 + v1) - (v3 + v1) / (8 : Int32) * (8 : Int32)) * (12 : Int32)).toNatClampNeg)
      then (F_X7_unlike_c56 (F_X7_unlike_c4 n) v0 v1 v2 v3 μ)
      else (F_X7_unlike_c56 (F_X7_unlike_c4 n) v0 v1 (v2 + (1 : Int32)) v3 μ))))))))))
theorem E_X7_unlike_c4 {X : p_X} {d : Nat} {Q : p_R → Prop} : ∀ (n : Nat) (v0 : Nat) (v1 : Int32) (v2 : Int32) (v3 : Int32) (μ : p_M) (r : Int32 × p_M) (w4 : Value) (w5 : Value), F_X7_unlike_c4 n v0 v1 v2 v3 μ = some r → Q ((0, some (.int r.1)), r.2) → p_Ev X (d + 0) M_X7_unlike 4 [.ref v0, .int v1, .int v2, .int v3, w4, w5] [] μ Q := by
  intro n
  induction n with
  | zero => intro v0 v1 v2 v3 μ r w4 w5 h hQ; rw [F_X7_unlike_c4] at h; cases h
  | succ n ih =>
    intro v0 v1 v2 v3 μ r w4 w5 h hQ
    rw [F_X7_unlike_c4] at h
    refine e_iload_n dX7_unlike_4 rfl ?_
    refine e_bipush (v := (8 : Int32)) dX7_unlike_5 rfl ?_
    refine e_ic_ge dX7_unlike_7 62 (by decide) (fun hc => ?_) (fun hc => ?_)
    · rw [if_pos hc] at h
      refine e_iload_n dX7_unlike_62 rfl ?_
      cases h
      exact e_ireti dX7_unlike_63 rfl hQ
    · rw [if_neg hc] at h
      refine e_aload_n dX7_unlike_10 rfl ?_
      obtain ⟨h1, h⟩ := p_ok_some h
      obtain ⟨q2, hq2, h⟩ := p_bd h
      refine e_getR dX7_unlike_11 rfl rfl h1.1 h1.2 hq2 ?_
      refine e_iconst (v := (0 : Int32)) dX7_unlike_14 rfl ?_
      obtain ⟨h3, h⟩ := p_ok_some h
      obtain ⟨q4, hq4, h⟩ := p_bd h
      refine e_aald dX7_unlike_15 h3 hq4 ?_
      refine e_iload_n dX7_unlike_16 rfl ?_
      refine e_bipush (v := (12 : Int32)) dX7_unlike_17 rfl ?_
      refine e_imul dX7_unlike_19 ?_
      refine e_bipush (v := (12 : Int32)) dX7_unlike_20 rfl ?_
      refine e_iadd dX7_unlike_22 ?_
      refine e_iconst (v := (1 : Int32)) dX7_unlike_23 rfl ?_
      refine e_isub dX7_unlike_24 ?_
      obtain ⟨h5, h⟩ := p_ok_some h
      obtain ⟨h6, h⟩ := p_ok_some h
      refine e_iaG dX7_unlike_25 h5 h6 ?_
      refine e_istore dX7_unlike_26 (Nat.le_of_ble_eq_true rfl) rfl ?_
      refine e_aload_n dX7_unlike_28 rfl ?_
      refine e_getR dX7_unlike_29 rfl rfl h1.1 h1.2 hq2 ?_
      refine e_iconst (v := (1 : Int32)) dX7_unlike_32 rfl ?_
      obtain ⟨h7, h⟩ := p_ok_some h
      obtain ⟨q8, hq8, h⟩ := p_bd h
      refine e_aald dX7_unlike_33 h7 hq8 ?_
      refine e_iload_n dX7_unlike_34 rfl ?_
      refine e_iload_n dX7_unlike_35 rfl ?_
      refine e_iadd dX7_unlike_36 ?_
      refine e_bipush (v := (8 : Int32)) dX7_unlike_37 rfl ?_
      obtain ⟨h9, h⟩ := p_ok_some h
      refine e_irem dX7_unlike_39 h9 ?_
      refine e_bipush (v := (12 : Int32)) dX7_unlike_40 rfl ?_
      refine e_imul dX7_unlike_42 ?_
      obtain ⟨h10, h⟩ := p_ok_some h
      obtain ⟨h11, h⟩ := p_ok_some h
      refine e_iaG dX7_unlike_43 h10 h11 ?_
      refine e_istore dX7_unlike_44 (Nat.le_of_ble_eq_true rfl) rfl ?_
      refine e_iload dX7_unlike_46 rfl ?_
      refine e_iload dX7_unlike_48 rfl ?_
      refine e_ic_eq dX7_unlike_50 56 (by decide) (fun hc => ?_) (fun hc => ?_)
      · rw [if_pos hc] at h
        exact E_X7_unlike_c56 ih h hQ
      · rw [if_neg hc] at h
        refine e_iinc (v := (1 : Int32)) dX7_unlike_53 rfl rfl rfl ?_
        exact E_X7_unlike_c56 ih h hQ
def F_X7_unlike (v0 : Nat) (v1 : Int32) (μ : p_M) : Option (Int32 × p_M) :=
  F_X7_unlike_c4 p_fu v0 v1 (0 : Int32) (0 : Int32) μ
theorem E_X7_unlike {X : p_X} {d : Nat} {Q : p_R → Prop} {v0 : Nat} {v1 : Int32} {μ : p_M} {r : Int32 × p_M} (h : F_X7_unlike v0 v1 μ = some r) (hQ : Q ((0, some (.int r.1)), r.2)) : p_Ev X (d + 0) M_X7_unlike 0 [.ref v0, .int v1, .double 0, .double 0, .double 0, .double 0] [] μ Q := by
  unfold F_X7_unlike at h
  refine e_iconst (v := (0 : Int32)) dX7_unlike_0 rfl ?_
  refine e_istore_n dX7_unlike_1 (Nat.le_of_ble_eq_true rfl) rfl ?_
  refine e_iconst (v := (0 : Int32)) dX7_unlike_2 rfl ?_
  refine e_istore_n dX7_unlike_3 (Nat.le_of_ble_eq_true rfl) rfl ?_
  exact E_X7_unlike_c4 p_fu _ _ _ _ _ _ _ _ h hQ
/-! X12_seam -/
def F_X12_seam (v0 : Nat) (v1 : Int32) (μ : p_M) : Option (Nat × Int32 × p_M) :=
  (F_X12_within v1 (0 : Int32) (7 : Int32) μ).bind fun q1 =>
  (F_X12_need q1.1 q1.2).bind fun q2 =>
  if q2.1 = 0
  then (p_ok (mK q2.2.2 v0 = 13 ∧ v0 < mN q2.2.2)
    ((mR q2.2.2 v0 19).bind fun q4 =>
    p_ok (mK q2.2.2 q4 = 8 ∧ q4 < mN q2.2.2)
    ((F_X7_unlike q4 v1 q2.2.2).bind fun q5 =>
    some (0, q5.1, q5.2))))
  else (some (q2.1, 0, q2.2.2))
theorem E_X12_seam {X : p_X} {d : Nat} {Q : p_R → Prop} {v0 : Nat} {v1 : Int32} {μ : p_M} {r : Nat × Int32 × p_M} (h : F_X12_seam v0 v1 μ = some r) (hQ : Q (tI r)) : p_Ev X (d + 1) M_X12_seam 0 [.ref v0, .int v1] [] μ Q := by
  unfold F_X12_seam at h
  refine e_iload_n dX12_seam_0 rfl ?_
  refine e_iconst (v := (0 : Int32)) dX12_seam_1 rfl ?_
  refine e_bipush (v := (7 : Int32)) dX12_seam_2 rfl ?_
  obtain ⟨q1, hq1, h⟩ := p_bd h
  refine f_cSi dX12_seam_4 rfl rfl rfl rfl (fun Q' hQ' => E_X12_within hq1 hQ') ?_
  obtain ⟨q2, hq2, h⟩ := p_bd h
  refine f_tSv dX12_seam_7 rfl rfl rfl rfl (by decide) rfl (fun Q' hQ' => E_X12_need hq2 hQ') (fun hc => ?_) (fun hc => ?_)
  · rw [if_pos hc] at h
    refine e_aload_n dX12_seam_10 rfl ?_
    obtain ⟨h3, h⟩ := p_ok_some h
    obtain ⟨q4, hq4, h⟩ := p_bd h
    refine e_getR dX12_seam_11 rfl rfl h3.1 h3.2 hq4 ?_
    refine e_iload_n dX12_seam_14 rfl ?_
    obtain ⟨h6, h⟩ := p_ok_some h
    obtain ⟨q5, hq5, h⟩ := p_bd h
    refine f_cVi dX12_seam_15 rfl rfl ⟨rfl, rfl, by decide⟩ rfl h6 (fun Q' hQ' => E_X7_unlike hq5 hQ') ?_
    cases h
    exact e_ireti dX12_seam_18 rfl hQ
  · rw [if_neg hc] at h
    cases h
    exact tI_E hc hQ
/-! L_seam -/
def F_L_seam (v0 : Nat) (v1 : Int32) (v2 : Nat) (μ : p_M) : Option (Int32 × p_M) :=
  p_ok (mK μ v0 = 13 ∧ v0 < mN μ)
  ((F_X12_seam v0 v1 μ).bind fun q1 =>
  if q1.1 = 0
  then (p_ok (mK q1.2.2 v2 = 22 ∧ ¬ (0 : Int32) < 0 ∧ (0 : Int32).toNatClampNeg < mL q1.2.2 v2 ∧ v2 < mN q1.2.2)
    (p_let (sJ q1.2.2 v2 (0 : Int32).toNatClampNeg q1.2.1.toInt64) fun m4 =>
    some ((0 : Int32), m4)))
  else if q1.1 = 1 then (some ((1 : Int32), q1.2.2))
  else none)
theorem E_L_seam {X : p_X} {d : Nat} {Q : p_R → Prop} {v0 : Nat} {v1 : Int32} {v2 : Nat} {μ : p_M} {r : Int32 × p_M} (h : F_L_seam v0 v1 v2 μ = some r) (hQ : Q ((0, some (.int r.1)), r.2)) : p_Ev X (d + 2) M_L_seam 0 [.ref v0, .int v1, .ref v2, .double 0] [] μ Q := by
  unfold F_L_seam at h
  refine e_aload_n dL_seam_0 rfl ?_
  refine e_iconst (v := (0 : Int32)) dL_seam_1 rfl ?_
  refine e_aload_n dL_seam_2 rfl ?_
  refine e_iload_n dL_seam_3 rfl ?_
  obtain ⟨h2, h⟩ := p_ok_some h
  obtain ⟨q1, hq1, h⟩ := p_bd h
  refine f_hVi dL_seam_4 rfl rfl ⟨rfl, rfl, by decide⟩ rfl h2 (by decide) (fun Q' hQ' => E_X12_seam hq1 hQ') (fun hc => ?_) (fun hc => ?_)
  · rw [if_pos hc] at h
    refine e_i2l dL_seam_7 ?_
    obtain ⟨h3, h⟩ := p_ok_some h
    replace h := p_lt h
    refine e_laS dL_seam_8 h3 ?_
    refine e_goto dL_seam_9 15 (by decide) ?_
    refine e_iconst (v := (0 : Int32)) dL_seam_15 rfl ?_
    cases h
    exact e_ireti dL_seam_16 rfl hQ
  · rw [if_neg hc] at h
    by_cases hc : q1.1 = 1
    · rw [if_pos hc] at h
      refine ⟨12, by rw [hc]; rfl, ?_⟩
      refine e_astZ_n dL_seam_12 (Nat.le_of_ble_eq_true rfl) rfl ?_
      refine e_iconst (v := (1 : Int32)) dL_seam_13 rfl ?_
      cases h
      exact e_ireti dL_seam_14 rfl hQ
    rw [if_neg hc] at h
    cases h
/-! L_sorted -/
def F_L_sorted (v0 : Nat) (v1 : Int32) (v2 : Int32) (v3 : Int32) (v4 : Nat) (μ : p_M) : Option (Int32 × p_M) :=
  p_ok (mK μ v0 = 13 ∧ v0 < mN μ)
  ((F_X12_sorted v0 v1 v2 v3 μ).bind fun q1 =>
  if q1.1 = 0
  then (p_ok (mK q1.2.2 v4 = 22 ∧ ¬ (0 : Int32) < 0 ∧ (0 : Int32).toNatClampNeg < mL q1.2.2 v4 ∧ v4 < mN q1.2.2)
    (p_let (sJ q1.2.2 v4 (0 : Int32).toNatClampNeg q1.2.1.toInt64) fun m4 =>
    some ((0 : Int32), m4)))
  else if q1.1 = 3 then (some ((1 : Int32), q1.2.2))
  else if q1.1 = 4 then (some ((2 : Int32), q1.2.2))
  else none)
theorem E_L_sorted {X : p_X} {d : Nat} {Q : p_R → Prop} {v0 : Nat} {v1 : Int32} {v2 : Int32} {v3 : Int32} {v4 : Nat} {μ : p_M} {r : Int32 × p_M} (h : F_L_sorted v0 v1 v2 v3 v4 μ = some r) (hQ : Q ((0, some (.int r.1)), r.2)) : p_Ev X (d + 3) M_L_sorted 0 [.ref v0, .int v1, .int v2, .int v3, .ref v4, .double 0] [] μ Q := by
  unfold F_L_sorted at h
  refine e_aload dL_sorted_0 rfl ?_
  refine e_iconst (v := (0 : Int32)) dL_sorted_2 rfl ?_
  refine e_aload_n dL_sorted_3 rfl ?_
  refine e_iload_n dL_sorted_4 rfl ?_
  refine e_iload_n dL_sorted_5 rfl ?_
  refine e_iload_n dL_sorted_6 rfl ?_
  obtain ⟨h2, h⟩ := p_ok_some h
  obtain ⟨q1, hq1, h⟩ := p_bd h
  refine f_hVi dL_sorted_7 rfl rfl ⟨rfl, rfl, by decide⟩ rfl h2 (by decide) (fun Q' hQ' => E_X12_sorted hq1 hQ') (fun hc => ?_) (fun hc => ?_)
  · rw [if_pos hc] at h
    refine e_i2l dL_sorted_10 ?_
    obtain ⟨h3, h⟩ := p_ok_some h
    replace h := p_lt h
    refine e_laS dL_sorted_11 h3 ?_
    refine e_goto dL_sorted_12 23 (by decide) ?_
    refine e_iconst (v := (0 : Int32)) dL_sorted_23 rfl ?_
    cases h
    exact e_ireti dL_sorted_24 rfl hQ
  · rw [if_neg hc] at h
    by_cases hc : q1.1 = 3
    · rw [if_pos hc] at h
      refine ⟨15, by rw [hc]; rfl, ?_⟩
      refine e_astZ dL_sorted_15 (Nat.le_of_ble_eq_true rfl) rfl ?_
      refine e_iconst (v := (1 : Int32)) dL_sorted_17 rfl ?_
      cases h
      exact e_ireti dL_sorted_18 rfl hQ
    rw [if_neg hc] at h
    by_cases hc : q1.1 = 4
    · rw [if_pos hc] at h
      refine ⟨19, by rw [hc]; rfl, ?_⟩
      refine e_astZ dL_sorted_19 (Nat.le_of_ble_eq_true rfl) rfl ?_
      refine e_iconst (v := (2 : Int32)) dL_sorted_21 rfl ?_
      cases h
      exact e_ireti dL_sorted_22 rfl hQ
    rw [if_neg hc] at h
    cases h
/-! X0_sorts -/
def F_X0_sorts_c45 (K7 : Nat → Int32 → Int32 → Int32 → Int32 → p_M → Option (Int32 × p_M)) (v0 : Nat) (v1 : Int32) (v2 : Int32) (v3 : Int32) (v4 : Int32) (μ : p_M) : Option (Int32 × p_M) :=
  K7 v0 v1 v2 v3 (v4 + (1 : Int32)) μ
theorem E_X0_sorts_c45 {X : p_X} {d : Nat} {Q : p_R → Prop} {K7 : Nat → Int32 → Int32 → Int32 → Int32 → p_M → Option (Int32 × p_M)} (hK7 : ∀ (v0 : Nat) (v1 : Int32) (v2 : Int32) (v3 : Int32) (v4 : Int32) (μ : p_M) (r : Int32 × p_M), K7 v0 v1 v2 v3 v4 μ = some r → Q ((0, some (.int r.1)), r.2) → p_Ev X (d + 0) M_X0_sorts 7 [.ref v0, .int v1, .int v2, .int v3, .int v4] [] μ Q) {v0 : Nat} {v1 : Int32} {v2 : Int32} {v3 : Int32} {v4 : Int32} {μ : p_M} {r : Int32 × p_M} (h : F_X0_sorts_c45 K7 v0 v1 v2 v3 v4 μ = some r) (hQ : Q ((0, some (.int r.1)), r.2)) : p_Ev X (d + 0) M_X0_sorts 45 [.ref v0, .int v1, .int v2, .int v3, .int v4] [] μ Q := by
  unfold F_X0_sorts_c45 at h
  refine e_iinc (v := (1 : Int32)) dX0_sorts_45 rfl rfl rfl ?_
  refine e_goto dX0_sorts_48 7 (by decide) ?_
  exact hK7 _ _ _ _ _ _ _ h hQ
def F_X0_sorts_c39 (K7 : Nat → Int32 → Int32 → Int32 → Int32 → p_M → Option (Int32 × p_M)) (v0 : Nat) (v1 : Int32) (v2 : Int32) (v4 : Int32) (μ : p_M) : Option (Int32 × p_M) :=
  F_X0_sorts_c45 K7 v0 v1 (v2 + (1 : Int32)) v4 v4 μ
theorem E_X0_sorts_c39 {X : p_X} {d : Nat} {Q : p_R → Prop} {K7 : Nat → Int32 → Int32 → Int32 → Int32 → p_M → Option (Int32 × p_M)} (hK7 : ∀ (v0 : Nat) (v1 : Int32) (v2 : Int32) (v3 : Int32) (v4 : Int32) (μ : p_M) (r : Int32 × p_M), K7 v0 v1 v2 v3 v4 μ = some r → Q ((0, some (.int r.1)), r.2) → p_Ev X (d + 0) M_X0_sorts 7 [.ref v0, .int v1, .int v2, .int v3, .int v4] [] μ Q) {v0 : Nat} {v1 : Int32} {v2 : Int32} {v4 : Int32} {w3 : Value} {μ : p_M} {r : Int32 × p_M} (h : F_X0_sorts_c39 K7 v0 v1 v2 v4 μ = some r) (hQ : Q ((0, some (.int r.1)), r.2)) : p_Ev X (d + 0) M_X0_sorts 39 [.ref v0, .int v1, .int v2, w3, .int v4] [] μ Q := by
  unfold F_X0_sorts_c39 at h
  refine e_iinc (v := (1 : Int32)) dX0_sorts_39 rfl rfl rfl ?_
  refine e_iload dX0_sorts_42 rfl ?_
  refine e_istore_n dX0_sorts_44 (Nat.le_of_ble_eq_true rfl) rfl ?_
  exact E_X0_sorts_c45 hK7 h hQ
def F_X0_sorts_c7 : Nat → Nat → Int32 → Int32 → Int32 → Int32 → p_M → Option (Int32 × p_M)
  | 0, _, _, _, _, _, _ => none
  | n + 1, v0, v1, v2, v3, v4, μ =>
    p_ok (mK μ v0 = 1 ∧ v0 < mN μ)
    (if (mI μ v0 1) ≤ v4
    then (some (v2, μ))
    else (if v4 = 0
      then (F_X0_sorts_c39 (F_X0_sorts_c7 n) v0 v1 v2 v4 μ)
      else ((mR μ v0 0).bind fun q2 =>
        p_ok (q2 < p_E ∧ mK μ q2 = 20 ∧ q2 < mN μ)
        (p_ok (¬ v4 < 0 ∧ v4.toNatClampNeg < mL μ q2)
        (p_ok (¬ v3 < 0 ∧ v3.toNatClampNeg < mL μ q2)
        (if ((mI μ q2 v4.toNatClampNeg) - (mI μ q2 v3.toNatClampNeg)) ≤ v1
        then (F_X0_sorts_c45 (F_X0_sorts_c7 n) v0 v1 v2 v3 v4 μ)
        else (F_X0_sorts_c39 (F_X0_sorts_c7 n) v0 v1 v2 v4 μ)))))))
theorem E_X0_sorts_c7 {X : p_X} {d : Nat} {Q : p_R → Prop} : ∀ (n : Nat) (v0 : Nat) (v1 : Int32) (v2 : Int32) (v3 : Int32) (v4 : Int32) (μ : p_M) (r : Int32 × p_M), F_X0_sorts_c7 n v0 v1 v2 v3 v4 μ = some r → Q ((0, some (.int r.1)), r.2) → p_Ev X (d + 0) M_X0_sorts 7 [.ref v0, .int v1, .int v2, .int v3, .int v4] [] μ Q := by
  intro n
  induction n with
  | zero => intro v0 v1 v2 v3 v4 μ r h hQ; rw [F_X0_sorts_c7] at h; cases h
  | succ n ih =>
    intro v0 v1 v2 v3 v4 μ r h hQ
    rw [F_X0_sorts_c7] at h
    refine e_iload dX0_sorts_7 rfl ?_
    refine e_aload_n dX0_sorts_9 rfl ?_
    obtain ⟨h1, h⟩ := p_ok_some h
    refine e_getI dX0_sorts_10 rfl rfl h1.1 h1.2 ?_
    refine e_ic_ge dX0_sorts_13 51 (by decide) (fun hc => ?_) (fun hc => ?_)
    · rw [if_pos hc] at h
      refine e_iload_n dX0_sorts_51 rfl ?_
      cases h
      exact e_ireti dX0_sorts_52 rfl hQ
    · rw [if_neg hc] at h
      refine e_iload dX0_sorts_16 rfl ?_
      refine e_if_eq dX0_sorts_18 39 (by decide) (fun hc => ?_) (fun hc => ?_)
      · rw [if_pos hc] at h
        exact E_X0_sorts_c39 ih h hQ
      · rw [if_neg hc] at h
        refine e_aload_n dX0_sorts_21 rfl ?_
        obtain ⟨q2, hq2, h⟩ := p_bd h
        refine e_getR dX0_sorts_22 rfl rfl h1.1 h1.2 hq2 ?_
        refine e_iload dX0_sorts_25 rfl ?_
        obtain ⟨h3, h⟩ := p_ok_some h
        obtain ⟨h4, h⟩ := p_ok_some h
        refine e_iaG dX0_sorts_27 h3 h4 ?_
        refine e_aload_n dX0_sorts_28 rfl ?_
        refine e_getR dX0_sorts_29 rfl rfl h1.1 h1.2 hq2 ?_
        refine e_iload_n dX0_sorts_32 rfl ?_
        obtain ⟨h5, h⟩ := p_ok_some h
        refine e_iaG dX0_sorts_33 h3 h5 ?_
        refine e_isub dX0_sorts_34 ?_
        refine e_iload_n dX0_sorts_35 rfl ?_
        refine e_ic_le dX0_sorts_36 45 (by decide) (fun hc => ?_) (fun hc => ?_)
        · rw [if_pos hc] at h
          exact E_X0_sorts_c45 ih h hQ
        · rw [if_neg hc] at h
          exact E_X0_sorts_c39 ih h hQ
def F_X0_sorts (v0 : Nat) (v1 : Int32) (μ : p_M) : Option (Int32 × p_M) :=
  F_X0_sorts_c7 p_fu v0 v1 (0 : Int32) (0 : Int32) (0 : Int32) μ
theorem E_X0_sorts {X : p_X} {d : Nat} {Q : p_R → Prop} {v0 : Nat} {v1 : Int32} {μ : p_M} {r : Int32 × p_M} (h : F_X0_sorts v0 v1 μ = some r) (hQ : Q ((0, some (.int r.1)), r.2)) : p_Ev X (d + 0) M_X0_sorts 0 [.ref v0, .int v1, .double 0, .double 0, .double 0] [] μ Q := by
  unfold F_X0_sorts at h
  refine e_iconst (v := (0 : Int32)) dX0_sorts_0 rfl ?_
  refine e_istore_n dX0_sorts_1 (Nat.le_of_ble_eq_true rfl) rfl ?_
  refine e_iconst (v := (0 : Int32)) dX0_sorts_2 rfl ?_
  refine e_istore_n dX0_sorts_3 (Nat.le_of_ble_eq_true rfl) rfl ?_
  refine e_iconst (v := (0 : Int32)) dX0_sorts_4 rfl ?_
  refine e_istore dX0_sorts_5 (Nat.le_of_ble_eq_true rfl) rfl ?_
  exact E_X0_sorts_c7 p_fu _ _ _ _ _ _ _ h hQ
/-! X0_leastSpread -/
def F_X0_leastSpread_c2 : Nat → Nat → Int32 → Int32 → p_M → Option (Int32 × p_M)
  | 0, _, _, _, _ => none
  | n + 1, v0, v1, v2, μ =>
    if (255 : Int32) ≤ v2
    then (some ((255 : Int32), μ))
    else (p_ok (mK μ v0 = 1 ∧ v0 < mN μ)
      ((F_X0_sorts v0 v2 μ).bind fun q1 =>
      if v1 < q1.1
      then (F_X0_leastSpread_c2 n v0 v1 (v2 + (1 : Int32)) q1.2)
      else (some (v2, q1.2))))
theorem E_X0_leastSpread_c2 {X : p_X} {d : Nat} {Q : p_R → Prop} : ∀ (n : Nat) (v0 : Nat) (v1 : Int32) (v2 : Int32) (μ : p_M) (r : Int32 × p_M), F_X0_leastSpread_c2 n v0 v1 v2 μ = some r → Q ((0, some (.int r.1)), r.2) → p_Ev X (d + 1) M_X0_leastSpread 2 [.ref v0, .int v1, .int v2] [] μ Q := by
  intro n
  induction n with
  | zero => intro v0 v1 v2 μ r h hQ; rw [F_X0_leastSpread_c2] at h; cases h
  | succ n ih =>
    intro v0 v1 v2 μ r h hQ
    rw [F_X0_leastSpread_c2] at h
    refine e_iload_n dX0_leastSpread_2 rfl ?_
    refine e_sipush (v := (255 : Int32)) dX0_leastSpread_3 rfl ?_
    refine e_ic_ge dX0_leastSpread_6 26 (by decide) (fun hc => ?_) (fun hc => ?_)
    · rw [if_pos hc] at h
      refine e_sipush (v := (255 : Int32)) dX0_leastSpread_26 rfl ?_
      cases h
      exact e_ireti dX0_leastSpread_29 rfl hQ
    · rw [if_neg hc] at h
      refine e_aload_n dX0_leastSpread_9 rfl ?_
      refine e_iload_n dX0_leastSpread_10 rfl ?_
      obtain ⟨h2, h⟩ := p_ok_some h
      obtain ⟨q1, hq1, h⟩ := p_bd h
      refine f_cVi dX0_leastSpread_11 rfl rfl ⟨rfl, rfl, by decide⟩ rfl h2 (fun Q' hQ' => E_X0_sorts hq1 hQ') ?_
      refine e_iload_n dX0_leastSpread_14 rfl ?_
      refine e_ic_gt dX0_leastSpread_15 20 (by decide) (fun hc => ?_) (fun hc => ?_)
      · rw [if_pos hc] at h
        refine e_iinc (v := (1 : Int32)) dX0_leastSpread_20 rfl rfl rfl ?_
        refine e_goto dX0_leastSpread_23 2 (by decide) ?_
        exact ih _ _ _ _ _ h hQ
      · rw [if_neg hc] at h
        refine e_iload_n dX0_leastSpread_18 rfl ?_
        cases h
        exact e_ireti dX0_leastSpread_19 rfl hQ
def F_X0_leastSpread (v0 : Nat) (v1 : Int32) (μ : p_M) : Option (Int32 × p_M) :=
  F_X0_leastSpread_c2 p_fu v0 v1 (0 : Int32) μ
theorem E_X0_leastSpread {X : p_X} {d : Nat} {Q : p_R → Prop} {v0 : Nat} {v1 : Int32} {μ : p_M} {r : Int32 × p_M} (h : F_X0_leastSpread v0 v1 μ = some r) (hQ : Q ((0, some (.int r.1)), r.2)) : p_Ev X (d + 1) M_X0_leastSpread 0 [.ref v0, .int v1, .double 0] [] μ Q := by
  unfold F_X0_leastSpread at h
  refine e_iconst (v := (0 : Int32)) dX0_leastSpread_0 rfl ?_
  refine e_istore_n dX0_leastSpread_1 (Nat.le_of_ble_eq_true rfl) rfl ?_
  exact E_X0_leastSpread_c2 p_fu _ _ _ _ _ h hQ
/-! X12_spread -/
def F_X12_spread (v0 : Nat) (v1 : Int32) (μ : p_M) : Option (Nat × Int32 × p_M) :=
  (F_X12_within v1 (1 : Int32) (10 : Int32) μ).bind fun q1 =>
  (F_X12_need q1.1 q1.2).bind fun q2 =>
  if q2.1 = 0
  then (p_ok (mK q2.2.2 v0 = 13 ∧ v0 < mN q2.2.2)
    ((mR q2.2.2 v0 11).bind fun q4 =>
    p_ok (mK q2.2.2 q4 = 1 ∧ q4 < mN q2.2.2)
    ((F_X0_leastSpread q4 v1 q2.2.2).bind fun q5 =>
    some (0, q5.1, q5.2))))
  else (some (q2.1, 0, q2.2.2))
theorem E_X12_spread {X : p_X} {d : Nat} {Q : p_R → Prop} {v0 : Nat} {v1 : Int32} {μ : p_M} {r : Nat × Int32 × p_M} (h : F_X12_spread v0 v1 μ = some r) (hQ : Q (tI r)) : p_Ev X (d + 2) M_X12_spread 0 [.ref v0, .int v1] [] μ Q := by
  unfold F_X12_spread at h
  refine e_iload_n dX12_spread_0 rfl ?_
  refine e_iconst (v := (1 : Int32)) dX12_spread_1 rfl ?_
  refine e_bipush (v := (10 : Int32)) dX12_spread_2 rfl ?_
  obtain ⟨q1, hq1, h⟩ := p_bd h
  refine f_cSi dX12_spread_4 rfl rfl rfl rfl (fun Q' hQ' => E_X12_within hq1 hQ') ?_
  obtain ⟨q2, hq2, h⟩ := p_bd h
  refine f_tSv dX12_spread_7 rfl rfl rfl rfl (by decide) rfl (fun Q' hQ' => E_X12_need hq2 hQ') (fun hc => ?_) (fun hc => ?_)
  · rw [if_pos hc] at h
    refine e_aload_n dX12_spread_10 rfl ?_
    obtain ⟨h3, h⟩ := p_ok_some h
    obtain ⟨q4, hq4, h⟩ := p_bd h
    refine e_getR dX12_spread_11 rfl rfl h3.1 h3.2 hq4 ?_
    refine e_iload_n dX12_spread_14 rfl ?_
    obtain ⟨h6, h⟩ := p_ok_some h
    obtain ⟨q5, hq5, h⟩ := p_bd h
    refine f_cVi dX12_spread_15 rfl rfl ⟨rfl, rfl, by decide⟩ rfl h6 (fun Q' hQ' => E_X0_leastSpread hq5 hQ') ?_
    cases h
    exact e_ireti dX12_spread_18 rfl hQ
  · rw [if_neg hc] at h
    cases h
    exact tI_E hc hQ
/-! L_spread -/
def F_L_spread (v0 : Nat) (v1 : Int32) (v2 : Nat) (μ : p_M) : Option (Int32 × p_M) :=
  p_ok (mK μ v0 = 13 ∧ v0 < mN μ)
  ((F_X12_spread v0 v1 μ).bind fun q1 =>
  if q1.1 = 0
  then (p_ok (mK q1.2.2 v2 = 22 ∧ ¬ (0 : Int32) < 0 ∧ (0 : Int32).toNatClampNeg < mL q1.2.2 v2 ∧ v2 < mN q1.2.2)
    (p_let (sJ q1.2.2 v2 (0 : Int32).toNatClampNeg q1.2.1.toInt64) fun m4 =>
    some ((0 : Int32), m4)))
  else if q1.1 = 1 then (some ((1 : Int32), q1.2.2))
  else none)
theorem E_L_spread {X : p_X} {d : Nat} {Q : p_R → Prop} {v0 : Nat} {v1 : Int32} {v2 : Nat} {μ : p_M} {r : Int32 × p_M} (h : F_L_spread v0 v1 v2 μ = some r) (hQ : Q ((0, some (.int r.1)), r.2)) : p_Ev X (d + 3) M_L_spread 0 [.ref v0, .int v1, .ref v2, .double 0] [] μ Q := by
  unfold F_L_spread at h
  refine e_aload_n dL_spread_0 rfl ?_
  refine e_iconst (v := (0 : Int32)) dL_spread_1 rfl ?_
  refine e_aload_n dL_spread_2 rfl ?_
  refine e_iload_n dL_spread_3 rfl ?_
  obtain ⟨h2, h⟩ := p_ok_some h
  obtain ⟨q1, hq1, h⟩ := p_bd h
  refine f_hVi dL_spread_4 rfl rfl ⟨rfl, rfl, by decide⟩ rfl h2 (by decide) (fun Q' hQ' => E_X12_spread hq1 hQ') (fun hc => ?_) (fun hc => ?_)
  · rw [if_pos hc] at h
    refine e_i2l dL_spread_7 ?_
    obtain ⟨h3, h⟩ := p_ok_some h
    replace h := p_lt h
    refine e_laS dL_spread_8 h3 ?_
    refine e_goto dL_spread_9 15 (by decide) ?_
    refine e_iconst (v := (0 : Int32)) dL_spread_15 rfl ?_
    cases h
    exact e_ireti dL_spread_16 rfl hQ
  · rw [if_neg hc] at h
    by_cases hc : q1.1 = 1
    · rw [if_pos hc] at h
      refine ⟨12, by rw [hc]; rfl, ?_⟩
      refine e_astZ_n dL_spread_12 (Nat.le_of_ble_eq_true rfl) rfl ?_
      refine e_iconst (v := (1 : Int32)) dL_spread_13 rfl ?_
      cases h
      exact e_ireti dL_spread_14 rfl hQ
    rw [if_neg hc] at h
    cases h
/-! X11_add -/
def F_X11_add (v0 : Nat) (v1 : Int32) (μ : p_M) : Option (Int32 × p_M) :=
  p_ok (mK μ v0 = 12 ∧ v0 < mN μ)
  ((mR μ v0 0).bind fun q2 =>
  p_ok (q2 < p_E ∧ mK μ q2 = 20 ∧ q2 < mN μ)
  (p_ok (¬ (mI μ v0 3) < 0 ∧ (mI μ v0 3).toNatClampNeg < mL μ q2)
  (p_let (sI μ q2 (mI μ v0 3).toNatClampNeg v1) fun m5 =>
  p_let (sI m5 v0 3 ((mI m5 v0 3) + (1 : Int32))) fun m6 =>
  some (((mI m6 v0 3) - (1 : Int32)), m6))))
theorem E_X11_add {X : p_X} {d : Nat} {Q : p_R → Prop} {v0 : Nat} {v1 : Int32} {μ : p_M} {r : Int32 × p_M} (h : F_X11_add v0 v1 μ = some r) (hQ : Q ((0, some (.int r.1)), r.2)) : p_Ev X (d + 0) M_X11_add 0 [.ref v0, .int v1] [] μ Q := by
  unfold F_X11_add at h
  refine e_aload_n dX11_add_0 rfl ?_
  obtain ⟨h1, h⟩ := p_ok_some h
  obtain ⟨q2, hq2, h⟩ := p_bd h
  refine e_getR dX11_add_1 rfl rfl h1.1 h1.2 hq2 ?_
  refine e_aload_n dX11_add_4 rfl ?_
  refine e_getI dX11_add_5 rfl rfl h1.1 h1.2 ?_
  refine e_iload_n dX11_add_8 rfl ?_
  obtain ⟨h3, h⟩ := p_ok_some h
  obtain ⟨h4, h⟩ := p_ok_some h
  replace h := p_lt h
  refine e_iaS dX11_add_9 h3 h4 ?_
  refine e_aload_n dX11_add_10 rfl ?_
  refine e_dupR dX11_add_11 ?_
  refine e_getI dX11_add_12 rfl rfl h1.1 h1.2 ?_
  refine e_iconst (v := (1 : Int32)) dX11_add_15 rfl ?_
  refine e_iadd dX11_add_16 ?_
  replace h := p_lt h
  refine e_putI dX11_add_17 rfl ⟨rfl, rfl, (fun h => by cases h)⟩ (fun h => by cases h) h1.1 h1.2 ?_
  refine e_aload_n dX11_add_20 rfl ?_
  refine e_getI dX11_add_21 rfl rfl h1.1 h1.2 ?_
  refine e_iconst (v := (1 : Int32)) dX11_add_24 rfl ?_
  refine e_isub dX11_add_25 ?_
  cases h
  exact e_ireti dX11_add_26 rfl hQ
/-! X12_tank -/
def F_X12_tank (v0 : Nat) (v1 : Int32) (μ : p_M) : Option (Nat × Int32 × p_M) :=
  (F_X12_within v1 (1 : Int32) (1000 : Int32) μ).bind fun q1 =>
  (F_X12_need q1.1 q1.2).bind fun q2 =>
  if q2.1 = 0
  then (p_ok (mK q2.2.2 v0 = 13 ∧ v0 < mN q2.2.2)
    ((mR q2.2.2 v0 10).bind fun q4 =>
    p_ok (mK q2.2.2 q4 = 12 ∧ q4 < mN q2.2.2)
    ((F_X12_needRoom (mI q2.2.2 q4 3) (5 : Int32) q2.2.2).bind fun q6 =>
    if q6.1 = 0
    then (p_ok (mK q6.2.2 v0 = 13 ∧ v0 < mN q6.2.2)
      ((mR q6.2.2 v0 10).bind fun q8 =>
      p_ok (mK q6.2.2 q8 = 12 ∧ q8 < mN q6.2.2)
      ((F_X11_add q8 v1 q6.2.2).bind fun q9 =>
      some (0, q9.1, q9.2))))
    else (some (q6.1, 0, q6.2.2)))))
  else (some (q2.1, 0, q2.2.2))
theorem E_X12_tank {X : p_X} {d : Nat} {Q : p_R → Prop} {v0 : Nat} {v1 : Int32} {μ : p_M} {r : Nat × Int32 × p_M} (h : F_X12_tank v0 v1 μ = some r) (hQ : Q (tI r)) : p_Ev X (d + 1) M_X12_tank 0 [.ref v0, .int v1] [] μ Q := by
  unfold F_X12_tank at h
  refine e_iload_n dX12_tank_0 rfl ?_
  refine e_iconst (v := (1 : Int32)) dX12_tank_1 rfl ?_
  refine e_sipush (v := (1000 : Int32)) dX12_tank_2 rfl ?_
  obtain ⟨q1, hq1, h⟩ := p_bd h
  refine f_cSi dX12_tank_5 rfl rfl rfl rfl (fun Q' hQ' => E_X12_within hq1 hQ') ?_
  obtain ⟨q2, hq2, h⟩ := p_bd h
  refine f_tSv dX12_tank_8 rfl rfl rfl rfl (by decide) rfl (fun Q' hQ' => E_X12_need hq2 hQ') (fun hc => ?_) (fun hc => ?_)
  · rw [if_pos hc] at h
    refine e_aload_n dX12_tank_11 rfl ?_
    obtain ⟨h3, h⟩ := p_ok_some h
    obtain ⟨q4, hq4, h⟩ := p_bd h
    refine e_getR dX12_tank_12 rfl rfl h3.1 h3.2 hq4 ?_
    obtain ⟨h5, h⟩ := p_ok_some h
    refine e_getI dX12_tank_15 rfl rfl h5.1 h5.2 ?_
    refine e_iconst (v := (5 : Int32)) dX12_tank_18 rfl ?_
    obtain ⟨q6, hq6, h⟩ := p_bd h
    refine f_tSv dX12_tank_19 rfl rfl rfl rfl (by decide) rfl (fun Q' hQ' => E_X12_needRoom hq6 hQ') (fun hc => ?_) (fun hc => ?_)
    · rw [if_pos hc] at h
      refine e_aload_n dX12_tank_22 rfl ?_
      obtain ⟨h7, h⟩ := p_ok_some h
      obtain ⟨q8, hq8, h⟩ := p_bd h
      refine e_getR dX12_tank_23 rfl rfl h7.1 h7.2 hq8 ?_
      refine e_iload_n dX12_tank_26 rfl ?_
      obtain ⟨h10, h⟩ := p_ok_some h
      obtain ⟨q9, hq9, h⟩ := p_bd h
      refine f_cVi dX12_tank_27 rfl rfl ⟨rfl, rfl, by decide⟩ rfl h10 (fun Q' hQ' => E_X11_add hq9 hQ') ?_
      cases h
      exact e_ireti dX12_tank_30 rfl hQ
    · rw [if_neg hc] at h
      cases h
      exact tI_E hc hQ
  · rw [if_neg hc] at h
    cases h
    exact tI_E hc hQ
/-! L_tank -/
def F_L_tank (v0 : Nat) (v1 : Int32) (v2 : Nat) (μ : p_M) : Option (Int32 × p_M) :=
  p_ok (mK μ v0 = 13 ∧ v0 < mN μ)
  ((F_X12_tank v0 v1 μ).bind fun q1 =>
  if q1.1 = 0
  then (p_ok (mK q1.2.2 v2 = 22 ∧ ¬ (0 : Int32) < 0 ∧ (0 : Int32).toNatClampNeg < mL q1.2.2 v2 ∧ v2 < mN q1.2.2)
    (p_let (sJ q1.2.2 v2 (0 : Int32).toNatClampNeg q1.2.1.toInt64) fun m4 =>
    some ((0 : Int32), m4)))
  else if q1.1 = 1 then (some ((1 : Int32), q1.2.2))
  else if q1.1 = 2 then (some ((2 : Int32), q1.2.2))
  else none)
theorem E_L_tank {X : p_X} {d : Nat} {Q : p_R → Prop} {v0 : Nat} {v1 : Int32} {v2 : Nat} {μ : p_M} {r : Int32 × p_M} (h : F_L_tank v0 v1 v2 μ = some r) (hQ : Q ((0, some (.int r.1)), r.2)) : p_Ev X (d + 2) M_L_tank 0 [.ref v0, .int v1, .ref v2, .double 0] [] μ Q := by
  unfold F_L_tank at h
  refine e_aload_n dL_tank_0 rfl ?_
  refine e_iconst (v := (0 : Int32)) dL_tank_1 rfl ?_
  refine e_aload_n dL_tank_2 rfl ?_
  refine e_iload_n dL_tank_3 rfl ?_
  obtain ⟨h2, h⟩ := p_ok_some h
  obtain ⟨q1, hq1, h⟩ := p_bd h
  refine f_hVi dL_tank_4 rfl rfl ⟨rfl, rfl, by decide⟩ rfl h2 (by decide) (fun Q' hQ' => E_X12_tank hq1 hQ') (fun hc => ?_) (fun hc => ?_)
  · rw [if_pos hc] at h
    refine e_i2l dL_tank_7 ?_
    obtain ⟨h3, h⟩ := p_ok_some h
    replace h := p_lt h
    refine e_laS dL_tank_8 h3 ?_
    refine e_goto dL_tank_9 18 (by decide) ?_
    refine e_iconst (v := (0 : Int32)) dL_tank_18 rfl ?_
    cases h
    exact e_ireti dL_tank_19 rfl hQ
  · rw [if_neg hc] at h
    by_cases hc : q1.1 = 1
    · rw [if_pos hc] at h
      refine ⟨12, by rw [hc]; rfl, ?_⟩
      refine e_astZ_n dL_tank_12 (Nat.le_of_ble_eq_true rfl) rfl ?_
      refine e_iconst (v := (1 : Int32)) dL_tank_13 rfl ?_
      cases h
      exact e_ireti dL_tank_14 rfl hQ
    rw [if_neg hc] at h
    by_cases hc : q1.1 = 2
    · rw [if_pos hc] at h
      refine ⟨15, by rw [hc]; rfl, ?_⟩
      refine e_astZ_n dL_tank_15 (Nat.le_of_ble_eq_true rfl) rfl ?_
      refine e_iconst (v := (2 : Int32)) dL_tank_16 rfl ?_
      cases h
      exact e_ireti dL_tank_17 rfl hQ
    rw [if_neg hc] at h
    cases h
/-! X12_tells -/
def F_X12_tells (v0 : Nat) (v1 : Int32) (μ : p_M) : Option (Nat × Int32 × p_M) :=
  (F_X12_needWhat v1 (17 : Int32) μ).bind fun q1 =>
  if q1.1 = 0
  then (p_ok (mK q1.2.2 v0 = 13 ∧ v0 < mN q1.2.2)
    ((mR q1.2.2 v0 5).bind fun q3 =>
    p_ok (mK q1.2.2 q3 = 2 ∧ q3 < mN q1.2.2)
    ((F_X1_value q3 v1 q1.2.2).bind fun q4 =>
    some (0, q4.1, q4.2))))
  else (some (q1.1, 0, q1.2.2))
theorem E_X12_tells {X : p_X} {d : Nat} {Q : p_R → Prop} {v0 : Nat} {v1 : Int32} {μ : p_M} {r : Nat × Int32 × p_M} (h : F_X12_tells v0 v1 μ = some r) (hQ : Q (tI r)) : p_Ev X (d + 1) M_X12_tells 0 [.ref v0, .int v1] [] μ Q := by
  unfold F_X12_tells at h
  refine e_iload_n dX12_tells_0 rfl ?_
  refine e_bipush (v := (17 : Int32)) dX12_tells_1 rfl ?_
  obtain ⟨q1, hq1, h⟩ := p_bd h
  refine f_tSv dX12_tells_3 rfl rfl rfl rfl (by decide) rfl (fun Q' hQ' => E_X12_needWhat hq1 hQ') (fun hc => ?_) (fun hc => ?_)
  · rw [if_pos hc] at h
    refine e_aload_n dX12_tells_6 rfl ?_
    obtain ⟨h2, h⟩ := p_ok_some h
    obtain ⟨q3, hq3, h⟩ := p_bd h
    refine e_getR dX12_tells_7 rfl rfl h2.1 h2.2 hq3 ?_
    refine e_iload_n dX12_tells_10 rfl ?_
    obtain ⟨h5, h⟩ := p_ok_some h
    obtain ⟨q4, hq4, h⟩ := p_bd h
    refine f_cVi dX12_tells_11 rfl rfl ⟨rfl, rfl, by decide⟩ rfl h5 (fun Q' hQ' => E_X1_value hq4 hQ') ?_
    cases h
    exact e_ireti dX12_tells_14 rfl hQ
  · rw [if_neg hc] at h
    cases h
    exact tI_E hc hQ
/-! L_tells -/
def F_L_tells (v0 : Nat) (v1 : Int32) (v2 : Nat) (μ : p_M) : Option (Int32 × p_M) :=
  p_ok (mK μ v0 = 13 ∧ v0 < mN μ)
  ((F_X12_tells v0 v1 μ).bind fun q1 =>
  if q1.1 = 0
  then (p_ok (mK q1.2.2 v2 = 22 ∧ ¬ (0 : Int32) < 0 ∧ (0 : Int32).toNatClampNeg < mL q1.2.2 v2 ∧ v2 < mN q1.2.2)
    (p_let (sJ q1.2.2 v2 (0 : Int32).toNatClampNeg q1.2.1.toInt64) fun m4 =>
    some ((0 : Int32), m4)))
  else if q1.1 = 4 then (some ((1 : Int32), q1.2.2))
  else none)
theorem E_L_tells {X : p_X} {d : Nat} {Q : p_R → Prop} {v0 : Nat} {v1 : Int32} {v2 : Nat} {μ : p_M} {r : Int32 × p_M} (h : F_L_tells v0 v1 v2 μ = some r) (hQ : Q ((0, some (.int r.1)), r.2)) : p_Ev X (d + 2) M_L_tells 0 [.ref v0, .int v1, .ref v2, .double 0] [] μ Q := by
  unfold F_L_tells at h
  refine e_aload_n dL_tells_0 rfl ?_
  refine e_iconst (v := (0 : Int32)) dL_tells_1 rfl ?_
  refine e_aload_n dL_tells_2 rfl ?_
  refine e_iload_n dL_tells_3 rfl ?_
  obtain ⟨h2, h⟩ := p_ok_some h
  obtain ⟨q1, hq1, h⟩ := p_bd h
  refine f_hVi dL_tells_4 rfl rfl ⟨rfl, rfl, by decide⟩ rfl h2 (by decide) (fun Q' hQ' => E_X12_tells hq1 hQ') (fun hc => ?_) (fun hc => ?_)
  · rw [if_pos hc] at h
    refine e_i2l dL_tells_7 ?_
    obtain ⟨h3, h⟩ := p_ok_some h
    replace h := p_lt h
    refine e_laS dL_tells_8 h3 ?_
    refine e_goto dL_tells_9 15 (by decide) ?_
    refine e_iconst (v := (0 : Int32)) dL_tells_15 rfl ?_
    cases h
    exact e_ireti dL_tells_16 rfl hQ
  · rw [if_neg hc] at h
    by_cases hc : q1.1 = 4
    · rw [if_pos hc] at h
      refine ⟨12, by rw [hc]; rfl, ?_⟩
      refine e_astZ_n dL_tells_12 (Nat.le_of_ble_eq_true rfl) rfl ?_
      refine e_iconst (v := (1 : Int32)) dL_tells_13 rfl ?_
      cases h
      exact e_ireti dL_tells_14 rfl hQ
    rw [if_neg hc] at h
    cases h
/-! X12_works -/
def F_X12_works (v0 : Nat) (v1 : Int32) (v2 : Int32) (μ : p_M) : Option (Nat × Int32 × p_M) :=
  p_ok (mK μ v0 = 13 ∧ v0 < mN μ)
  ((F_X12_needIndex v1 (mI μ v0 13) μ).bind fun q2 =>
  if q2.1 = 0
  then ((F_X12_needWhat v2 (4 : Int32) q2.2.2).bind fun q3 =>
    if q3.1 = 0
    then (p_ok (mK q3.2.2 v0 = 13 ∧ v0 < mN q3.2.2)
      ((mR q3.2.2 v0 12).bind fun q5 =>
      p_ok (23 ≤ mK q3.2.2 q5 ∧ mK q3.2.2 q5 ≤ 26 ∧ ¬ v1 < 0 ∧ v1.toNatClampNeg < mL q3.2.2 q5 ∧ q5 < mN q3.2.2)
      ((mR q3.2.2 q5 v1.toNatClampNeg).bind fun q7 =>
      if v2.toInt < 0 ∨ 3 < v2.toInt then (p_ok (mK q3.2.2 q7 = 6 ∧ q7 < mN q3.2.2)
        (some (0, (mI q3.2.2 q7 5), q3.2.2)))
      else if v2 = 0 then (p_ok (mK q3.2.2 q7 = 6 ∧ q7 < mN q3.2.2)
        (some (0, (mI q3.2.2 q7 0), q3.2.2)))
      else if v2 = 1 then (p_ok (mK q3.2.2 q7 = 6 ∧ q7 < mN q3.2.2)
        (some (0, (mI q3.2.2 q7 3), q3.2.2)))
      else if v2 = 2 then (p_ok (mK q3.2.2 q7 = 6 ∧ q7 < mN q3.2.2)
        (some (0, (mI q3.2.2 q7 2), q3.2.2)))
      else if v2 = 3 then (p_ok (mK q3.2.2 q7 = 6 ∧ q7 < mN q3.2.2)
        (some (0, (mI q3.2.2 q7 4), q3.2.2)))
      else none)))
    else (some (q3.1, 0, q3.2.2)))
  else (some (q2.1, 0, q2.2.2)))
theorem E_X12_works {X : p_X} {d : Nat} {Q : p_R → Prop} {v0 : Nat} {v1 : Int32} {v2 : Int32} {μ : p_M} {r : Nat × Int32 × p_M} (h : F_X12_works v0 v1 v2 μ = some r) (hQ : Q (tI r)) : p_Ev X (d + 1) M_X12_works 0 [.ref v0, .int v1, .int v2, .double 0] [] μ Q := by
  unfold F_X12_works at h
  refine e_iload_n dX12_works_0 rfl ?_
  refine e_aload_n dX12_works_1 rfl ?_
  obtain ⟨h1, h⟩ := p_ok_some h
  refine e_getI dX12_works_2 rfl rfl h1.1 h1.2 ?_
  obtain ⟨q2, hq2, h⟩ := p_bd h
  refine f_tSv dX12_works_5 rfl rfl rfl rfl (by decide) rfl (fun Q' hQ' => E_X12_needIndex hq2 hQ') (fun hc => ?_) (fun hc => ?_)
  · rw [if_pos hc] at h
    refine e_iload_n dX12_works_8 rfl ?_
    refine e_iconst (v := (4 : Int32)) dX12_works_9 rfl ?_
    obtain ⟨q3, hq3, h⟩ := p_bd h
    refine f_tSv dX12_works_10 rfl rfl rfl rfl (by decide) rfl (fun Q' hQ' => E_X12_needWhat hq3 hQ') (fun hc => ?_) (fun hc => ?_)
    · rw [if_pos hc] at h
      refine e_aload_n dX12_works_13 rfl ?_
      obtain ⟨h4, h⟩ := p_ok_some h
      obtain ⟨q5, hq5, h⟩ := p_bd h
      refine e_getR dX12_works_14 rfl rfl h4.1 h4.2 hq5 ?_
      refine e_iload_n dX12_works_17 rfl ?_
      obtain ⟨h6, h⟩ := p_ok_some h
      obtain ⟨q7, hq7, h⟩ := p_bd h
      refine e_aald dX12_works_18 h6 hq7 ?_
      refine e_astore_n dX12_works_19 (Nat.le_of_ble_eq_true rfl) rfl ?_
      refine e_iload_n dX12_works_20 rfl ?_
      by_cases hc : v2.toInt < 0 ∨ 3 < v2.toInt
      · rw [if_pos hc] at h
        refine e_swD dX12_works_21 hc 72 (by decide) ?_
        refine e_aload_n dX12_works_72 rfl ?_
        obtain ⟨h12, h⟩ := p_ok_some h
        refine e_getI dX12_works_73 rfl rfl h12.1 h12.2 ?_
        cases h
        exact e_ireti dX12_works_76 rfl hQ
      rw [if_neg hc] at h
      by_cases hc : v2 = 0
      · rw [if_pos hc] at h
        refine e_swK (v := 0) dX12_works_21 hc (by decide) rfl 52 (by decide) ?_
        refine e_aload_n dX12_works_52 rfl ?_
        obtain ⟨h8, h⟩ := p_ok_some h
        refine e_getI dX12_works_53 rfl rfl h8.1 h8.2 ?_
        cases h
        exact e_ireti dX12_works_56 rfl hQ
      rw [if_neg hc] at h
      by_cases hc : v2 = 1
      · rw [if_pos hc] at h
        refine e_swK (v := 1) dX12_works_21 hc (by decide) rfl 57 (by decide) ?_
        refine e_aload_n dX12_works_57 rfl ?_
        obtain ⟨h9, h⟩ := p_ok_some h
        refine e_getI dX12_works_58 rfl rfl h9.1 h9.2 ?_
        cases h
        exact e_ireti dX12_works_61 rfl hQ
      rw [if_neg hc] at h
      by_cases hc : v2 = 2
      · rw [if_pos hc] at h
        refine e_swK (v := 2) dX12_works_21 hc (by decide) rfl 62 (by decide) ?_
        refine e_aload_n dX12_works_62 rfl ?_
        obtain ⟨h10, h⟩ := p_ok_some h
        refine e_getI dX12_works_63 rfl rfl h10.1 h10.2 ?_
        cases h
        exact e_ireti dX12_works_66 rfl hQ
      rw [if_neg hc] at h
      by_cases hc : v2 = 3
      · rw [if_pos hc] at h
        refine e_swK (v := 3) dX12_works_21 hc (by decide) rfl 67 (by decide) ?_
        refine e_aload_n dX12_works_67 rfl ?_
        obtain ⟨h11, h⟩ := p_ok_some h
        refine e_getI dX12_works_68 rfl rfl h11.1 h11.2 ?_
        cases h
        exact e_ireti dX12_works_71 rfl hQ
      rw [if_neg hc] at h
      cases h
    · rw [if_neg hc] at h
      cases h
      exact tI_E hc hQ
  · rw [if_neg hc] at h
    cases h
    exact tI_E hc hQ
/-! L_works -/
def F_L_works (v0 : Nat) (v1 : Int32) (v2 : Int32) (v3 : Nat) (μ : p_M) : Option (Int32 × p_M) :=
  p_ok (mK μ v0 = 13 ∧ v0 < mN μ)
  ((F_X12_works v0 v1 v2 μ).bind fun q1 =>
  if q1.1 = 0
  then (p_ok (mK q1.2.2 v3 = 22 ∧ ¬ (0 : Int32) < 0 ∧ (0 : Int32).toNatClampNeg < mL q1.2.2 v3 ∧ v3 < mN q1.2.2)
    (p_let (sJ q1.2.2 v3 (0 : Int32).toNatClampNeg q1.2.1.toInt64) fun m4 =>
    some ((0 : Int32), m4)))
  else if q1.1 = 3 then (some ((1 : Int32), q1.2.2))
  else if q1.1 = 4 then (some ((2 : Int32), q1.2.2))
  else none)
theorem E_L_works {X : p_X} {d : Nat} {Q : p_R → Prop} {v0 : Nat} {v1 : Int32} {v2 : Int32} {v3 : Nat} {μ : p_M} {r : Int32 × p_M} (h : F_L_works v0 v1 v2 v3 μ = some r) (hQ : Q ((0, some (.int r.1)), r.2)) : p_Ev X (d + 2) M_L_works 0 [.ref v0, .int v1, .int v2, .ref v3, .double 0] [] μ Q := by
  unfold F_L_works at h
  refine e_aload_n dL_works_0 rfl ?_
  refine e_iconst (v := (0 : Int32)) dL_works_1 rfl ?_
  refine e_aload_n dL_works_2 rfl ?_
  refine e_iload_n dL_works_3 rfl ?_
  refine e_iload_n dL_works_4 rfl ?_
  obtain ⟨h2, h⟩ := p_ok_some h
  obtain ⟨q1, hq1, h⟩ := p_bd h
  refine f_hVi dL_works_5 rfl rfl ⟨rfl, rfl, by decide⟩ rfl h2 (by decide) (fun Q' hQ' => E_X12_works hq1 hQ') (fun hc => ?_) (fun hc => ?_)
  · rw [if_pos hc] at h
    refine e_i2l dL_works_8 ?_
    obtain ⟨h3, h⟩ := p_ok_some h
    replace h := p_lt h
    refine e_laS dL_works_9 h3 ?_
    refine e_goto dL_works_10 21 (by decide) ?_
    refine e_iconst (v := (0 : Int32)) dL_works_21 rfl ?_
    cases h
    exact e_ireti dL_works_22 rfl hQ
  · rw [if_neg hc] at h
    by_cases hc : q1.1 = 3
    · rw [if_pos hc] at h
      refine ⟨13, by rw [hc]; rfl, ?_⟩
      refine e_astZ dL_works_13 (Nat.le_of_ble_eq_true rfl) rfl ?_
      refine e_iconst (v := (1 : Int32)) dL_works_15 rfl ?_
      cases h
      exact e_ireti dL_works_16 rfl hQ
    rw [if_neg hc] at h
    by_cases hc : q1.1 = 4
    · rw [if_pos hc] at h
      refine ⟨17, by rw [hc]; rfl, ?_⟩
      refine e_astZ dL_works_17 (Nat.le_of_ble_eq_true rfl) rfl ?_
      refine e_iconst (v := (2 : Int32)) dL_works_19 rfl ?_
      cases h
      exact e_ireti dL_works_20 rfl hQ
    rw [if_neg hc] at h
    cases h
/-! X0_init -/
def F_X0_init (v0 : Nat) (μ : p_M) : Option (Int32 × p_M) :=
  p_ok (v0 < mN μ ∧ mK μ v0 < 15)
  (p_ok (¬ ((40 : Int32) < 0 ∨ 100000 < (40 : Int32).toNatClampNeg))
  (p_let (sN μ 20 (40 : Int32).toNatClampNeg (40 : Int32).toNatClampNeg) fun m3 =>
  p_ok (mK m3 v0 = 1 ∧ v0 < mN m3)
  (p_let (sR m3 v0 0 (some (mN μ))) fun m5 =>
  some (0, m5))))
theorem E_X0_init {X : p_X} {d : Nat} {Q : p_R → Prop} {v0 : Nat} {μ : p_M} {r : Int32 × p_M} (h : F_X0_init v0 μ = some r) (hQ : Q ((0, none), r.2)) : p_Ev X (d + 0) M_X0_init 0 [.ref v0] [] μ Q := by
  unfold F_X0_init at h
  refine e_aload_n dX0_init_0 rfl ?_
  obtain ⟨h1, h⟩ := p_ok_some h
  refine e_oinit dX0_init_1 rfl (Nat.le_of_ble_eq_true rfl) h1 ?_
  refine e_aload_n dX0_init_4 rfl ?_
  refine e_bipush (v := (40 : Int32)) dX0_init_5 rfl ?_
  obtain ⟨h2, h⟩ := p_ok_some h
  replace h := p_lt h
  refine e_newI dX0_init_7 h2 ?_
  obtain ⟨h4, h⟩ := p_ok_some h
  replace h := p_lt h
  refine e_putR dX0_init_9 rfl ⟨rfl, (by decide +kernel), (fun h => by cases h)⟩ h4 ?_
  cases h
  exact e_vret dX0_init_12 rfl hQ
/-! X10_append -/
def F_X10_append_c46 (μ : p_M) : Option (Int32 × p_M) :=
  some (0, μ)
theorem E_X10_append_c46 {X : p_X} {d : Nat} {Q : p_R → Prop} {w0 : Value} {w1 : Value} {w2 : Value} {μ : p_M} {r : Int32 × p_M} (h : F_X10_append_c46 μ = some r) (hQ : Q ((0, none), r.2)) : p_Ev X (d + 0) M_X10_append 46 [w0, w1, w2] [] μ Q := by
  unfold F_X10_append_c46 at h
  cases h
  exact e_vret dX10_append_46 rfl hQ
def F_X10_append_c3 : Nat → Nat → Int32 → Int32 → p_M → Option (Int32 × p_M)
  | 0, _, _, _, _ => none
  | n + 1, v0, v1, v2, μ =>
    if v2 < 0
    then (F_X10_append_c46 μ)
    else (p_ok (mK μ v0 = 11 ∧ v0 < mN μ)
      (if (400 : Int32) ≤ (mI μ v0 1)
      then (F_X10_append_c46 μ)
      else ((mR μ v0 0).bind fun q2 =>
        p_ok (q2 < p_E ∧ mK μ q2 = 21 ∧ q2 < mN μ)
        (p_ok (¬ (mI μ v0 1) < 0 ∧ (mI μ v0 1).toNatClampNeg < mL μ q2)
        (p_let (sI μ q2 (mI μ v0 1).toNatClampNeg ((v1.toUInt32 >>> (v2.toUInt32 &&& Int32.toUInt32 31)).toInt32).toInt8.toInt32.toInt8.toInt32) fun m5 =>
        p_let (sI m5 v0 1 ((mI m5 v0 1) + (1 : Int32))) fun m6 =>
        F_X10_append_c3 n v0 v1 (v2 + (-8)) m6)))))
theorem E_X10_append_c3 {X : p_X} {d : Nat} {Q : p_R → Prop} : ∀ (n : Nat) (v0 : Nat) (v1 : Int32) (v2 : Int32) (μ : p_M) (r : Int32 × p_M), F_X10_append_c3 n v0 v1 v2 μ = some r → Q ((0, none), r.2) → p_Ev X (d + 0) M_X10_append 3 [.ref v0, .int v1, .int v2] [] μ Q := by
  intro n
  induction n with
  | zero => intro v0 v1 v2 μ r h hQ; rw [F_X10_append_c3] at h; cases h
  | succ n ih =>
    intro v0 v1 v2 μ r h hQ
    rw [F_X10_append_c3] at h
    refine e_iload_n dX10_append_3 rfl ?_
    refine e_if_lt dX10_append_4 46 (by decide) (fun hc => ?_) (fun hc => ?_)
    · rw [if_pos hc] at h
      exact E_X10_append_c46 h hQ
    · rw [if_neg hc] at h
      refine e_aload_n dX10_append_7 rfl ?_
      obtain ⟨h1, h⟩ := p_ok_some h
      refine e_getI dX10_append_8 rfl rfl h1.1 h1.2 ?_
      refine e_sipush (v := (400 : Int32)) dX10_append_11 rfl ?_
      refine e_ic_ge dX10_append_14 46 (by decide) (fun hc => ?_) (fun hc => ?_)
      · rw [if_pos hc] at h
        exact E_X10_append_c46 h hQ
      · rw [if_neg hc] at h
        refine e_aload_n dX10_append_17 rfl ?_
        obtain ⟨q2, hq2, h⟩ := p_bd h
        refine e_getR dX10_append_18 rfl rfl h1.1 h1.2 hq2 ?_
        refine e_aload_n dX10_append_21 rfl ?_
        refine e_getI dX10_append_22 rfl rfl h1.1 h1.2 ?_
        refine e_iload_n dX10_append_25 rfl ?_
        refine e_iload_n dX10_append_26 rfl ?_
        refine e_iushr dX10_append_27 ?_
        refine e_i2b dX10_append_28 ?_
        obtain ⟨h3, h⟩ := p_ok_some h
        obtain ⟨h4, h⟩ := p_ok_some h
        replace h := p_lt h
        refine e_baS dX10_append_29 h3 h4 ?_
        refine e_aload_n dX10_append_30 rfl ?_
        refine e_dupR dX10_append_31 ?_
        refine e_getI dX10_append_32 rfl rfl h1.1 h1.2 ?_
        refine e_iconst (v := (1 : Int32)) dX10_append_35 rfl ?_
        refine e_iadd dX10_append_36 ?_
        replace h := p_lt h
        refine e_putI dX10_append_37 rfl ⟨rfl, rfl, (fun h => by cases h)⟩ (fun h => by cases h) h1.1 h1.2 ?_
        refine e_iinc (v := (-8)) dX10_append_40 rfl rfl rfl ?_
        refine e_goto dX10_append_43 3 (by decide) ?_
        exact ih _ _ _ _ _ h hQ
def F_X10_append (v0 : Nat) (v1 : Int32) (μ : p_M) : Option (Int32 × p_M) :=
  F_X10_append_c3 p_fu v0 v1 (24 : Int32) μ
theorem E_X10_append {X : p_X} {d : Nat} {Q : p_R → Prop} {v0 : Nat} {v1 : Int32} {μ : p_M} {r : Int32 × p_M} (h : F_X10_append v0 v1 μ = some r) (hQ : Q ((0, none), r.2)) : p_Ev X (d + 0) M_X10_append 0 [.ref v0, .int v1, .double 0] [] μ Q := by
  unfold F_X10_append at h
  refine e_bipush (v := (24 : Int32)) dX10_append_0 rfl ?_
  refine e_istore_n dX10_append_2 (Nat.le_of_ble_eq_true rfl) rfl ?_
  exact E_X10_append_c3 p_fu _ _ _ _ _ h hQ
/-! X10_hasRoom -/
def F_X10_hasRoom_c18 (s0 : Int32) (μ : p_M) : Option (Int32 × p_M) :=
  p_ok (s0 = 0 ∨ s0 = 1)
  (some (s0, μ))
theorem E_X10_hasRoom_c18 {X : p_X} {d : Nat} {Q : p_R → Prop} {s0 : Int32} {w0 : Value} {μ : p_M} {r : Int32 × p_M} (h : F_X10_hasRoom_c18 s0 μ = some r) (hQ : Q ((0, some (.int r.1)), r.2)) : p_Ev X (d + 0) M_X10_hasRoom 18 [w0] [.int s0] μ Q := by
  unfold F_X10_hasRoom_c18 at h
  obtain ⟨h2, h⟩ := p_ok_some h
  cases h
  exact e_iretz dX10_hasRoom_18 rfl h2 hQ
def F_X10_hasRoom (v0 : Nat) (μ : p_M) : Option (Int32 × p_M) :=
  p_ok (mK μ v0 = 11 ∧ v0 < mN μ)
  (if (400 : Int32) < ((mI μ v0 1) + (20 : Int32))
  then (F_X10_hasRoom_c18 (0 : Int32) μ)
  else (F_X10_hasRoom_c18 (1 : Int32) μ))
theorem E_X10_hasRoom {X : p_X} {d : Nat} {Q : p_R → Prop} {v0 : Nat} {μ : p_M} {r : Int32 × p_M} (h : F_X10_hasRoom v0 μ = some r) (hQ : Q ((0, some (.int r.1)), r.2)) : p_Ev X (d + 0) M_X10_hasRoom 0 [.ref v0] [] μ Q := by
  unfold F_X10_hasRoom at h
  refine e_aload_n dX10_hasRoom_0 rfl ?_
  obtain ⟨h1, h⟩ := p_ok_some h
  refine e_getI dX10_hasRoom_1 rfl rfl h1.1 h1.2 ?_
  refine e_bipush (v := (20 : Int32)) dX10_hasRoom_4 rfl ?_
  refine e_iadd dX10_hasRoom_6 ?_
  refine e_sipush (v := (400 : Int32)) dX10_hasRoom_7 rfl ?_
  refine e_ic_gt dX10_hasRoom_10 17 (by decide) (fun hc => ?_) (fun hc => ?_)
  · rw [if_pos hc] at h
    refine e_iconst (v := (0 : Int32)) dX10_hasRoom_17 rfl ?_
    exact E_X10_hasRoom_c18 h hQ
  · rw [if_neg hc] at h
    refine e_iconst (v := (1 : Int32)) dX10_hasRoom_13 rfl ?_
    refine e_goto dX10_hasRoom_14 18 (by decide) ?_
    exact E_X10_hasRoom_c18 h hQ
/-! X10_init -/
def F_X10_init (v0 : Nat) (μ : p_M) : Option (Int32 × p_M) :=
  p_ok (v0 < mN μ ∧ mK μ v0 < 15)
  (p_ok (¬ ((400 : Int32) < 0 ∨ 100000 < (400 : Int32).toNatClampNeg))
  (p_let (sN μ 21 (400 : Int32).toNatClampNeg (400 : Int32).toNatClampNeg) fun m3 =>
  p_ok (mK m3 v0 = 11 ∧ v0 < mN m3)
  (p_let (sR m3 v0 0 (some (mN μ))) fun m5 =>
  p_let (sI m5 v0 3 (-1)) fun m6 =>
  some (0, m6))))
theorem E_X10_init {X : p_X} {d : Nat} {Q : p_R → Prop} {v0 : Nat} {μ : p_M} {r : Int32 × p_M} (h : F_X10_init v0 μ = some r) (hQ : Q ((0, none), r.2)) : p_Ev X (d + 0) M_X10_init 0 [.ref v0] [] μ Q := by
  unfold F_X10_init at h
  refine e_aload_n dX10_init_0 rfl ?_
  obtain ⟨h1, h⟩ := p_ok_some h
  refine e_oinit dX10_init_1 rfl (Nat.le_of_ble_eq_true rfl) h1 ?_
  refine e_aload_n dX10_init_4 rfl ?_
  refine e_sipush (v := (400 : Int32)) dX10_init_5 rfl ?_
  obtain ⟨h2, h⟩ := p_ok_some h
  replace h := p_lt h
  refine e_newB dX10_init_8 h2 ?_
  obtain ⟨h4, h⟩ := p_ok_some h
  replace h := p_lt h
  refine e_putR dX10_init_10 rfl ⟨rfl, (by decide +kernel), (fun h => by cases h)⟩ h4 ?_
  refine e_aload_n dX10_init_13 rfl ?_
  refine e_iconst (v := (-1)) dX10_init_14 rfl ?_
  replace h := p_lt h
  refine e_putI dX10_init_15 rfl ⟨rfl, (by decide +kernel), (fun h => by cases h)⟩ (fun h => by cases h) h4.1 h4.2 ?_
  cases h
  exact e_vret dX10_init_18 rfl hQ
/-! X11_dirtInTanks -/
def F_X11_dirtInTanks_c4 : Nat → Nat → Int32 → Int32 → p_M → Option (Int32 × p_M)
  | 0, _, _, _, _ => none
  | n + 1, v0, v1, v2, μ =>
    p_ok (mK μ v0 = 12 ∧ v0 < mN μ)
    (if (mI μ v0 3) ≤ v2
    then (some (v1, μ))
    else ((mR μ v0 2).bind fun q2 =>
      p_ok (q2 < p_E ∧ mK μ q2 = 20 ∧ q2 < mN μ)
      (p_ok (¬ v2 < 0 ∧ v2.toNatClampNeg < mL μ q2)
      (F_X11_dirtInTanks_c4 n v0 (v1 + (mI μ q2 v2.toNatClampNeg)) (v2 + (1 : Int32)) μ))))
theorem E_X11_dirtInTanks_c4 {X : p_X} {d : Nat} {Q : p_R → Prop} : ∀ (n : Nat) (v0 : Nat) (v1 : Int32) (v2 : Int32) (μ : p_M) (r : Int32 × p_M), F_X11_dirtInTanks_c4 n v0 v1 v2 μ = some r → Q ((0, some (.int r.1)), r.2) → p_Ev X (d + 0) M_X11_dirtInTanks 4 [.ref v0, .int v1, .int v2] [] μ Q := by
  intro n
  induction n with
  | zero => intro v0 v1 v2 μ r h hQ; rw [F_X11_dirtInTanks_c4] at h; cases h
  | succ n ih =>
    intro v0 v1 v2 μ r h hQ
    rw [F_X11_dirtInTanks_c4] at h
    refine e_iload_n dX11_dirtInTanks_4 rfl ?_
    refine e_aload_n dX11_dirtInTanks_5 rfl ?_
    obtain ⟨h1, h⟩ := p_ok_some h
    refine e_getI dX11_dirtInTanks_6 rfl rfl h1.1 h1.2 ?_
    refine e_ic_ge dX11_dirtInTanks_9 27 (by decide) (fun hc => ?_) (fun hc => ?_)
    · rw [if_pos hc] at h
      refine e_iload_n dX11_dirtInTanks_27 rfl ?_
      cases h
      exact e_ireti dX11_dirtInTanks_28 rfl hQ
    · rw [if_neg hc] at h
      refine e_iload_n dX11_dirtInTanks_12 rfl ?_
      refine e_aload_n dX11_dirtInTanks_13 rfl ?_
      obtain ⟨q2, hq2, h⟩ := p_bd h
      refine e_getR dX11_dirtInTanks_14 rfl rfl h1.1 h1.2 hq2 ?_
      refine e_iload_n dX11_dirtInTanks_17 rfl ?_
      obtain ⟨h3, h⟩ := p_ok_some h
      obtain ⟨h4, h⟩ := p_ok_some h
      refine e_iaG dX11_dirtInTanks_18 h3 h4 ?_
      refine e_iadd dX11_dirtInTanks_19 ?_
      refine e_istore_n dX11_dirtInTanks_20 (Nat.le_of_ble_eq_true rfl) rfl ?_
      refine e_iinc (v := (1 : Int32)) dX11_dirtInTanks_21 rfl rfl rfl ?_
      refine e_goto dX11_dirtInTanks_24 4 (by decide) ?_
      exact ih _ _ _ _ _ h hQ
def F_X11_dirtInTanks (v0 : Nat) (μ : p_M) : Option (Int32 × p_M) :=
  F_X11_dirtInTanks_c4 p_fu v0 (0 : Int32) (0 : Int32) μ
theorem E_X11_dirtInTanks {X : p_X} {d : Nat} {Q : p_R → Prop} {v0 : Nat} {μ : p_M} {r : Int32 × p_M} (h : F_X11_dirtInTanks v0 μ = some r) (hQ : Q ((0, some (.int r.1)), r.2)) : p_Ev X (d + 0) M_X11_dirtInTanks 0 [.ref v0, .double 0, .double 0] [] μ Q := by
  unfold F_X11_dirtInTanks at h
  refine e_iconst (v := (0 : Int32)) dX11_dirtInTanks_0 rfl ?_
  refine e_istore_n dX11_dirtInTanks_1 (Nat.le_of_ble_eq_true rfl) rfl ?_
  refine e_iconst (v := (0 : Int32)) dX11_dirtInTanks_2 rfl ?_
  refine e_istore_n dX11_dirtInTanks_3 (Nat.le_of_ble_eq_true rfl) rfl ?_
  exact E_X11_dirtInTanks_c4 p_fu _ _ _ _ _ h hQ
/-! X11_init -/
def F_X11_init (v0 : Nat) (μ : p_M) : Option (Int32 × p_M) :=
  p_ok (v0 < mN μ ∧ mK μ v0 < 15)
  (p_ok (¬ ((5 : Int32) < 0 ∨ 100000 < (5 : Int32).toNatClampNeg))
  (p_let (sN μ 20 (5 : Int32).toNatClampNeg (5 : Int32).toNatClampNeg) fun m3 =>
  p_ok (mK m3 v0 = 12 ∧ v0 < mN m3)
  (p_let (sR m3 v0 0 (some (mN μ))) fun m5 =>
  p_ok (¬ ((5 : Int32) < 0 ∨ 100000 < (5 : Int32).toNatClampNeg))
  (p_let (sN m5 20 (5 : Int32).toNatClampNeg (5 : Int32).toNatClampNeg) fun m7 =>
  p_ok (mK m7 v0 = 12 ∧ v0 < mN m7)
  (p_let (sR m7 v0 1 (some (mN m5))) fun m9 =>
  p_ok (¬ ((5 : Int32) < 0 ∨ 100000 < (5 : Int32).toNatClampNeg))
  (p_let (sN m9 20 (5 : Int32).toNatClampNeg (5 : Int32).toNatClampNeg) fun m11 =>
  p_ok (mK m11 v0 = 12 ∧ v0 < mN m11)
  (p_let (sR m11 v0 2 (some (mN m9))) fun m13 =>
  some (0, m13))))))))
theorem E_X11_init {X : p_X} {d : Nat} {Q : p_R → Prop} {v0 : Nat} {μ : p_M} {r : Int32 × p_M} (h : F_X11_init v0 μ = some r) (hQ : Q ((0, none), r.2)) : p_Ev X (d + 0) M_X11_init 0 [.ref v0] [] μ Q := by
  unfold F_X11_init at h
  refine e_aload_n dX11_init_0 rfl ?_
  obtain ⟨h1, h⟩ := p_ok_some h
  refine e_oinit dX11_init_1 rfl (Nat.le_of_ble_eq_true rfl) h1 ?_
  refine e_aload_n dX11_init_4 rfl ?_
  refine e_iconst (v := (5 : Int32)) dX11_init_5 rfl ?_
  obtain ⟨h2, h⟩ := p_ok_some h
  replace h := p_lt h
  refine e_newI dX11_init_6 h2 ?_
  obtain ⟨h4, h⟩ := p_ok_some h
  replace h := p_lt h
  refine e_putR dX11_init_8 rfl ⟨rfl, (by decide +kernel), (fun h => by cases h)⟩ h4 ?_
  refine e_aload_n dX11_init_11 rfl ?_
  refine e_iconst (v := (5 : Int32)) dX11_init_12 rfl ?_
  obtain ⟨h6, h⟩ := p_ok_some h
  replace h := p_lt h
  refine e_newI dX11_init_13 h6 ?_
  obtain ⟨h8, h⟩ := p_ok_some h
  replace h := p_lt h
  refine e_putR dX11_init_15 rfl ⟨rfl, (by decide +kernel), (fun h => by cases h)⟩ h8 ?_
  refine e_aload_n dX11_init_18 rfl ?_
  refine e_iconst (v := (5 : Int32)) dX11_init_19 rfl ?_
  obtain ⟨h10, h⟩ := p_ok_some h
  replace h := p_lt h
  refine e_newI dX11_init_20 h10 ?_
  obtain ⟨h12, h⟩ := p_ok_some h
  replace h := p_lt h
  refine e_putR dX11_init_22 rfl ⟨rfl, (by decide +kernel), (fun h => by cases h)⟩ h12 ?_
  cases h
  exact e_vret dX11_init_25 rfl hQ
/-! X12_clear -/
def F_X12_clear (v0 : Nat) (μ : p_M) : Option (Int32 × p_M) :=
  p_ok (mK μ v0 = 13 ∧ v0 < mN μ)
  ((mR μ v0 9).bind fun q2 =>
  p_ok (mK μ q2 = 3 ∧ q2 < mN μ)
  (p_let (sI μ q2 2 (0 : Int32)) fun m4 =>
  some ((mI μ q2 2), m4)))
theorem E_X12_clear {X : p_X} {d : Nat} {Q : p_R → Prop} {v0 : Nat} {μ : p_M} {r : Int32 × p_M} (h : F_X12_clear v0 μ = some r) (hQ : Q ((0, some (.int r.1)), r.2)) : p_Ev X (d + 0) M_X12_clear 0 [.ref v0, .double 0] [] μ Q := by
  unfold F_X12_clear at h
  refine e_aload_n dX12_clear_0 rfl ?_
  obtain ⟨h1, h⟩ := p_ok_some h
  obtain ⟨q2, hq2, h⟩ := p_bd h
  refine e_getR dX12_clear_1 rfl rfl h1.1 h1.2 hq2 ?_
  obtain ⟨h3, h⟩ := p_ok_some h
  refine e_getI dX12_clear_4 rfl rfl h3.1 h3.2 ?_
  refine e_istore_n dX12_clear_7 (Nat.le_of_ble_eq_true rfl) rfl ?_
  refine e_aload_n dX12_clear_8 rfl ?_
  refine e_getR dX12_clear_9 rfl rfl h1.1 h1.2 hq2 ?_
  refine e_iconst (v := (0 : Int32)) dX12_clear_12 rfl ?_
  replace h := p_lt h
  refine e_putI dX12_clear_13 rfl ⟨rfl, rfl, (fun _ => rfl)⟩ (fun h => by cases h) h3.1 h3.2 ?_
  refine e_iload_n dX12_clear_16 rfl ?_
  cases h
  exact e_ireti dX12_clear_17 rfl hQ
/-! X8_price -/
def F_X8_price_c4 : Nat → Nat → Int32 → Int32 → p_M → Option (Int32 × p_M)
  | 0, _, _, _, _ => none
  | n + 1, v0, v1, v2, μ =>
    p_ok (mK μ v0 = 9 ∧ v0 < mN μ)
    (if (mI μ v0 2) ≤ v2
    then (some (v1, μ))
    else ((mR μ v0 0).bind fun q2 =>
      p_ok (q2 < p_E ∧ mK μ q2 = 20 ∧ q2 < mN μ)
      (p_ok (¬ v2 < 0 ∧ v2.toNatClampNeg < mL μ q2)
      ((mR μ v0 1).bind fun q5 =>
      p_ok (q5 < p_E ∧ mK μ q5 = 20 ∧ q5 < mN μ)
      (p_ok (¬ v2 < 0 ∧ v2.toNatClampNeg < mL μ q5)
      ((F_X8_priceOf (mI μ q2 v2.toNatClampNeg) (mI μ q5 v2.toNatClampNeg) μ).bind fun q8 =>
      F_X8_price_c4 n v0 (v1 + q8.1) (v2 + (1 : Int32)) q8.2))))))
theorem E_X8_price_c4 {X : p_X} {d : Nat} {Q : p_R → Prop} : ∀ (n : Nat) (v0 : Nat) (v1 : Int32) (v2 : Int32) (μ : p_M) (r : Int32 × p_M), F_X8_price_c4 n v0 v1 v2 μ = some r → Q ((0, some (.int r.1)), r.2) → p_Ev X (d + 1) M_X8_price 4 [.ref v0, .int v1, .int v2] [] μ Q := by
  intro n
  induction n with
  | zero => intro v0 v1 v2 μ r h hQ; rw [F_X8_price_c4] at h; cases h
  | succ n ih =>
    intro v0 v1 v2 μ r h hQ
    rw [F_X8_price_c4] at h
    refine e_iload_n dX8_price_4 rfl ?_
    refine e_aload_n dX8_price_5 rfl ?_
    obtain ⟨h1, h⟩ := p_ok_some h
    refine e_getI dX8_price_6 rfl rfl h1.1 h1.2 ?_
    refine e_ic_ge dX8_price_9 36 (by decide) (fun hc => ?_) (fun hc => ?_)
    · rw [if_pos hc] at h
      refine e_iload_n dX8_price_36 rfl ?_
      cases h
      exact e_ireti dX8_price_37 rfl hQ
    · rw [if_neg hc] at h
      refine e_iload_n dX8_price_12 rfl ?_
      refine e_aload_n dX8_price_13 rfl ?_
      obtain ⟨q2, hq2, h⟩ := p_bd h
      refine e_getR dX8_price_14 rfl rfl h1.1 h1.2 hq2 ?_
      refine e_iload_n dX8_price_17 rfl ?_
      obtain ⟨h3, h⟩ := p_ok_some h
      obtain ⟨h4, h⟩ := p_ok_some h
      refine e_iaG dX8_price_18 h3 h4 ?_
      refine e_aload_n dX8_price_19 rfl ?_
      obtain ⟨q5, hq5, h⟩ := p_bd h
      refine e_getR dX8_price_20 rfl rfl h1.1 h1.2 hq5 ?_
      refine e_iload_n dX8_price_23 rfl ?_
      obtain ⟨h6, h⟩ := p_ok_some h
      obtain ⟨h7, h⟩ := p_ok_some h
      refine e_iaG dX8_price_24 h6 h7 ?_
      obtain ⟨q8, hq8, h⟩ := p_bd h
      refine f_cSi dX8_price_25 rfl rfl rfl rfl (fun Q' hQ' => E_X8_priceOf hq8 hQ') ?_
      refine e_iadd dX8_price_28 ?_
      refine e_istore_n dX8_price_29 (Nat.le_of_ble_eq_true rfl) rfl ?_
      refine e_iinc (v := (1 : Int32)) dX8_price_30 rfl rfl rfl ?_
      refine e_goto dX8_price_33 4 (by decide) ?_
      exact ih _ _ _ _ _ h hQ
def F_X8_price (v0 : Nat) (μ : p_M) : Option (Int32 × p_M) :=
  F_X8_price_c4 p_fu v0 (0 : Int32) (0 : Int32) μ
theorem E_X8_price {X : p_X} {d : Nat} {Q : p_R → Prop} {v0 : Nat} {μ : p_M} {r : Int32 × p_M} (h : F_X8_price v0 μ = some r) (hQ : Q ((0, some (.int r.1)), r.2)) : p_Ev X (d + 1) M_X8_price 0 [.ref v0, .double 0, .double 0] [] μ Q := by
  unfold F_X8_price at h
  refine e_iconst (v := (0 : Int32)) dX8_price_0 rfl ?_
  refine e_istore_n dX8_price_1 (Nat.le_of_ble_eq_true rfl) rfl ?_
  refine e_iconst (v := (0 : Int32)) dX8_price_2 rfl ?_
  refine e_istore_n dX8_price_3 (Nat.le_of_ble_eq_true rfl) rfl ?_
  exact E_X8_price_c4 p_fu _ _ _ _ _ h hQ
/-! X12_cost -/
def F_X12_cost (v0 : Nat) (μ : p_M) : Option (Int32 × p_M) :=
  p_ok (mK μ v0 = 13 ∧ v0 < mN μ)
  ((mR μ v0 3).bind fun q2 =>
  p_ok (mK μ q2 = 9 ∧ q2 < mN μ)
  ((F_X8_price q2 μ).bind fun q3 =>
  some (q3.1, q3.2)))
theorem E_X12_cost {X : p_X} {d : Nat} {Q : p_R → Prop} {v0 : Nat} {μ : p_M} {r : Int32 × p_M} (h : F_X12_cost v0 μ = some r) (hQ : Q ((0, some (.int r.1)), r.2)) : p_Ev X (d + 2) M_X12_cost 0 [.ref v0] [] μ Q := by
  unfold F_X12_cost at h
  refine e_aload_n dX12_cost_0 rfl ?_
  obtain ⟨h1, h⟩ := p_ok_some h
  obtain ⟨q2, hq2, h⟩ := p_bd h
  refine e_getR dX12_cost_1 rfl rfl h1.1 h1.2 hq2 ?_
  obtain ⟨h4, h⟩ := p_ok_some h
  obtain ⟨q3, hq3, h⟩ := p_bd h
  refine f_cVi dX12_cost_4 rfl rfl ⟨rfl, rfl, by decide⟩ rfl h4 (fun Q' hQ' => E_X8_price hq3 hQ') ?_
  cases h
  exact e_ireti dX12_cost_7 rfl hQ
/-! X12_countWashed -/
def F_X12_countWashed_c36 (K4 : Nat → Int32 → Int32 → p_M → Option (Int32 × p_M)) (v0 : Nat) (v1 : Int32) (v2 : Int32) (μ : p_M) : Option (Int32 × p_M) :=
  K4 v0 v1 (v2 + (1 : Int32)) μ
theorem E_X12_countWashed_c36 {X : p_X} {d : Nat} {Q : p_R → Prop} {K4 : Nat → Int32 → Int32 → p_M → Option (Int32 × p_M)} (hK4 : ∀ (v0 : Nat) (v1 : Int32) (v2 : Int32) (μ : p_M) (r : Int32 × p_M), K4 v0 v1 v2 μ = some r → Q ((0, some (.int r.1)), r.2) → p_Ev X (d + 0) M_X12_countWashed 4 [.ref v0, .int v1, .int v2] [] μ Q) {v0 : Nat} {v1 : Int32} {v2 : Int32} {μ : p_M} {r : Int32 × p_M} (h : F_X12_countWashed_c36 K4 v0 v1 v2 μ = some r) (hQ : Q ((0, some (.int r.1)), r.2)) : p_Ev X (d + 0) M_X12_countWashed 36 [.ref v0, .int v1, .int v2] [] μ Q := by
  unfold F_X12_countWashed_c36 at h
  refine e_iinc (v := (1 : Int32)) dX12_countWashed_36 rfl rfl rfl ?_
  refine e_goto dX12_countWashed_39 4 (by decide) ?_
  exact hK4 _ _ _ _ _ h hQ
def F_X12_countWashed_c4 : Nat → Nat → Int32 → Int32 → p_M → Option (Int32 × p_M)
  | 0, _, _, _, _ => none
  | n + 1, v0, v1, v2, μ =>
    p_ok (mK μ v0 = 13 ∧ v0 < mN μ)
    ((mR μ v0 14).bind fun q2 =>
    p_ok (q2 < mN μ ∧ mK μ q2 = 0)
    (if (mI μ q2 2) ≤ v2
    then (some (v1, μ))
    else (p_ok (q2 < mN μ ∧ mK μ q2 = 0 ∧ ¬ v2 < 0 ∧ v2 < mI μ q2 2)
      ((mR μ q2 1).bind fun q4 =>
      p_ok (q4 < mN μ ∧ mK μ q4 = 25 ∧ v2.toNatClampNeg < mL μ q4)
      ((mR μ q4 v2.toNatClampNeg).bind fun q5 =>
      p_ok (mK μ q5 = 5 ∧ q5 < mN μ)
      (if ¬ (mI μ q5 9) = (3 : Int32)
      then (F_X12_countWashed_c36 (F_X12_countWashed_c4 n) v0 v1 v2 μ)
      else (F_X12_countWashed_c36 (F_X12_countWashed_c4 n) v0 (v1 + (1 : Int32)) v2 μ)))))))
theorem E_X12_countWashed_c4 {X : p_X} {d : Nat} {Q : p_R → Prop} : ∀ (n : Nat) (v0 : Nat) (v1 : Int32) (v2 : Int32) (μ : p_M) (r : Int32 × p_M), F_X12_countWashed_c4 n v0 v1 v2 μ = some r → Q ((0, some (.int r.1)), r.2) → p_Ev X (d + 0) M_X12_countWashed 4 [.ref v0, .int v1, .int v2] [] μ Q := by
  intro n
  induction n with
  | zero => intro v0 v1 v2 μ r h hQ; rw [F_X12_countWashed_c4] at h; cases h
  | succ n ih =>
    intro v0 v1 v2 μ r h hQ
    rw [F_X12_countWashed_c4] at h
    refine e_iload_n dX12_countWashed_4 rfl ?_
    refine e_aload_n dX12_countWashed_5 rfl ?_
    obtain ⟨h1, h⟩ := p_ok_some h
    obtain ⟨q2, hq2, h⟩ := p_bd h
    refine e_getR dX12_countWashed_6 rfl rfl h1.1 h1.2 hq2 ?_
    obtain ⟨h3, h⟩ := p_ok_some h
    refine e_lsz dX12_countWashed_9 rfl (Nat.le_of_ble_eq_true rfl) h3 ?_
    refine e_ic_ge dX12_countWashed_12 42 (by decide) (fun hc => ?_) (fun hc => ?_)
    · rw [if_pos hc] at h
      refine e_iload_n dX12_countWashed_42 rfl ?_
      cases h
      exact e_ireti dX12_countWashed_43 rfl hQ
    · rw [if_neg hc] at h
      refine e_aload_n dX12_countWashed_15 rfl ?_
      refine e_getR dX12_countWashed_16 rfl rfl h1.1 h1.2 hq2 ?_
      refine e_iload_n dX12_countWashed_19 rfl ?_
      obtain ⟨h6, h⟩ := p_ok_some h
      obtain ⟨q4, hq4, h⟩ := p_bd h
      obtain ⟨h7, h⟩ := p_ok_some h
      obtain ⟨q5, hq5, h⟩ := p_bd h
      refine e_lget dX12_countWashed_20 rfl (Nat.le_of_ble_eq_true rfl) h6 hq4 h7 hq5 ?_
      obtain ⟨h8, h⟩ := p_ok_some h
      refine e_cast dX12_countWashed_23 (Or.inr ⟨rfl, h8⟩) ?_
      refine e_getI dX12_countWashed_26 rfl rfl h8.1 h8.2 ?_
      refine e_iconst (v := (3 : Int32)) dX12_countWashed_29 rfl ?_
      refine e_ic_ne dX12_countWashed_30 36 (by decide) (fun hc => ?_) (fun hc => ?_)
      · rw [if_pos hc] at h
        exact E_X12_countWashed_c36 ih h hQ
      · rw [if_neg hc] at h
        refine e_iinc (v := (1 : Int32)) dX12_countWashed_33 rfl rfl rfl ?_
        exact E_X12_countWashed_c36 ih h hQ
def F_X12_countWashed (v0 : Nat) (μ : p_M) : Option (Int32 × p_M) :=
  F_X12_countWashed_c4 p_fu v0 (0 : Int32) (0 : Int32) μ
theorem E_X12_countWashed {X : p_X} {d : Nat} {Q : p_R → Prop} {v0 : Nat} {μ : p_M} {r : Int32 × p_M} (h : F_X12_countWashed v0 μ = some r) (hQ : Q ((0, some (.int r.1)), r.2)) : p_Ev X (d + 0) M_X12_countWashed 0 [.ref v0, .double 0, .double 0] [] μ Q := by
  unfold F_X12_countWashed at h
  refine e_iconst (v := (0 : Int32)) dX12_countWashed_0 rfl ?_
  refine e_istore_n dX12_countWashed_1 (Nat.le_of_ble_eq_true rfl) rfl ?_
  refine e_iconst (v := (0 : Int32)) dX12_countWashed_2 rfl ?_
  refine e_istore_n dX12_countWashed_3 (Nat.le_of_ble_eq_true rfl) rfl ?_
  exact E_X12_countWashed_c4 p_fu _ _ _ _ _ h hQ
