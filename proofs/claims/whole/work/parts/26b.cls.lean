/-! L_again -/
def F_L_again (v0 : Nat) (v1 : Int32) (v2 : Nat) (μ : p_M) : Option (Int32 × p_M) :=
  p_ok (mK μ v0 = 13 ∧ v0 < mN μ)
  ((F_X12_again v0 v1 μ).bind fun q1 =>
  if q1.1 = 0
  then (p_ok (mK q1.2.2 v2 = 22 ∧ ¬ (0 : Int32) < 0 ∧ (0 : Int32).toNatClampNeg < mL q1.2.2 v2 ∧ v2 < mN q1.2.2)
    (p_let (sJ q1.2.2 v2 (0 : Int32).toNatClampNeg q1.2.1.toInt64) fun m4 =>
    some ((0 : Int32), m4)))
  else if q1.1 = 3 then (some ((1 : Int32), q1.2.2))
  else if q1.1 = 5 then (some ((2 : Int32), q1.2.2))
  else none)
theorem E_L_again {X : p_X} {d : Nat} {Q : p_R → Prop} {v0 : Nat} {v1 : Int32} {v2 : Nat} {μ : p_M} {r : Int32 × p_M} (h : F_L_again v0 v1 v2 μ = some r) (hQ : Q ((0, some (.int r.1)), r.2)) : p_Ev X (d + 4) M_L_again 0 [.ref v0, .int v1, .ref v2, .double 0] [] μ Q := by
  unfold F_L_again at h
  refine e_aload_n dL_again_0 rfl ?_
  refine e_iconst (v := (0 : Int32)) dL_again_1 rfl ?_
  refine e_aload_n dL_again_2 rfl ?_
  refine e_iload_n dL_again_3 rfl ?_
  obtain ⟨h2, h⟩ := p_ok_some h
  obtain ⟨q1, hq1, h⟩ := p_bd h
  refine f_hVi dL_again_4 rfl rfl ⟨rfl, rfl, by decide⟩ rfl h2 (by decide) (fun Q' hQ' => E_X12_again hq1 hQ') (fun hc => ?_) (fun hc => ?_)
  · rw [if_pos hc] at h
    refine e_i2l dL_again_7 ?_
    obtain ⟨h3, h⟩ := p_ok_some h
    replace h := p_lt h
    refine e_laS dL_again_8 h3 ?_
    refine e_goto dL_again_9 18 (by decide) ?_
    refine e_iconst (v := (0 : Int32)) dL_again_18 rfl ?_
    cases h
    exact e_ireti dL_again_19 rfl hQ
  · rw [if_neg hc] at h
    by_cases hc : q1.1 = 3
    · rw [if_pos hc] at h
      refine ⟨12, by rw [hc]; rfl, ?_⟩
      refine e_astZ_n dL_again_12 (Nat.le_of_ble_eq_true rfl) rfl ?_
      refine e_iconst (v := (1 : Int32)) dL_again_13 rfl ?_
      cases h
      exact e_ireti dL_again_14 rfl hQ
    rw [if_neg hc] at h
    by_cases hc : q1.1 = 5
    · rw [if_pos hc] at h
      refine ⟨15, by rw [hc]; rfl, ?_⟩
      refine e_astZ_n dL_again_15 (Nat.le_of_ble_eq_true rfl) rfl ?_
      refine e_iconst (v := (2 : Int32)) dL_again_16 rfl ?_
      cases h
      exact e_ireti dL_again_17 rfl hQ
    rw [if_neg hc] at h
    cases h
/-! X2_addBatch -/
def F_X2_addBatch (v0 : Nat) (v1 : Int32) (μ : p_M) : Option (Int32 × p_M) :=
  p_ok (mK μ v0 = 3 ∧ v0 < mN μ)
  (if (mI μ v0 2) < (9 : Int32)
  then ((mR μ v0 1).bind fun q2 =>
    p_ok (q2 < p_E ∧ mK μ q2 = 20 ∧ q2 < mN μ)
    (p_ok (¬ (mI μ v0 2) < 0 ∧ (mI μ v0 2).toNatClampNeg < mL μ q2)
    (p_let (sI μ q2 (mI μ v0 2).toNatClampNeg v1) fun m5 =>
    p_let (sI m5 v0 2 ((mI m5 v0 2) + (1 : Int32))) fun m6 =>
    some ((mI m6 v0 2), m6))))
  else (some ((-1), μ)))
theorem E_X2_addBatch {X : p_X} {d : Nat} {Q : p_R → Prop} {v0 : Nat} {v1 : Int32} {μ : p_M} {r : Int32 × p_M} (h : F_X2_addBatch v0 v1 μ = some r) (hQ : Q ((0, some (.int r.1)), r.2)) : p_Ev X (d + 0) M_X2_addBatch 0 [.ref v0, .int v1] [] μ Q := by
  unfold F_X2_addBatch at h
  refine e_aload_n dX2_addBatch_0 rfl ?_
  obtain ⟨h1, h⟩ := p_ok_some h
  refine e_getI dX2_addBatch_1 rfl rfl h1.1 h1.2 ?_
  refine e_bipush (v := (9 : Int32)) dX2_addBatch_4 rfl ?_
  refine e_ic_lt dX2_addBatch_6 11 (by decide) (fun hc => ?_) (fun hc => ?_)
  · rw [if_pos hc] at h
    refine e_aload_n dX2_addBatch_11 rfl ?_
    obtain ⟨q2, hq2, h⟩ := p_bd h
    refine e_getR dX2_addBatch_12 rfl rfl h1.1 h1.2 hq2 ?_
    refine e_aload_n dX2_addBatch_15 rfl ?_
    refine e_getI dX2_addBatch_16 rfl rfl h1.1 h1.2 ?_
    refine e_iload_n dX2_addBatch_19 rfl ?_
    obtain ⟨h3, h⟩ := p_ok_some h
    obtain ⟨h4, h⟩ := p_ok_some h
    replace h := p_lt h
    refine e_iaS dX2_addBatch_20 h3 h4 ?_
    refine e_aload_n dX2_addBatch_21 rfl ?_
    refine e_dupR dX2_addBatch_22 ?_
    refine e_getI dX2_addBatch_23 rfl rfl h1.1 h1.2 ?_
    refine e_iconst (v := (1 : Int32)) dX2_addBatch_26 rfl ?_
    refine e_iadd dX2_addBatch_27 ?_
    replace h := p_lt h
    refine e_putI dX2_addBatch_28 rfl ⟨rfl, rfl, (fun h => by cases h)⟩ (fun h => by cases h) h1.1 h1.2 ?_
    refine e_aload_n dX2_addBatch_31 rfl ?_
    refine e_getI dX2_addBatch_32 rfl rfl h1.1 h1.2 ?_
    cases h
    exact e_ireti dX2_addBatch_35 rfl hQ
  · rw [if_neg hc] at h
    refine e_iconst (v := (-1)) dX2_addBatch_9 rfl ?_
    cases h
    exact e_ireti dX2_addBatch_10 rfl hQ
/-! X12_batch -/
def F_X12_batch (v0 : Nat) (v1 : Int32) (μ : p_M) : Option (Nat × Int32 × p_M) :=
  (F_X12_needIndex v1 (6 : Int32) μ).bind fun q1 =>
  if q1.1 = 0
  then (p_ok (mK q1.2.2 v0 = 13 ∧ v0 < mN q1.2.2)
    ((mR q1.2.2 v0 9).bind fun q3 =>
    p_ok (mK q1.2.2 q3 = 3 ∧ q3 < mN q1.2.2)
    ((F_X2_addBatch q3 v1 q1.2.2).bind fun q4 =>
    some (0, q4.1, q4.2))))
  else (some (q1.1, 0, q1.2.2))
theorem E_X12_batch {X : p_X} {d : Nat} {Q : p_R → Prop} {v0 : Nat} {v1 : Int32} {μ : p_M} {r : Nat × Int32 × p_M} (h : F_X12_batch v0 v1 μ = some r) (hQ : Q (tI r)) : p_Ev X (d + 1) M_X12_batch 0 [.ref v0, .int v1] [] μ Q := by
  unfold F_X12_batch at h
  refine e_iload_n dX12_batch_0 rfl ?_
  refine e_bipush (v := (6 : Int32)) dX12_batch_1 rfl ?_
  obtain ⟨q1, hq1, h⟩ := p_bd h
  refine f_tSv dX12_batch_3 rfl rfl rfl rfl (by decide) rfl (fun Q' hQ' => E_X12_needIndex hq1 hQ') (fun hc => ?_) (fun hc => ?_)
  · rw [if_pos hc] at h
    refine e_aload_n dX12_batch_6 rfl ?_
    obtain ⟨h2, h⟩ := p_ok_some h
    obtain ⟨q3, hq3, h⟩ := p_bd h
    refine e_getR dX12_batch_7 rfl rfl h2.1 h2.2 hq3 ?_
    refine e_iload_n dX12_batch_10 rfl ?_
    obtain ⟨h5, h⟩ := p_ok_some h
    obtain ⟨q4, hq4, h⟩ := p_bd h
    refine f_cVi dX12_batch_11 rfl rfl ⟨rfl, rfl, by decide⟩ rfl h5 (fun Q' hQ' => E_X2_addBatch hq4 hQ') ?_
    cases h
    exact e_ireti dX12_batch_14 rfl hQ
  · rw [if_neg hc] at h
    cases h
    exact tI_E hc hQ
/-! L_batch -/
def F_L_batch (v0 : Nat) (v1 : Int32) (v2 : Nat) (μ : p_M) : Option (Int32 × p_M) :=
  p_ok (mK μ v0 = 13 ∧ v0 < mN μ)
  ((F_X12_batch v0 v1 μ).bind fun q1 =>
  if q1.1 = 0
  then (p_ok (mK q1.2.2 v2 = 22 ∧ ¬ (0 : Int32) < 0 ∧ (0 : Int32).toNatClampNeg < mL q1.2.2 v2 ∧ v2 < mN q1.2.2)
    (p_let (sJ q1.2.2 v2 (0 : Int32).toNatClampNeg q1.2.1.toInt64) fun m4 =>
    some ((0 : Int32), m4)))
  else if q1.1 = 3 then (some ((1 : Int32), q1.2.2))
  else none)
theorem E_L_batch {X : p_X} {d : Nat} {Q : p_R → Prop} {v0 : Nat} {v1 : Int32} {v2 : Nat} {μ : p_M} {r : Int32 × p_M} (h : F_L_batch v0 v1 v2 μ = some r) (hQ : Q ((0, some (.int r.1)), r.2)) : p_Ev X (d + 2) M_L_batch 0 [.ref v0, .int v1, .ref v2, .double 0] [] μ Q := by
  unfold F_L_batch at h
  refine e_aload_n dL_batch_0 rfl ?_
  refine e_iconst (v := (0 : Int32)) dL_batch_1 rfl ?_
  refine e_aload_n dL_batch_2 rfl ?_
  refine e_iload_n dL_batch_3 rfl ?_
  obtain ⟨h2, h⟩ := p_ok_some h
  obtain ⟨q1, hq1, h⟩ := p_bd h
  refine f_hVi dL_batch_4 rfl rfl ⟨rfl, rfl, by decide⟩ rfl h2 (by decide) (fun Q' hQ' => E_X12_batch hq1 hQ') (fun hc => ?_) (fun hc => ?_)
  · rw [if_pos hc] at h
    refine e_i2l dL_batch_7 ?_
    obtain ⟨h3, h⟩ := p_ok_some h
    replace h := p_lt h
    refine e_laS dL_batch_8 h3 ?_
    refine e_goto dL_batch_9 15 (by decide) ?_
    refine e_iconst (v := (0 : Int32)) dL_batch_15 rfl ?_
    cases h
    exact e_ireti dL_batch_16 rfl hQ
  · rw [if_neg hc] at h
    by_cases hc : q1.1 = 3
    · rw [if_pos hc] at h
      refine ⟨12, by rw [hc]; rfl, ?_⟩
      refine e_astZ_n dL_batch_12 (Nat.le_of_ble_eq_true rfl) rfl ?_
      refine e_iconst (v := (1 : Int32)) dL_batch_13 rfl ?_
      cases h
      exact e_ireti dL_batch_14 rfl hQ
    rw [if_neg hc] at h
    cases h
/-! X12_need -/
def F_X12_need (v0 : Int32) (μ : p_M) : Option (Nat × Int32 × p_M) :=
  if ¬ v0 = 0
  then (some (0, 0, μ))
  else (some (1, 0, sG μ 1 6))
theorem E_X12_need {X : p_X} {d : Nat} {Q : p_R → Prop} {v0 : Int32} {μ : p_M} {r : Nat × Int32 × p_M} (h : F_X12_need v0 μ = some r) (hQ : Q (tV r)) : p_Ev X (d + 0) M_X12_need 0 [.int v0] [] μ Q := by
  unfold F_X12_need at h
  refine e_iload_n dX12_need_0 rfl ?_
  refine e_if_ne dX12_need_1 15 (by decide) (fun hc => ?_) (fun hc => ?_)
  · rw [if_pos hc] at h
    cases h
    exact e_vret dX12_need_15 rfl hQ
  · rw [if_neg hc] at h
    cases h
    exact e_thr dX12_need_4 rfl rfl rfl dX12_need_7 dX12_need_8 dX12_need_11 dX12_need_14 hQ
/-! X12_within -/
def F_X12_within_c15 (s0 : Int32) (μ : p_M) : Option (Int32 × p_M) :=
  p_ok (s0 = 0 ∨ s0 = 1)
  (some (s0, μ))
theorem E_X12_within_c15 {X : p_X} {d : Nat} {Q : p_R → Prop} {s0 : Int32} {w0 : Value} {w1 : Value} {w2 : Value} {μ : p_M} {r : Int32 × p_M} (h : F_X12_within_c15 s0 μ = some r) (hQ : Q ((0, some (.int r.1)), r.2)) : p_Ev X (d + 0) M_X12_within 15 [w0, w1, w2] [.int s0] μ Q := by
  unfold F_X12_within_c15 at h
  obtain ⟨h1, h⟩ := p_ok_some h
  cases h
  exact e_iretz dX12_within_15 rfl h1 hQ
def F_X12_within_c14 (μ : p_M) : Option (Int32 × p_M) :=
  F_X12_within_c15 (0 : Int32) μ
theorem E_X12_within_c14 {X : p_X} {d : Nat} {Q : p_R → Prop} {w0 : Value} {w1 : Value} {w2 : Value} {μ : p_M} {r : Int32 × p_M} (h : F_X12_within_c14 μ = some r) (hQ : Q ((0, some (.int r.1)), r.2)) : p_Ev X (d + 0) M_X12_within 14 [w0, w1, w2] [] μ Q := by
  unfold F_X12_within_c14 at h
  refine e_iconst (v := (0 : Int32)) dX12_within_14 rfl ?_
  exact E_X12_within_c15 h hQ
def F_X12_within (v0 : Int32) (v1 : Int32) (v2 : Int32) (μ : p_M) : Option (Int32 × p_M) :=
  if v0 < v1
  then (F_X12_within_c14 μ)
  else (if v2 < v0
    then (F_X12_within_c14 μ)
    else (F_X12_within_c15 (1 : Int32) μ))
theorem E_X12_within {X : p_X} {d : Nat} {Q : p_R → Prop} {v0 : Int32} {v1 : Int32} {v2 : Int32} {μ : p_M} {r : Int32 × p_M} (h : F_X12_within v0 v1 v2 μ = some r) (hQ : Q ((0, some (.int r.1)), r.2)) : p_Ev X (d + 0) M_X12_within 0 [.int v0, .int v1, .int v2] [] μ Q := by
  unfold F_X12_within at h
  refine e_iload_n dX12_within_0 rfl ?_
  refine e_iload_n dX12_within_1 rfl ?_
  refine e_ic_lt dX12_within_2 14 (by decide) (fun hc => ?_) (fun hc => ?_)
  · rw [if_pos hc] at h
    exact E_X12_within_c14 h hQ
  · rw [if_neg hc] at h
    refine e_iload_n dX12_within_5 rfl ?_
    refine e_iload_n dX12_within_6 rfl ?_
    refine e_ic_gt dX12_within_7 14 (by decide) (fun hc => ?_) (fun hc => ?_)
    · rw [if_pos hc] at h
      exact E_X12_within_c14 h hQ
    · rw [if_neg hc] at h
      refine e_iconst (v := (1 : Int32)) dX12_within_10 rfl ?_
      refine e_goto dX12_within_11 15 (by decide) ?_
      exact E_X12_within_c15 h hQ
/-! X12_needWish -/
def F_X12_needWish_c33 (s0 : Int32) (μ : p_M) : Option (Nat × Int32 × p_M) :=
  (F_X12_need s0 μ).bind fun q2 =>
  if q2.1 = 0
  then (some (0, 0, q2.2.2))
  else (some (q2.1, 0, q2.2.2))
theorem E_X12_needWish_c33 {X : p_X} {d : Nat} {Q : p_R → Prop} {s0 : Int32} {w0 : Value} {w1 : Value} {w2 : Value} {μ : p_M} {r : Nat × Int32 × p_M} (h : F_X12_needWish_c33 s0 μ = some r) (hQ : Q (tV r)) : p_Ev X (d + 1) M_X12_needWish 33 [w0, w1, w2] [.int s0] μ Q := by
  unfold F_X12_needWish_c33 at h
  obtain ⟨q2, hq2, h⟩ := p_bd h
  refine f_tSv dX12_needWish_33 rfl rfl rfl rfl (by decide) rfl (fun Q' hQ' => E_X12_need hq2 hQ') (fun hc => ?_) (fun hc => ?_)
  · rw [if_pos hc] at h
    cases h
    exact e_vret dX12_needWish_36 rfl hQ
  · rw [if_neg hc] at h
    cases h
    exact hQ
def F_X12_needWish_c32 (μ : p_M) : Option (Nat × Int32 × p_M) :=
  F_X12_needWish_c33 (0 : Int32) μ
theorem E_X12_needWish_c32 {X : p_X} {d : Nat} {Q : p_R → Prop} {w0 : Value} {w1 : Value} {w2 : Value} {μ : p_M} {r : Nat × Int32 × p_M} (h : F_X12_needWish_c32 μ = some r) (hQ : Q (tV r)) : p_Ev X (d + 1) M_X12_needWish 32 [w0, w1, w2] [] μ Q := by
  unfold F_X12_needWish_c32 at h
  refine e_iconst (v := (0 : Int32)) dX12_needWish_32 rfl ?_
  exact E_X12_needWish_c33 h hQ
def F_X12_needWish (v0 : Int32) (v1 : Int32) (v2 : Int32) (μ : p_M) : Option (Nat × Int32 × p_M) :=
  if v0 < (0 : Int32)
  then (F_X12_needWish_c32 μ)
  else (if v1 < v0
    then (F_X12_needWish_c32 μ)
    else (if (255 : Int32) < v1
      then (F_X12_needWish_c32 μ)
      else ((F_X12_within v2 (0 : Int32) (255 : Int32) μ).bind fun q1 =>
        if q1.1 = 0
        then (F_X12_needWish_c32 q1.2)
        else (F_X12_needWish_c33 (1 : Int32) q1.2))))
theorem E_X12_needWish {X : p_X} {d : Nat} {Q : p_R → Prop} {v0 : Int32} {v1 : Int32} {v2 : Int32} {μ : p_M} {r : Nat × Int32 × p_M} (h : F_X12_needWish v0 v1 v2 μ = some r) (hQ : Q (tV r)) : p_Ev X (d + 1) M_X12_needWish 0 [.int v0, .int v1, .int v2] [] μ Q := by
  unfold F_X12_needWish at h
  refine e_iconst (v := (0 : Int32)) dX12_needWish_0 rfl ?_
  refine e_iload_n dX12_needWish_1 rfl ?_
  refine e_ic_gt dX12_needWish_2 32 (by decide) (fun hc => ?_) (fun hc => ?_)
  · rw [if_pos hc] at h
    exact E_X12_needWish_c32 h hQ
  · rw [if_neg hc] at h
    refine e_iload_n dX12_needWish_5 rfl ?_
    refine e_iload_n dX12_needWish_6 rfl ?_
    refine e_ic_gt dX12_needWish_7 32 (by decide) (fun hc => ?_) (fun hc => ?_)
    · rw [if_pos hc] at h
      exact E_X12_needWish_c32 h hQ
    · rw [if_neg hc] at h
      refine e_iload_n dX12_needWish_10 rfl ?_
      refine e_sipush (v := (255 : Int32)) dX12_needWish_11 rfl ?_
      refine e_ic_gt dX12_needWish_14 32 (by decide) (fun hc => ?_) (fun hc => ?_)
      · rw [if_pos hc] at h
        exact E_X12_needWish_c32 h hQ
      · rw [if_neg hc] at h
        refine e_iload_n dX12_needWish_17 rfl ?_
        refine e_iconst (v := (0 : Int32)) dX12_needWish_18 rfl ?_
        refine e_sipush (v := (255 : Int32)) dX12_needWish_19 rfl ?_
        obtain ⟨q1, hq1, h⟩ := p_bd h
        refine f_cSi dX12_needWish_22 rfl rfl rfl rfl (fun Q' hQ' => E_X12_within hq1 hQ') ?_
        refine e_if_eq dX12_needWish_25 32 (by decide) (fun hc => ?_) (fun hc => ?_)
        · rw [if_pos hc] at h
          exact E_X12_needWish_c32 h hQ
        · rw [if_neg hc] at h
          refine e_iconst (v := (1 : Int32)) dX12_needWish_28 rfl ?_
          refine e_goto dX12_needWish_29 33 (by decide) ?_
          exact E_X12_needWish_c33 h hQ
/-! X3_surelyMeets -/
def F_X3_surelyMeets_c36 (s0 : Int32) (μ : p_M) : Option (Int32 × p_M) :=
  p_ok (s0 = 0 ∨ s0 = 1)
  (some (s0, μ))
theorem E_X3_surelyMeets_c36 {X : p_X} {d : Nat} {Q : p_R → Prop} {s0 : Int32} {w0 : Value} {w1 : Value} {w2 : Value} {w3 : Value} {μ : p_M} {r : Int32 × p_M} (h : F_X3_surelyMeets_c36 s0 μ = some r) (hQ : Q ((0, some (.int r.1)), r.2)) : p_Ev X (d + 0) M_X3_surelyMeets 36 [w0, w1, w2, w3] [.int s0] μ Q := by
  unfold F_X3_surelyMeets_c36 at h
  obtain ⟨h2, h⟩ := p_ok_some h
  cases h
  exact e_iretz dX3_surelyMeets_36 rfl h2 hQ
def F_X3_surelyMeets_c35 (μ : p_M) : Option (Int32 × p_M) :=
  F_X3_surelyMeets_c36 (0 : Int32) μ
theorem E_X3_surelyMeets_c35 {X : p_X} {d : Nat} {Q : p_R → Prop} {w0 : Value} {w1 : Value} {w2 : Value} {w3 : Value} {μ : p_M} {r : Int32 × p_M} (h : F_X3_surelyMeets_c35 μ = some r) (hQ : Q ((0, some (.int r.1)), r.2)) : p_Ev X (d + 0) M_X3_surelyMeets 35 [w0, w1, w2, w3] [] μ Q := by
  unfold F_X3_surelyMeets_c35 at h
  refine e_iconst (v := (0 : Int32)) dX3_surelyMeets_35 rfl ?_
  exact E_X3_surelyMeets_c36 h hQ
def F_X3_surelyMeets (v0 : Nat) (v1 : Int32) (v2 : Int32) (v3 : Int32) (μ : p_M) : Option (Int32 × p_M) :=
  p_ok (mK μ v0 = 4 ∧ v0 < mN μ)
  (if (mI μ v0 0) < v1
  then (F_X3_surelyMeets_c35 μ)
  else (if v2 < (mI μ v0 1)
    then (F_X3_surelyMeets_c35 μ)
    else (if (mI μ v0 2) < v3
      then (F_X3_surelyMeets_c35 μ)
      else (if ¬ (mI μ v0 4) = 0
        then (F_X3_surelyMeets_c35 μ)
        else (F_X3_surelyMeets_c36 (1 : Int32) μ)))))
theorem E_X3_surelyMeets {X : p_X} {d : Nat} {Q : p_R → Prop} {v0 : Nat} {v1 : Int32} {v2 : Int32} {v3 : Int32} {μ : p_M} {r : Int32 × p_M} (h : F_X3_surelyMeets v0 v1 v2 v3 μ = some r) (hQ : Q ((0, some (.int r.1)), r.2)) : p_Ev X (d + 0) M_X3_surelyMeets 0 [.ref v0, .int v1, .int v2, .int v3] [] μ Q := by
  unfold F_X3_surelyMeets at h
  refine e_aload_n dX3_surelyMeets_0 rfl ?_
  obtain ⟨h1, h⟩ := p_ok_some h
  refine e_getI dX3_surelyMeets_1 rfl rfl h1.1 h1.2 ?_
  refine e_iload_n dX3_surelyMeets_4 rfl ?_
  refine e_ic_lt dX3_surelyMeets_5 35 (by decide) (fun hc => ?_) (fun hc => ?_)
  · rw [if_pos hc] at h
    exact E_X3_surelyMeets_c35 h hQ
  · rw [if_neg hc] at h
    refine e_aload_n dX3_surelyMeets_8 rfl ?_
    refine e_getI dX3_surelyMeets_9 rfl rfl h1.1 h1.2 ?_
    refine e_iload_n dX3_surelyMeets_12 rfl ?_
    refine e_ic_gt dX3_surelyMeets_13 35 (by decide) (fun hc => ?_) (fun hc => ?_)
    · rw [if_pos hc] at h
      exact E_X3_surelyMeets_c35 h hQ
    · rw [if_neg hc] at h
      refine e_aload_n dX3_surelyMeets_16 rfl ?_
      refine e_getI dX3_surelyMeets_17 rfl rfl h1.1 h1.2 ?_
      refine e_iload_n dX3_surelyMeets_20 rfl ?_
      refine e_ic_lt dX3_surelyMeets_21 35 (by decide) (fun hc => ?_) (fun hc => ?_)
      · rw [if_pos hc] at h
        exact E_X3_surelyMeets_c35 h hQ
      · rw [if_neg hc] at h
        refine e_aload_n dX3_surelyMeets_24 rfl ?_
        refine e_getI dX3_surelyMeets_25 rfl rfl h1.1 h1.2 ?_
        refine e_if_ne dX3_surelyMeets_28 35 (by decide) (fun hc => ?_) (fun hc => ?_)
        · rw [if_pos hc] at h
          exact E_X3_surelyMeets_c35 h hQ
        · rw [if_neg hc] at h
          refine e_iconst (v := (1 : Int32)) dX3_surelyMeets_31 rfl ?_
          refine e_goto dX3_surelyMeets_32 36 (by decide) ?_
          exact E_X3_surelyMeets_c36 h hQ
/-! X3_fade -/
def F_X3_fade (v0 : Nat) (v1 : Int32) (v2 : Int32) (μ : p_M) : Option (Int32 × p_M) :=
  p_ok (mK μ v0 = 4 ∧ v0 < mN μ)
  (p_let (sI μ v0 0 (if (0 : Int32) < ((mI μ v0 0) - v2) then ((mI μ v0 0) - v2) else (0 : Int32))) fun m2 =>
  p_let (sI m2 v0 1 (if (0 : Int32) < ((mI m2 v0 1) - v1) then ((mI m2 v0 1) - v1) else (0 : Int32))) fun m3 =>
  some (0, m3))
theorem E_X3_fade {X : p_X} {d : Nat} {Q : p_R → Prop} {v0 : Nat} {v1 : Int32} {v2 : Int32} {μ : p_M} {r : Int32 × p_M} (h : F_X3_fade v0 v1 v2 μ = some r) (hQ : Q ((0, none), r.2)) : p_Ev X (d + 0) M_X3_fade 0 [.ref v0, .int v1, .int v2] [] μ Q := by
  unfold F_X3_fade at h
  refine e_aload_n dX3_fade_0 rfl ?_
  refine e_iconst (v := (0 : Int32)) dX3_fade_1 rfl ?_
  refine e_aload_n dX3_fade_2 rfl ?_
  obtain ⟨h1, h⟩ := p_ok_some h
  refine e_getI dX3_fade_3 rfl rfl h1.1 h1.2 ?_
  refine e_iload_n dX3_fade_6 rfl ?_
  refine e_isub dX3_fade_7 ?_
  refine e_max dX3_fade_8 rfl (Nat.le_of_ble_eq_true rfl) ?_
  replace h := p_lt h
  refine e_putI dX3_fade_11 rfl ⟨rfl, rfl, (fun h => by cases h)⟩ (fun h => by cases h) h1.1 h1.2 ?_
  refine e_aload_n dX3_fade_14 rfl ?_
  refine e_iconst (v := (0 : Int32)) dX3_fade_15 rfl ?_
  refine e_aload_n dX3_fade_16 rfl ?_
  refine e_getI dX3_fade_17 rfl rfl h1.1 h1.2 ?_
  refine e_iload_n dX3_fade_20 rfl ?_
  refine e_isub dX3_fade_21 ?_
  refine e_max dX3_fade_22 rfl (Nat.le_of_ble_eq_true rfl) ?_
  replace h := p_lt h
  refine e_putI dX3_fade_25 rfl ⟨rfl, rfl, (fun h => by cases h)⟩ (fun h => by cases h) h1.1 h1.2 ?_
  cases h
  exact e_vret dX3_fade_28 rfl hQ
/-! X3_wear -/
def F_X3_wear (v0 : Nat) (v1 : Int32) (v2 : Int32) (μ : p_M) : Option (Int32 × p_M) :=
  p_ok (mK μ v0 = 4 ∧ v0 < mN μ)
  (p_let (sI μ v0 2 (if (0 : Int32) < ((mI μ v0 2) - v2) then ((mI μ v0 2) - v2) else (0 : Int32))) fun m2 =>
  p_let (sI m2 v0 3 (if (0 : Int32) < ((mI m2 v0 3) - v1) then ((mI m2 v0 3) - v1) else (0 : Int32))) fun m3 =>
  some (0, m3))
theorem E_X3_wear {X : p_X} {d : Nat} {Q : p_R → Prop} {v0 : Nat} {v1 : Int32} {v2 : Int32} {μ : p_M} {r : Int32 × p_M} (h : F_X3_wear v0 v1 v2 μ = some r) (hQ : Q ((0, none), r.2)) : p_Ev X (d + 0) M_X3_wear 0 [.ref v0, .int v1, .int v2] [] μ Q := by
  unfold F_X3_wear at h
  refine e_aload_n dX3_wear_0 rfl ?_
  refine e_iconst (v := (0 : Int32)) dX3_wear_1 rfl ?_
  refine e_aload_n dX3_wear_2 rfl ?_
  obtain ⟨h1, h⟩ := p_ok_some h
  refine e_getI dX3_wear_3 rfl rfl h1.1 h1.2 ?_
  refine e_iload_n dX3_wear_6 rfl ?_
  refine e_isub dX3_wear_7 ?_
  refine e_max dX3_wear_8 rfl (Nat.le_of_ble_eq_true rfl) ?_
  replace h := p_lt h
  refine e_putI dX3_wear_11 rfl ⟨rfl, rfl, (fun h => by cases h)⟩ (fun h => by cases h) h1.1 h1.2 ?_
  refine e_aload_n dX3_wear_14 rfl ?_
  refine e_iconst (v := (0 : Int32)) dX3_wear_15 rfl ?_
  refine e_aload_n dX3_wear_16 rfl ?_
  refine e_getI dX3_wear_17 rfl rfl h1.1 h1.2 ?_
  refine e_iload_n dX3_wear_20 rfl ?_
  refine e_isub dX3_wear_21 ?_
  refine e_max dX3_wear_22 rfl (Nat.le_of_ble_eq_true rfl) ?_
  replace h := p_lt h
  refine e_putI dX3_wear_25 rfl ⟨rfl, rfl, (fun h => by cases h)⟩ (fun h => by cases h) h1.1 h1.2 ?_
  cases h
  exact e_vret dX3_wear_28 rfl hQ
/-! X3_take -/
def F_X3_take_c118 (μ : p_M) : Option (Int32 × p_M) :=
  some (0, μ)
theorem E_X3_take_c118 {X : p_X} {d : Nat} {Q : p_R → Prop} {w0 : Value} {w1 : Value} {w2 : Value} {μ : p_M} {r : Int32 × p_M} (h : F_X3_take_c118 μ = some r) (hQ : Q ((0, none), r.2)) : p_Ev X (d + 1) M_X3_take 118 [w0, w1, w2] [] μ Q := by
  unfold F_X3_take_c118 at h
  cases h
  exact e_vret dX3_take_118 rfl hQ
def F_X3_take (v0 : Nat) (v1 : Int32) (v2 : Int32) (μ : p_M) : Option (Int32 × p_M) :=
  if v1.toInt < 0 ∨ 2 < v1.toInt then (p_ok (mK μ v0 = 4 ∧ v0 < mN μ)
    (p_let (sI μ v0 4 (0 : Int32)) fun m17 =>
    F_X3_take_c118 m17))
  else if v1 = 0 then (p_ok (¬ (2 : Int32) = 0)
    (p_ok (mK μ v0 = 4 ∧ v0 < mN μ)
    ((F_X3_fade v0 (v2 / (2 : Int32)) v2 μ).bind fun q2 =>
    F_X3_take_c118 q2.2)))
  else if v1 = 1 then (p_ok (mK μ v0 = 4 ∧ v0 < mN μ)
    ((F_X3_fade v0 v2 (v2 + (3 : Int32)) μ).bind fun q4 =>
    p_ok (mK q4.2 v0 = 4 ∧ v0 < mN q4.2)
    ((F_X3_wear v0 v2 (v2 + (2 : Int32)) q4.2).bind fun q6 =>
    p_ok (mK q6.2 v0 = 4 ∧ v0 < mN q6.2)
    (if (mI q6.2 v0 4) = 0
    then (F_X3_take_c118 q6.2)
    else ((F_X3_wear v0 (5 : Int32) (5 : Int32) q6.2).bind fun q9 =>
      F_X3_take_c118 q9.2)))))
  else if v1 = 2 then (p_ok (mK μ v0 = 4 ∧ v0 < mN μ)
    ((F_X3_fade v0 (if (0 : Int32) < (((2 : Int32) * v2) - (mI μ v0 5)) then (((2 : Int32) * v2) - (mI μ v0 5)) else (0 : Int32)) (if (0 : Int32) < (((3 : Int32) * v2) - (mI μ v0 5)) then (((3 : Int32) * v2) - (mI μ v0 5)) else (0 : Int32)) μ).bind fun q11 =>
    p_ok (mK q11.2 v0 = 4 ∧ v0 < mN q11.2)
    ((F_X3_wear v0 (0 : Int32) v2 q11.2).bind fun q12 =>
    p_ok (mK q12.2 v0 = 4 ∧ v0 < mN q12.2)
    (p_let (sI q12.2 v0 4 (1 : Int32)) fun m15 =>
    F_X3_take_c118 m15))))
  else none
theorem E_X3_take {X : p_X} {d : Nat} {Q : p_R → Prop} {v0 : Nat} {v1 : Int32} {v2 : Int32} {μ : p_M} {r : Int32 × p_M} (h : F_X3_take v0 v1 v2 μ = some r) (hQ : Q ((0, none), r.2)) : p_Ev X (d + 1) M_X3_take 0 [.ref v0, .int v1, .int v2] [] μ Q := by
  unfold F_X3_take at h
  refine e_iload_n dX3_take_0 rfl ?_
  by_cases hc : v1.toInt < 0 ∨ 2 < v1.toInt
  · rw [if_pos hc] at h
    refine e_swD dX3_take_1 hc 113 (by decide) ?_
    refine e_aload_n dX3_take_113 rfl ?_
    refine e_iconst (v := (0 : Int32)) dX3_take_114 rfl ?_
    obtain ⟨h16, h⟩ := p_ok_some h
    replace h := p_lt h
    refine e_putI dX3_take_115 rfl ⟨rfl, rfl, (fun h => by cases h)⟩ (fun _ => by decide) h16.1 h16.2 ?_
    exact E_X3_take_c118 h hQ
  rw [if_neg hc] at h
  by_cases hc : v1 = 0
  · rw [if_pos hc] at h
    refine e_swK (v := 0) dX3_take_1 hc (by decide) rfl 28 (by decide) ?_
    refine e_aload_n dX3_take_28 rfl ?_
    refine e_iload_n dX3_take_29 rfl ?_
    refine e_iconst (v := (2 : Int32)) dX3_take_30 rfl ?_
    obtain ⟨h1, h⟩ := p_ok_some h
    refine e_idiv dX3_take_31 h1 ?_
    refine e_iload_n dX3_take_32 rfl ?_
    obtain ⟨h3, h⟩ := p_ok_some h
    obtain ⟨q2, hq2, h⟩ := p_bd h
    refine f_cVv dX3_take_33 rfl rfl ⟨rfl, rfl, by decide⟩ rfl h3 (fun Q' hQ' => E_X3_fade hq2 hQ') ?_
    refine e_goto dX3_take_36 118 (by decide) ?_
    exact E_X3_take_c118 h hQ
  rw [if_neg hc] at h
  by_cases hc : v1 = 1
  · rw [if_pos hc] at h
    refine e_swK (v := 1) dX3_take_1 hc (by decide) rfl 39 (by decide) ?_
    refine e_aload_n dX3_take_39 rfl ?_
    refine e_iload_n dX3_take_40 rfl ?_
    refine e_iload_n dX3_take_41 rfl ?_
    refine e_iconst (v := (3 : Int32)) dX3_take_42 rfl ?_
    refine e_iadd dX3_take_43 ?_
    obtain ⟨h5, h⟩ := p_ok_some h
    obtain ⟨q4, hq4, h⟩ := p_bd h
    refine f_cVv dX3_take_44 rfl rfl ⟨rfl, rfl, by decide⟩ rfl h5 (fun Q' hQ' => E_X3_fade hq4 hQ') ?_
    refine e_aload_n dX3_take_47 rfl ?_
    refine e_iload_n dX3_take_48 rfl ?_
    refine e_iload_n dX3_take_49 rfl ?_
    refine e_iconst (v := (2 : Int32)) dX3_take_50 rfl ?_
    refine e_iadd dX3_take_51 ?_
    obtain ⟨h7, h⟩ := p_ok_some h
    obtain ⟨q6, hq6, h⟩ := p_bd h
    refine f_cVv dX3_take_52 rfl rfl ⟨rfl, rfl, by decide⟩ rfl h7 (fun Q' hQ' => E_X3_wear hq6 hQ') ?_
    refine e_aload_n dX3_take_55 rfl ?_
    obtain ⟨h8, h⟩ := p_ok_some h
    refine e_getI dX3_take_56 rfl rfl h8.1 h8.2 ?_
    refine e_if_eq dX3_take_59 118 (by decide) (fun hc => ?_) (fun hc => ?_)
    · rw [if_pos hc] at h
      exact E_X3_take_c118 h hQ
    · rw [if_neg hc] at h
      refine e_aload_n dX3_take_62 rfl ?_
      refine e_iconst (v := (5 : Int32)) dX3_take_63 rfl ?_
      refine e_iconst (v := (5 : Int32)) dX3_take_64 rfl ?_
      obtain ⟨q9, hq9, h⟩ := p_bd h
      refine f_cVv dX3_take_65 rfl rfl ⟨rfl, rfl, by decide⟩ rfl h8 (fun Q' hQ' => E_X3_wear hq9 hQ') ?_
      refine e_goto dX3_take_68 118 (by decide) ?_
      exact E_X3_take_c118 h hQ
  rw [if_neg hc] at h
  by_cases hc : v1 = 2
  · rw [if_pos hc] at h
    refine e_swK (v := 2) dX3_take_1 hc (by decide) rfl 71 (by decide) ?_
    refine e_aload_n dX3_take_71 rfl ?_
    refine e_iconst (v := (0 : Int32)) dX3_take_72 rfl ?_
    refine e_iconst (v := (2 : Int32)) dX3_take_73 rfl ?_
    refine e_iload_n dX3_take_74 rfl ?_
    refine e_imul dX3_take_75 ?_
    refine e_aload_n dX3_take_76 rfl ?_
    obtain ⟨h10, h⟩ := p_ok_some h
    refine e_getI dX3_take_77 rfl rfl h10.1 h10.2 ?_
    refine e_isub dX3_take_80 ?_
    refine e_max dX3_take_81 rfl (Nat.le_of_ble_eq_true rfl) ?_
    refine e_iconst (v := (0 : Int32)) dX3_take_84 rfl ?_
    refine e_iconst (v := (3 : Int32)) dX3_take_85 rfl ?_
    refine e_iload_n dX3_take_86 rfl ?_
    refine e_imul dX3_take_87 ?_
    refine e_aload_n dX3_take_88 rfl ?_
    refine e_getI dX3_take_89 rfl rfl h10.1 h10.2 ?_
    refine e_isub dX3_take_92 ?_
    refine e_max dX3_take_93 rfl (Nat.le_of_ble_eq_true rfl) ?_
    obtain ⟨q11, hq11, h⟩ := p_bd h
    refine f_cVv dX3_take_96 rfl rfl ⟨rfl, rfl, by decide⟩ rfl h10 (fun Q' hQ' => E_X3_fade hq11 hQ') ?_
    refine e_aload_n dX3_take_99 rfl ?_
    refine e_iconst (v := (0 : Int32)) dX3_take_100 rfl ?_
    refine e_iload_n dX3_take_101 rfl ?_
    obtain ⟨h13, h⟩ := p_ok_some h
    obtain ⟨q12, hq12, h⟩ := p_bd h
    refine f_cVv dX3_take_102 rfl rfl ⟨rfl, rfl, by decide⟩ rfl h13 (fun Q' hQ' => E_X3_wear hq12 hQ') ?_
    refine e_aload_n dX3_take_105 rfl ?_
    refine e_iconst (v := (1 : Int32)) dX3_take_106 rfl ?_
    obtain ⟨h14, h⟩ := p_ok_some h
    replace h := p_lt h
    refine e_putI dX3_take_107 rfl ⟨rfl, rfl, (fun h => by cases h)⟩ (fun _ => by decide) h14.1 h14.2 ?_
    refine e_goto dX3_take_110 118 (by decide) ?_
    exact E_X3_take_c118 h hQ
  rw [if_neg hc] at h
  cases h
/-! X8_priceOf -/
def F_X8_priceOf (v0 : Int32) (v1 : Int32) (μ : p_M) : Option (Int32 × p_M) :=
  if v0.toInt < 0 ∨ 2 < v0.toInt then (some ((1 : Int32), μ))
  else if v0 = 0 then (some (v1, μ))
  else if v0 = 1 then (some (((3 : Int32) * v1), μ))
  else if v0 = 2 then (some ((((2 : Int32) * v1) + (1 : Int32)), μ))
  else none
theorem E_X8_priceOf {X : p_X} {d : Nat} {Q : p_R → Prop} {v0 : Int32} {v1 : Int32} {μ : p_M} {r : Int32 × p_M} (h : F_X8_priceOf v0 v1 μ = some r) (hQ : Q ((0, some (.int r.1)), r.2)) : p_Ev X (d + 0) M_X8_priceOf 0 [.int v0, .int v1] [] μ Q := by
  unfold F_X8_priceOf at h
  refine e_iload_n dX8_priceOf_0 rfl ?_
  by_cases hc : v0.toInt < 0 ∨ 2 < v0.toInt
  · rw [if_pos hc] at h
    refine e_swD dX8_priceOf_1 hc 40 (by decide) ?_
    refine e_iconst (v := (1 : Int32)) dX8_priceOf_40 rfl ?_
    cases h
    exact e_ireti dX8_priceOf_41 rfl hQ
  rw [if_neg hc] at h
  by_cases hc : v0 = 0
  · rw [if_pos hc] at h
    refine e_swK (v := 0) dX8_priceOf_1 hc (by decide) rfl 28 (by decide) ?_
    refine e_iload_n dX8_priceOf_28 rfl ?_
    cases h
    exact e_ireti dX8_priceOf_29 rfl hQ
  rw [if_neg hc] at h
  by_cases hc : v0 = 1
  · rw [if_pos hc] at h
    refine e_swK (v := 1) dX8_priceOf_1 hc (by decide) rfl 30 (by decide) ?_
    refine e_iconst (v := (3 : Int32)) dX8_priceOf_30 rfl ?_
    refine e_iload_n dX8_priceOf_31 rfl ?_
    refine e_imul dX8_priceOf_32 ?_
    cases h
    exact e_ireti dX8_priceOf_33 rfl hQ
  rw [if_neg hc] at h
  by_cases hc : v0 = 2
  · rw [if_pos hc] at h
    refine e_swK (v := 2) dX8_priceOf_1 hc (by decide) rfl 34 (by decide) ?_
    refine e_iconst (v := (2 : Int32)) dX8_priceOf_34 rfl ?_
    refine e_iload_n dX8_priceOf_35 rfl ?_
    refine e_imul dX8_priceOf_36 ?_
    refine e_iconst (v := (1 : Int32)) dX8_priceOf_37 rfl ?_
    refine e_iadd dX8_priceOf_38 ?_
    cases h
    exact e_ireti dX8_priceOf_39 rfl hQ
  rw [if_neg hc] at h
  cases h
/-! X9_keepIfBetter -/
def F_X9_keepIfBetter_c56 (μ : p_M) : Option (Int32 × p_M) :=
  some (0, μ)
theorem E_X9_keepIfBetter_c56 {X : p_X} {d : Nat} {Q : p_R → Prop} {w0 : Value} {w1 : Value} {w2 : Value} {μ : p_M} {r : Int32 × p_M} (h : F_X9_keepIfBetter_c56 μ = some r) (hQ : Q ((0, none), r.2)) : p_Ev X (d + 0) M_X9_keepIfBetter 56 [w0, w1, w2] [] μ Q := by
  unfold F_X9_keepIfBetter_c56 at h
  cases h
  exact e_vret dX9_keepIfBetter_56 rfl hQ
def F_X9_keepIfBetter_c32 (v0 : Nat) (v1 : Int32) (v2 : Int32) (μ : p_M) : Option (Int32 × p_M) :=
  p_ok (mK μ v0 = 10 ∧ v0 < mN μ)
  (p_let (sI μ v0 3 v2) fun m3 =>
  p_let (sI m3 v0 4 v1) fun m4 =>
  (mR m4 v0 1).bind fun q5 =>
  (mR m4 v0 2).bind fun q6 =>
  p_ok (¬ ((0 : Int32) < 0 ∨ (0 : Int32) < 0 ∨ v1 < 0 ∨ ¬ mK m4 q6 = 20 ∨ mN m4 ≤ q6 ∨ mL m4 q6 < (0 : Int32).toNatClampNeg + v1.toNatClampNeg))
  (p_ok (q5 < p_E ∧ mK m4 q5 = 20 ∧ q5 < mN m4 ∧ (0 : Int32).toNatClampNeg + v1.toNatClampNeg ≤ mL m4 q5)
  (p_let (sA m4 q6 (va_cpy (mI m4 q5) (mI m4 q6) (0 : Int32).toNatClampNeg (0 : Int32).toNatClampNeg v1.toNatClampNeg)) fun m9 =>
  F_X9_keepIfBetter_c56 m9)))
theorem E_X9_keepIfBetter_c32 {X : p_X} {d : Nat} {Q : p_R → Prop} {v0 : Nat} {v1 : Int32} {v2 : Int32} {μ : p_M} {r : Int32 × p_M} (h : F_X9_keepIfBetter_c32 v0 v1 v2 μ = some r) (hQ : Q ((0, none), r.2)) : p_Ev X (d + 0) M_X9_keepIfBetter 32 [.ref v0, .int v1, .int v2] [] μ Q := by
  unfold F_X9_keepIfBetter_c32 at h
  refine e_aload_n dX9_keepIfBetter_32 rfl ?_
  refine e_iload_n dX9_keepIfBetter_33 rfl ?_
  obtain ⟨h2, h⟩ := p_ok_some h
  replace h := p_lt h
  refine e_putI dX9_keepIfBetter_34 rfl ⟨rfl, rfl, (fun h => by cases h)⟩ (fun h => by cases h) h2.1 h2.2 ?_
  refine e_aload_n dX9_keepIfBetter_37 rfl ?_
  refine e_iload_n dX9_keepIfBetter_38 rfl ?_
  replace h := p_lt h
  refine e_putI dX9_keepIfBetter_39 rfl ⟨rfl, rfl, (fun h => by cases h)⟩ (fun h => by cases h) h2.1 h2.2 ?_
  refine e_aload_n dX9_keepIfBetter_42 rfl ?_
  obtain ⟨q5, hq5, h⟩ := p_bd h
  refine e_getR dX9_keepIfBetter_43 rfl rfl h2.1 h2.2 hq5 ?_
  refine e_iconst (v := (0 : Int32)) dX9_keepIfBetter_46 rfl ?_
  refine e_aload_n dX9_keepIfBetter_47 rfl ?_
  obtain ⟨q6, hq6, h⟩ := p_bd h
  refine e_getR dX9_keepIfBetter_48 rfl rfl h2.1 h2.2 hq6 ?_
  refine e_iconst (v := (0 : Int32)) dX9_keepIfBetter_51 rfl ?_
  refine e_iload_n dX9_keepIfBetter_52 rfl ?_
  obtain ⟨h7, h⟩ := p_ok_some h
  obtain ⟨h8, h⟩ := p_ok_some h
  replace h := p_lt h
  refine e_acp dX9_keepIfBetter_53 rfl (Nat.le_of_ble_eq_true rfl) h7 h8 ?_
  exact E_X9_keepIfBetter_c56 h hQ
def F_X9_keepIfBetter (v0 : Nat) (v1 : Int32) (v2 : Int32) (μ : p_M) : Option (Int32 × p_M) :=
  p_ok (mK μ v0 = 10 ∧ v0 < mN μ)
  (if (mI μ v0 3) = (-1)
  then (F_X9_keepIfBetter_c32 v0 v1 v2 μ)
  else (if v2 < (mI μ v0 3)
    then (F_X9_keepIfBetter_c32 v0 v1 v2 μ)
    else (if ¬ v2 = (mI μ v0 3)
      then (F_X9_keepIfBetter_c56 μ)
      else (if (mI μ v0 4) ≤ v1
        then (F_X9_keepIfBetter_c56 μ)
        else (F_X9_keepIfBetter_c32 v0 v1 v2 μ)))))
theorem E_X9_keepIfBetter {X : p_X} {d : Nat} {Q : p_R → Prop} {v0 : Nat} {v1 : Int32} {v2 : Int32} {μ : p_M} {r : Int32 × p_M} (h : F_X9_keepIfBetter v0 v1 v2 μ = some r) (hQ : Q ((0, none), r.2)) : p_Ev X (d + 0) M_X9_keepIfBetter 0 [.ref v0, .int v1, .int v2] [] μ Q := by
  unfold F_X9_keepIfBetter at h
  refine e_aload_n dX9_keepIfBetter_0 rfl ?_
  obtain ⟨h1, h⟩ := p_ok_some h
  refine e_getI dX9_keepIfBetter_1 rfl rfl h1.1 h1.2 ?_
  refine e_iconst (v := (-1)) dX9_keepIfBetter_4 rfl ?_
  refine e_ic_eq dX9_keepIfBetter_5 32 (by decide) (fun hc => ?_) (fun hc => ?_)
  · rw [if_pos hc] at h
    exact E_X9_keepIfBetter_c32 h hQ
  · rw [if_neg hc] at h
    refine e_iload_n dX9_keepIfBetter_8 rfl ?_
    refine e_aload_n dX9_keepIfBetter_9 rfl ?_
    refine e_getI dX9_keepIfBetter_10 rfl rfl h1.1 h1.2 ?_
    refine e_ic_lt dX9_keepIfBetter_13 32 (by decide) (fun hc => ?_) (fun hc => ?_)
    · rw [if_pos hc] at h
      exact E_X9_keepIfBetter_c32 h hQ
    · rw [if_neg hc] at h
      refine e_iload_n dX9_keepIfBetter_16 rfl ?_
      refine e_aload_n dX9_keepIfBetter_17 rfl ?_
      refine e_getI dX9_keepIfBetter_18 rfl rfl h1.1 h1.2 ?_
      refine e_ic_ne dX9_keepIfBetter_21 56 (by decide) (fun hc => ?_) (fun hc => ?_)
      · rw [if_pos hc] at h
        exact E_X9_keepIfBetter_c56 h hQ
      · rw [if_neg hc] at h
        refine e_iload_n dX9_keepIfBetter_24 rfl ?_
        refine e_aload_n dX9_keepIfBetter_25 rfl ?_
        refine e_getI dX9_keepIfBetter_26 rfl rfl h1.1 h1.2 ?_
        refine e_ic_ge dX9_keepIfBetter_29 56 (by decide) (fun hc => ?_) (fun hc => ?_)
        · rw [if_pos hc] at h
          exact E_X9_keepIfBetter_c56 h hQ
        · rw [if_neg hc] at h
          exact E_X9_keepIfBetter_c32 h hQ
/-! X9_descend -/
def F_X9_descend_c32 (X : p_X) (KS : Nat → Int32 → Int32 → Int32 → p_M → Option (Int32 × p_M)) (μ : p_M) : Option (Int32 × p_M) :=
  some (0, μ)
theorem E_X9_descend_c32 {X : p_X} {d : Nat} {Q : p_R → Prop} {KS : Nat → Int32 → Int32 → Int32 → p_M → Option (Int32 × p_M)} (hKS : ∀ (z : Nat) (Q : p_R → Prop) (v0 : Nat) (v1 : Int32) (v2 : Int32) (v3 : Int32) (μ : p_M) {r : Int32 × p_M}, KS v0 v1 v2 v3 μ = some r → Q ((0, none), r.2) → p_Ev X (d + 1) M_X9_descend 0 [.ref v0, .int v1, .int v2, .int v3, .double 0, .double 0] [] μ Q) {w0 : Value} {w1 : Value} {w2 : Value} {w3 : Value} {w4 : Value} {w5 : Value} {μ : p_M} {r : Int32 × p_M} (h : F_X9_descend_c32 X KS μ = some r) (hQ : Q ((0, none), r.2)) : p_Ev X (d + 2) M_X9_descend 32 [w0, w1, w2, w3, w4, w5] [] μ Q := by
  unfold F_X9_descend_c32 at h
  cases h
  exact e_vret dX9_descend_32 rfl hQ
def F_X9_descend_c80 (X : p_X) (KS : Nat → Int32 → Int32 → Int32 → p_M → Option (Int32 × p_M)) (μ : p_M) : Option (Int32 × p_M) :=
  some (0, μ)
theorem E_X9_descend_c80 {X : p_X} {d : Nat} {Q : p_R → Prop} {KS : Nat → Int32 → Int32 → Int32 → p_M → Option (Int32 × p_M)} (hKS : ∀ (z : Nat) (Q : p_R → Prop) (v0 : Nat) (v1 : Int32) (v2 : Int32) (v3 : Int32) (μ : p_M) {r : Int32 × p_M}, KS v0 v1 v2 v3 μ = some r → Q ((0, none), r.2) → p_Ev X (d + 1) M_X9_descend 0 [.ref v0, .int v1, .int v2, .int v3, .double 0, .double 0] [] μ Q) {w0 : Value} {w1 : Value} {w2 : Value} {w3 : Value} {w4 : Value} {w5 : Value} {μ : p_M} {r : Int32 × p_M} (h : F_X9_descend_c80 X KS μ = some r) (hQ : Q ((0, none), r.2)) : p_Ev X (d + 2) M_X9_descend 80 [w0, w1, w2, w3, w4, w5] [] μ Q := by
  unfold F_X9_descend_c80 at h
  cases h
  exact e_vret dX9_descend_80 rfl hQ
def F_X9_descend_c165 (X : p_X) (KS : Nat → Int32 → Int32 → Int32 → p_M → Option (Int32 × p_M)) (K84 : Nat → Int32 → Int32 → Int32 → Nat → Int32 → p_M → Option (Int32 × p_M)) (v0 : Nat) (v1 : Int32) (v2 : Int32) (v3 : Int32) (v4 : Nat) (v5 : Int32) (μ : p_M) : Option (Int32 × p_M) :=
  K84 v0 v1 v2 v3 v4 (v5 + (1 : Int32)) μ
theorem E_X9_descend_c165 {X : p_X} {d : Nat} {Q : p_R → Prop} {KS : Nat → Int32 → Int32 → Int32 → p_M → Option (Int32 × p_M)} {K84 : Nat → Int32 → Int32 → Int32 → Nat → Int32 → p_M → Option (Int32 × p_M)} (hKS : ∀ (z : Nat) (Q : p_R → Prop) (v0 : Nat) (v1 : Int32) (v2 : Int32) (v3 : Int32) (μ : p_M) {r : Int32 × p_M}, KS v0 v1 v2 v3 μ = some r → Q ((0, none), r.2) → p_Ev X (d + 1) M_X9_descend 0 [.ref v0, .int v1, .int v2, .int v3, .double 0, .double 0] [] μ Q) (hK84 : ∀ (v0 : Nat) (v1 : Int32) (v2 : Int32) (v3 : Int32) (v4 : Nat) (v5 : Int32) (μ : p_M) (r : Int32 × p_M), K84 v0 v1 v2 v3 v4 v5 μ = some r → Q ((0, none), r.2) → p_Ev X (d + 2) M_X9_descend 84 [.ref v0, .int v1, .int v2, .int v3, .ref v4, .int v5] [] μ Q) {v0 : Nat} {v1 : Int32} {v2 : Int32} {v3 : Int32} {v4 : Nat} {v5 : Int32} {μ : p_M} {r : Int32 × p_M} (h : F_X9_descend_c165 X KS K84 v0 v1 v2 v3 v4 v5 μ = some r) (hQ : Q ((0, none), r.2)) : p_Ev X (d + 2) M_X9_descend 165 [.ref v0, .int v1, .int v2, .int v3, .ref v4, .int v5] [] μ Q := by
  unfold F_X9_descend_c165 at h
  refine e_iinc (v := (1 : Int32)) dX9_descend_165 rfl rfl rfl ?_
  refine e_goto dX9_descend_168 84 (by decide) ?_
  exact hK84 _ _ _ _ _ _ _ _ h hQ
def F_X9_descend_c104 (X : p_X) (KS : Nat → Int32 → Int32 → Int32 → p_M → Option (Int32 × p_M)) (K84 : Nat → Int32 → Int32 → Int32 → Nat → Int32 → p_M → Option (Int32 × p_M)) (v0 : Nat) (v1 : Int32) (v2 : Int32) (v3 : Int32) (v4 : Nat) (v5 : Int32) (μ : p_M) : Option (Int32 × p_M) :=
  p_ok (mK μ v0 = 10 ∧ v0 < mN μ)
  ((mR μ v0 1).bind fun q12 =>
  p_ok (q12 < p_E ∧ mK μ q12 = 20 ∧ q12 < mN μ)
  (p_ok (¬ v1 < 0 ∧ v1.toNatClampNeg < mL μ q12)
  (p_let (sI μ q12 v1.toNatClampNeg v5) fun m15 =>
  (mR m15 v0 0).bind fun q16 =>
  p_ok (23 ≤ mK m15 q16 ∧ mK m15 q16 ≤ 26 ∧ ¬ (v1 + (1 : Int32)) < 0 ∧ (v1 + (1 : Int32)).toNatClampNeg < mL m15 q16 ∧ q16 < mN m15)
  ((mR m15 q16 (v1 + (1 : Int32)).toNatClampNeg).bind fun q18 =>
  p_ok (mK m15 q18 = 4 ∧ q18 < mN m15)
  ((F_X3_copy q18 v4 m15).bind fun q19 =>
  p_ok (mK q19.2 v0 = 10 ∧ v0 < mN q19.2)
  ((mR q19.2 v0 0).bind fun q22 =>
  p_ok (23 ≤ mK q19.2 q22 ∧ mK q19.2 q22 ≤ 26 ∧ ¬ (v1 + (1 : Int32)) < 0 ∧ (v1 + (1 : Int32)).toNatClampNeg < mL q19.2 q22 ∧ q22 < mN q19.2)
  ((mR q19.2 q22 (v1 + (1 : Int32)).toNatClampNeg).bind fun q24 =>
  p_ok (¬ v5 < 0 ∧ v5.toNatClampNeg < (X 2).1)
  (p_ok (mK q19.2 q24 = 4 ∧ q24 < mN q19.2)
  ((F_X3_take q24 v5 ((X 2).2 v5.toNatClampNeg) q19.2).bind fun q26 =>
  p_ok (¬ v5 < 0 ∧ v5.toNatClampNeg < (X 2).1)
  ((F_X8_priceOf v5 ((X 2).2 v5.toNatClampNeg) q26.2).bind fun q29 =>
  p_ok (mK q29.2 v0 = 10 ∧ v0 < mN q29.2)
  ((KS v0 (v1 + (1 : Int32)) v2 (v3 + q29.1) q29.2).bind fun q30 =>
  F_X9_descend_c165 X KS K84 v0 v1 v2 v3 v4 v5 q30.2)))))))))))
theorem E_X9_descend_c104 {X : p_X} {d : Nat} {Q : p_R → Prop} {KS : Nat → Int32 → Int32 → Int32 → p_M → Option (Int32 × p_M)} {K84 : Nat → Int32 → Int32 → Int32 → Nat → Int32 → p_M → Option (Int32 × p_M)} (hKS : ∀ (z : Nat) (Q : p_R → Prop) (v0 : Nat) (v1 : Int32) (v2 : Int32) (v3 : Int32) (μ : p_M) {r : Int32 × p_M}, KS v0 v1 v2 v3 μ = some r → Q ((0, none), r.2) → p_Ev X (d + 1) M_X9_descend 0 [.ref v0, .int v1, .int v2, .int v3, .double 0, .double 0] [] μ Q) (hK84 : ∀ (v0 : Nat) (v1 : Int32) (v2 : Int32) (v3 : Int32) (v4 : Nat) (v5 : Int32) (μ : p_M) (r : Int32 × p_M), K84 v0 v1 v2 v3 v4 v5 μ = some r → Q ((0, none), r.2) → p_Ev X (d + 2) M_X9_descend 84 [.ref v0, .int v1, .int v2, .int v3, .ref v4, .int v5] [] μ Q) {v0 : Nat} {v1 : Int32} {v2 : Int32} {v3 : Int32} {v4 : Nat} {v5 : Int32} {μ : p_M} {r : Int32 × p_M} (h : F_X9_descend_c104 X KS K84 v0 v1 v2 v3 v4 v5 μ = some r) (hQ : Q ((0, none), r.2)) : p_Ev X (d + 2) M_X9_descend 104 [.ref v0, .int v1, .int v2, .int v3, .ref v4, .int v5] [] μ Q := by
  unfold F_X9_descend_c104 at h
  refine e_aload_n dX9_descend_104 rfl ?_
  obtain ⟨h11, h⟩ := p_ok_some h
  obtain ⟨q12, hq12, h⟩ := p_bd h
  refine e_getR dX9_descend_105 rfl rfl h11.1 h11.2 hq12 ?_
  refine e_iload_n dX9_descend_108 rfl ?_
  refine e_iload dX9_descend_109 rfl ?_
  obtain ⟨h13, h⟩ := p_ok_some h
  obtain ⟨h14, h⟩ := p_ok_some h
  replace h := p_lt h
  refine e_iaS dX9_descend_111 h13 h14 ?_
  refine e_aload_n dX9_descend_112 rfl ?_
  obtain ⟨q16, hq16, h⟩ := p_bd h
  refine e_getR dX9_descend_113 rfl rfl h11.1 h11.2 hq16 ?_
  refine e_iload_n dX9_descend_116 rfl ?_
  refine e_iconst (v := (1 : Int32)) dX9_descend_117 rfl ?_
  refine e_iadd dX9_descend_118 ?_
  obtain ⟨h17, h⟩ := p_ok_some h
  obtain ⟨q18, hq18, h⟩ := p_bd h
  refine e_aald dX9_descend_119 h17 hq18 ?_
  refine e_aload dX9_descend_120 rfl ?_
  obtain ⟨h20, h⟩ := p_ok_some h
  obtain ⟨q19, hq19, h⟩ := p_bd h
  refine f_cVv dX9_descend_122 rfl rfl ⟨rfl, rfl, by decide⟩ rfl h20 (fun Q' hQ' => E_X3_copy hq19 hQ') ?_
  refine e_aload_n dX9_descend_125 rfl ?_
  obtain ⟨h21, h⟩ := p_ok_some h
  obtain ⟨q22, hq22, h⟩ := p_bd h
  refine e_getR dX9_descend_126 rfl rfl h21.1 h21.2 hq22 ?_
  refine e_iload_n dX9_descend_129 rfl ?_
  refine e_iconst (v := (1 : Int32)) dX9_descend_130 rfl ?_
  refine e_iadd dX9_descend_131 ?_
  obtain ⟨h23, h⟩ := p_ok_some h
  obtain ⟨q24, hq24, h⟩ := p_bd h
  refine e_aald dX9_descend_132 h23 hq24 ?_
  refine e_iload dX9_descend_133 rfl ?_
  refine e_getst dX9_descend_135 rfl ?_
  refine e_iload dX9_descend_138 rfl ?_
  obtain ⟨h25, h⟩ := p_ok_some h
  refine e_ialX dX9_descend_140 (by decide) h25 ?_
  obtain ⟨h27, h⟩ := p_ok_some h
  obtain ⟨q26, hq26, h⟩ := p_bd h
  refine f_cVv dX9_descend_141 rfl rfl ⟨rfl, rfl, by decide⟩ rfl h27 (fun Q' hQ' => E_X3_take hq26 hQ') ?_
  refine e_aload_n dX9_descend_144 rfl ?_
  refine e_iload_n dX9_descend_145 rfl ?_
  refine e_iconst (v := (1 : Int32)) dX9_descend_146 rfl ?_
  refine e_iadd dX9_descend_147 ?_
  refine e_iload_n dX9_descend_148 rfl ?_
  refine e_iload_n dX9_descend_149 rfl ?_
  refine e_iload dX9_descend_150 rfl ?_
  refine e_getst dX9_descend_152 rfl ?_
  refine e_iload dX9_descend_155 rfl ?_
  obtain ⟨h28, h⟩ := p_ok_some h
  refine e_ialX dX9_descend_157 (by decide) h28 ?_
  obtain ⟨q29, hq29, h⟩ := p_bd h
  refine f_cSi dX9_descend_158 rfl rfl rfl rfl (fun Q' hQ' => E_X8_priceOf hq29 hQ') ?_
  refine e_iadd dX9_descend_161 ?_
  obtain ⟨h31, h⟩ := p_ok_some h
  obtain ⟨q30, hq30, h⟩ := p_bd h
  refine f_cVv dX9_descend_162 rfl rfl ⟨rfl, rfl, by decide⟩ rfl h31 (fun Q' hQ' => hKS 0 Q' _ _ _ _ _ hq30 hQ') ?_
  exact E_X9_descend_c165 hKS hK84 h hQ
def F_X9_descend_c84 (X : p_X) (KS : Nat → Int32 → Int32 → Int32 → p_M → Option (Int32 × p_M)) : Nat → Nat → Int32 → Int32 → Int32 → Nat → Int32 → p_M → Option (Int32 × p_M)
  | 0, _, _, _, _, _, _, _ => none
  | n + 1, v0, v1, v2, v3, v4, v5, μ =>
    if (3 : Int32) < v5
    then (some (0, μ))
    else (if ¬ v5 = (3 : Int32)
      then (F_X9_descend_c104 X KS (F_X9_descend_c84 X KS n) v0 v1 v2 v3 v4 v5 μ)
      else (p_ok (mK μ v4 = 4 ∧ v4 < mN μ)
        (if (mI μ v4 4) = 0
        then (F_X9_descend_c165 X KS (F_X9_descend_c84 X KS n) v0 v1 v2 v3 v4 v5 μ)
        else (F_X9_descend_c104 X KS (F_X9_descend_c84 X KS n) v0 v1 v2 v3 v4 v5 μ))))
theorem E_X9_descend_c84 {X : p_X} {d : Nat} {Q : p_R → Prop} {KS : Nat → Int32 → Int32 → Int32 → p_M → Option (Int32 × p_M)} (hKS : ∀ (z : Nat) (Q : p_R → Prop) (v0 : Nat) (v1 : Int32) (v2 : Int32) (v3 : Int32) (μ : p_M) {r : Int32 × p_M}, KS v0 v1 v2 v3 μ = some r → Q ((0, none), r.2) → p_Ev X (d + 1) M_X9_descend 0 [.ref v0, .int v1, .int v2, .int v3, .double 0, .double 0] [] μ Q) : ∀ (n : Nat) (v0 : Nat) (v1 : Int32) (v2 : Int32) (v3 : Int32) (v4 : Nat) (v5 : Int32) (μ : p_M) (r : Int32 × p_M), F_X9_descend_c84 X KS n v0 v1 v2 v3 v4 v5 μ = some r → Q ((0, none), r.2) → p_Ev X (d + 2) M_X9_descend 84 [.ref v0, .int v1, .int v2, .int v3, .ref v4, .int v5] [] μ Q := by
  intro n
  induction n with
  | zero => intro v0 v1 v2 v3 v4 v5 μ r h hQ; rw [F_X9_descend_c84] at h; cases h
  | succ n ih =>
    intro v0 v1 v2 v3 v4 v5 μ r h hQ
    rw [F_X9_descend_c84] at h
    refine e_iload dX9_descend_84 rfl ?_
    refine e_iconst (v := (3 : Int32)) dX9_descend_86 rfl ?_
    refine e_ic_gt dX9_descend_87 171 (by decide) (fun hc => ?_) (fun hc => ?_)
    · rw [if_pos hc] at h
      cases h
      exact e_vret dX9_descend_171 rfl hQ
    · rw [if_neg hc] at h
      refine e_iload dX9_descend_90 rfl ?_
      refine e_iconst (v := (3 : Int32)) dX9_descend_92 rfl ?_
      refine e_ic_ne dX9_descend_93 104 (by decide) (fun hc => ?_) (fun hc => ?_)
      · rw [if_pos hc] at h
        exact E_X9_descend_c104 hKS ih h hQ
      · rw [if_neg hc] at h
        refine e_aload dX9_descend_96 rfl ?_
        obtain ⟨h10, h⟩ := p_ok_some h
        refine e_getI dX9_descend_98 rfl rfl h10.1 h10.2 ?_
        refine e_if_eq dX9_descend_101 165 (by decide) (fun hc => ?_) (fun hc => ?_)
        · rw [if_pos hc] at h
          exact E_X9_descend_c165 hKS ih h hQ
        · rw [if_neg hc] at h
          exact E_X9_descend_c104 hKS ih h hQ
def F_X9_descend_c81 (X : p_X) (KS : Nat → Int32 → Int32 → Int32 → p_M → Option (Int32 × p_M)) (v0 : Nat) (v1 : Int32) (v2 : Int32) (v3 : Int32) (v4 : Nat) (μ : p_M) : Option (Int32 × p_M) :=
  F_X9_descend_c84 X KS p_fu v0 v1 v2 v3 v4 (0 : Int32) μ
theorem E_X9_descend_c81 {X : p_X} {d : Nat} {Q : p_R → Prop} {KS : Nat → Int32 → Int32 → Int32 → p_M → Option (Int32 × p_M)} (hKS : ∀ (z : Nat) (Q : p_R → Prop) (v0 : Nat) (v1 : Int32) (v2 : Int32) (v3 : Int32) (μ : p_M) {r : Int32 × p_M}, KS v0 v1 v2 v3 μ = some r → Q ((0, none), r.2) → p_Ev X (d + 1) M_X9_descend 0 [.ref v0, .int v1, .int v2, .int v3, .double 0, .double 0] [] μ Q) {v0 : Nat} {v1 : Int32} {v2 : Int32} {v3 : Int32} {v4 : Nat} {w5 : Value} {μ : p_M} {r : Int32 × p_M} (h : F_X9_descend_c81 X KS v0 v1 v2 v3 v4 μ = some r) (hQ : Q ((0, none), r.2)) : p_Ev X (d + 2) M_X9_descend 81 [.ref v0, .int v1, .int v2, .int v3, .ref v4, w5] [] μ Q := by
  unfold F_X9_descend_c81 at h
  refine e_iconst (v := (0 : Int32)) dX9_descend_81 rfl ?_
  refine e_istore dX9_descend_82 (Nat.le_of_ble_eq_true rfl) rfl ?_
  exact E_X9_descend_c84 hKS p_fu _ _ _ _ _ _ _ _ h hQ
def F_X9_descend_c59 (X : p_X) (KS : Nat → Int32 → Int32 → Int32 → p_M → Option (Int32 × p_M)) (v0 : Nat) (v1 : Int32) (v2 : Int32) (v3 : Int32) (v4 : Nat) (μ : p_M) : Option (Int32 × p_M) :=
  if v2 ≤ v1
  then (F_X9_descend_c80 X KS μ)
  else (p_ok (mK μ v0 = 10 ∧ v0 < mN μ)
    (if (mI μ v0 3) = (-1)
    then (F_X9_descend_c81 X KS v0 v1 v2 v3 v4 μ)
    else (if v3 < (mI μ v0 3)
      then (F_X9_descend_c81 X KS v0 v1 v2 v3 v4 μ)
      else (F_X9_descend_c80 X KS μ))))
theorem E_X9_descend_c59 {X : p_X} {d : Nat} {Q : p_R → Prop} {KS : Nat → Int32 → Int32 → Int32 → p_M → Option (Int32 × p_M)} (hKS : ∀ (z : Nat) (Q : p_R → Prop) (v0 : Nat) (v1 : Int32) (v2 : Int32) (v3 : Int32) (μ : p_M) {r : Int32 × p_M}, KS v0 v1 v2 v3 μ = some r → Q ((0, none), r.2) → p_Ev X (d + 1) M_X9_descend 0 [.ref v0, .int v1, .int v2, .int v3, .double 0, .double 0] [] μ Q) {v0 : Nat} {v1 : Int32} {v2 : Int32} {v3 : Int32} {v4 : Nat} {w5 : Value} {μ : p_M} {r : Int32 × p_M} (h : F_X9_descend_c59 X KS v0 v1 v2 v3 v4 μ = some r) (hQ : Q ((0, none), r.2)) : p_Ev X (d + 2) M_X9_descend 59 [.ref v0, .int v1, .int v2, .int v3, .ref v4, w5] [] μ Q := by
  unfold F_X9_descend_c59 at h
  refine e_iload_n dX9_descend_59 rfl ?_
  refine e_iload_n dX9_descend_60 rfl ?_
  refine e_ic_ge dX9_descend_61 80 (by decide) (fun hc => ?_) (fun hc => ?_)
  · rw [if_pos hc] at h
    exact E_X9_descend_c80 hKS h hQ
  · rw [if_neg hc] at h
    refine e_aload_n dX9_descend_64 rfl ?_
    obtain ⟨h9, h⟩ := p_ok_some h
    refine e_getI dX9_descend_65 rfl rfl h9.1 h9.2 ?_
    refine e_iconst (v := (-1)) dX9_descend_68 rfl ?_
    refine e_ic_eq dX9_descend_69 81 (by decide) (fun hc => ?_) (fun hc => ?_)
    · rw [if_pos hc] at h
      exact E_X9_descend_c81 hKS h hQ
    · rw [if_neg hc] at h
      refine e_iload_n dX9_descend_72 rfl ?_
      refine e_aload_n dX9_descend_73 rfl ?_
      refine e_getI dX9_descend_74 rfl rfl h9.1 h9.2 ?_
      refine e_ic_lt dX9_descend_77 81 (by decide) (fun hc => ?_) (fun hc => ?_)
      · rw [if_pos hc] at h
        exact E_X9_descend_c81 hKS h hQ
      · rw [if_neg hc] at h
        exact E_X9_descend_c80 hKS h hQ
def F_X9_descend_b (X : p_X) (KS : Nat → Int32 → Int32 → Int32 → p_M → Option (Int32 × p_M)) (v0 : Nat) (v1 : Int32) (v2 : Int32) (v3 : Int32) (μ : p_M) : Option (Int32 × p_M) :=
  p_ok (mK μ v0 = 10 ∧ v0 < mN μ)
  ((mR μ v0 0).bind fun q2 =>
  p_ok (23 ≤ mK μ q2 ∧ mK μ q2 ≤ 26 ∧ ¬ v1 < 0 ∧ v1.toNatClampNeg < mL μ q2 ∧ q2 < mN μ)
  ((mR μ q2 v1.toNatClampNeg).bind fun q4 =>
  p_ok (mK μ q4 = 4 ∧ q4 < mN μ)
  (if (mI μ q4 0) < (mI μ v0 5)
  then (F_X9_descend_c32 X KS μ)
  else (if (mI μ v0 7) ≤ (mI μ q4 2)
    then ((F_X3_surelyMeets q4 (mI μ v0 5) (mI μ v0 6) (mI μ v0 7) μ).bind fun q6 =>
      if q6.1 = 0
      then (F_X9_descend_c59 X KS v0 v1 v2 v3 q4 q6.2)
      else (p_ok (mK q6.2 v0 = 10 ∧ v0 < mN q6.2)
        ((F_X9_keepIfBetter v0 v1 v3 q6.2).bind fun q7 =>
        F_X9_descend_c59 X KS v0 v1 v2 v3 q4 q7.2)))
    else (F_X9_descend_c32 X KS μ)))))
theorem E_X9_descend_b {X : p_X} {d : Nat} {Q : p_R → Prop} {KS : Nat → Int32 → Int32 → Int32 → p_M → Option (Int32 × p_M)} (hKS : ∀ (z : Nat) (Q : p_R → Prop) (v0 : Nat) (v1 : Int32) (v2 : Int32) (v3 : Int32) (μ : p_M) {r : Int32 × p_M}, KS v0 v1 v2 v3 μ = some r → Q ((0, none), r.2) → p_Ev X (d + 1) M_X9_descend 0 [.ref v0, .int v1, .int v2, .int v3, .double 0, .double 0] [] μ Q) {v0 : Nat} {v1 : Int32} {v2 : Int32} {v3 : Int32} {μ : p_M} {r : Int32 × p_M} (h : F_X9_descend_b X KS v0 v1 v2 v3 μ = some r) (hQ : Q ((0, none), r.2)) : p_Ev X (d + 2) M_X9_descend 0 [.ref v0, .int v1, .int v2, .int v3, .double 0, .double 0] [] μ Q := by
  unfold F_X9_descend_b at h
  refine e_aload_n dX9_descend_0 rfl ?_
  obtain ⟨h1, h⟩ := p_ok_some h
  obtain ⟨q2, hq2, h⟩ := p_bd h
  refine e_getR dX9_descend_1 rfl rfl h1.1 h1.2 hq2 ?_
  refine e_iload_n dX9_descend_4 rfl ?_
  obtain ⟨h3, h⟩ := p_ok_some h
  obtain ⟨q4, hq4, h⟩ := p_bd h
  refine e_aald dX9_descend_5 h3 hq4 ?_
  refine e_astore dX9_descend_6 (Nat.le_of_ble_eq_true rfl) rfl ?_
  refine e_aload dX9_descend_8 rfl ?_
  obtain ⟨h5, h⟩ := p_ok_some h
  refine e_getI dX9_descend_10 rfl rfl h5.1 h5.2 ?_
  refine e_aload_n dX9_descend_13 rfl ?_
  refine e_getI dX9_descend_14 rfl rfl h1.1 h1.2 ?_
  refine e_ic_lt dX9_descend_17 32 (by decide) (fun hc => ?_) (fun hc => ?_)
  · rw [if_pos hc] at h
    exact E_X9_descend_c32 hKS h hQ
  · rw [if_neg hc] at h
    refine e_aload dX9_descend_20 rfl ?_
    refine e_getI dX9_descend_22 rfl rfl h5.1 h5.2 ?_
    refine e_aload_n dX9_descend_25 rfl ?_
    refine e_getI dX9_descend_26 rfl rfl h1.1 h1.2 ?_
    refine e_ic_ge dX9_descend_29 33 (by decide) (fun hc => ?_) (fun hc => ?_)
    · rw [if_pos hc] at h
      refine e_aload dX9_descend_33 rfl ?_
      refine e_aload_n dX9_descend_35 rfl ?_
      refine e_getI dX9_descend_36 rfl rfl h1.1 h1.2 ?_
      refine e_aload_n dX9_descend_39 rfl ?_
      refine e_getI dX9_descend_40 rfl rfl h1.1 h1.2 ?_
      refine e_aload_n dX9_descend_43 rfl ?_
      refine e_getI dX9_descend_44 rfl rfl h1.1 h1.2 ?_
      obtain ⟨q6, hq6, h⟩ := p_bd h
      refine f_cVi dX9_descend_47 rfl rfl ⟨rfl, rfl, by decide⟩ rfl h5 (fun Q' hQ' => E_X3_surelyMeets hq6 hQ') ?_
      refine e_if_eq dX9_descend_50 59 (by decide) (fun hc => ?_) (fun hc => ?_)
      · rw [if_pos hc] at h
        exact E_X9_descend_c59 hKS h hQ
      · rw [if_neg hc] at h
        refine e_aload_n dX9_descend_53 rfl ?_
        refine e_iload_n dX9_descend_54 rfl ?_
        refine e_iload_n dX9_descend_55 rfl ?_
        obtain ⟨h8, h⟩ := p_ok_some h
        obtain ⟨q7, hq7, h⟩ := p_bd h
        refine f_cVv dX9_descend_56 rfl rfl ⟨rfl, rfl, by decide⟩ rfl h8 (fun Q' hQ' => E_X9_keepIfBetter hq7 hQ') ?_
        exact E_X9_descend_c59 hKS h hQ
    · rw [if_neg hc] at h
      exact E_X9_descend_c32 hKS h hQ
def F_X9_descend (X : p_X) : Nat → Nat → Int32 → Int32 → Int32 → p_M → Option (Int32 × p_M)
  | 0, _, _, _, _, _ => none
  | n + 1, v0, v1, v2, v3, μ => F_X9_descend_b X (F_X9_descend X n) v0 v1 v2 v3 μ
theorem E_X9_descend {X : p_X} : ∀ (n d : Nat) (Q : p_R → Prop) (v0 : Nat) (v1 : Int32) (v2 : Int32) (v3 : Int32) (μ : p_M) {r : Int32 × p_M}, F_X9_descend X n v0 v1 v2 v3 μ = some r → Q ((0, none), r.2) → p_Ev X (d + n + 2) M_X9_descend 0 [.ref v0, .int v1, .int v2, .int v3, .double 0, .double 0] [] μ Q := by
  intro n
  induction n with
  | zero => intro d Q v0 v1 v2 v3 μ r h hQ; rw [F_X9_descend] at h; cases h
  | succ n ih =>
    intro d Q v0 v1 v2 v3 μ r h hQ
    rw [F_X9_descend] at h
    exact E_X9_descend_b (d := d + n + 1) (fun z Q v0 v1 v2 v3 μ r h hQ => ih d Q _ _ _ _ _ h hQ) h hQ
/-! X9_run -/
def F_X9_run (X : p_X) (v0 : Nat) (v1 : Nat) (v2 : Int32) (μ : p_M) : Option (Int32 × p_M) :=
  p_ok (mK μ v0 = 10 ∧ v0 < mN μ)
  (p_let (sI μ v0 3 (-1)) fun m2 =>
  p_let (sI m2 v0 4 (0 : Int32)) fun m3 =>
  (mR m3 v0 0).bind fun q4 =>
  p_ok (23 ≤ mK m3 q4 ∧ mK m3 q4 ≤ 26 ∧ ¬ (0 : Int32) < 0 ∧ (0 : Int32).toNatClampNeg < mL m3 q4 ∧ q4 < mN m3)
  ((mR m3 q4 (0 : Int32).toNatClampNeg).bind fun q6 =>
  p_ok (mK m3 q6 = 4 ∧ q6 < mN m3)
  ((F_X3_copy q6 v1 m3).bind fun q7 =>
  p_ok (mK q7.2 v0 = 10 ∧ v0 < mN q7.2)
  ((F_X9_descend X 8 v0 (0 : Int32) (if (6 : Int32) < v2 then (6 : Int32) else v2) (0 : Int32) q7.2).bind fun q9 =>
  some (0, q9.2)))))
theorem E_X9_run {X : p_X} {d : Nat} {Q : p_R → Prop} {v0 : Nat} {v1 : Nat} {v2 : Int32} {μ : p_M} {r : Int32 × p_M} (h : F_X9_run X v0 v1 v2 μ = some r) (hQ : Q ((0, none), r.2)) : p_Ev X (d + 11) M_X9_run 0 [.ref v0, .ref v1, .int v2] [] μ Q := by
  unfold F_X9_run at h
  refine e_aload_n dX9_run_0 rfl ?_
  refine e_iconst (v := (-1)) dX9_run_1 rfl ?_
  obtain ⟨h1, h⟩ := p_ok_some h
  replace h := p_lt h
  refine e_putI dX9_run_2 rfl ⟨rfl, rfl, (fun h => by cases h)⟩ (fun h => by cases h) h1.1 h1.2 ?_
  refine e_aload_n dX9_run_5 rfl ?_
  refine e_iconst (v := (0 : Int32)) dX9_run_6 rfl ?_
  replace h := p_lt h
  refine e_putI dX9_run_7 rfl ⟨rfl, rfl, (fun h => by cases h)⟩ (fun h => by cases h) h1.1 h1.2 ?_
  refine e_aload_n dX9_run_10 rfl ?_
  obtain ⟨q4, hq4, h⟩ := p_bd h
  refine e_getR dX9_run_11 rfl rfl h1.1 h1.2 hq4 ?_
  refine e_iconst (v := (0 : Int32)) dX9_run_14 rfl ?_
  obtain ⟨h5, h⟩ := p_ok_some h
  obtain ⟨q6, hq6, h⟩ := p_bd h
  refine e_aald dX9_run_15 h5 hq6 ?_
  refine e_aload_n dX9_run_16 rfl ?_
  obtain ⟨h8, h⟩ := p_ok_some h
  obtain ⟨q7, hq7, h⟩ := p_bd h
  refine f_cVv dX9_run_17 rfl rfl ⟨rfl, rfl, by decide⟩ rfl h8 (fun Q' hQ' => E_X3_copy hq7 hQ') ?_
  refine e_aload_n dX9_run_20 rfl ?_
  refine e_iconst (v := (0 : Int32)) dX9_run_21 rfl ?_
  refine e_iload_n dX9_run_22 rfl ?_
  refine e_bipush (v := (6 : Int32)) dX9_run_23 rfl ?_
  refine e_min dX9_run_25 rfl (Nat.le_of_ble_eq_true rfl) ?_
  refine e_iconst (v := (0 : Int32)) dX9_run_28 rfl ?_
  obtain ⟨h10, h⟩ := p_ok_some h
  obtain ⟨q9, hq9, h⟩ := p_bd h
  refine f_cVv dX9_run_29 rfl rfl ⟨rfl, rfl, by decide⟩ rfl h10 (fun Q' hQ' => E_X9_descend 8 _ Q' _ _ _ _ _ hq9 hQ') ?_
  cases h
  exact e_vret dX9_run_32 rfl hQ
/-! X9_wishFor -/
def F_X9_wishFor (v0 : Nat) (v1 : Int32) (v2 : Int32) (v3 : Int32) (μ : p_M) : Option (Int32 × p_M) :=
  p_ok (mK μ v0 = 10 ∧ v0 < mN μ)
  (p_let (sI μ v0 5 v1) fun m2 =>
  p_let (sI m2 v0 6 v2) fun m3 =>
  p_let (sI m3 v0 7 v3) fun m4 =>
  some (0, m4))
theorem E_X9_wishFor {X : p_X} {d : Nat} {Q : p_R → Prop} {v0 : Nat} {v1 : Int32} {v2 : Int32} {v3 : Int32} {μ : p_M} {r : Int32 × p_M} (h : F_X9_wishFor v0 v1 v2 v3 μ = some r) (hQ : Q ((0, none), r.2)) : p_Ev X (d + 0) M_X9_wishFor 0 [.ref v0, .int v1, .int v2, .int v3] [] μ Q := by
  unfold F_X9_wishFor at h
  refine e_aload_n dX9_wishFor_0 rfl ?_
  refine e_iload_n dX9_wishFor_1 rfl ?_
  obtain ⟨h1, h⟩ := p_ok_some h
  replace h := p_lt h
  refine e_putI dX9_wishFor_2 rfl ⟨rfl, rfl, (fun h => by cases h)⟩ (fun h => by cases h) h1.1 h1.2 ?_
  refine e_aload_n dX9_wishFor_5 rfl ?_
  refine e_iload_n dX9_wishFor_6 rfl ?_
  replace h := p_lt h
  refine e_putI dX9_wishFor_7 rfl ⟨rfl, rfl, (fun h => by cases h)⟩ (fun h => by cases h) h1.1 h1.2 ?_
  refine e_aload_n dX9_wishFor_10 rfl ?_
  refine e_iload_n dX9_wishFor_11 rfl ?_
  replace h := p_lt h
  refine e_putI dX9_wishFor_12 rfl ⟨rfl, rfl, (fun h => by cases h)⟩ (fun h => by cases h) h1.1 h1.2 ?_
  cases h
  exact e_vret dX9_wishFor_15 rfl hQ
/-! X12_searchFor -/
def F_X12_searchFor (X : p_X) (v0 : Nat) (v1 : Int32) (v2 : Int32) (v3 : Int32) (v4 : Int32) (v5 : Int32) (μ : p_M) : Option (Nat × Int32 × p_M) :=
  p_ok (mK μ v0 = 13 ∧ v0 < mN μ)
  ((F_X12_needIndex v1 (mI μ v0 2) μ).bind fun q2 =>
  if q2.1 = 0
  then ((F_X12_needWish v2 v3 v4 q2.2.2).bind fun q3 =>
    if q3.1 = 0
    then ((F_X12_within v5 (0 : Int32) (6 : Int32) q3.2.2).bind fun q4 =>
      (F_X12_need q4.1 q4.2).bind fun q5 =>
      if q5.1 = 0
      then (p_ok (mK q5.2.2 v0 = 13 ∧ v0 < mN q5.2.2)
        ((mR q5.2.2 v0 8).bind fun q7 =>
        p_ok (mK q5.2.2 q7 = 10 ∧ q7 < mN q5.2.2)
        ((F_X9_wishFor q7 v2 v3 v4 q5.2.2).bind fun q8 =>
        p_ok (mK q8.2 v0 = 13 ∧ v0 < mN q8.2)
        ((mR q8.2 v0 8).bind fun q11 =>
        (mR q8.2 v0 1).bind fun q12 =>
        p_ok (23 ≤ mK q8.2 q12 ∧ mK q8.2 q12 ≤ 26 ∧ ¬ v1 < 0 ∧ v1.toNatClampNeg < mL q8.2 q12 ∧ q12 < mN q8.2)
        ((mR q8.2 q12 v1.toNatClampNeg).bind fun q14 =>
        p_ok (mK q8.2 q11 = 10 ∧ q11 < mN q8.2)
        ((F_X9_run X q11 q14 v5 q8.2).bind fun q15 =>
        some (0, 0, q15.2)))))))
      else (some (q5.1, 0, q5.2.2)))
    else (some (q3.1, 0, q3.2.2)))
  else (some (q2.1, 0, q2.2.2)))
theorem E_X12_searchFor {X : p_X} {d : Nat} {Q : p_R → Prop} {v0 : Nat} {v1 : Int32} {v2 : Int32} {v3 : Int32} {v4 : Int32} {v5 : Int32} {μ : p_M} {r : Nat × Int32 × p_M} (h : F_X12_searchFor X v0 v1 v2 v3 v4 v5 μ = some r) (hQ : Q (tV r)) : p_Ev X (d + 12) M_X12_searchFor 0 [.ref v0, .int v1, .int v2, .int v3, .int v4, .int v5] [] μ Q := by
  unfold F_X12_searchFor at h
  refine e_iload_n dX12_searchFor_0 rfl ?_
  refine e_aload_n dX12_searchFor_1 rfl ?_
  obtain ⟨h1, h⟩ := p_ok_some h
  refine e_getI dX12_searchFor_2 rfl rfl h1.1 h1.2 ?_
  obtain ⟨q2, hq2, h⟩ := p_bd h
  refine f_tSv dX12_searchFor_5 rfl rfl rfl rfl (by decide) rfl (fun Q' hQ' => E_X12_needIndex hq2 hQ') (fun hc => ?_) (fun hc => ?_)
  · rw [if_pos hc] at h
    refine e_iload_n dX12_searchFor_8 rfl ?_
    refine e_iload_n dX12_searchFor_9 rfl ?_
    refine e_iload dX12_searchFor_10 rfl ?_
    obtain ⟨q3, hq3, h⟩ := p_bd h
    refine f_tSv dX12_searchFor_12 rfl rfl rfl rfl (by decide) rfl (fun Q' hQ' => E_X12_needWish hq3 hQ') (fun hc => ?_) (fun hc => ?_)
    · rw [if_pos hc] at h
      refine e_iload dX12_searchFor_15 rfl ?_
      refine e_iconst (v := (0 : Int32)) dX12_searchFor_17 rfl ?_
      refine e_bipush (v := (6 : Int32)) dX12_searchFor_18 rfl ?_
      obtain ⟨q4, hq4, h⟩ := p_bd h
      refine f_cSi dX12_searchFor_20 rfl rfl rfl rfl (fun Q' hQ' => E_X12_within hq4 hQ') ?_
      obtain ⟨q5, hq5, h⟩ := p_bd h
      refine f_tSv dX12_searchFor_23 rfl rfl rfl rfl (by decide) rfl (fun Q' hQ' => E_X12_need hq5 hQ') (fun hc => ?_) (fun hc => ?_)
      · rw [if_pos hc] at h
        refine e_aload_n dX12_searchFor_26 rfl ?_
        obtain ⟨h6, h⟩ := p_ok_some h
        obtain ⟨q7, hq7, h⟩ := p_bd h
        refine e_getR dX12_searchFor_27 rfl rfl h6.1 h6.2 hq7 ?_
        refine e_iload_n dX12_searchFor_30 rfl ?_
        refine e_iload_n dX12_searchFor_31 rfl ?_
        refine e_iload dX12_searchFor_32 rfl ?_
        obtain ⟨h9, h⟩ := p_ok_some h
        obtain ⟨q8, hq8, h⟩ := p_bd h
        refine f_cVv dX12_searchFor_34 rfl rfl ⟨rfl, rfl, by decide⟩ rfl h9 (fun Q' hQ' => E_X9_wishFor hq8 hQ') ?_
        refine e_aload_n dX12_searchFor_37 rfl ?_
        obtain ⟨h10, h⟩ := p_ok_some h
        obtain ⟨q11, hq11, h⟩ := p_bd h
        refine e_getR dX12_searchFor_38 rfl rfl h10.1 h10.2 hq11 ?_
        refine e_aload_n dX12_searchFor_41 rfl ?_
        obtain ⟨q12, hq12, h⟩ := p_bd h
        refine e_getR dX12_searchFor_42 rfl rfl h10.1 h10.2 hq12 ?_
        refine e_iload_n dX12_searchFor_45 rfl ?_
        obtain ⟨h13, h⟩ := p_ok_some h
        obtain ⟨q14, hq14, h⟩ := p_bd h
        refine e_aald dX12_searchFor_46 h13 hq14 ?_
        refine e_iload dX12_searchFor_47 rfl ?_
        obtain ⟨h16, h⟩ := p_ok_some h
        obtain ⟨q15, hq15, h⟩ := p_bd h
        refine f_cVv dX12_searchFor_49 rfl rfl ⟨rfl, rfl, by decide⟩ rfl h16 (fun Q' hQ' => E_X9_run hq15 hQ') ?_
        cases h
        exact e_vret dX12_searchFor_52 rfl hQ
      · rw [if_neg hc] at h
        cases h
        exact hQ
    · rw [if_neg hc] at h
      cases h
      exact hQ
  · rw [if_neg hc] at h
    cases h
    exact hQ
