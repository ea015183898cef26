/-! X6_packBegin -/
def F_X6_packBegin_c23 (s0 : Int32) (μ : p_M) : Option (Int32 × p_M) :=
  some (s0, μ)
theorem E_X6_packBegin_c23 {X : p_X} {d : Nat} {Q : p_R → Prop} {s0 : Int32} {w0 : Value} {w1 : Value} {μ : p_M} {r : Int32 × p_M} (h : F_X6_packBegin_c23 s0 μ = some r) (hQ : Q ((0, some (.int r.1)), r.2)) : p_Ev X (d + 0) M_X6_packBegin 23 [w0, w1] [.int s0] μ Q := by
  unfold F_X6_packBegin_c23 at h
  cases h
  exact e_ireti dX6_packBegin_23 rfl hQ
def F_X6_packBegin_c22 (μ : p_M) : Option (Int32 × p_M) :=
  F_X6_packBegin_c23 (0 : Int32) μ
theorem E_X6_packBegin_c22 {X : p_X} {d : Nat} {Q : p_R → Prop} {w0 : Value} {w1 : Value} {μ : p_M} {r : Int32 × p_M} (h : F_X6_packBegin_c22 μ = some r) (hQ : Q ((0, some (.int r.1)), r.2)) : p_Ev X (d + 0) M_X6_packBegin 22 [w0, w1] [] μ Q := by
  unfold F_X6_packBegin_c22 at h
  refine e_iconst (v := (0 : Int32)) dX6_packBegin_22 rfl ?_
  exact E_X6_packBegin_c23 h hQ
def F_X6_packBegin (v0 : Nat) (v1 : Int32) (μ : p_M) : Option (Int32 × p_M) :=
  if v1 < 0
  then (F_X6_packBegin_c22 μ)
  else (p_ok (mK μ v0 = 7 ∧ v0 < mN μ)
    ((mR μ v0 7).bind fun q2 =>
    p_ok (q2 < p_E ∧ 20 ≤ mK μ q2 ∧ mK μ q2 ≤ 26 ∧ q2 < mN μ)
    (if (nI (mL μ q2)) ≤ v1
    then (F_X6_packBegin_c22 μ)
    else (p_ok (q2 < p_E ∧ mK μ q2 = 20 ∧ q2 < mN μ)
      (p_ok (¬ v1 < 0 ∧ v1.toNatClampNeg < mL μ q2)
      (F_X6_packBegin_c23 (mI μ q2 v1.toNatClampNeg) μ))))))
theorem E_X6_packBegin {X : p_X} {d : Nat} {Q : p_R → Prop} {v0 : Nat} {v1 : Int32} {μ : p_M} {r : Int32 × p_M} (h : F_X6_packBegin v0 v1 μ = some r) (hQ : Q ((0, some (.int r.1)), r.2)) : p_Ev X (d + 0) M_X6_packBegin 0 [.ref v0, .int v1] [] μ Q := by
  unfold F_X6_packBegin at h
  refine e_iload_n dX6_packBegin_0 rfl ?_
  refine e_if_lt dX6_packBegin_1 22 (by decide) (fun hc => ?_) (fun hc => ?_)
  · rw [if_pos hc] at h
    exact E_X6_packBegin_c22 h hQ
  · rw [if_neg hc] at h
    refine e_iload_n dX6_packBegin_4 rfl ?_
    refine e_aload_n dX6_packBegin_5 rfl ?_
    obtain ⟨h1, h⟩ := p_ok_some h
    obtain ⟨q2, hq2, h⟩ := p_bd h
    refine e_getR dX6_packBegin_6 rfl rfl h1.1 h1.2 hq2 ?_
    obtain ⟨h3, h⟩ := p_ok_some h
    refine e_alen dX6_packBegin_9 h3 ?_
    refine e_ic_ge dX6_packBegin_10 22 (by decide) (fun hc => ?_) (fun hc => ?_)
    · rw [if_pos hc] at h
      exact E_X6_packBegin_c22 h hQ
    · rw [if_neg hc] at h
      refine e_aload_n dX6_packBegin_13 rfl ?_
      refine e_getR dX6_packBegin_14 rfl rfl h1.1 h1.2 hq2 ?_
      refine e_iload_n dX6_packBegin_17 rfl ?_
      obtain ⟨h4, h⟩ := p_ok_some h
      obtain ⟨h5, h⟩ := p_ok_some h
      refine e_iaG dX6_packBegin_18 h4 h5 ?_
      refine e_goto dX6_packBegin_19 23 (by decide) ?_
      exact E_X6_packBegin_c23 h hQ
/-! X12_deliver -/
def F_X12_deliver_c34 : Nat → Nat → Int32 → Int32 → Int32 → p_M → Option (Nat × Int32 × p_M)
  | 0, _, _, _, _, _ => none
  | n + 1, v0, v2, v3, v4, μ =>
    if v2 ≤ v4
    then (p_ok (mK μ v0 = 13 ∧ v0 < mN μ)
      (p_let (sI μ v0 17 ((mI μ v0 17) + v2)) fun m8 =>
      p_let (sI m8 v0 18 ((mI m8 v0 18) + v3)) fun m9 =>
      some (0, v3, m9)))
    else (p_ok (mK μ v0 = 13 ∧ v0 < mN μ)
      ((mR μ v0 16).bind fun q11 =>
      p_ok (mK μ q11 = 7 ∧ q11 < mN μ)
      ((F_X6_packBegin q11 v4 μ).bind fun q12 =>
      p_ok (mK q12.2 v0 = 13 ∧ v0 < mN q12.2)
      ((F_X12_deliverPack v0 q12.1 q12.2).bind fun q14 =>
      if q14.1 = 0
      then (F_X12_deliver_c34 n v0 v2 (v3 + q14.2.1) (v4 + (1 : Int32)) q14.2.2)
      else (some (q14.1, 0, q14.2.2))))))
theorem E_X12_deliver_c34 {X : p_X} {d : Nat} {Q : p_R → Prop} : ∀ (n : Nat) (v0 : Nat) (v2 : Int32) (v3 : Int32) (v4 : Int32) (μ : p_M) (r : Nat × Int32 × p_M) (w1 : Value), F_X12_deliver_c34 n v0 v2 v3 v4 μ = some r → Q (tI r) → p_Ev X (d + 4) M_X12_deliver 34 [.ref v0, w1, .int v2, .int v3, .int v4] [] μ Q := by
  intro n
  induction n with
  | zero => intro v0 v2 v3 v4 μ r w1 h hQ; rw [F_X12_deliver_c34] at h; cases h
  | succ n ih =>
    intro v0 v2 v3 v4 μ r w1 h hQ
    rw [F_X12_deliver_c34] at h
    refine e_iload dX12_deliver_34 rfl ?_
    refine e_iload_n dX12_deliver_36 rfl ?_
    refine e_ic_ge dX12_deliver_37 62 (by decide) (fun hc => ?_) (fun hc => ?_)
    · rw [if_pos hc] at h
      refine e_aload_n dX12_deliver_62 rfl ?_
      refine e_dupR dX12_deliver_63 ?_
      obtain ⟨h7, h⟩ := p_ok_some h
      refine e_getI dX12_deliver_64 rfl rfl h7.1 h7.2 ?_
      refine e_iload_n dX12_deliver_67 rfl ?_
      refine e_iadd dX12_deliver_68 ?_
      replace h := p_lt h
      refine e_putI dX12_deliver_69 rfl ⟨rfl, rfl, (fun h => by cases h)⟩ (fun h => by cases h) h7.1 h7.2 ?_
      refine e_aload_n dX12_deliver_72 rfl ?_
      refine e_dupR dX12_deliver_73 ?_
      refine e_getI dX12_deliver_74 rfl rfl h7.1 h7.2 ?_
      refine e_iload_n dX12_deliver_77 rfl ?_
      refine e_iadd dX12_deliver_78 ?_
      replace h := p_lt h
      refine e_putI dX12_deliver_79 rfl ⟨rfl, rfl, (fun h => by cases h)⟩ (fun h => by cases h) h7.1 h7.2 ?_
      refine e_iload_n dX12_deliver_82 rfl ?_
      cases h
      exact e_ireti dX12_deliver_83 rfl hQ
    · rw [if_neg hc] at h
      refine e_iload_n dX12_deliver_40 rfl ?_
      refine e_aload_n dX12_deliver_41 rfl ?_
      refine e_aload_n dX12_deliver_42 rfl ?_
      obtain ⟨h10, h⟩ := p_ok_some h
      obtain ⟨q11, hq11, h⟩ := p_bd h
      refine e_getR dX12_deliver_43 rfl rfl h10.1 h10.2 hq11 ?_
      refine e_iload dX12_deliver_46 rfl ?_
      obtain ⟨h13, h⟩ := p_ok_some h
      obtain ⟨q12, hq12, h⟩ := p_bd h
      refine f_cVi dX12_deliver_48 rfl rfl ⟨rfl, rfl, by decide⟩ rfl h13 (fun Q' hQ' => E_X6_packBegin hq12 hQ') ?_
      obtain ⟨h15, h⟩ := p_ok_some h
      obtain ⟨q14, hq14, h⟩ := p_bd h
      refine f_tVi dX12_deliver_51 rfl rfl ⟨rfl, rfl, by decide⟩ rfl h15 (by decide) rfl (fun Q' hQ' => E_X12_deliverPack hq14 hQ') (fun hc => ?_) (fun hc => ?_)
      · rw [if_pos hc] at h
        refine e_iadd dX12_deliver_54 ?_
        refine e_istore_n dX12_deliver_55 (Nat.le_of_ble_eq_true rfl) rfl ?_
        refine e_iinc (v := (1 : Int32)) dX12_deliver_56 rfl rfl rfl ?_
        refine e_goto dX12_deliver_59 34 (by decide) ?_
        exact ih _ _ _ _ _ _ _ h hQ
      · rw [if_neg hc] at h
        cases h
        exact tI_E hc hQ
def F_X12_deliver (v0 : Nat) (v1 : Int32) (v2 : Int32) (μ : p_M) : Option (Nat × Int32 × p_M) :=
  p_ok (mK μ v0 = 13 ∧ v0 < mN μ)
  ((F_X12_needIndex v1 (mI μ v0 2) μ).bind fun q2 =>
  if q2.1 = 0
  then ((F_X12_within v2 (1 : Int32) (20 : Int32) q2.2.2).bind fun q3 =>
    (F_X12_need q3.1 q3.2).bind fun q4 =>
    if q4.1 = 0
    then (p_ok (mK q4.2.2 v0 = 13 ∧ v0 < mN q4.2.2)
      ((F_X12_findPacks v0 v1 q4.2.2).bind fun q5 =>
      if v2 ≤ q5.1
      then (F_X12_deliver_c34 p_fu v0 v2 (0 : Int32) (0 : Int32) q5.2)
      else (some (0, (-1), q5.2))))
    else (some (q4.1, 0, q4.2.2)))
  else (some (q2.1, 0, q2.2.2)))
theorem E_X12_deliver {X : p_X} {d : Nat} {Q : p_R → Prop} {v0 : Nat} {v1 : Int32} {v2 : Int32} {μ : p_M} {r : Nat × Int32 × p_M} (h : F_X12_deliver v0 v1 v2 μ = some r) (hQ : Q (tI r)) : p_Ev X (d + 4) M_X12_deliver 0 [.ref v0, .int v1, .int v2, .double 0, .double 0] [] μ Q := by
  unfold F_X12_deliver at h
  refine e_iload_n dX12_deliver_0 rfl ?_
  refine e_aload_n dX12_deliver_1 rfl ?_
  obtain ⟨h1, h⟩ := p_ok_some h
  refine e_getI dX12_deliver_2 rfl rfl h1.1 h1.2 ?_
  obtain ⟨q2, hq2, h⟩ := p_bd h
  refine f_tSv dX12_deliver_5 rfl rfl rfl rfl (by decide) rfl (fun Q' hQ' => E_X12_needIndex hq2 hQ') (fun hc => ?_) (fun hc => ?_)
  · rw [if_pos hc] at h
    refine e_iload_n dX12_deliver_8 rfl ?_
    refine e_iconst (v := (1 : Int32)) dX12_deliver_9 rfl ?_
    refine e_bipush (v := (20 : Int32)) dX12_deliver_10 rfl ?_
    obtain ⟨q3, hq3, h⟩ := p_bd h
    refine f_cSi dX12_deliver_12 rfl rfl rfl rfl (fun Q' hQ' => E_X12_within hq3 hQ') ?_
    obtain ⟨q4, hq4, h⟩ := p_bd h
    refine f_tSv dX12_deliver_15 rfl rfl rfl rfl (by decide) rfl (fun Q' hQ' => E_X12_need hq4 hQ') (fun hc => ?_) (fun hc => ?_)
    · rw [if_pos hc] at h
      refine e_aload_n dX12_deliver_18 rfl ?_
      refine e_iload_n dX12_deliver_19 rfl ?_
      obtain ⟨h6, h⟩ := p_ok_some h
      obtain ⟨q5, hq5, h⟩ := p_bd h
      refine f_cVi dX12_deliver_20 rfl rfl ⟨rfl, rfl, by decide⟩ rfl h6 (fun Q' hQ' => E_X12_findPacks hq5 hQ') ?_
      refine e_iload_n dX12_deliver_23 rfl ?_
      refine e_ic_ge dX12_deliver_24 29 (by decide) (fun hc => ?_) (fun hc => ?_)
      · rw [if_pos hc] at h
        refine e_iconst (v := (0 : Int32)) dX12_deliver_29 rfl ?_
        refine e_istore_n dX12_deliver_30 (Nat.le_of_ble_eq_true rfl) rfl ?_
        refine e_iconst (v := (0 : Int32)) dX12_deliver_31 rfl ?_
        refine e_istore dX12_deliver_32 (Nat.le_of_ble_eq_true rfl) rfl ?_
        exact E_X12_deliver_c34 p_fu _ _ _ _ _ _ _ h hQ
      · rw [if_neg hc] at h
        refine e_iconst (v := (-1)) dX12_deliver_27 rfl ?_
        cases h
        exact e_ireti dX12_deliver_28 rfl hQ
    · rw [if_neg hc] at h
      cases h
      exact tI_E hc hQ
  · rw [if_neg hc] at h
    cases h
    exact tI_E hc hQ
/-! L_deliver -/
def F_L_deliver (v0 : Nat) (v1 : Int32) (v2 : Int32) (v3 : Nat) (μ : p_M) : Option (Int32 × p_M) :=
  p_ok (mK μ v0 = 13 ∧ v0 < mN μ)
  ((F_X12_deliver v0 v1 v2 μ).bind fun q1 =>
  if q1.1 = 0
  then (p_ok (mK q1.2.2 v3 = 22 ∧ ¬ (0 : Int32) < 0 ∧ (0 : Int32).toNatClampNeg < mL q1.2.2 v3 ∧ v3 < mN q1.2.2)
    (p_let (sJ q1.2.2 v3 (0 : Int32).toNatClampNeg q1.2.1.toInt64) fun m4 =>
    some ((0 : Int32), m4)))
  else if q1.1 = 3 then (some ((1 : Int32), q1.2.2))
  else if q1.1 = 1 then (some ((2 : Int32), q1.2.2))
  else none)
theorem E_L_deliver {X : p_X} {d : Nat} {Q : p_R → Prop} {v0 : Nat} {v1 : Int32} {v2 : Int32} {v3 : Nat} {μ : p_M} {r : Int32 × p_M} (h : F_L_deliver v0 v1 v2 v3 μ = some r) (hQ : Q ((0, some (.int r.1)), r.2)) : p_Ev X (d + 5) M_L_deliver 0 [.ref v0, .int v1, .int v2, .ref v3, .double 0] [] μ Q := by
  unfold F_L_deliver at h
  refine e_aload_n dL_deliver_0 rfl ?_
  refine e_iconst (v := (0 : Int32)) dL_deliver_1 rfl ?_
  refine e_aload_n dL_deliver_2 rfl ?_
  refine e_iload_n dL_deliver_3 rfl ?_
  refine e_iload_n dL_deliver_4 rfl ?_
  obtain ⟨h2, h⟩ := p_ok_some h
  obtain ⟨q1, hq1, h⟩ := p_bd h
  refine f_hVi dL_deliver_5 rfl rfl ⟨rfl, rfl, by decide⟩ rfl h2 (by decide) (fun Q' hQ' => E_X12_deliver hq1 hQ') (fun hc => ?_) (fun hc => ?_)
  · rw [if_pos hc] at h
    refine e_i2l dL_deliver_8 ?_
    obtain ⟨h3, h⟩ := p_ok_some h
    replace h := p_lt h
    refine e_laS dL_deliver_9 h3 ?_
    refine e_goto dL_deliver_10 21 (by decide) ?_
    refine e_iconst (v := (0 : Int32)) dL_deliver_21 rfl ?_
    cases h
    exact e_ireti dL_deliver_22 rfl hQ
  · rw [if_neg hc] at h
    by_cases hc : q1.1 = 3
    · rw [if_pos hc] at h
      refine ⟨13, by rw [hc]; rfl, ?_⟩
      refine e_astZ dL_deliver_13 (Nat.le_of_ble_eq_true rfl) rfl ?_
      refine e_iconst (v := (1 : Int32)) dL_deliver_15 rfl ?_
      cases h
      exact e_ireti dL_deliver_16 rfl hQ
    rw [if_neg hc] at h
    by_cases hc : q1.1 = 1
    · rw [if_pos hc] at h
      refine ⟨17, by rw [hc]; rfl, ?_⟩
      refine e_astZ dL_deliver_17 (Nat.le_of_ble_eq_true rfl) rfl ?_
      refine e_iconst (v := (2 : Int32)) dL_deliver_19 rfl ?_
      cases h
      exact e_ireti dL_deliver_20 rfl hQ
    rw [if_neg hc] at h
    cases h
/-! X12_draw -/
def F_X12_draw_c26 (v0 : Nat) (v1 : Int32) (v2 : Int32) (s0 : Int32) (μ : p_M) : Option (Nat × Int32 × p_M) :=
  (F_X12_need s0 μ).bind fun q3 =>
  if q3.1 = 0
  then (p_ok (mK q3.2.2 v0 = 13 ∧ v0 < mN q3.2.2)
    ((mR q3.2.2 v0 10).bind fun q5 =>
    p_ok (mK q3.2.2 q5 = 12 ∧ q5 < mN q3.2.2)
    ((F_X11_takeOut q5 v1 v2 q3.2.2).bind fun q7 =>
    p_ok (mK q7.2 q5 = 12 ∧ q5 < mN q7.2)
    (p_let (sI q7.2 q5 7 ((mI q3.2.2 q5 7) + q7.1)) fun m9 =>
    p_ok (mK m9 v0 = 13 ∧ v0 < mN m9)
    ((mR m9 v0 10).bind fun q11 =>
    p_ok (mK m9 q11 = 12 ∧ q11 < mN m9)
    (some (0, (mI m9 q11 5), m9)))))))
  else (some (q3.1, 0, q3.2.2))
theorem E_X12_draw_c26 {X : p_X} {d : Nat} {Q : p_R → Prop} {v0 : Nat} {v1 : Int32} {v2 : Int32} {s0 : Int32} {μ : p_M} {r : Nat × Int32 × p_M} (h : F_X12_draw_c26 v0 v1 v2 s0 μ = some r) (hQ : Q (tI r)) : p_Ev X (d + 3) M_X12_draw 26 [.ref v0, .int v1, .int v2] [.int s0] μ Q := by
  unfold F_X12_draw_c26 at h
  obtain ⟨q3, hq3, h⟩ := p_bd h
  refine f_tSv dX12_draw_26 rfl rfl rfl rfl (by decide) rfl (fun Q' hQ' => E_X12_need hq3 hQ') (fun hc => ?_) (fun hc => ?_)
  · rw [if_pos hc] at h
    refine e_aload_n dX12_draw_29 rfl ?_
    obtain ⟨h4, h⟩ := p_ok_some h
    obtain ⟨q5, hq5, h⟩ := p_bd h
    refine e_getR dX12_draw_30 rfl rfl h4.1 h4.2 hq5 ?_
    refine e_dupR dX12_draw_33 ?_
    obtain ⟨h6, h⟩ := p_ok_some h
    refine e_getI dX12_draw_34 rfl rfl h6.1 h6.2 ?_
    refine e_aload_n dX12_draw_37 rfl ?_
    refine e_getR dX12_draw_38 rfl rfl h4.1 h4.2 hq5 ?_
    refine e_iload_n dX12_draw_41 rfl ?_
    refine e_iload_n dX12_draw_42 rfl ?_
    obtain ⟨q7, hq7, h⟩ := p_bd h
    refine f_cVi dX12_draw_43 rfl rfl ⟨rfl, rfl, by decide⟩ rfl h6 (fun Q' hQ' => E_X11_takeOut hq7 hQ') ?_
    refine e_iadd dX12_draw_46 ?_
    obtain ⟨h8, h⟩ := p_ok_some h
    replace h := p_lt h
    refine e_putI dX12_draw_47 rfl ⟨rfl, rfl, (fun _ => rfl)⟩ (fun h => by cases h) h8.1 h8.2 ?_
    refine e_aload_n dX12_draw_50 rfl ?_
    obtain ⟨h10, h⟩ := p_ok_some h
    obtain ⟨q11, hq11, h⟩ := p_bd h
    refine e_getR dX12_draw_51 rfl rfl h10.1 h10.2 hq11 ?_
    obtain ⟨h12, h⟩ := p_ok_some h
    refine e_getI dX12_draw_54 rfl rfl h12.1 h12.2 ?_
    cases h
    exact e_ireti dX12_draw_57 rfl hQ
  · rw [if_neg hc] at h
    cases h
    exact tI_E hc hQ
def F_X12_draw_c25 (v0 : Nat) (v1 : Int32) (v2 : Int32) (μ : p_M) : Option (Nat × Int32 × p_M) :=
  F_X12_draw_c26 v0 v1 v2 (0 : Int32) μ
theorem E_X12_draw_c25 {X : p_X} {d : Nat} {Q : p_R → Prop} {v0 : Nat} {v1 : Int32} {v2 : Int32} {μ : p_M} {r : Nat × Int32 × p_M} (h : F_X12_draw_c25 v0 v1 v2 μ = some r) (hQ : Q (tI r)) : p_Ev X (d + 3) M_X12_draw 25 [.ref v0, .int v1, .int v2] [] μ Q := by
  unfold F_X12_draw_c25 at h
  refine e_iconst (v := (0 : Int32)) dX12_draw_25 rfl ?_
  exact E_X12_draw_c26 h hQ
def F_X12_draw (v0 : Nat) (v1 : Int32) (v2 : Int32) (μ : p_M) : Option (Nat × Int32 × p_M) :=
  (F_X12_within v1 (1 : Int32) (1000 : Int32) μ).bind fun q1 =>
  if q1.1 = 0
  then (F_X12_draw_c25 v0 v1 v2 q1.2)
  else ((F_X12_within v2 (0 : Int32) (100 : Int32) q1.2).bind fun q2 =>
    if q2.1 = 0
    then (F_X12_draw_c25 v0 v1 v2 q2.2)
    else (F_X12_draw_c26 v0 v1 v2 (1 : Int32) q2.2))
theorem E_X12_draw {X : p_X} {d : Nat} {Q : p_R → Prop} {v0 : Nat} {v1 : Int32} {v2 : Int32} {μ : p_M} {r : Nat × Int32 × p_M} (h : F_X12_draw v0 v1 v2 μ = some r) (hQ : Q (tI r)) : p_Ev X (d + 3) M_X12_draw 0 [.ref v0, .int v1, .int v2] [] μ Q := by
  unfold F_X12_draw at h
  refine e_iload_n dX12_draw_0 rfl ?_
  refine e_iconst (v := (1 : Int32)) dX12_draw_1 rfl ?_
  refine e_sipush (v := (1000 : Int32)) dX12_draw_2 rfl ?_
  obtain ⟨q1, hq1, h⟩ := p_bd h
  refine f_cSi dX12_draw_5 rfl rfl rfl rfl (fun Q' hQ' => E_X12_within hq1 hQ') ?_
  refine e_if_eq dX12_draw_8 25 (by decide) (fun hc => ?_) (fun hc => ?_)
  · rw [if_pos hc] at h
    exact E_X12_draw_c25 h hQ
  · rw [if_neg hc] at h
    refine e_iload_n dX12_draw_11 rfl ?_
    refine e_iconst (v := (0 : Int32)) dX12_draw_12 rfl ?_
    refine e_bipush (v := (100 : Int32)) dX12_draw_13 rfl ?_
    obtain ⟨q2, hq2, h⟩ := p_bd h
    refine f_cSi dX12_draw_15 rfl rfl rfl rfl (fun Q' hQ' => E_X12_within hq2 hQ') ?_
    refine e_if_eq dX12_draw_18 25 (by decide) (fun hc => ?_) (fun hc => ?_)
    · rw [if_pos hc] at h
      exact E_X12_draw_c25 h hQ
    · rw [if_neg hc] at h
      refine e_iconst (v := (1 : Int32)) dX12_draw_21 rfl ?_
      refine e_goto dX12_draw_22 26 (by decide) ?_
      exact E_X12_draw_c26 h hQ
/-! L_draw -/
def F_L_draw (v0 : Nat) (v1 : Int32) (v2 : Int32) (v3 : Nat) (μ : p_M) : Option (Int32 × p_M) :=
  p_ok (mK μ v0 = 13 ∧ v0 < mN μ)
  ((F_X12_draw v0 v1 v2 μ).bind fun q1 =>
  if q1.1 = 0
  then (p_ok (mK q1.2.2 v3 = 22 ∧ ¬ (0 : Int32) < 0 ∧ (0 : Int32).toNatClampNeg < mL q1.2.2 v3 ∧ v3 < mN q1.2.2)
    (p_let (sJ q1.2.2 v3 (0 : Int32).toNatClampNeg q1.2.1.toInt64) fun m4 =>
    some ((0 : Int32), m4)))
  else if q1.1 = 1 then (some ((1 : Int32), q1.2.2))
  else none)
theorem E_L_draw {X : p_X} {d : Nat} {Q : p_R → Prop} {v0 : Nat} {v1 : Int32} {v2 : Int32} {v3 : Nat} {μ : p_M} {r : Int32 × p_M} (h : F_L_draw v0 v1 v2 v3 μ = some r) (hQ : Q ((0, some (.int r.1)), r.2)) : p_Ev X (d + 4) M_L_draw 0 [.ref v0, .int v1, .int v2, .ref v3, .double 0] [] μ Q := by
  unfold F_L_draw at h
  refine e_aload_n dL_draw_0 rfl ?_
  refine e_iconst (v := (0 : Int32)) dL_draw_1 rfl ?_
  refine e_aload_n dL_draw_2 rfl ?_
  refine e_iload_n dL_draw_3 rfl ?_
  refine e_iload_n dL_draw_4 rfl ?_
  obtain ⟨h2, h⟩ := p_ok_some h
  obtain ⟨q1, hq1, h⟩ := p_bd h
  refine f_hVi dL_draw_5 rfl rfl ⟨rfl, rfl, by decide⟩ rfl h2 (by decide) (fun Q' hQ' => E_X12_draw hq1 hQ') (fun hc => ?_) (fun hc => ?_)
  · rw [if_pos hc] at h
    refine e_i2l dL_draw_8 ?_
    obtain ⟨h3, h⟩ := p_ok_some h
    replace h := p_lt h
    refine e_laS dL_draw_9 h3 ?_
    refine e_goto dL_draw_10 17 (by decide) ?_
    refine e_iconst (v := (0 : Int32)) dL_draw_17 rfl ?_
    cases h
    exact e_ireti dL_draw_18 rfl hQ
  · rw [if_neg hc] at h
    by_cases hc : q1.1 = 1
    · rw [if_pos hc] at h
      refine ⟨13, by rw [hc]; rfl, ?_⟩
      refine e_astZ dL_draw_13 (Nat.le_of_ble_eq_true rfl) rfl ?_
      refine e_iconst (v := (1 : Int32)) dL_draw_15 rfl ?_
      cases h
      exact e_ireti dL_draw_16 rfl hQ
    rw [if_neg hc] at h
    cases h
/-! X0_add -/
def F_X0_add_c52 (v0 : Nat) (v1 : Int32) (v2 : Int32) (μ : p_M) : Option (Int32 × p_M) :=
  p_ok (mK μ v0 = 1 ∧ v0 < mN μ)
  ((mR μ v0 0).bind fun q9 =>
  p_ok (q9 < p_E ∧ mK μ q9 = 20 ∧ q9 < mN μ)
  (p_ok (¬ v2 < 0 ∧ v2.toNatClampNeg < mL μ q9)
  (p_let (sI μ q9 v2.toNatClampNeg v1) fun m12 =>
  p_let (sI m12 v0 1 ((mI m12 v0 1) + (1 : Int32))) fun m13 =>
  some ((mI m13 v0 1), m13))))
theorem E_X0_add_c52 {X : p_X} {d : Nat} {Q : p_R → Prop} {v0 : Nat} {v1 : Int32} {v2 : Int32} {μ : p_M} {r : Int32 × p_M} (h : F_X0_add_c52 v0 v1 v2 μ = some r) (hQ : Q ((0, some (.int r.1)), r.2)) : p_Ev X (d + 0) M_X0_add 52 [.ref v0, .int v1, .int v2] [] μ Q := by
  unfold F_X0_add_c52 at h
  refine e_aload_n dX0_add_52 rfl ?_
  obtain ⟨h8, h⟩ := p_ok_some h
  obtain ⟨q9, hq9, h⟩ := p_bd h
  refine e_getR dX0_add_53 rfl rfl h8.1 h8.2 hq9 ?_
  refine e_iload_n dX0_add_56 rfl ?_
  refine e_iload_n dX0_add_57 rfl ?_
  obtain ⟨h10, h⟩ := p_ok_some h
  obtain ⟨h11, h⟩ := p_ok_some h
  replace h := p_lt h
  refine e_iaS dX0_add_58 h10 h11 ?_
  refine e_aload_n dX0_add_59 rfl ?_
  refine e_dupR dX0_add_60 ?_
  refine e_getI dX0_add_61 rfl rfl h8.1 h8.2 ?_
  refine e_iconst (v := (1 : Int32)) dX0_add_64 rfl ?_
  refine e_iadd dX0_add_65 ?_
  replace h := p_lt h
  refine e_putI dX0_add_66 rfl ⟨rfl, rfl, (fun h => by cases h)⟩ (fun h => by cases h) h8.1 h8.2 ?_
  refine e_aload_n dX0_add_69 rfl ?_
  refine e_getI dX0_add_70 rfl rfl h8.1 h8.2 ?_
  cases h
  exact e_ireti dX0_add_73 rfl hQ
def F_X0_add_c16 : Nat → Nat → Int32 → Int32 → p_M → Option (Int32 × p_M)
  | 0, _, _, _, _ => none
  | n + 1, v0, v1, v2, μ =>
    if v2 ≤ 0
    then (F_X0_add_c52 v0 v1 v2 μ)
    else (p_ok (mK μ v0 = 1 ∧ v0 < mN μ)
      ((mR μ v0 0).bind fun q3 =>
      p_ok (q3 < p_E ∧ mK μ q3 = 20 ∧ q3 < mN μ)
      (p_ok (¬ (v2 - (1 : Int32)) < 0 ∧ (v2 - (1 : Int32)).toNatClampNeg < mL μ q3)
      (if (mI μ q3 (v2 - (1 : Int32)).toNatClampNeg) ≤ v1
      then (F_X0_add_c52 v0 v1 v2 μ)
      else (p_ok (¬ v2 < 0 ∧ v2.toNatClampNeg < mL μ q3)
        (p_let (sI μ q3 v2.toNatClampNeg (mI μ q3 (v2 - (1 : Int32)).toNatClampNeg)) fun m7 =>
        F_X0_add_c16 n v0 v1 (v2 + (-1)) m7))))))
theorem E_X0_add_c16 {X : p_X} {d : Nat} {Q : p_R → Prop} : ∀ (n : Nat) (v0 : Nat) (v1 : Int32) (v2 : Int32) (μ : p_M) (r : Int32 × p_M), F_X0_add_c16 n v0 v1 v2 μ = some r → Q ((0, some (.int r.1)), r.2) → p_Ev X (d + 0) M_X0_add 16 [.ref v0, .int v1, .int v2] [] μ Q := by
  intro n
  induction n with
  | zero => intro v0 v1 v2 μ r h hQ; rw [F_X0_add_c16] at h; cases h
  | succ n ih =>
    intro v0 v1 v2 μ r h hQ
    rw [F_X0_add_c16] at h
    refine e_iload_n dX0_add_16 rfl ?_
    refine e_if_le dX0_add_17 52 (by decide) (fun hc => ?_) (fun hc => ?_)
    · rw [if_pos hc] at h
      exact E_X0_add_c52 h hQ
    · rw [if_neg hc] at h
      refine e_aload_n dX0_add_20 rfl ?_
      obtain ⟨h2, h⟩ := p_ok_some h
      obtain ⟨q3, hq3, h⟩ := p_bd h
      refine e_getR dX0_add_21 rfl rfl h2.1 h2.2 hq3 ?_
      refine e_iload_n dX0_add_24 rfl ?_
      refine e_iconst (v := (1 : Int32)) dX0_add_25 rfl ?_
      refine e_isub dX0_add_26 ?_
      obtain ⟨h4, h⟩ := p_ok_some h
      obtain ⟨h5, h⟩ := p_ok_some h
      refine e_iaG dX0_add_27 h4 h5 ?_
      refine e_iload_n dX0_add_28 rfl ?_
      refine e_ic_le dX0_add_29 52 (by decide) (fun hc => ?_) (fun hc => ?_)
      · rw [if_pos hc] at h
        exact E_X0_add_c52 h hQ
      · rw [if_neg hc] at h
        refine e_aload_n dX0_add_32 rfl ?_
        refine e_getR dX0_add_33 rfl rfl h2.1 h2.2 hq3 ?_
        refine e_iload_n dX0_add_36 rfl ?_
        refine e_aload_n dX0_add_37 rfl ?_
        refine e_getR dX0_add_38 rfl rfl h2.1 h2.2 hq3 ?_
        refine e_iload_n dX0_add_41 rfl ?_
        refine e_iconst (v := (1 : Int32)) dX0_add_42 rfl ?_
        refine e_isub dX0_add_43 ?_
        refine e_iaG dX0_add_44 h4 h5 ?_
        obtain ⟨h6, h⟩ := p_ok_some h
        replace h := p_lt h
        refine e_iaS dX0_add_45 h4 h6 ?_
        refine e_iinc (v := (-1)) dX0_add_46 rfl rfl rfl ?_
        refine e_goto dX0_add_49 16 (by decide) ?_
        exact ih _ _ _ _ _ h hQ
def F_X0_add (v0 : Nat) (v1 : Int32) (μ : p_M) : Option (Int32 × p_M) :=
  p_ok (mK μ v0 = 1 ∧ v0 < mN μ)
  (if (mI μ v0 1) < (40 : Int32)
  then (F_X0_add_c16 p_fu v0 v1 (mI μ v0 1) μ)
  else (some ((-1), μ)))
theorem E_X0_add {X : p_X} {d : Nat} {Q : p_R → Prop} {v0 : Nat} {v1 : Int32} {μ : p_M} {r : Int32 × p_M} (h : F_X0_add v0 v1 μ = some r) (hQ : Q ((0, some (.int r.1)), r.2)) : p_Ev X (d + 0) M_X0_add 0 [.ref v0, .int v1, .double 0] [] μ Q := by
  unfold F_X0_add at h
  refine e_aload_n dX0_add_0 rfl ?_
  obtain ⟨h1, h⟩ := p_ok_some h
  refine e_getI dX0_add_1 rfl rfl h1.1 h1.2 ?_
  refine e_bipush (v := (40 : Int32)) dX0_add_4 rfl ?_
  refine e_ic_lt dX0_add_6 11 (by decide) (fun hc => ?_) (fun hc => ?_)
  · rw [if_pos hc] at h
    refine e_aload_n dX0_add_11 rfl ?_
    refine e_getI dX0_add_12 rfl rfl h1.1 h1.2 ?_
    refine e_istore_n dX0_add_15 (Nat.le_of_ble_eq_true rfl) rfl ?_
    exact E_X0_add_c16 p_fu _ _ _ _ _ h hQ
  · rw [if_neg hc] at h
    refine e_iconst (v := (-1)) dX0_add_9 rfl ?_
    cases h
    exact e_ireti dX0_add_10 rfl hQ
/-! X12_garment -/
def F_X12_garment (v0 : Nat) (v1 : Int32) (μ : p_M) : Option (Nat × Int32 × p_M) :=
  (F_X12_within v1 (0 : Int32) (255 : Int32) μ).bind fun q1 =>
  (F_X12_need q1.1 q1.2).bind fun q2 =>
  if q2.1 = 0
  then (p_ok (mK q2.2.2 v0 = 13 ∧ v0 < mN q2.2.2)
    ((mR q2.2.2 v0 11).bind fun q4 =>
    p_ok (mK q2.2.2 q4 = 1 ∧ q4 < mN q2.2.2)
    ((F_X0_add q4 v1 q2.2.2).bind fun q5 =>
    some (0, q5.1, q5.2))))
  else (some (q2.1, 0, q2.2.2))
theorem E_X12_garment {X : p_X} {d : Nat} {Q : p_R → Prop} {v0 : Nat} {v1 : Int32} {μ : p_M} {r : Nat × Int32 × p_M} (h : F_X12_garment v0 v1 μ = some r) (hQ : Q (tI r)) : p_Ev X (d + 1) M_X12_garment 0 [.ref v0, .int v1] [] μ Q := by
  unfold F_X12_garment at h
  refine e_iload_n dX12_garment_0 rfl ?_
  refine e_iconst (v := (0 : Int32)) dX12_garment_1 rfl ?_
  refine e_sipush (v := (255 : Int32)) dX12_garment_2 rfl ?_
  obtain ⟨q1, hq1, h⟩ := p_bd h
  refine f_cSi dX12_garment_5 rfl rfl rfl rfl (fun Q' hQ' => E_X12_within hq1 hQ') ?_
  obtain ⟨q2, hq2, h⟩ := p_bd h
  refine f_tSv dX12_garment_8 rfl rfl rfl rfl (by decide) rfl (fun Q' hQ' => E_X12_need hq2 hQ') (fun hc => ?_) (fun hc => ?_)
  · rw [if_pos hc] at h
    refine e_aload_n dX12_garment_11 rfl ?_
    obtain ⟨h3, h⟩ := p_ok_some h
    obtain ⟨q4, hq4, h⟩ := p_bd h
    refine e_getR dX12_garment_12 rfl rfl h3.1 h3.2 hq4 ?_
    refine e_iload_n dX12_garment_15 rfl ?_
    obtain ⟨h6, h⟩ := p_ok_some h
    obtain ⟨q5, hq5, h⟩ := p_bd h
    refine f_cVi dX12_garment_16 rfl rfl ⟨rfl, rfl, by decide⟩ rfl h6 (fun Q' hQ' => E_X0_add hq5 hQ') ?_
    cases h
    exact e_ireti dX12_garment_19 rfl hQ
  · rw [if_neg hc] at h
    cases h
    exact tI_E hc hQ
/-! L_garment -/
def F_L_garment (v0 : Nat) (v1 : Int32) (v2 : Nat) (μ : p_M) : Option (Int32 × p_M) :=
  p_ok (mK μ v0 = 13 ∧ v0 < mN μ)
  ((F_X12_garment v0 v1 μ).bind fun q1 =>
  if q1.1 = 0
  then (p_ok (mK q1.2.2 v2 = 22 ∧ ¬ (0 : Int32) < 0 ∧ (0 : Int32).toNatClampNeg < mL q1.2.2 v2 ∧ v2 < mN q1.2.2)
    (p_let (sJ q1.2.2 v2 (0 : Int32).toNatClampNeg q1.2.1.toInt64) fun m4 =>
    some ((0 : Int32), m4)))
  else if q1.1 = 1 then (some ((1 : Int32), q1.2.2))
  else none)
theorem E_L_garment {X : p_X} {d : Nat} {Q : p_R → Prop} {v0 : Nat} {v1 : Int32} {v2 : Nat} {μ : p_M} {r : Int32 × p_M} (h : F_L_garment v0 v1 v2 μ = some r) (hQ : Q ((0, some (.int r.1)), r.2)) : p_Ev X (d + 2) M_L_garment 0 [.ref v0, .int v1, .ref v2, .double 0] [] μ Q := by
  unfold F_L_garment at h
  refine e_aload_n dL_garment_0 rfl ?_
  refine e_iconst (v := (0 : Int32)) dL_garment_1 rfl ?_
  refine e_aload_n dL_garment_2 rfl ?_
  refine e_iload_n dL_garment_3 rfl ?_
  obtain ⟨h2, h⟩ := p_ok_some h
  obtain ⟨q1, hq1, h⟩ := p_bd h
  refine f_hVi dL_garment_4 rfl rfl ⟨rfl, rfl, by decide⟩ rfl h2 (by decide) (fun Q' hQ' => E_X12_garment hq1 hQ') (fun hc => ?_) (fun hc => ?_)
  · rw [if_pos hc] at h
    refine e_i2l dL_garment_7 ?_
    obtain ⟨h3, h⟩ := p_ok_some h
    replace h := p_lt h
    refine e_laS dL_garment_8 h3 ?_
    refine e_goto dL_garment_9 15 (by decide) ?_
    refine e_iconst (v := (0 : Int32)) dL_garment_15 rfl ?_
    cases h
    exact e_ireti dL_garment_16 rfl hQ
  · rw [if_neg hc] at h
    by_cases hc : q1.1 = 1
    · rw [if_pos hc] at h
      refine ⟨12, by rw [hc]; rfl, ?_⟩
      refine e_astZ_n dL_garment_12 (Nat.le_of_ble_eq_true rfl) rfl ?_
      refine e_iconst (v := (1 : Int32)) dL_garment_13 rfl ?_
      cases h
      exact e_ireti dL_garment_14 rfl hQ
    rw [if_neg hc] at h
    cases h
/-! X11_part -/
def F_X11_part (v0 : Nat) (v1 : Int32) (v2 : Int32) (μ : p_M) : Option (Int32 × p_M) :=
  if v2 = 0 then (p_ok (mK μ v0 = 12 ∧ v0 < mN μ)
    ((mR μ v0 0).bind fun q2 =>
    p_ok (q2 < p_E ∧ mK μ q2 = 20 ∧ q2 < mN μ)
    (p_ok (¬ v1 < 0 ∧ v1.toNatClampNeg < mL μ q2)
    (some ((mI μ q2 v1.toNatClampNeg), μ)))))
  else if v2 = 1 then (p_ok (mK μ v0 = 12 ∧ v0 < mN μ)
    ((mR μ v0 1).bind fun q6 =>
    p_ok (q6 < p_E ∧ mK μ q6 = 20 ∧ q6 < mN μ)
    (p_ok (¬ v1 < 0 ∧ v1.toNatClampNeg < mL μ q6)
    (some ((mI μ q6 v1.toNatClampNeg), μ)))))
  else (p_ok (mK μ v0 = 12 ∧ v0 < mN μ)
    ((mR μ v0 2).bind fun q10 =>
    p_ok (q10 < p_E ∧ mK μ q10 = 20 ∧ q10 < mN μ)
    (p_ok (¬ v1 < 0 ∧ v1.toNatClampNeg < mL μ q10)
    (some ((mI μ q10 v1.toNatClampNeg), μ)))))
theorem E_X11_part {X : p_X} {d : Nat} {Q : p_R → Prop} {v0 : Nat} {v1 : Int32} {v2 : Int32} {μ : p_M} {r : Int32 × p_M} (h : F_X11_part v0 v1 v2 μ = some r) (hQ : Q ((0, some (.int r.1)), r.2)) : p_Ev X (d + 0) M_X11_part 0 [.ref v0, .int v1, .int v2] [] μ Q := by
  unfold F_X11_part at h
  refine e_iload_n dX11_part_0 rfl ?_
  by_cases hl13 : v2 = 0
  · rw [if_pos hl13] at h
    refine e_lswK (v := 0) dX11_part_1 (by decide) hl13 rfl 28 (by decide) ?_
    refine e_aload_n dX11_part_28 rfl ?_
    obtain ⟨h1, h⟩ := p_ok_some h
    obtain ⟨q2, hq2, h⟩ := p_bd h
    refine e_getR dX11_part_29 rfl rfl h1.1 h1.2 hq2 ?_
    refine e_iload_n dX11_part_32 rfl ?_
    obtain ⟨h3, h⟩ := p_ok_some h
    obtain ⟨h4, h⟩ := p_ok_some h
    refine e_iaG dX11_part_33 h3 h4 ?_
    cases h
    exact e_ireti dX11_part_34 rfl hQ
  rw [if_neg hl13] at h
  by_cases hl14 : v2 = 1
  · rw [if_pos hl14] at h
    refine e_lswK (v := 1) dX11_part_1 (by decide) hl14 rfl 35 (by decide) ?_
    refine e_aload_n dX11_part_35 rfl ?_
    obtain ⟨h5, h⟩ := p_ok_some h
    obtain ⟨q6, hq6, h⟩ := p_bd h
    refine e_getR dX11_part_36 rfl rfl h5.1 h5.2 hq6 ?_
    refine e_iload_n dX11_part_39 rfl ?_
    obtain ⟨h7, h⟩ := p_ok_some h
    obtain ⟨h8, h⟩ := p_ok_some h
    refine e_iaG dX11_part_40 h7 h8 ?_
    cases h
    exact e_ireti dX11_part_41 rfl hQ
  rw [if_neg hl14] at h
  refine e_lswD dX11_part_1 (by decide) (lsw_ne2 hl13 hl14) 42 (by decide) ?_
  refine e_aload_n dX11_part_42 rfl ?_
  obtain ⟨h9, h⟩ := p_ok_some h
  obtain ⟨q10, hq10, h⟩ := p_bd h
  refine e_getR dX11_part_43 rfl rfl h9.1 h9.2 hq10 ?_
  refine e_iload_n dX11_part_46 rfl ?_
  obtain ⟨h11, h⟩ := p_ok_some h
  obtain ⟨h12, h⟩ := p_ok_some h
  refine e_iaG dX11_part_47 h11 h12 ?_
  cases h
  exact e_ireti dX11_part_48 rfl hQ
/-! X12_has -/
def F_X12_has (v0 : Nat) (v1 : Int32) (v2 : Int32) (μ : p_M) : Option (Nat × Int32 × p_M) :=
  p_ok (mK μ v0 = 13 ∧ v0 < mN μ)
  ((mR μ v0 10).bind fun q2 =>
  p_ok (mK μ q2 = 12 ∧ q2 < mN μ)
  ((F_X12_needIndex v1 (mI μ q2 3) μ).bind fun q4 =>
  if q4.1 = 0
  then ((F_X12_needWhat v2 (2 : Int32) q4.2.2).bind fun q5 =>
    if q5.1 = 0
    then (p_ok (mK q5.2.2 v0 = 13 ∧ v0 < mN q5.2.2)
      ((mR q5.2.2 v0 10).bind fun q7 =>
      p_ok (mK q5.2.2 q7 = 12 ∧ q7 < mN q5.2.2)
      ((F_X11_part q7 v1 v2 q5.2.2).bind fun q8 =>
      some (0, q8.1, q8.2))))
    else (some (q5.1, 0, q5.2.2)))
  else (some (q4.1, 0, q4.2.2))))
theorem E_X12_has {X : p_X} {d : Nat} {Q : p_R → Prop} {v0 : Nat} {v1 : Int32} {v2 : Int32} {μ : p_M} {r : Nat × Int32 × p_M} (h : F_X12_has v0 v1 v2 μ = some r) (hQ : Q (tI r)) : p_Ev X (d + 1) M_X12_has 0 [.ref v0, .int v1, .int v2] [] μ Q := by
  unfold F_X12_has at h
  refine e_iload_n dX12_has_0 rfl ?_
  refine e_aload_n dX12_has_1 rfl ?_
  obtain ⟨h1, h⟩ := p_ok_some h
  obtain ⟨q2, hq2, h⟩ := p_bd h
  refine e_getR dX12_has_2 rfl rfl h1.1 h1.2 hq2 ?_
  obtain ⟨h3, h⟩ := p_ok_some h
  refine e_getI dX12_has_5 rfl rfl h3.1 h3.2 ?_
  obtain ⟨q4, hq4, h⟩ := p_bd h
  refine f_tSv dX12_has_8 rfl rfl rfl rfl (by decide) rfl (fun Q' hQ' => E_X12_needIndex hq4 hQ') (fun hc => ?_) (fun hc => ?_)
  · rw [if_pos hc] at h
    refine e_iload_n dX12_has_11 rfl ?_
    refine e_iconst (v := (2 : Int32)) dX12_has_12 rfl ?_
    obtain ⟨q5, hq5, h⟩ := p_bd h
    refine f_tSv dX12_has_13 rfl rfl rfl rfl (by decide) rfl (fun Q' hQ' => E_X12_needWhat hq5 hQ') (fun hc => ?_) (fun hc => ?_)
    · rw [if_pos hc] at h
      refine e_aload_n dX12_has_16 rfl ?_
      obtain ⟨h6, h⟩ := p_ok_some h
      obtain ⟨q7, hq7, h⟩ := p_bd h
      refine e_getR dX12_has_17 rfl rfl h6.1 h6.2 hq7 ?_
      refine e_iload_n dX12_has_20 rfl ?_
      refine e_iload_n dX12_has_21 rfl ?_
      obtain ⟨h9, h⟩ := p_ok_some h
      obtain ⟨q8, hq8, h⟩ := p_bd h
      refine f_cVi dX12_has_22 rfl rfl ⟨rfl, rfl, by decide⟩ rfl h9 (fun Q' hQ' => E_X11_part hq8 hQ') ?_
      cases h
      exact e_ireti dX12_has_25 rfl hQ
    · rw [if_neg hc] at h
      cases h
      exact tI_E hc hQ
  · rw [if_neg hc] at h
    cases h
    exact tI_E hc hQ
/-! L_has -/
def F_L_has (v0 : Nat) (v1 : Int32) (v2 : Int32) (v3 : Nat) (μ : p_M) : Option (Int32 × p_M) :=
  p_ok (mK μ v0 = 13 ∧ v0 < mN μ)
  ((F_X12_has v0 v1 v2 μ).bind fun q1 =>
  if q1.1 = 0
  then (p_ok (mK q1.2.2 v3 = 22 ∧ ¬ (0 : Int32) < 0 ∧ (0 : Int32).toNatClampNeg < mL q1.2.2 v3 ∧ v3 < mN q1.2.2)
    (p_let (sJ q1.2.2 v3 (0 : Int32).toNatClampNeg q1.2.1.toInt64) fun m4 =>
    some ((0 : Int32), m4)))
  else if q1.1 = 3 then (some ((1 : Int32), q1.2.2))
  else if q1.1 = 4 then (some ((2 : Int32), q1.2.2))
  else none)
theorem E_L_has {X : p_X} {d : Nat} {Q : p_R → Prop} {v0 : Nat} {v1 : Int32} {v2 : Int32} {v3 : Nat} {μ : p_M} {r : Int32 × p_M} (h : F_L_has v0 v1 v2 v3 μ = some r) (hQ : Q ((0, some (.int r.1)), r.2)) : p_Ev X (d + 2) M_L_has 0 [.ref v0, .int v1, .int v2, .ref v3, .double 0] [] μ Q := by
  unfold F_L_has at h
  refine e_aload_n dL_has_0 rfl ?_
  refine e_iconst (v := (0 : Int32)) dL_has_1 rfl ?_
  refine e_aload_n dL_has_2 rfl ?_
  refine e_iload_n dL_has_3 rfl ?_
  refine e_iload_n dL_has_4 rfl ?_
  obtain ⟨h2, h⟩ := p_ok_some h
  obtain ⟨q1, hq1, h⟩ := p_bd h
  refine f_hVi dL_has_5 rfl rfl ⟨rfl, rfl, by decide⟩ rfl h2 (by decide) (fun Q' hQ' => E_X12_has hq1 hQ') (fun hc => ?_) (fun hc => ?_)
  · rw [if_pos hc] at h
    refine e_i2l dL_has_8 ?_
    obtain ⟨h3, h⟩ := p_ok_some h
    replace h := p_lt h
    refine e_laS dL_has_9 h3 ?_
    refine e_goto dL_has_10 21 (by decide) ?_
    refine e_iconst (v := (0 : Int32)) dL_has_21 rfl ?_
    cases h
    exact e_ireti dL_has_22 rfl hQ
  · rw [if_neg hc] at h
    by_cases hc : q1.1 = 3
    · rw [if_pos hc] at h
      refine ⟨13, by rw [hc]; rfl, ?_⟩
      refine e_astZ dL_has_13 (Nat.le_of_ble_eq_true rfl) rfl ?_
      refine e_iconst (v := (1 : Int32)) dL_has_15 rfl ?_
      cases h
      exact e_ireti dL_has_16 rfl hQ
    rw [if_neg hc] at h
    by_cases hc : q1.1 = 4
    · rw [if_pos hc] at h
      refine ⟨17, by rw [hc]; rfl, ?_⟩
      refine e_astZ dL_has_17 (Nat.le_of_ble_eq_true rfl) rfl ?_
      refine e_iconst (v := (2 : Int32)) dL_has_19 rfl ?_
      cases h
      exact e_ireti dL_has_20 rfl hQ
    rw [if_neg hc] at h
    cases h
/-! X7_setHeat -/
def F_X7_setHeat_c24 (v0 : Nat) (v3 : Int32) (v4 : Int32) (s0 : Int32) (μ : p_M) : Option (Int32 × p_M) :=
  p_ok (mK μ v0 = 8 ∧ v0 < mN μ)
  ((mR μ v0 0).bind fun q6 =>
  p_ok (q6 < p_E ∧ mK μ q6 = 20 ∧ q6 < mN μ)
  (p_ok (¬ v4 < 0 ∧ v4.toNatClampNeg < mL μ q6)
  (p_let (sI μ q6 v4.toNatClampNeg v3) fun m9 =>
  p_ok (s0 = 0 ∨ s0 = 1)
  (some (s0, m9)))))
theorem E_X7_setHeat_c24 {X : p_X} {d : Nat} {Q : p_R → Prop} {v0 : Nat} {v3 : Int32} {v4 : Int32} {s0 : Int32} {w1 : Value} {w2 : Value} {w5 : Value} {μ : p_M} {r : Int32 × p_M} (h : F_X7_setHeat_c24 v0 v3 v4 s0 μ = some r) (hQ : Q ((0, some (.int r.1)), r.2)) : p_Ev X (d + 0) M_X7_setHeat 24 [.ref v0, w1, w2, .int v3, .int v4, w5] [.int s0] μ Q := by
  unfold F_X7_setHeat_c24 at h
  refine e_istore dX7_setHeat_24 (Nat.le_of_ble_eq_true rfl) rfl ?_
  refine e_aload_n dX7_setHeat_26 rfl ?_
  obtain ⟨h5, h⟩ := p_ok_some h
  obtain ⟨q6, hq6, h⟩ := p_bd h
  refine e_getR dX7_setHeat_27 rfl rfl h5.1 h5.2 hq6 ?_
  refine e_iload dX7_setHeat_30 rfl ?_
  refine e_iload_n dX7_setHeat_32 rfl ?_
  obtain ⟨h7, h⟩ := p_ok_some h
  obtain ⟨h8, h⟩ := p_ok_some h
  replace h := p_lt h
  refine e_iaS dX7_setHeat_33 h7 h8 ?_
  refine e_iload dX7_setHeat_34 rfl ?_
  obtain ⟨h10, h⟩ := p_ok_some h
  cases h
  exact e_iretz dX7_setHeat_36 rfl h10 hQ
def F_X7_setHeat (v0 : Nat) (v1 : Int32) (v2 : Int32) (v3 : Int32) (μ : p_M) : Option (Int32 × p_M) :=
  p_ok (mK μ v0 = 8 ∧ v0 < mN μ)
  ((mR μ v0 0).bind fun q2 =>
  p_ok (q2 < p_E ∧ mK μ q2 = 20 ∧ q2 < mN μ)
  (p_ok (¬ ((v2 * (6 : Int32)) + v1) < 0 ∧ ((v2 * (6 : Int32)) + v1).toNatClampNeg < mL μ q2)
  (if (mI μ q2 ((v2 * (6 : Int32)) + v1).toNatClampNeg) = v3
  then (F_X7_setHeat_c24 v0 v3 ((v2 * (6 : Int32)) + v1) (0 : Int32) μ)
  else (F_X7_setHeat_c24 v0 v3 ((v2 * (6 : Int32)) + v1) (1 : Int32) μ))))
theorem E_X7_setHeat {X : p_X} {d : Nat} {Q : p_R → Prop} {v0 : Nat} {v1 : Int32} {v2 : Int32} {v3 : Int32} {μ : p_M} {r : Int32 × p_M} (h : F_X7_setHeat v0 v1 v2 v3 μ = some r) (hQ : Q ((0, some (.int r.1)), r.2)) : p_Ev X (d + 0) M_X7_setHeat 0 [.ref v0, .int v1, .int v2, .int v3, .double 0, .double 0] [] μ Q := by
  unfold F_X7_setHeat at h
  refine e_iload_n dX7_setHeat_0 rfl ?_
  refine e_bipush (v := (6 : Int32)) dX7_setHeat_1 rfl ?_
  refine e_imul dX7_setHeat_3 ?_
  refine e_iload_n dX7_setHeat_4 rfl ?_
  refine e_iadd dX7_setHeat_5 ?_
  refine e_istore dX7_setHeat_6 (Nat.le_of_ble_eq_true rfl) rfl ?_
  refine e_aload_n dX7_setHeat_8 rfl ?_
  obtain ⟨h1, h⟩ := p_ok_some h
  obtain ⟨q2, hq2, h⟩ := p_bd h
  refine e_getR dX7_setHeat_9 rfl rfl h1.1 h1.2 hq2 ?_
  refine e_iload dX7_setHeat_12 rfl ?_
  obtain ⟨h3, h⟩ := p_ok_some h
  obtain ⟨h4, h⟩ := p_ok_some h
  refine e_iaG dX7_setHeat_14 h3 h4 ?_
  refine e_iload_n dX7_setHeat_15 rfl ?_
  refine e_ic_eq dX7_setHeat_16 23 (by decide) (fun hc => ?_) (fun hc => ?_)
  · rw [if_pos hc] at h
    refine e_iconst (v := (0 : Int32)) dX7_setHeat_23 rfl ?_
    exact E_X7_setHeat_c24 h hQ
  · rw [if_neg hc] at h
    refine e_iconst (v := (1 : Int32)) dX7_setHeat_19 rfl ?_
    refine e_goto dX7_setHeat_20 24 (by decide) ?_
    exact E_X7_setHeat_c24 h hQ
/-! X12_heat -/
def F_X12_heat_c49 (v0 : Nat) (v1 : Int32) (v2 : Int32) (v3 : Int32) (s0 : Int32) (μ : p_M) : Option (Nat × Int32 × p_M) :=
  (F_X12_need s0 μ).bind fun q10 =>
  if q10.1 = 0
  then (p_ok (mK q10.2.2 v0 = 13 ∧ v0 < mN q10.2.2)
    ((mR q10.2.2 v0 19).bind fun q12 =>
    p_ok (mK q10.2.2 q12 = 8 ∧ q12 < mN q10.2.2)
    ((F_X7_setHeat q12 v1 v2 v3 q10.2.2).bind fun q13 =>
    p_ok (q13.1 = 0 ∨ q13.1 = 1)
    (some (0, q13.1, q13.2)))))
  else (some (q10.1, 0, q10.2.2))
theorem E_X12_heat_c49 {X : p_X} {d : Nat} {Q : p_R → Prop} {v0 : Nat} {v1 : Int32} {v2 : Int32} {v3 : Int32} {s0 : Int32} {μ : p_M} {r : Nat × Int32 × p_M} (h : F_X12_heat_c49 v0 v1 v2 v3 s0 μ = some r) (hQ : Q (tI r)) : p_Ev X (d + 1) M_X12_heat 49 [.ref v0, .int v1, .int v2, .int v3] [.int s0] μ Q := by
  unfold F_X12_heat_c49 at h
  obtain ⟨q10, hq10, h⟩ := p_bd h
  refine f_tSv dX12_heat_49 rfl rfl rfl rfl (by decide) rfl (fun Q' hQ' => E_X12_need hq10 hQ') (fun hc => ?_) (fun hc => ?_)
  · rw [if_pos hc] at h
    refine e_aload_n dX12_heat_52 rfl ?_
    obtain ⟨h11, h⟩ := p_ok_some h
    obtain ⟨q12, hq12, h⟩ := p_bd h
    refine e_getR dX12_heat_53 rfl rfl h11.1 h11.2 hq12 ?_
    refine e_iload_n dX12_heat_56 rfl ?_
    refine e_iload_n dX12_heat_57 rfl ?_
    refine e_iload_n dX12_heat_58 rfl ?_
    obtain ⟨h14, h⟩ := p_ok_some h
    obtain ⟨q13, hq13, h⟩ := p_bd h
    refine f_cVi dX12_heat_59 rfl rfl ⟨rfl, rfl, by decide⟩ rfl h14 (fun Q' hQ' => E_X7_setHeat hq13 hQ') ?_
    obtain ⟨h15, h⟩ := p_ok_some h
    cases h
    exact e_iretz dX12_heat_62 rfl h15 hQ
  · rw [if_neg hc] at h
    cases h
    exact tI_E hc hQ
def F_X12_heat_c48 (v0 : Nat) (v1 : Int32) (v2 : Int32) (v3 : Int32) (μ : p_M) : Option (Nat × Int32 × p_M) :=
  F_X12_heat_c49 v0 v1 v2 v3 (0 : Int32) μ
theorem E_X12_heat_c48 {X : p_X} {d : Nat} {Q : p_R → Prop} {v0 : Nat} {v1 : Int32} {v2 : Int32} {v3 : Int32} {μ : p_M} {r : Nat × Int32 × p_M} (h : F_X12_heat_c48 v0 v1 v2 v3 μ = some r) (hQ : Q (tI r)) : p_Ev X (d + 1) M_X12_heat 48 [.ref v0, .int v1, .int v2, .int v3] [] μ Q := by
  unfold F_X12_heat_c48 at h
  refine e_iconst (v := (0 : Int32)) dX12_heat_48 rfl ?_
  exact E_X12_heat_c49 h hQ
def F_X12_heat (v0 : Nat) (v1 : Int32) (v2 : Int32) (v3 : Int32) (μ : p_M) : Option (Nat × Int32 × p_M) :=
  p_ok (mK μ v0 = 13 ∧ v0 < mN μ)
  ((mR μ v0 19).bind fun q2 =>
  p_ok (mK μ q2 = 8 ∧ q2 < mN μ)
  ((F_X12_within v1 (0 : Int32) ((mI μ q2 1) - (1 : Int32)) μ).bind fun q4 =>
  if q4.1 = 0
  then (F_X12_heat_c48 v0 v1 v2 v3 q4.2)
  else (p_ok (mK q4.2 v0 = 13 ∧ v0 < mN q4.2)
    ((mR q4.2 v0 19).bind fun q6 =>
    p_ok (mK q4.2 q6 = 8 ∧ q6 < mN q4.2)
    ((F_X12_within v2 (0 : Int32) ((mI q4.2 q6 2) - (1 : Int32)) q4.2).bind fun q8 =>
    if q8.1 = 0
    then (F_X12_heat_c48 v0 v1 v2 v3 q8.2)
    else ((F_X12_within v3 (0 : Int32) (9 : Int32) q8.2).bind fun q9 =>
      if q9.1 = 0
      then (F_X12_heat_c48 v0 v1 v2 v3 q9.2)
      else (F_X12_heat_c49 v0 v1 v2 v3 (1 : Int32) q9.2)))))))
theorem E_X12_heat {X : p_X} {d : Nat} {Q : p_R → Prop} {v0 : Nat} {v1 : Int32} {v2 : Int32} {v3 : Int32} {μ : p_M} {r : Nat × Int32 × p_M} (h : F_X12_heat v0 v1 v2 v3 μ = some r) (hQ : Q (tI r)) : p_Ev X (d + 1) M_X12_heat 0 [.ref v0, .int v1, .int v2, .int v3] [] μ Q := by
  unfold F_X12_heat at h
  refine e_iload_n dX12_heat_0 rfl ?_
  refine e_iconst (v := (0 : Int32)) dX12_heat_1 rfl ?_
  refine e_aload_n dX12_heat_2 rfl ?_
  obtain ⟨h1, h⟩ := p_ok_some h
  obtain ⟨q2, hq2, h⟩ := p_bd h
  refine e_getR dX12_heat_3 rfl rfl h1.1 h1.2 hq2 ?_
  obtain ⟨h3, h⟩ := p_ok_some h
  refine e_getI dX12_heat_6 rfl rfl h3.1 h3.2 ?_
  refine e_iconst (v := (1 : Int32)) dX12_heat_9 rfl ?_
  refine e_isub dX12_heat_10 ?_
  obtain ⟨q4, hq4, h⟩ := p_bd h
  refine f_cSi dX12_heat_11 rfl rfl rfl rfl (fun Q' hQ' => E_X12_within hq4 hQ') ?_
  refine e_if_eq dX12_heat_14 48 (by decide) (fun hc => ?_) (fun hc => ?_)
  · rw [if_pos hc] at h
    exact E_X12_heat_c48 h hQ
  · rw [if_neg hc] at h
    refine e_iload_n dX12_heat_17 rfl ?_
    refine e_iconst (v := (0 : Int32)) dX12_heat_18 rfl ?_
    refine e_aload_n dX12_heat_19 rfl ?_
    obtain ⟨h5, h⟩ := p_ok_some h
    obtain ⟨q6, hq6, h⟩ := p_bd h
    refine e_getR dX12_heat_20 rfl rfl h5.1 h5.2 hq6 ?_
    obtain ⟨h7, h⟩ := p_ok_some h
    refine e_getI dX12_heat_23 rfl rfl h7.1 h7.2 ?_
    refine e_iconst (v := (1 : Int32)) dX12_heat_26 rfl ?_
    refine e_isub dX12_heat_27 ?_
    obtain ⟨q8, hq8, h⟩ := p_bd h
    refine f_cSi dX12_heat_28 rfl rfl rfl rfl (fun Q' hQ' => E_X12_within hq8 hQ') ?_
    refine e_if_eq dX12_heat_31 48 (by decide) (fun hc => ?_) (fun hc => ?_)
    · rw [if_pos hc] at h
      exact E_X12_heat_c48 h hQ
    · rw [if_neg hc] at h
      refine e_iload_n dX12_heat_34 rfl ?_
      refine e_iconst (v := (0 : Int32)) dX12_heat_35 rfl ?_
      refine e_bipush (v := (9 : Int32)) dX12_heat_36 rfl ?_
      obtain ⟨q9, hq9, h⟩ := p_bd h
      refine f_cSi dX12_heat_38 rfl rfl rfl rfl (fun Q' hQ' => E_X12_within hq9 hQ') ?_
      refine e_if_eq dX12_heat_41 48 (by decide) (fun hc => ?_) (fun hc => ?_)
      · rw [if_pos hc] at h
        exact E_X12_heat_c48 h hQ
      · rw [if_neg hc] at h
        refine e_iconst (v := (1 : Int32)) dX12_heat_44 rfl ?_
        refine e_goto dX12_heat_45 49 (by decide) ?_
        exact E_X12_heat_c49 h hQ
/-! L_heat -/
def F_L_heat_c18 (s0 : Int64) (s1 : Int32) (s2 : Nat) (μ : p_M) : Option (Int32 × p_M) :=
  p_ok (mK μ s2 = 22 ∧ ¬ s1 < 0 ∧ s1.toNatClampNeg < mL μ s2 ∧ s2 < mN μ)
  (p_let (sJ μ s2 s1.toNatClampNeg s0) fun m4 =>
  some ((0 : Int32), m4))
theorem E_L_heat_c18 {X : p_X} {d : Nat} {Q : p_R → Prop} {s0 : Int64} {s1 : Int32} {s2 : Nat} {w0 : Value} {w1 : Value} {w2 : Value} {w3 : Value} {w4 : Value} {w5 : Value} {μ : p_M} {r : Int32 × p_M} (h : F_L_heat_c18 s0 s1 s2 μ = some r) (hQ : Q ((0, some (.int r.1)), r.2)) : p_Ev X (d + 2) M_L_heat 18 [w0, w1, w2, w3, w4, w5] [.long s0, .int s1, .ref s2] μ Q := by
  unfold F_L_heat_c18 at h
  obtain ⟨h3, h⟩ := p_ok_some h
  replace h := p_lt h
  refine e_laS dL_heat_18 h3 ?_
  refine e_goto dL_heat_19 26 (by decide) ?_
  refine e_iconst (v := (0 : Int32)) dL_heat_26 rfl ?_
  cases h
  exact e_ireti dL_heat_27 rfl hQ
def F_L_heat (v0 : Nat) (v1 : Int32) (v2 : Int32) (v3 : Int32) (v4 : Nat) (μ : p_M) : Option (Int32 × p_M) :=
  p_ok (mK μ v0 = 13 ∧ v0 < mN μ)
  ((F_X12_heat v0 v1 v2 v3 μ).bind fun q1 =>
  if q1.1 = 0
  then (if q1.2.1 = 0
    then (F_L_heat_c18 (0 : Int64) (0 : Int32) v4 q1.2.2)
    else (F_L_heat_c18 (1 : Int64) (0 : Int32) v4 q1.2.2))
  else if q1.1 = 1 then (some ((1 : Int32), q1.2.2))
  else none)
theorem E_L_heat {X : p_X} {d : Nat} {Q : p_R → Prop} {v0 : Nat} {v1 : Int32} {v2 : Int32} {v3 : Int32} {v4 : Nat} {μ : p_M} {r : Int32 × p_M} (h : F_L_heat v0 v1 v2 v3 v4 μ = some r) (hQ : Q ((0, some (.int r.1)), r.2)) : p_Ev X (d + 2) M_L_heat 0 [.ref v0, .int v1, .int v2, .int v3, .ref v4, .double 0] [] μ Q := by
  unfold F_L_heat at h
  refine e_aload dL_heat_0 rfl ?_
  refine e_iconst (v := (0 : Int32)) dL_heat_2 rfl ?_
  refine e_aload_n dL_heat_3 rfl ?_
  refine e_iload_n dL_heat_4 rfl ?_
  refine e_iload_n dL_heat_5 rfl ?_
  refine e_iload_n dL_heat_6 rfl ?_
  obtain ⟨h2, h⟩ := p_ok_some h
  obtain ⟨q1, hq1, h⟩ := p_bd h
  refine f_hVi dL_heat_7 rfl rfl ⟨rfl, rfl, by decide⟩ rfl h2 (by decide) (fun Q' hQ' => E_X12_heat hq1 hQ') (fun hc => ?_) (fun hc => ?_)
  · rw [if_pos hc] at h
    refine e_if_eq dL_heat_10 17 (by decide) (fun hc => ?_) (fun hc => ?_)
    · rw [if_pos hc] at h
      refine e_lconst (v := 0) dL_heat_17 rfl ?_
      exact E_L_heat_c18 h hQ
    · rw [if_neg hc] at h
      refine e_lconst (v := 1) dL_heat_13 rfl ?_
      refine e_goto dL_heat_14 18 (by decide) ?_
      exact E_L_heat_c18 h hQ
  · rw [if_neg hc] at h
    by_cases hc : q1.1 = 1
    · rw [if_pos hc] at h
      refine ⟨22, by rw [hc]; rfl, ?_⟩
      refine e_astZ dL_heat_22 (Nat.le_of_ble_eq_true rfl) rfl ?_
      refine e_iconst (v := (1 : Int32)) dL_heat_24 rfl ?_
      cases h
      exact e_ireti dL_heat_25 rfl hQ
    rw [if_neg hc] at h
    cases h
/-! X10_open -/
def F_X10_open (v0 : Nat) (μ : p_M) : Option (Int32 × p_M) :=
  p_ok (mK μ v0 = 11 ∧ v0 < mN μ)
  (p_let (sI μ v0 2 (0 : Int32)) fun m2 =>
  p_let (sI m2 v0 3 (-1)) fun m3 =>
  some (0, m3))
theorem E_X10_open {X : p_X} {d : Nat} {Q : p_R → Prop} {v0 : Nat} {μ : p_M} {r : Int32 × p_M} (h : F_X10_open v0 μ = some r) (hQ : Q ((0, none), r.2)) : p_Ev X (d + 0) M_X10_open 0 [.ref v0] [] μ Q := by
  unfold F_X10_open at h
  refine e_aload_n dX10_open_0 rfl ?_
  refine e_iconst (v := (0 : Int32)) dX10_open_1 rfl ?_
  obtain ⟨h1, h⟩ := p_ok_some h
  replace h := p_lt h
  refine e_putI dX10_open_2 rfl ⟨rfl, rfl, (fun h => by cases h)⟩ (fun h => by cases h) h1.1 h1.2 ?_
  refine e_aload_n dX10_open_5 rfl ?_
  refine e_iconst (v := (-1)) dX10_open_6 rfl ?_
  replace h := p_lt h
  refine e_putI dX10_open_7 rfl ⟨rfl, rfl, (fun h => by cases h)⟩ (fun h => by cases h) h1.1 h1.2 ?_
  cases h
  exact e_vret dX10_open_10 rfl hQ
/-! X10_refuse -/
def F_X10_refuse_c13 (μ : p_M) : Option (Int32 × p_M) :=
  some (0, μ)
theorem E_X10_refuse_c13 {X : p_X} {d : Nat} {Q : p_R → Prop} {w0 : Value} {w1 : Value} {μ : p_M} {r : Int32 × p_M} (h : F_X10_refuse_c13 μ = some r) (hQ : Q ((0, none), r.2)) : p_Ev X (d + 0) M_X10_refuse 13 [w0, w1] [] μ Q := by
  unfold F_X10_refuse_c13 at h
  cases h
  exact e_vret dX10_refuse_13 rfl hQ
def F_X10_refuse (v0 : Nat) (v1 : Int32) (μ : p_M) : Option (Int32 × p_M) :=
  p_ok (mK μ v0 = 11 ∧ v0 < mN μ)
  (if ¬ (mI μ v0 3) = (-1)
  then (F_X10_refuse_c13 μ)
  else (p_let (sI μ v0 3 v1) fun m2 =>
    F_X10_refuse_c13 m2))
theorem E_X10_refuse {X : p_X} {d : Nat} {Q : p_R → Prop} {v0 : Nat} {v1 : Int32} {μ : p_M} {r : Int32 × p_M} (h : F_X10_refuse v0 v1 μ = some r) (hQ : Q ((0, none), r.2)) : p_Ev X (d + 0) M_X10_refuse 0 [.ref v0, .int v1] [] μ Q := by
  unfold F_X10_refuse at h
  refine e_aload_n dX10_refuse_0 rfl ?_
  obtain ⟨h1, h⟩ := p_ok_some h
  refine e_getI dX10_refuse_1 rfl rfl h1.1 h1.2 ?_
  refine e_iconst (v := (-1)) dX10_refuse_4 rfl ?_
  refine e_ic_ne dX10_refuse_5 13 (by decide) (fun hc => ?_) (fun hc => ?_)
  · rw [if_pos hc] at h
    exact E_X10_refuse_c13 h hQ
  · rw [if_neg hc] at h
    refine e_aload_n dX10_refuse_8 rfl ?_
    refine e_iload_n dX10_refuse_9 rfl ?_
    replace h := p_lt h
    refine e_putI dX10_refuse_10 rfl ⟨rfl, rfl, (fun h => by cases h)⟩ (fun h => by cases h) h1.1 h1.2 ?_
    exact E_X10_refuse_c13 h hQ
/-! X10_skipBlanks -/
def F_X10_skipBlanks_c38 (μ : p_M) : Option (Int32 × p_M) :=
  some (0, μ)
theorem E_X10_skipBlanks_c38 {X : p_X} {d : Nat} {Q : p_R → Prop} {w0 : Value} {μ : p_M} {r : Int32 × p_M} (h : F_X10_skipBlanks_c38 μ = some r) (hQ : Q ((0, none), r.2)) : p_Ev X (d + 0) M_X10_skipBlanks 38 [w0] [] μ Q := by
  unfold F_X10_skipBlanks_c38 at h
  cases h
  exact e_vret dX10_skipBlanks_38 rfl hQ
def F_X10_skipBlanks_c0 : Nat → Nat → p_M → Option (Int32 × p_M)
  | 0, _, _ => none
  | n + 1, v0, μ =>
    p_ok (mK μ v0 = 11 ∧ v0 < mN μ)
    (if (mI μ v0 1) ≤ (mI μ v0 2)
    then (F_X10_skipBlanks_c38 μ)
    else ((mR μ v0 0).bind fun q2 =>
      p_ok (q2 < p_E ∧ mK μ q2 = 21 ∧ q2 < mN μ)
      (p_ok (¬ (mI μ v0 2) < 0 ∧ (mI μ v0 2).toNatClampNeg < mL μ q2)
      (if ¬ (mI μ q2 (mI μ v0 2).toNatClampNeg) = (32 : Int32)
      then (F_X10_skipBlanks_c38 μ)
      else (p_let (sI μ v0 2 ((mI μ v0 2) + (1 : Int32))) fun m5 =>
        F_X10_skipBlanks_c0 n v0 m5)))))
theorem E_X10_skipBlanks_c0 {X : p_X} {d : Nat} {Q : p_R → Prop} : ∀ (n : Nat) (v0 : Nat) (μ : p_M) (r : Int32 × p_M), F_X10_skipBlanks_c0 n v0 μ = some r → Q ((0, none), r.2) → p_Ev X (d + 0) M_X10_skipBlanks 0 [.ref v0] [] μ Q := by
  intro n
  induction n with
  | zero => intro v0 μ r h hQ; rw [F_X10_skipBlanks_c0] at h; cases h
  | succ n ih =>
    intro v0 μ r h hQ
    rw [F_X10_skipBlanks_c0] at h
    refine e_aload_n dX10_skipBlanks_0 rfl ?_
    obtain ⟨h1, h⟩ := p_ok_some h
    refine e_getI dX10_skipBlanks_1 rfl rfl h1.1 h1.2 ?_
    refine e_aload_n dX10_skipBlanks_4 rfl ?_
    refine e_getI dX10_skipBlanks_5 rfl rfl h1.1 h1.2 ?_
    refine e_ic_ge dX10_skipBlanks_8 38 (by decide) (fun hc => ?_) (fun hc => ?_)
    · rw [if_pos hc] at h
      exact E_X10_skipBlanks_c38 h hQ
    · rw [if_neg hc] at h
      refine e_aload_n dX10_skipBlanks_11 rfl ?_
      obtain ⟨q2, hq2, h⟩ := p_bd h
      refine e_getR dX10_skipBlanks_12 rfl rfl h1.1 h1.2 hq2 ?_
      refine e_aload_n dX10_skipBlanks_15 rfl ?_
      refine e_getI dX10_skipBlanks_16 rfl rfl h1.1 h1.2 ?_
      obtain ⟨h3, h⟩ := p_ok_some h
      obtain ⟨h4, h⟩ := p_ok_some h
      refine e_baG dX10_skipBlanks_19 h3 h4 ?_
      refine e_bipush (v := (32 : Int32)) dX10_skipBlanks_20 rfl ?_
      refine e_ic_ne dX10_skipBlanks_22 38 (by decide) (fun hc => ?_) (fun hc => ?_)
      · rw [if_pos hc] at h
        exact E_X10_skipBlanks_c38 h hQ
      · rw [if_neg hc] at h
        refine e_aload_n dX10_skipBlanks_25 rfl ?_
        refine e_dupR dX10_skipBlanks_26 ?_
        refine e_getI dX10_skipBlanks_27 rfl rfl h1.1 h1.2 ?_
        refine e_iconst (v := (1 : Int32)) dX10_skipBlanks_30 rfl ?_
        refine e_iadd dX10_skipBlanks_31 ?_
        replace h := p_lt h
        refine e_putI dX10_skipBlanks_32 rfl ⟨rfl, rfl, (fun h => by cases h)⟩ (fun h => by cases h) h1.1 h1.2 ?_
        refine e_goto dX10_skipBlanks_35 0 (by decide) ?_
        exact ih _ _ _ h hQ
def F_X10_skipBlanks (v0 : Nat) (μ : p_M) : Option (Int32 × p_M) :=
  F_X10_skipBlanks_c0 p_fu v0 μ
theorem E_X10_skipBlanks {X : p_X} {d : Nat} {Q : p_R → Prop} {v0 : Nat} {μ : p_M} {r : Int32 × p_M} (h : F_X10_skipBlanks v0 μ = some r) (hQ : Q ((0, none), r.2)) : p_Ev X (d + 0) M_X10_skipBlanks 0 [.ref v0] [] μ Q := by
  unfold F_X10_skipBlanks at h
  exact E_X10_skipBlanks_c0 p_fu _ _ _ h hQ
/-! X10_goesOn -/
def F_X10_goesOn (v0 : Nat) (μ : p_M) : Option (Int32 × p_M) :=
  p_ok (mK μ v0 = 11 ∧ v0 < mN μ)
  (if (mI μ v0 3) = (-1)
  then ((F_X10_skipBlanks v0 μ).bind fun q2 =>
    p_ok (mK q2.2 v0 = 11 ∧ v0 < mN q2.2)
    (if (mI q2.2 v0 2) < (mI q2.2 v0 1)
    then ((mR q2.2 v0 0).bind fun q4 =>
      p_ok (q4 < p_E ∧ mK q2.2 q4 = 21 ∧ q4 < mN q2.2)
      (p_ok (¬ (mI q2.2 v0 2) < 0 ∧ (mI q2.2 v0 2).toNatClampNeg < mL q2.2 q4)
      (if (mI q2.2 q4 (mI q2.2 v0 2).toNatClampNeg) = (59 : Int32)
      then (p_let (sI q2.2 v0 2 ((mI q2.2 v0 2) + (1 : Int32))) fun m7 =>
        some ((1 : Int32), m7))
      else ((F_X10_refuse v0 (mI q2.2 v0 2) q2.2).bind fun q8 =>
        some ((0 : Int32), q8.2)))))
    else (some ((0 : Int32), q2.2))))
  else (some ((0 : Int32), μ)))
theorem E_X10_goesOn {X : p_X} {d : Nat} {Q : p_R → Prop} {v0 : Nat} {μ : p_M} {r : Int32 × p_M} (h : F_X10_goesOn v0 μ = some r) (hQ : Q ((0, some (.int r.1)), r.2)) : p_Ev X (d + 1) M_X10_goesOn 0 [.ref v0] [] μ Q := by
  unfold F_X10_goesOn at h
  refine e_aload_n dX10_goesOn_0 rfl ?_
  obtain ⟨h1, h⟩ := p_ok_some h
  refine e_getI dX10_goesOn_1 rfl rfl h1.1 h1.2 ?_
  refine e_iconst (v := (-1)) dX10_goesOn_4 rfl ?_
  refine e_ic_eq dX10_goesOn_5 10 (by decide) (fun hc => ?_) (fun hc => ?_)
  · rw [if_pos hc] at h
    refine e_aload_n dX10_goesOn_10 rfl ?_
    obtain ⟨q2, hq2, h⟩ := p_bd h
    refine f_cVv dX10_goesOn_11 rfl rfl ⟨rfl, rfl, by decide⟩ rfl h1 (fun Q' hQ' => E_X10_skipBlanks hq2 hQ') ?_
    refine e_aload_n dX10_goesOn_14 rfl ?_
    obtain ⟨h3, h⟩ := p_ok_some h
    refine e_getI dX10_goesOn_15 rfl rfl h3.1 h3.2 ?_
    refine e_aload_n dX10_goesOn_18 rfl ?_
    refine e_getI dX10_goesOn_19 rfl rfl h3.1 h3.2 ?_
    refine e_ic_lt dX10_goesOn_22 27 (by decide) (fun hc => ?_) (fun hc => ?_)
    · rw [if_pos hc] at h
      refine e_aload_n dX10_goesOn_27 rfl ?_
      obtain ⟨q4, hq4, h⟩ := p_bd h
      refine e_getR dX10_goesOn_28 rfl rfl h3.1 h3.2 hq4 ?_
      refine e_aload_n dX10_goesOn_31 rfl ?_
      refine e_getI dX10_goesOn_32 rfl rfl h3.1 h3.2 ?_
      obtain ⟨h5, h⟩ := p_ok_some h
      obtain ⟨h6, h⟩ := p_ok_some h
      refine e_baG dX10_goesOn_35 h5 h6 ?_
      refine e_bipush (v := (59 : Int32)) dX10_goesOn_36 rfl ?_
      refine e_ic_eq dX10_goesOn_38 51 (by decide) (fun hc => ?_) (fun hc => ?_)
      · rw [if_pos hc] at h
        refine e_aload_n dX10_goesOn_51 rfl ?_
        refine e_dupR dX10_goesOn_52 ?_
        refine e_getI dX10_goesOn_53 rfl rfl h3.1 h3.2 ?_
        refine e_iconst (v := (1 : Int32)) dX10_goesOn_56 rfl ?_
        refine e_iadd dX10_goesOn_57 ?_
        replace h := p_lt h
        refine e_putI dX10_goesOn_58 rfl ⟨rfl, rfl, (fun h => by cases h)⟩ (fun h => by cases h) h3.1 h3.2 ?_
        refine e_iconst (v := (1 : Int32)) dX10_goesOn_61 rfl ?_
        cases h
        exact e_iretz dX10_goesOn_62 rfl (by decide) hQ
      · rw [if_neg hc] at h
        refine e_aload_n dX10_goesOn_41 rfl ?_
        refine e_aload_n dX10_goesOn_42 rfl ?_
        refine e_getI dX10_goesOn_43 rfl rfl h3.1 h3.2 ?_
        obtain ⟨q8, hq8, h⟩ := p_bd h
        refine f_cVv dX10_goesOn_46 rfl rfl ⟨rfl, rfl, by decide⟩ rfl h3 (fun Q' hQ' => E_X10_refuse hq8 hQ') ?_
        refine e_iconst (v := (0 : Int32)) dX10_goesOn_49 rfl ?_
        cases h
        exact e_iretz dX10_goesOn_50 rfl (by decide) hQ
    · rw [if_neg hc] at h
      refine e_iconst (v := (0 : Int32)) dX10_goesOn_25 rfl ?_
      cases h
      exact e_iretz dX10_goesOn_26 rfl (by decide) hQ
  · rw [if_neg hc] at h
    refine e_iconst (v := (0 : Int32)) dX10_goesOn_8 rfl ?_
    cases h
    exact e_iretz dX10_goesOn_9 rfl (by decide) hQ
/-! X10_isBlank -/
def F_X10_isBlank_c20 (s0 : Int32) (μ : p_M) : Option (Int32 × p_M) :=
  p_ok (s0 = 0 ∨ s0 = 1)
  (some (s0, μ))
theorem E_X10_isBlank_c20 {X : p_X} {d : Nat} {Q : p_R → Prop} {s0 : Int32} {w0 : Value} {μ : p_M} {r : Int32 × p_M} (h : F_X10_isBlank_c20 s0 μ = some r) (hQ : Q ((0, some (.int r.1)), r.2)) : p_Ev X (d + 1) M_X10_isBlank 20 [w0] [.int s0] μ Q := by
  unfold F_X10_isBlank_c20 at h
  obtain ⟨h4, h⟩ := p_ok_some h
  cases h
  exact e_iretz dX10_isBlank_20 rfl h4 hQ
def F_X10_isBlank (v0 : Nat) (μ : p_M) : Option (Int32 × p_M) :=
  p_ok (mK μ v0 = 11 ∧ v0 < mN μ)
  ((F_X10_skipBlanks v0 μ).bind fun q1 =>
  p_ok (mK q1.2 v0 = 11 ∧ v0 < mN q1.2)
  (if (mI q1.2 v0 2) < (mI q1.2 v0 1)
  then (F_X10_isBlank_c20 (0 : Int32) q1.2)
  else (F_X10_isBlank_c20 (1 : Int32) q1.2)))
theorem E_X10_isBlank {X : p_X} {d : Nat} {Q : p_R → Prop} {v0 : Nat} {μ : p_M} {r : Int32 × p_M} (h : F_X10_isBlank v0 μ = some r) (hQ : Q ((0, some (.int r.1)), r.2)) : p_Ev X (d + 1) M_X10_isBlank 0 [.ref v0] [] μ Q := by
  unfold F_X10_isBlank at h
  refine e_aload_n dX10_isBlank_0 rfl ?_
  obtain ⟨h2, h⟩ := p_ok_some h
  obtain ⟨q1, hq1, h⟩ := p_bd h
  refine f_cVv dX10_isBlank_1 rfl rfl ⟨rfl, rfl, by decide⟩ rfl h2 (fun Q' hQ' => E_X10_skipBlanks hq1 hQ') ?_
  refine e_aload_n dX10_isBlank_4 rfl ?_
  obtain ⟨h3, h⟩ := p_ok_some h
  refine e_getI dX10_isBlank_5 rfl rfl h3.1 h3.2 ?_
  refine e_aload_n dX10_isBlank_8 rfl ?_
  refine e_getI dX10_isBlank_9 rfl rfl h3.1 h3.2 ?_
  refine e_ic_lt dX10_isBlank_12 19 (by decide) (fun hc => ?_) (fun hc => ?_)
  · rw [if_pos hc] at h
    refine e_iconst (v := (0 : Int32)) dX10_isBlank_19 rfl ?_
    exact E_X10_isBlank_c20 h hQ
  · rw [if_neg hc] at h
    refine e_iconst (v := (1 : Int32)) dX10_isBlank_15 rfl ?_
    refine e_goto dX10_isBlank_16 20 (by decide) ?_
    exact E_X10_isBlank_c20 h hQ
/-! X10_number -/
def F_X10_number_c93 (K23 : Nat → Int32 → Int32 → Int32 → Int32 → Int32 → p_M → Option (Int32 × p_M)) (v0 : Nat) (v1 : Int32) (v2 : Int32) (v3 : Int32) (v4 : Int32) (v5 : Int32) (μ : p_M) : Option (Int32 × p_M) :=
  p_ok (mK μ v0 = 11 ∧ v0 < mN μ)
  (p_let (sI μ v0 2 ((mI μ v0 2) + (1 : Int32))) fun m9 =>
  K23 v0 v1 v2 v3 v4 v5 m9)
theorem E_X10_number_c93 {X : p_X} {d : Nat} {Q : p_R → Prop} {K23 : Nat → Int32 → Int32 → Int32 → Int32 → Int32 → p_M → Option (Int32 × p_M)} (hK23 : ∀ (v0 : Nat) (v1 : Int32) (v2 : Int32) (v3 : Int32) (v4 : Int32) (v5 : Int32) (μ : p_M) (r : Int32 × p_M) (w6 : Value), K23 v0 v1 v2 v3 v4 v5 μ = some r → Q ((0, some (.int r.1)), r.2) → p_Ev X (d + 1) M_X10_number 23 [.ref v0, .int v1, .int v2, .int v3, .int v4, .int v5, w6] [] μ Q) {v0 : Nat} {v1 : Int32} {v2 : Int32} {v3 : Int32} {v4 : Int32} {v5 : Int32} {w6 : Value} {μ : p_M} {r : Int32 × p_M} (h : F_X10_number_c93 K23 v0 v1 v2 v3 v4 v5 μ = some r) (hQ : Q ((0, some (.int r.1)), r.2)) : p_Ev X (d + 1) M_X10_number 93 [.ref v0, .int v1, .int v2, .int v3, .int v4, .int v5, w6] [] μ Q := by
  unfold F_X10_number_c93 at h
  refine e_aload_n dX10_number_93 rfl ?_
  refine e_dupR dX10_number_94 ?_
  obtain ⟨h8, h⟩ := p_ok_some h
  refine e_getI dX10_number_95 rfl rfl h8.1 h8.2 ?_
  refine e_iconst (v := (1 : Int32)) dX10_number_98 rfl ?_
  refine e_iadd dX10_number_99 ?_
  replace h := p_lt h
  refine e_putI dX10_number_100 rfl ⟨rfl, rfl, (fun h => by cases h)⟩ (fun h => by cases h) h8.1 h8.2 ?_
  refine e_goto dX10_number_103 23 (by decide) ?_
  exact hK23 _ _ _ _ _ _ _ _ _ h hQ
def F_X10_number_c138 (v0 : Nat) (v4 : Int32) (μ : p_M) : Option (Int32 × p_M) :=
  p_ok (mK μ v0 = 11 ∧ v0 < mN μ)
  ((F_X10_refuse v0 v4 μ).bind fun q11 =>
  some ((-1), q11.2))
theorem E_X10_number_c138 {X : p_X} {d : Nat} {Q : p_R → Prop} {v0 : Nat} {v4 : Int32} {w1 : Value} {w2 : Value} {w3 : Value} {w5 : Value} {w6 : Value} {μ : p_M} {r : Int32 × p_M} (h : F_X10_number_c138 v0 v4 μ = some r) (hQ : Q ((0, some (.int r.1)), r.2)) : p_Ev X (d + 1) M_X10_number 138 [.ref v0, w1, w2, w3, .int v4, w5, w6] [] μ Q := by
  unfold F_X10_number_c138 at h
  refine e_aload_n dX10_number_138 rfl ?_
  refine e_iload dX10_number_139 rfl ?_
  obtain ⟨h12, h⟩ := p_ok_some h
  obtain ⟨q11, hq11, h⟩ := p_bd h
  refine f_cVv dX10_number_141 rfl rfl ⟨rfl, rfl, by decide⟩ rfl h12 (fun Q' hQ' => E_X10_refuse hq11 hQ') ?_
  refine e_iconst (v := (-1)) dX10_number_144 rfl ?_
  cases h
  exact e_ireti dX10_number_145 rfl hQ
def F_X10_number_c106 (v0 : Nat) (v1 : Int32) (v2 : Int32) (v3 : Int32) (v4 : Int32) (v5 : Int32) (μ : p_M) : Option (Int32 × p_M) :=
  p_ok (mK μ v0 = 11 ∧ v0 < mN μ)
  (if ((mI μ v0 2) - v4) = 0
  then (F_X10_number_c138 v0 v4 μ)
  else (if v1 < ((mI μ v0 2) - v4)
    then (F_X10_number_c138 v0 v4 μ)
    else (if v5 < v2
      then (F_X10_number_c138 v0 v4 μ)
      else (if v5 ≤ v3
        then (some (v5, μ))
        else (F_X10_number_c138 v0 v4 μ)))))
theorem E_X10_number_c106 {X : p_X} {d : Nat} {Q : p_R → Prop} {v0 : Nat} {v1 : Int32} {v2 : Int32} {v3 : Int32} {v4 : Int32} {v5 : Int32} {w6 : Value} {μ : p_M} {r : Int32 × p_M} (h : F_X10_number_c106 v0 v1 v2 v3 v4 v5 μ = some r) (hQ : Q ((0, some (.int r.1)), r.2)) : p_Ev X (d + 1) M_X10_number 106 [.ref v0, .int v1, .int v2, .int v3, .int v4, .int v5, w6] [] μ Q := by
  unfold F_X10_number_c106 at h
  refine e_aload_n dX10_number_106 rfl ?_
  obtain ⟨h10, h⟩ := p_ok_some h
  refine e_getI dX10_number_107 rfl rfl h10.1 h10.2 ?_
  refine e_iload dX10_number_110 rfl ?_
  refine e_isub dX10_number_112 ?_
  refine e_istore dX10_number_113 (Nat.le_of_ble_eq_true rfl) rfl ?_
  refine e_iload dX10_number_115 rfl ?_
  refine e_if_eq dX10_number_117 138 (by decide) (fun hc => ?_) (fun hc => ?_)
  · rw [if_pos hc] at h
    exact E_X10_number_c138 h hQ
  · rw [if_neg hc] at h
    refine e_iload dX10_number_120 rfl ?_
    refine e_iload_n dX10_number_122 rfl ?_
    refine e_ic_gt dX10_number_123 138 (by decide) (fun hc => ?_) (fun hc => ?_)
    · rw [if_pos hc] at h
      exact E_X10_number_c138 h hQ
    · rw [if_neg hc] at h
      refine e_iload dX10_number_126 rfl ?_
      refine e_iload_n dX10_number_128 rfl ?_
      refine e_ic_lt dX10_number_129 138 (by decide) (fun hc => ?_) (fun hc => ?_)
      · rw [if_pos hc] at h
        exact E_X10_number_c138 h hQ
      · rw [if_neg hc] at h
        refine e_iload dX10_number_132 rfl ?_
        refine e_iload_n dX10_number_134 rfl ?_
        refine e_ic_le dX10_number_135 146 (by decide) (fun hc => ?_) (fun hc => ?_)
        · rw [if_pos hc] at h
          refine e_iload dX10_number_146 rfl ?_
          cases h
          exact e_ireti dX10_number_148 rfl hQ
        · rw [if_neg hc] at h
          exact E_X10_number_c138 h hQ
def F_X10_number_c23 : Nat → Nat → Int32 → Int32 → Int32 → Int32 → Int32 → p_M → Option (Int32 × p_M)
  | 0, _, _, _, _, _, _, _ => none
  | n + 1, v0, v1, v2, v3, v4, v5, μ =>
    p_ok (mK μ v0 = 11 ∧ v0 < mN μ)
    (if (mI μ v0 1) ≤ (mI μ v0 2)
    then (F_X10_number_c106 v0 v1 v2 v3 v4 v5 μ)
    else ((mR μ v0 0).bind fun q5 =>
      p_ok (q5 < p_E ∧ mK μ q5 = 21 ∧ q5 < mN μ)
      (p_ok (¬ (mI μ v0 2) < 0 ∧ (mI μ v0 2).toNatClampNeg < mL μ q5)
      (if (mI μ q5 (mI μ v0 2).toNatClampNeg) < (48 : Int32)
      then (F_X10_number_c106 v0 v1 v2 v3 v4 v5 μ)
      else (if (57 : Int32) < (mI μ q5 (mI μ v0 2).toNatClampNeg)
        then (F_X10_number_c106 v0 v1 v2 v3 v4 v5 μ)
        else (if v1 ≤ ((mI μ v0 2) - v4)
          then (F_X10_number_c93 (F_X10_number_c23 n) v0 v1 v2 v3 v4 v5 μ)
          else (F_X10_number_c93 (F_X10_number_c23 n) v0 v1 v2 v3 v4 ((v5 * (10 : Int32)) + ((mI μ q5 (mI μ v0 2).toNatClampNeg) - (48 : Int32))) μ)))))))
theorem E_X10_number_c23 {X : p_X} {d : Nat} {Q : p_R → Prop} : ∀ (n : Nat) (v0 : Nat) (v1 : Int32) (v2 : Int32) (v3 : Int32) (v4 : Int32) (v5 : Int32) (μ : p_M) (r : Int32 × p_M) (w6 : Value), F_X10_number_c23 n v0 v1 v2 v3 v4 v5 μ = some r → Q ((0, some (.int r.1)), r.2) → p_Ev X (d + 1) M_X10_number 23 [.ref v0, .int v1, .int v2, .int v3, .int v4, .int v5, w6] [] μ Q := by
  intro n
  induction n with
  | zero => intro v0 v1 v2 v3 v4 v5 μ r w6 h hQ; rw [F_X10_number_c23] at h; cases h
  | succ n ih =>
    intro v0 v1 v2 v3 v4 v5 μ r w6 h hQ
    rw [F_X10_number_c23] at h
    refine e_aload_n dX10_number_23 rfl ?_
    obtain ⟨h4, h⟩ := p_ok_some h
    refine e_getI dX10_number_24 rfl rfl h4.1 h4.2 ?_
    refine e_aload_n dX10_number_27 rfl ?_
    refine e_getI dX10_number_28 rfl rfl h4.1 h4.2 ?_
    refine e_ic_ge dX10_number_31 106 (by decide) (fun hc => ?_) (fun hc => ?_)
    · rw [if_pos hc] at h
      exact E_X10_number_c106 h hQ
    · rw [if_neg hc] at h
      refine e_aload_n dX10_number_34 rfl ?_
      obtain ⟨q5, hq5, h⟩ := p_bd h
      refine e_getR dX10_number_35 rfl rfl h4.1 h4.2 hq5 ?_
      refine e_aload_n dX10_number_38 rfl ?_
      refine e_getI dX10_number_39 rfl rfl h4.1 h4.2 ?_
      obtain ⟨h6, h⟩ := p_ok_some h
      obtain ⟨h7, h⟩ := p_ok_some h
      refine e_baG dX10_number_42 h6 h7 ?_
      refine e_bipush (v := (48 : Int32)) dX10_number_43 rfl ?_
      refine e_ic_lt dX10_number_45 106 (by decide) (fun hc => ?_) (fun hc => ?_)
      · rw [if_pos hc] at h
        exact E_X10_number_c106 h hQ
      · rw [if_neg hc] at h
        refine e_aload_n dX10_number_48 rfl ?_
        refine e_getR dX10_number_49 rfl rfl h4.1 h4.2 hq5 ?_
        refine e_aload_n dX10_number_52 rfl ?_
        refine e_getI dX10_number_53 rfl rfl h4.1 h4.2 ?_
        refine e_baG dX10_number_56 h6 h7 ?_
        refine e_bipush (v := (57 : Int32)) dX10_number_57 rfl ?_
        refine e_ic_gt dX10_number_59 106 (by decide) (fun hc => ?_) (fun hc => ?_)
        · rw [if_pos hc] at h
          exact E_X10_number_c106 h hQ
        · rw [if_neg hc] at h
          refine e_aload_n dX10_number_62 rfl ?_
          refine e_getI dX10_number_63 rfl rfl h4.1 h4.2 ?_
          refine e_iload dX10_number_66 rfl ?_
          refine e_isub dX10_number_68 ?_
          refine e_iload_n dX10_number_69 rfl ?_
          refine e_ic_ge dX10_number_70 93 (by decide) (fun hc => ?_) (fun hc => ?_)
          · rw [if_pos hc] at h
            exact E_X10_number_c93 ih h hQ
          · rw [if_neg hc] at h
            refine e_iload dX10_number_73 rfl ?_
            refine e_bipush (v := (10 : Int32)) dX10_number_75 rfl ?_
            refine e_imul dX10_number_77 ?_
            refine e_aload_n dX10_number_78 rfl ?_
            refine e_getR dX10_number_79 rfl rfl h4.1 h4.2 hq5 ?_
            refine e_aload_n dX10_number_82 rfl ?_
            refine e_getI dX10_number_83 rfl rfl h4.1 h4.2 ?_
            refine e_baG dX10_number_86 h6 h7 ?_
            refine e_bipush (v := (48 : Int32)) dX10_number_87 rfl ?_
            refine e_isub dX10_number_89 ?_
            refine e_iadd dX10_number_90 ?_
            refine e_istore dX10_number_91 (Nat.le_of_ble_eq_true rfl) rfl ?_
            exact E_X10_number_c93 ih h hQ
def F_X10_number (v0 : Nat) (v1 : Int32) (v2 : Int32) (v3 : Int32) (μ : p_M) : Option (Int32 × p_M) :=
  p_ok (mK μ v0 = 11 ∧ v0 < mN μ)
  (if (mI μ v0 3) = (-1)
  then ((F_X10_skipBlanks v0 μ).bind fun q2 =>
    p_ok (mK q2.2 v0 = 11 ∧ v0 < mN q2.2)
    (F_X10_number_c23 p_fu v0 v1 v2 v3 (mI q2.2 v0 2) (0 : Int32) q2.2))
  else (some ((-1), μ)))
theorem E_X10_number {X : p_X} {d : Nat} {Q : p_R → Prop} {v0 : Nat} {v1 : Int32} {v2 : Int32} {v3 : Int32} {μ : p_M} {r : Int32 × p_M} (h : F_X10_number v0 v1 v2 v3 μ = some r) (hQ : Q ((0, some (.int r.1)), r.2)) : p_Ev X (d + 1) M_X10_number 0 [.ref v0, .int v1, .int v2, .int v3, .double 0, .double 0, .double 0] [] μ Q := by
  unfold F_X10_number at h
  refine e_aload_n dX10_number_0 rfl ?_
  obtain ⟨h1, h⟩ := p_ok_some h
  refine e_getI dX10_number_1 rfl rfl h1.1 h1.2 ?_
  refine e_iconst (v := (-1)) dX10_number_4 rfl ?_
  refine e_ic_eq dX10_number_5 10 (by decide) (fun hc => ?_) (fun hc => ?_)
  · rw [if_pos hc] at h
    refine e_aload_n dX10_number_10 rfl ?_
    obtain ⟨q2, hq2, h⟩ := p_bd h
    refine f_cVv dX10_number_11 rfl rfl ⟨rfl, rfl, by decide⟩ rfl h1 (fun Q' hQ' => E_X10_skipBlanks hq2 hQ') ?_
    refine e_aload_n dX10_number_14 rfl ?_
    obtain ⟨h3, h⟩ := p_ok_some h
    refine e_getI dX10_number_15 rfl rfl h3.1 h3.2 ?_
    refine e_istore dX10_number_18 (Nat.le_of_ble_eq_true rfl) rfl ?_
    refine e_iconst (v := (0 : Int32)) dX10_number_20 rfl ?_
    refine e_istore dX10_number_21 (Nat.le_of_ble_eq_true rfl) rfl ?_
    exact E_X10_number_c23 p_fu _ _ _ _ _ _ _ _ _ h hQ
  · rw [if_neg hc] at h
    refine e_iconst (v := (-1)) dX10_number_8 rfl ?_
    cases h
    exact e_ireti dX10_number_9 rfl hQ
