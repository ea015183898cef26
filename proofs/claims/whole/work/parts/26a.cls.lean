/-! J7_fill_53178 -/
def F_J7_fill_53178_c5 : Nat → Nat → Int32 → Int32 → Int32 → p_M → Option (Int32 × p_M)
  | 0, _, _, _, _, _ => none
  | n + 1, v0, v1, v2, v3, μ =>
    if v3 ≤ v2
    then (some (0, μ))
    else (p_ok (v0 < p_E ∧ mK μ v0 = 20 ∧ v0 < mN μ)
      (p_ok (¬ v2 < 0 ∧ v2.toNatClampNeg < mL μ v0)
      (p_let (sI μ v0 v2.toNatClampNeg v1) fun m4 =>
      F_J7_fill_53178_c5 n v0 v1 (v2 + (1 : Int32)) v3 m4)))
theorem E_J7_fill_53178_c5 {X : p_X} {d : Nat} {Q : p_R → Prop} : ∀ (n : Nat) (v0 : Nat) (v1 : Int32) (v2 : Int32) (v3 : Int32) (μ : p_M) (r : Int32 × p_M), F_J7_fill_53178_c5 n v0 v1 v2 v3 μ = some r → Q ((0, none), r.2) → p_Ev X (d + 0) M_J7_fill_53178 5 [.ref v0, .int v1, .int v2, .int v3] [] μ Q := by
  intro n
  induction n with
  | zero => intro v0 v1 v2 v3 μ r h hQ; rw [F_J7_fill_53178_c5] at h; cases h
  | succ n ih =>
    intro v0 v1 v2 v3 μ r h hQ
    rw [F_J7_fill_53178_c5] at h
    refine e_iload_n dJ7_fill_53178_5 rfl ?_
    refine e_iload_n dJ7_fill_53178_6 rfl ?_
    refine e_ic_ge dJ7_fill_53178_7 20 (by decide) (fun hc => ?_) (fun hc => ?_)
    · rw [if_pos hc] at h
      cases h
      exact e_vret dJ7_fill_53178_20 rfl hQ
    · rw [if_neg hc] at h
      refine e_aload_n dJ7_fill_53178_10 rfl ?_
      refine e_iload_n dJ7_fill_53178_11 rfl ?_
      refine e_iload_n dJ7_fill_53178_12 rfl ?_
      obtain ⟨h2, h⟩ := p_ok_some h
      obtain ⟨h3, h⟩ := p_ok_some h
      replace h := p_lt h
      refine e_iaS dJ7_fill_53178_13 h2 h3 ?_
      refine e_iinc (v := (1 : Int32)) dJ7_fill_53178_14 rfl rfl rfl ?_
      refine e_goto dJ7_fill_53178_17 5 (by decide) ?_
      exact ih _ _ _ _ _ _ h hQ
def F_J7_fill_53178 (v0 : Nat) (v1 : Int32) (μ : p_M) : Option (Int32 × p_M) :=
  p_ok (v0 < p_E ∧ 20 ≤ mK μ v0 ∧ mK μ v0 ≤ 26 ∧ v0 < mN μ)
  (F_J7_fill_53178_c5 p_fu v0 v1 (0 : Int32) (nI (mL μ v0)) μ)
theorem E_J7_fill_53178 {X : p_X} {d : Nat} {Q : p_R → Prop} {v0 : Nat} {v1 : Int32} {μ : p_M} {r : Int32 × p_M} (h : F_J7_fill_53178 v0 v1 μ = some r) (hQ : Q ((0, none), r.2)) : p_Ev X (d + 0) M_J7_fill_53178 0 [.ref v0, .int v1, .double 0, .double 0] [] μ Q := by
  unfold F_J7_fill_53178 at h
  refine e_iconst (v := (0 : Int32)) dJ7_fill_53178_0 rfl ?_
  refine e_istore_n dJ7_fill_53178_1 (Nat.le_of_ble_eq_true rfl) rfl ?_
  refine e_aload_n dJ7_fill_53178_2 rfl ?_
  obtain ⟨h1, h⟩ := p_ok_some h
  refine e_alen dJ7_fill_53178_3 h1 ?_
  refine e_istore_n dJ7_fill_53178_4 (Nat.le_of_ble_eq_true rfl) rfl ?_
  exact E_J7_fill_53178_c5 p_fu _ _ _ _ _ _ h hQ
/-! X12_addLot -/
def F_X12_addLot (v0 : Nat) (v1 : Nat) (μ : p_M) : Option (Int32 × p_M) :=
  p_ok (mK μ v0 = 13 ∧ v0 < mN μ)
  ((mR μ v0 14).bind fun q2 =>
  (al_add q2 v1 μ).bind fun m3 =>
  p_ok (mK m3 v0 = 13 ∧ v0 < mN m3)
  ((mR m3 v0 14).bind fun q5 =>
  p_ok (q5 < mN m3 ∧ mK m3 q5 = 0)
  (some (((mI m3 q5 2) - (1 : Int32)), m3))))
theorem E_X12_addLot {X : p_X} {d : Nat} {Q : p_R → Prop} {v0 : Nat} {v1 : Nat} {μ : p_M} {r : Int32 × p_M} (h : F_X12_addLot v0 v1 μ = some r) (hQ : Q ((0, some (.int r.1)), r.2)) : p_Ev X (d + 0) M_X12_addLot 0 [.ref v0, .ref v1] [] μ Q := by
  unfold F_X12_addLot at h
  refine e_aload_n dX12_addLot_0 rfl ?_
  obtain ⟨h1, h⟩ := p_ok_some h
  obtain ⟨q2, hq2, h⟩ := p_bd h
  refine e_getR dX12_addLot_1 rfl rfl h1.1 h1.2 hq2 ?_
  refine e_aload_n dX12_addLot_4 rfl ?_
  obtain ⟨m3, hm3, h⟩ := p_bd h
  refine e_ladd' dX12_addLot_5 rfl (Nat.le_of_ble_eq_true rfl) hm3 ?_
  refine e_popI dX12_addLot_8 ?_
  refine e_aload_n dX12_addLot_9 rfl ?_
  obtain ⟨h4, h⟩ := p_ok_some h
  obtain ⟨q5, hq5, h⟩ := p_bd h
  refine e_getR dX12_addLot_10 rfl rfl h4.1 h4.2 hq5 ?_
  obtain ⟨h6, h⟩ := p_ok_some h
  refine e_lsz dX12_addLot_13 rfl (Nat.le_of_ble_eq_true rfl) h6 ?_
  refine e_iconst (v := (1 : Int32)) dX12_addLot_16 rfl ?_
  refine e_isub dX12_addLot_17 ?_
  cases h
  exact e_ireti dX12_addLot_18 rfl hQ
/-! X12_needIndex -/
def F_X12_needIndex_c9 (μ : p_M) : Option (Nat × Int32 × p_M) :=
  some (3, 0, sG μ 1 6)
theorem E_X12_needIndex_c9 {X : p_X} {d : Nat} {Q : p_R → Prop} {w0 : Value} {w1 : Value} {μ : p_M} {r : Nat × Int32 × p_M} (h : F_X12_needIndex_c9 μ = some r) (hQ : Q (tV r)) : p_Ev X (d + 0) M_X12_needIndex 9 [w0, w1] [] μ Q := by
  unfold F_X12_needIndex_c9 at h
  cases h
  exact e_thr dX12_needIndex_9 rfl rfl rfl dX12_needIndex_12 dX12_needIndex_13 dX12_needIndex_16 dX12_needIndex_19 hQ
def F_X12_needIndex (v0 : Int32) (v1 : Int32) (μ : p_M) : Option (Nat × Int32 × p_M) :=
  if v0 < 0
  then (F_X12_needIndex_c9 μ)
  else (if v0 < v1
    then (some (0, 0, μ))
    else (F_X12_needIndex_c9 μ))
theorem E_X12_needIndex {X : p_X} {d : Nat} {Q : p_R → Prop} {v0 : Int32} {v1 : Int32} {μ : p_M} {r : Nat × Int32 × p_M} (h : F_X12_needIndex v0 v1 μ = some r) (hQ : Q (tV r)) : p_Ev X (d + 0) M_X12_needIndex 0 [.int v0, .int v1] [] μ Q := by
  unfold F_X12_needIndex at h
  refine e_iload_n dX12_needIndex_0 rfl ?_
  refine e_if_lt dX12_needIndex_1 9 (by decide) (fun hc => ?_) (fun hc => ?_)
  · rw [if_pos hc] at h
    exact E_X12_needIndex_c9 h hQ
  · rw [if_neg hc] at h
    refine e_iload_n dX12_needIndex_4 rfl ?_
    refine e_iload_n dX12_needIndex_5 rfl ?_
    refine e_ic_lt dX12_needIndex_6 20 (by decide) (fun hc => ?_) (fun hc => ?_)
    · rw [if_pos hc] at h
      cases h
      exact e_vret dX12_needIndex_20 rfl hQ
    · rw [if_neg hc] at h
      exact E_X12_needIndex_c9 h hQ
/-! X12_lotAt -/
def F_X12_lotAt (v0 : Nat) (v1 : Int32) (μ : p_M) : Option (Nat × Nat × p_M) :=
  p_ok (mK μ v0 = 13 ∧ v0 < mN μ)
  ((mR μ v0 14).bind fun q2 =>
  p_ok (q2 < mN μ ∧ mK μ q2 = 0)
  ((F_X12_needIndex v1 (mI μ q2 2) μ).bind fun q4 =>
  if q4.1 = 0
  then (p_ok (mK q4.2.2 v0 = 13 ∧ v0 < mN q4.2.2)
    ((mR q4.2.2 v0 14).bind fun q6 =>
    p_ok (q6 < mN q4.2.2 ∧ mK q4.2.2 q6 = 0 ∧ ¬ v1 < 0 ∧ v1 < mI q4.2.2 q6 2)
    ((mR q4.2.2 q6 1).bind fun q7 =>
    p_ok (q7 < mN q4.2.2 ∧ mK q4.2.2 q7 = 25 ∧ v1.toNatClampNeg < mL q4.2.2 q7)
    ((mR q4.2.2 q7 v1.toNatClampNeg).bind fun q8 =>
    p_ok (mK q4.2.2 q8 = 5 ∧ q8 < mN q4.2.2)
    (some (0, q8, q4.2.2))))))
  else (some (q4.1, 0, q4.2.2))))
theorem E_X12_lotAt {X : p_X} {d : Nat} {Q : p_R → Prop} {v0 : Nat} {v1 : Int32} {μ : p_M} {r : Nat × Nat × p_M} (h : F_X12_lotAt v0 v1 μ = some r) (hQ : Q (tA r)) : p_Ev X (d + 1) M_X12_lotAt 0 [.ref v0, .int v1] [] μ Q := by
  unfold F_X12_lotAt at h
  refine e_iload_n dX12_lotAt_0 rfl ?_
  refine e_aload_n dX12_lotAt_1 rfl ?_
  obtain ⟨h1, h⟩ := p_ok_some h
  obtain ⟨q2, hq2, h⟩ := p_bd h
  refine e_getR dX12_lotAt_2 rfl rfl h1.1 h1.2 hq2 ?_
  obtain ⟨h3, h⟩ := p_ok_some h
  refine e_lsz dX12_lotAt_5 rfl (Nat.le_of_ble_eq_true rfl) h3 ?_
  obtain ⟨q4, hq4, h⟩ := p_bd h
  refine f_tSv dX12_lotAt_8 rfl rfl rfl rfl (by decide) rfl (fun Q' hQ' => E_X12_needIndex hq4 hQ') (fun hc => ?_) (fun hc => ?_)
  · rw [if_pos hc] at h
    refine e_aload_n dX12_lotAt_11 rfl ?_
    obtain ⟨h5, h⟩ := p_ok_some h
    obtain ⟨q6, hq6, h⟩ := p_bd h
    refine e_getR dX12_lotAt_12 rfl rfl h5.1 h5.2 hq6 ?_
    refine e_iload_n dX12_lotAt_15 rfl ?_
    obtain ⟨h9, h⟩ := p_ok_some h
    obtain ⟨q7, hq7, h⟩ := p_bd h
    obtain ⟨h10, h⟩ := p_ok_some h
    obtain ⟨q8, hq8, h⟩ := p_bd h
    refine e_lget dX12_lotAt_16 rfl (Nat.le_of_ble_eq_true rfl) h9 hq7 h10 hq8 ?_
    obtain ⟨h11, h⟩ := p_ok_some h
    refine e_cast dX12_lotAt_19 (Or.inr ⟨rfl, h11⟩) ?_
    cases h
    exact e_aret dX12_lotAt_22 rfl hQ
  · rw [if_neg hc] at h
    cases h
    exact tA_E hc hQ
/-! X4_judge -/
def F_X4_judge_c30 (s0 : Int32) (μ : p_M) : Option (Int32 × p_M) :=
  some (s0, μ)
theorem E_X4_judge_c30 {X : p_X} {d : Nat} {Q : p_R → Prop} {s0 : Int32} {w0 : Value} {w1 : Value} {μ : p_M} {r : Int32 × p_M} (h : F_X4_judge_c30 s0 μ = some r) (hQ : Q ((0, some (.int r.1)), r.2)) : p_Ev X (d + 0) M_X4_judge 30 [w0, w1] [.int s0] μ Q := by
  unfold F_X4_judge_c30 at h
  cases h
  exact e_ireti dX4_judge_30 rfl hQ
def F_X4_judge (v0 : Nat) (v1 : Int32) (μ : p_M) : Option (Int32 × p_M) :=
  if ¬ v1 = (-1)
  then (p_ok (mK μ v0 = 5 ∧ v0 < mN μ)
    (if v1 ≤ (mI μ v0 5)
    then (if (mI μ v0 4) ≤ v1
      then (F_X4_judge_c30 (2 : Int32) μ)
      else (F_X4_judge_c30 (1 : Int32) μ))
    else (some ((3 : Int32), μ))))
  else (some ((0 : Int32), μ))
theorem E_X4_judge {X : p_X} {d : Nat} {Q : p_R → Prop} {v0 : Nat} {v1 : Int32} {μ : p_M} {r : Int32 × p_M} (h : F_X4_judge v0 v1 μ = some r) (hQ : Q ((0, some (.int r.1)), r.2)) : p_Ev X (d + 0) M_X4_judge 0 [.ref v0, .int v1] [] μ Q := by
  unfold F_X4_judge at h
  refine e_iload_n dX4_judge_0 rfl ?_
  refine e_iconst (v := (-1)) dX4_judge_1 rfl ?_
  refine e_ic_ne dX4_judge_2 7 (by decide) (fun hc => ?_) (fun hc => ?_)
  · rw [if_pos hc] at h
    refine e_iload_n dX4_judge_7 rfl ?_
    refine e_aload_n dX4_judge_8 rfl ?_
    obtain ⟨h1, h⟩ := p_ok_some h
    refine e_getI dX4_judge_9 rfl rfl h1.1 h1.2 ?_
    refine e_ic_le dX4_judge_12 17 (by decide) (fun hc => ?_) (fun hc => ?_)
    · rw [if_pos hc] at h
      refine e_iload_n dX4_judge_17 rfl ?_
      refine e_aload_n dX4_judge_18 rfl ?_
      refine e_getI dX4_judge_19 rfl rfl h1.1 h1.2 ?_
      refine e_ic_ge dX4_judge_22 29 (by decide) (fun hc => ?_) (fun hc => ?_)
      · rw [if_pos hc] at h
        refine e_iconst (v := (2 : Int32)) dX4_judge_29 rfl ?_
        exact E_X4_judge_c30 h hQ
      · rw [if_neg hc] at h
        refine e_iconst (v := (1 : Int32)) dX4_judge_25 rfl ?_
        refine e_goto dX4_judge_26 30 (by decide) ?_
        exact E_X4_judge_c30 h hQ
    · rw [if_neg hc] at h
      refine e_iconst (v := (3 : Int32)) dX4_judge_15 rfl ?_
      cases h
      exact e_ireti dX4_judge_16 rfl hQ
  · rw [if_neg hc] at h
    refine e_iconst (v := (0 : Int32)) dX4_judge_5 rfl ?_
    cases h
    exact e_ireti dX4_judge_6 rfl hQ
/-! X6_shadeOn -/
def F_X6_shadeOn_c56 (μ : p_M) : Option (Int32 × p_M) :=
  some ((-1), μ)
theorem E_X6_shadeOn_c56 {X : p_X} {d : Nat} {Q : p_R → Prop} {w0 : Value} {w1 : Value} {w2 : Value} {w3 : Value} {w4 : Value} {μ : p_M} {r : Int32 × p_M} (h : F_X6_shadeOn_c56 μ = some r) (hQ : Q ((0, some (.int r.1)), r.2)) : p_Ev X (d + 0) M_X6_shadeOn 56 [w0, w1, w2, w3, w4] [] μ Q := by
  unfold F_X6_shadeOn_c56 at h
  refine e_iconst (v := (-1)) dX6_shadeOn_56 rfl ?_
  cases h
  exact e_ireti dX6_shadeOn_57 rfl hQ
def F_X6_shadeOn_c5 : Nat → Nat → Int32 → Int32 → Int32 → p_M → Option (Int32 × p_M)
  | 0, _, _, _, _, _ => none
  | n + 1, v0, v2, v3, v4, μ =>
    p_ok (mK μ v0 = 7 ∧ v0 < mN μ)
    (if (mI μ v0 3) ≤ v4
    then (F_X6_shadeOn_c56 μ)
    else (if v3 < 0
      then (F_X6_shadeOn_c56 μ)
      else (if (mI μ v0 3) ≤ v3
        then (F_X6_shadeOn_c56 μ)
        else ((mR μ v0 1).bind fun q2 =>
          p_ok (q2 < p_E ∧ mK μ q2 = 20 ∧ q2 < mN μ)
          (p_ok (¬ v3 < 0 ∧ v3.toNatClampNeg < mL μ q2)
          (if v2 < (mI μ q2 v3.toNatClampNeg)
          then ((mR μ v0 2).bind fun q5 =>
            p_ok (q5 < p_E ∧ mK μ q5 = 20 ∧ q5 < mN μ)
            (p_ok (¬ v3 < 0 ∧ v3.toNatClampNeg < mL μ q5)
            (F_X6_shadeOn_c5 n v0 v2 (mI μ q5 v3.toNatClampNeg) (v4 + (1 : Int32)) μ)))
          else ((mR μ v0 0).bind fun q8 =>
            p_ok (q8 < p_E ∧ mK μ q8 = 20 ∧ q8 < mN μ)
            (p_ok (¬ v3 < 0 ∧ v3.toNatClampNeg < mL μ q8)
            (some ((mI μ q8 v3.toNatClampNeg), μ))))))))))
theorem E_X6_shadeOn_c5 {X : p_X} {d : Nat} {Q : p_R → Prop} : ∀ (n : Nat) (v0 : Nat) (v2 : Int32) (v3 : Int32) (v4 : Int32) (μ : p_M) (r : Int32 × p_M) (w1 : Value), F_X6_shadeOn_c5 n v0 v2 v3 v4 μ = some r → Q ((0, some (.int r.1)), r.2) → p_Ev X (d + 0) M_X6_shadeOn 5 [.ref v0, w1, .int v2, .int v3, .int v4] [] μ Q := by
  intro n
  induction n with
  | zero => intro v0 v2 v3 v4 μ r w1 h hQ; rw [F_X6_shadeOn_c5] at h; cases h
  | succ n ih =>
    intro v0 v2 v3 v4 μ r w1 h hQ
    rw [F_X6_shadeOn_c5] at h
    refine e_iload dX6_shadeOn_5 rfl ?_
    refine e_aload_n dX6_shadeOn_7 rfl ?_
    obtain ⟨h1, h⟩ := p_ok_some h
    refine e_getI dX6_shadeOn_8 rfl rfl h1.1 h1.2 ?_
    refine e_ic_ge dX6_shadeOn_11 56 (by decide) (fun hc => ?_) (fun hc => ?_)
    · rw [if_pos hc] at h
      exact E_X6_shadeOn_c56 h hQ
    · rw [if_neg hc] at h
      refine e_iload_n dX6_shadeOn_14 rfl ?_
      refine e_if_lt dX6_shadeOn_15 56 (by decide) (fun hc => ?_) (fun hc => ?_)
      · rw [if_pos hc] at h
        exact E_X6_shadeOn_c56 h hQ
      · rw [if_neg hc] at h
        refine e_iload_n dX6_shadeOn_18 rfl ?_
        refine e_aload_n dX6_shadeOn_19 rfl ?_
        refine e_getI dX6_shadeOn_20 rfl rfl h1.1 h1.2 ?_
        refine e_ic_ge dX6_shadeOn_23 56 (by decide) (fun hc => ?_) (fun hc => ?_)
        · rw [if_pos hc] at h
          exact E_X6_shadeOn_c56 h hQ
        · rw [if_neg hc] at h
          refine e_aload_n dX6_shadeOn_26 rfl ?_
          obtain ⟨q2, hq2, h⟩ := p_bd h
          refine e_getR dX6_shadeOn_27 rfl rfl h1.1 h1.2 hq2 ?_
          refine e_iload_n dX6_shadeOn_30 rfl ?_
          obtain ⟨h3, h⟩ := p_ok_some h
          obtain ⟨h4, h⟩ := p_ok_some h
          refine e_iaG dX6_shadeOn_31 h3 h4 ?_
          refine e_iload_n dX6_shadeOn_32 rfl ?_
          refine e_ic_gt dX6_shadeOn_33 43 (by decide) (fun hc => ?_) (fun hc => ?_)
          · rw [if_pos hc] at h
            refine e_aload_n dX6_shadeOn_43 rfl ?_
            obtain ⟨q5, hq5, h⟩ := p_bd h
            refine e_getR dX6_shadeOn_44 rfl rfl h1.1 h1.2 hq5 ?_
            refine e_iload_n dX6_shadeOn_47 rfl ?_
            obtain ⟨h6, h⟩ := p_ok_some h
            obtain ⟨h7, h⟩ := p_ok_some h
            refine e_iaG dX6_shadeOn_48 h6 h7 ?_
            refine e_istore_n dX6_shadeOn_49 (Nat.le_of_ble_eq_true rfl) rfl ?_
            refine e_iinc (v := (1 : Int32)) dX6_shadeOn_50 rfl rfl rfl ?_
            refine e_goto dX6_shadeOn_53 5 (by decide) ?_
            exact ih _ _ _ _ _ _ _ h hQ
          · rw [if_neg hc] at h
            refine e_aload_n dX6_shadeOn_36 rfl ?_
            obtain ⟨q8, hq8, h⟩ := p_bd h
            refine e_getR dX6_shadeOn_37 rfl rfl h1.1 h1.2 hq8 ?_
            refine e_iload_n dX6_shadeOn_40 rfl ?_
            obtain ⟨h9, h⟩ := p_ok_some h
            obtain ⟨h10, h⟩ := p_ok_some h
            refine e_iaG dX6_shadeOn_41 h9 h10 ?_
            cases h
            exact e_ireti dX6_shadeOn_42 rfl hQ
def F_X6_shadeOn (v0 : Nat) (v1 : Int32) (v2 : Int32) (μ : p_M) : Option (Int32 × p_M) :=
  F_X6_shadeOn_c5 p_fu v0 v2 v1 (0 : Int32) μ
theorem E_X6_shadeOn {X : p_X} {d : Nat} {Q : p_R → Prop} {v0 : Nat} {v1 : Int32} {v2 : Int32} {μ : p_M} {r : Int32 × p_M} (h : F_X6_shadeOn v0 v1 v2 μ = some r) (hQ : Q ((0, some (.int r.1)), r.2)) : p_Ev X (d + 0) M_X6_shadeOn 0 [.ref v0, .int v1, .int v2, .double 0, .double 0] [] μ Q := by
  unfold F_X6_shadeOn at h
  refine e_iload_n dX6_shadeOn_0 rfl ?_
  refine e_istore_n dX6_shadeOn_1 (Nat.le_of_ble_eq_true rfl) rfl ?_
  refine e_iconst (v := (0 : Int32)) dX6_shadeOn_2 rfl ?_
  refine e_istore dX6_shadeOn_3 (Nat.le_of_ble_eq_true rfl) rfl ?_
  exact E_X6_shadeOn_c5 p_fu _ _ _ _ _ _ _ h hQ
/-! X12_judged -/
def F_X12_judged (v0 : Nat) (v1 : Nat) (v2 : Int32) (v3 : Int32) (μ : p_M) : Option (Int32 × p_M) :=
  p_ok (mK μ v0 = 13 ∧ v0 < mN μ)
  ((mR μ v0 16).bind fun q2 =>
  p_ok (mK μ v1 = 5 ∧ v1 < mN μ)
  ((mR μ v1 16).bind fun q4 =>
  p_ok (q4 < p_E ∧ mK μ q4 = 20 ∧ q4 < mN μ)
  (p_ok (¬ v2 < 0 ∧ v2.toNatClampNeg < mL μ q4)
  (p_ok (mK μ q2 = 7 ∧ q2 < mN μ)
  ((F_X6_shadeOn q2 (mI μ q4 v2.toNatClampNeg) v3 μ).bind fun q7 =>
  p_ok (mK q7.2 v1 = 5 ∧ v1 < mN q7.2)
  ((F_X4_judge v1 q7.1 q7.2).bind fun q9 =>
  some (q9.1, q9.2)))))))
theorem E_X12_judged {X : p_X} {d : Nat} {Q : p_R → Prop} {v0 : Nat} {v1 : Nat} {v2 : Int32} {v3 : Int32} {μ : p_M} {r : Int32 × p_M} (h : F_X12_judged v0 v1 v2 v3 μ = some r) (hQ : Q ((0, some (.int r.1)), r.2)) : p_Ev X (d + 1) M_X12_judged 0 [.ref v0, .ref v1, .int v2, .int v3] [] μ Q := by
  unfold F_X12_judged at h
  refine e_aload_n dX12_judged_0 rfl ?_
  refine e_aload_n dX12_judged_1 rfl ?_
  obtain ⟨h1, h⟩ := p_ok_some h
  obtain ⟨q2, hq2, h⟩ := p_bd h
  refine e_getR dX12_judged_2 rfl rfl h1.1 h1.2 hq2 ?_
  refine e_aload_n dX12_judged_5 rfl ?_
  obtain ⟨h3, h⟩ := p_ok_some h
  obtain ⟨q4, hq4, h⟩ := p_bd h
  refine e_getR dX12_judged_6 rfl rfl h3.1 h3.2 hq4 ?_
  refine e_iload_n dX12_judged_9 rfl ?_
  obtain ⟨h5, h⟩ := p_ok_some h
  obtain ⟨h6, h⟩ := p_ok_some h
  refine e_iaG dX12_judged_10 h5 h6 ?_
  refine e_iload_n dX12_judged_11 rfl ?_
  obtain ⟨h8, h⟩ := p_ok_some h
  obtain ⟨q7, hq7, h⟩ := p_bd h
  refine f_cVi dX12_judged_12 rfl rfl ⟨rfl, rfl, by decide⟩ rfl h8 (fun Q' hQ' => E_X6_shadeOn hq7 hQ') ?_
  obtain ⟨h10, h⟩ := p_ok_some h
  obtain ⟨q9, hq9, h⟩ := p_bd h
  refine f_cVi dX12_judged_15 rfl rfl ⟨rfl, rfl, by decide⟩ rfl h10 (fun Q' hQ' => E_X4_judge hq9 hQ') ?_
  cases h
  exact e_ireti dX12_judged_18 rfl hQ
/-! X4_isStillHere -/
def F_X4_isStillHere_c14 (s0 : Int32) (μ : p_M) : Option (Int32 × p_M) :=
  p_ok (s0 = 0 ∨ s0 = 1)
  (some (s0, μ))
theorem E_X4_isStillHere_c14 {X : p_X} {d : Nat} {Q : p_R → Prop} {s0 : Int32} {w0 : Value} {w1 : Value} {μ : p_M} {r : Int32 × p_M} (h : F_X4_isStillHere_c14 s0 μ = some r) (hQ : Q ((0, some (.int r.1)), r.2)) : p_Ev X (d + 0) M_X4_isStillHere 14 [w0, w1] [.int s0] μ Q := by
  unfold F_X4_isStillHere_c14 at h
  obtain ⟨h5, h⟩ := p_ok_some h
  cases h
  exact e_iretz dX4_isStillHere_14 rfl h5 hQ
def F_X4_isStillHere (v0 : Nat) (v1 : Int32) (μ : p_M) : Option (Int32 × p_M) :=
  p_ok (mK μ v0 = 5 ∧ v0 < mN μ)
  ((mR μ v0 15).bind fun q2 =>
  p_ok (q2 < p_E ∧ mK μ q2 = 20 ∧ q2 < mN μ)
  (p_ok (¬ v1 < 0 ∧ v1.toNatClampNeg < mL μ q2)
  (if ¬ (mI μ q2 v1.toNatClampNeg) = 0
  then (F_X4_isStillHere_c14 (0 : Int32) μ)
  else (F_X4_isStillHere_c14 (1 : Int32) μ))))
theorem E_X4_isStillHere {X : p_X} {d : Nat} {Q : p_R → Prop} {v0 : Nat} {v1 : Int32} {μ : p_M} {r : Int32 × p_M} (h : F_X4_isStillHere v0 v1 μ = some r) (hQ : Q ((0, some (.int r.1)), r.2)) : p_Ev X (d + 0) M_X4_isStillHere 0 [.ref v0, .int v1] [] μ Q := by
  unfold F_X4_isStillHere at h
  refine e_aload_n dX4_isStillHere_0 rfl ?_
  obtain ⟨h1, h⟩ := p_ok_some h
  obtain ⟨q2, hq2, h⟩ := p_bd h
  refine e_getR dX4_isStillHere_1 rfl rfl h1.1 h1.2 hq2 ?_
  refine e_iload_n dX4_isStillHere_4 rfl ?_
  obtain ⟨h3, h⟩ := p_ok_some h
  obtain ⟨h4, h⟩ := p_ok_some h
  refine e_iaG dX4_isStillHere_5 h3 h4 ?_
  refine e_if_ne dX4_isStillHere_6 13 (by decide) (fun hc => ?_) (fun hc => ?_)
  · rw [if_pos hc] at h
    refine e_iconst (v := (0 : Int32)) dX4_isStillHere_13 rfl ?_
    exact E_X4_isStillHere_c14 h hQ
  · rw [if_neg hc] at h
    refine e_iconst (v := (1 : Int32)) dX4_isStillHere_9 rfl ?_
    refine e_goto dX4_isStillHere_10 14 (by decide) ?_
    exact E_X4_isStillHere_c14 h hQ
/-! X12_moveDark -/
def F_X12_moveDark_c87 (K10 : Nat → Nat → Nat → Int32 → Int32 → Int32 → p_M → Option (Int32 × p_M)) (v0 : Nat) (v1 : Nat) (v2 : Nat) (v3 : Int32) (v4 : Int32) (v5 : Int32) (μ : p_M) : Option (Int32 × p_M) :=
  K10 v0 v1 v2 v3 v4 (v5 + (1 : Int32)) μ
theorem E_X12_moveDark_c87 {X : p_X} {d : Nat} {Q : p_R → Prop} {K10 : Nat → Nat → Nat → Int32 → Int32 → Int32 → p_M → Option (Int32 × p_M)} (hK10 : ∀ (v0 : Nat) (v1 : Nat) (v2 : Nat) (v3 : Int32) (v4 : Int32) (v5 : Int32) (μ : p_M) (r : Int32 × p_M) (w6 : Value), K10 v0 v1 v2 v3 v4 v5 μ = some r → Q ((0, none), r.2) → p_Ev X (d + 2) M_X12_moveDark 10 [.ref v0, .ref v1, .ref v2, .int v3, .int v4, .int v5, w6] [] μ Q) {v0 : Nat} {v1 : Nat} {v2 : Nat} {v3 : Int32} {v4 : Int32} {v5 : Int32} {w6 : Value} {μ : p_M} {r : Int32 × p_M} (h : F_X12_moveDark_c87 K10 v0 v1 v2 v3 v4 v5 μ = some r) (hQ : Q ((0, none), r.2)) : p_Ev X (d + 2) M_X12_moveDark 87 [.ref v0, .ref v1, .ref v2, .int v3, .int v4, .int v5, w6] [] μ Q := by
  unfold F_X12_moveDark_c87 at h
  refine e_iinc (v := (1 : Int32)) dX12_moveDark_87 rfl rfl rfl ?_
  refine e_goto dX12_moveDark_90 10 (by decide) ?_
  exact hK10 _ _ _ _ _ _ _ _ _ h hQ
def F_X12_moveDark_c10 : Nat → Nat → Nat → Nat → Int32 → Int32 → Int32 → p_M → Option (Int32 × p_M)
  | 0, _, _, _, _, _, _, _ => none
  | n + 1, v0, v1, v2, v3, v4, v5, μ =>
    p_ok (mK μ v1 = 5 ∧ v1 < mN μ)
    (if (mI μ v1 1) ≤ v5
    then (p_ok (mK μ v2 = 4 ∧ v2 < mN μ)
      (p_let (sI μ v2 0 v3) fun m3 =>
      p_let (sI m3 v2 1 v4) fun m4 =>
      some (0, m4)))
    else ((F_X4_isStillHere v1 v5 μ).bind fun q5 =>
      if q5.1 = 0
      then (F_X12_moveDark_c87 (F_X12_moveDark_c10 n) v0 v1 v2 v3 v4 v5 q5.2)
      else (p_ok (mK q5.2 v0 = 13 ∧ v0 < mN q5.2)
        ((F_X12_judged v0 v1 v5 (mI q5.2 v0 15) q5.2).bind fun q7 =>
        if ¬ q7.1 = (3 : Int32)
        then (F_X12_moveDark_c87 (F_X12_moveDark_c10 n) v0 v1 v2 v3 v4 v5 q7.2)
        else (p_ok (mK q7.2 v0 = 13 ∧ v0 < mN q7.2)
          ((mR q7.2 v0 16).bind fun q9 =>
          p_ok (mK q7.2 v1 = 5 ∧ v1 < mN q7.2)
          ((mR q7.2 v1 16).bind fun q11 =>
          p_ok (q11 < p_E ∧ mK q7.2 q11 = 20 ∧ q11 < mN q7.2)
          (p_ok (¬ v5 < 0 ∧ v5.toNatClampNeg < mL q7.2 q11)
          (p_ok (mK q7.2 q9 = 7 ∧ q9 < mN q7.2)
          ((F_X6_shadeOn q9 (mI q7.2 q11 v5.toNatClampNeg) (mI q7.2 v0 15) q7.2).bind fun q14 =>
          p_ok (mK q14.2 v1 = 5 ∧ v1 < mN q14.2)
          ((mR q14.2 v1 15).bind fun q17 =>
          p_ok (q17 < p_E ∧ mK q14.2 q17 = 20 ∧ q17 < mN q14.2)
          (p_ok (¬ v5 < 0 ∧ v5.toNatClampNeg < mL q14.2 q17)
          (p_let (sI q14.2 q17 v5.toNatClampNeg (1 : Int32)) fun m20 =>
          F_X12_moveDark_c87 (F_X12_moveDark_c10 n) v0 v1 v2 (if q14.1 < v3 then q14.1 else v3) (if v4 < q14.1 then q14.1 else v4) v5 m20)))))))))))))
theorem E_X12_moveDark_c10 {X : p_X} {d : Nat} {Q : p_R → Prop} : ∀ (n : Nat) (v0 : Nat) (v1 : Nat) (v2 : Nat) (v3 : Int32) (v4 : Int32) (v5 : Int32) (μ : p_M) (r : Int32 × p_M) (w6 : Value), F_X12_moveDark_c10 n v0 v1 v2 v3 v4 v5 μ = some r → Q ((0, none), r.2) → p_Ev X (d + 2) M_X12_moveDark 10 [.ref v0, .ref v1, .ref v2, .int v3, .int v4, .int v5, w6] [] μ Q := by
  intro n
  induction n with
  | zero => intro v0 v1 v2 v3 v4 v5 μ r w6 h hQ; rw [F_X12_moveDark_c10] at h; cases h
  | succ n ih =>
    intro v0 v1 v2 v3 v4 v5 μ r w6 h hQ
    rw [F_X12_moveDark_c10] at h
    refine e_iload dX12_moveDark_10 rfl ?_
    refine e_aload_n dX12_moveDark_12 rfl ?_
    obtain ⟨h1, h⟩ := p_ok_some h
    refine e_getI dX12_moveDark_13 rfl rfl h1.1 h1.2 ?_
    refine e_ic_ge dX12_moveDark_16 93 (by decide) (fun hc => ?_) (fun hc => ?_)
    · rw [if_pos hc] at h
      refine e_aload_n dX12_moveDark_93 rfl ?_
      refine e_iload_n dX12_moveDark_94 rfl ?_
      obtain ⟨h2, h⟩ := p_ok_some h
      replace h := p_lt h
      refine e_putI dX12_moveDark_95 rfl ⟨rfl, rfl, (fun _ => rfl)⟩ (fun h => by cases h) h2.1 h2.2 ?_
      refine e_aload_n dX12_moveDark_98 rfl ?_
      refine e_iload dX12_moveDark_99 rfl ?_
      replace h := p_lt h
      refine e_putI dX12_moveDark_101 rfl ⟨rfl, rfl, (fun _ => rfl)⟩ (fun h => by cases h) h2.1 h2.2 ?_
      cases h
      exact e_vret dX12_moveDark_104 rfl hQ
    · rw [if_neg hc] at h
      refine e_aload_n dX12_moveDark_19 rfl ?_
      refine e_iload dX12_moveDark_20 rfl ?_
      obtain ⟨q5, hq5, h⟩ := p_bd h
      refine f_cVi dX12_moveDark_22 rfl rfl ⟨rfl, rfl, by decide⟩ rfl h1 (fun Q' hQ' => E_X4_isStillHere hq5 hQ') ?_
      refine e_if_eq dX12_moveDark_25 87 (by decide) (fun hc => ?_) (fun hc => ?_)
      · rw [if_pos hc] at h
        exact E_X12_moveDark_c87 ih h hQ
      · rw [if_neg hc] at h
        refine e_aload_n dX12_moveDark_28 rfl ?_
        refine e_aload_n dX12_moveDark_29 rfl ?_
        refine e_iload dX12_moveDark_30 rfl ?_
        refine e_aload_n dX12_moveDark_32 rfl ?_
        obtain ⟨h6, h⟩ := p_ok_some h
        refine e_getI dX12_moveDark_33 rfl rfl h6.1 h6.2 ?_
        obtain ⟨q7, hq7, h⟩ := p_bd h
        refine f_cVi dX12_moveDark_36 rfl rfl ⟨rfl, rfl, by decide⟩ rfl h6 (fun Q' hQ' => E_X12_judged hq7 hQ') ?_
        refine e_iconst (v := (3 : Int32)) dX12_moveDark_39 rfl ?_
        refine e_ic_ne dX12_moveDark_40 87 (by decide) (fun hc => ?_) (fun hc => ?_)
        · rw [if_pos hc] at h
          exact E_X12_moveDark_c87 ih h hQ
        · rw [if_neg hc] at h
          refine e_aload_n dX12_moveDark_43 rfl ?_
          obtain ⟨h8, h⟩ := p_ok_some h
          obtain ⟨q9, hq9, h⟩ := p_bd h
          refine e_getR dX12_moveDark_44 rfl rfl h8.1 h8.2 hq9 ?_
          refine e_aload_n dX12_moveDark_47 rfl ?_
          obtain ⟨h10, h⟩ := p_ok_some h
          obtain ⟨q11, hq11, h⟩ := p_bd h
          refine e_getR dX12_moveDark_48 rfl rfl h10.1 h10.2 hq11 ?_
          refine e_iload dX12_moveDark_51 rfl ?_
          obtain ⟨h12, h⟩ := p_ok_some h
          obtain ⟨h13, h⟩ := p_ok_some h
          refine e_iaG dX12_moveDark_53 h12 h13 ?_
          refine e_aload_n dX12_moveDark_54 rfl ?_
          refine e_getI dX12_moveDark_55 rfl rfl h8.1 h8.2 ?_
          obtain ⟨h15, h⟩ := p_ok_some h
          obtain ⟨q14, hq14, h⟩ := p_bd h
          refine f_cVi dX12_moveDark_58 rfl rfl ⟨rfl, rfl, by decide⟩ rfl h15 (fun Q' hQ' => E_X6_shadeOn hq14 hQ') ?_
          refine e_istore dX12_moveDark_61 (Nat.le_of_ble_eq_true rfl) rfl ?_
          refine e_iload_n dX12_moveDark_63 rfl ?_
          refine e_iload dX12_moveDark_64 rfl ?_
          refine e_min dX12_moveDark_66 rfl (Nat.le_of_ble_eq_true rfl) ?_
          refine e_istore_n dX12_moveDark_69 (Nat.le_of_ble_eq_true rfl) rfl ?_
          refine e_iload dX12_moveDark_70 rfl ?_
          refine e_iload dX12_moveDark_72 rfl ?_
          refine e_max dX12_moveDark_74 rfl (Nat.le_of_ble_eq_true rfl) ?_
          refine e_istore dX12_moveDark_77 (Nat.le_of_ble_eq_true rfl) rfl ?_
          refine e_aload_n dX12_moveDark_79 rfl ?_
          obtain ⟨h16, h⟩ := p_ok_some h
          obtain ⟨q17, hq17, h⟩ := p_bd h
          refine e_getR dX12_moveDark_80 rfl rfl h16.1 h16.2 hq17 ?_
          refine e_iload dX12_moveDark_83 rfl ?_
          refine e_iconst (v := (1 : Int32)) dX12_moveDark_85 rfl ?_
          obtain ⟨h18, h⟩ := p_ok_some h
          obtain ⟨h19, h⟩ := p_ok_some h
          replace h := p_lt h
          refine e_iaS dX12_moveDark_86 h18 h19 ?_
          exact E_X12_moveDark_c87 ih h hQ
def F_X12_moveDark (v0 : Nat) (v1 : Nat) (v2 : Nat) (μ : p_M) : Option (Int32 × p_M) :=
  F_X12_moveDark_c10 p_fu v0 v1 v2 (255 : Int32) (0 : Int32) (0 : Int32) μ
theorem E_X12_moveDark {X : p_X} {d : Nat} {Q : p_R → Prop} {v0 : Nat} {v1 : Nat} {v2 : Nat} {μ : p_M} {r : Int32 × p_M} (h : F_X12_moveDark v0 v1 v2 μ = some r) (hQ : Q ((0, none), r.2)) : p_Ev X (d + 2) M_X12_moveDark 0 [.ref v0, .ref v1, .ref v2, .double 0, .double 0, .double 0, .double 0] [] μ Q := by
  unfold F_X12_moveDark at h
  refine e_sipush (v := (255 : Int32)) dX12_moveDark_0 rfl ?_
  refine e_istore_n dX12_moveDark_3 (Nat.le_of_ble_eq_true rfl) rfl ?_
  refine e_iconst (v := (0 : Int32)) dX12_moveDark_4 rfl ?_
  refine e_istore dX12_moveDark_5 (Nat.le_of_ble_eq_true rfl) rfl ?_
  refine e_iconst (v := (0 : Int32)) dX12_moveDark_7 rfl ?_
  refine e_istore dX12_moveDark_8 (Nat.le_of_ble_eq_true rfl) rfl ?_
  exact E_X12_moveDark_c10 p_fu _ _ _ _ _ _ _ _ _ h hQ
/-! X12_needWashed -/
def F_X12_needWashed (v0 : Nat) (μ : p_M) : Option (Nat × Int32 × p_M) :=
  p_ok (mK μ v0 = 5 ∧ v0 < mN μ)
  (if (mI μ v0 9) = (3 : Int32)
  then (some (0, 0, μ))
  else (some (5, 0, sG μ 1 6)))
theorem E_X12_needWashed {X : p_X} {d : Nat} {Q : p_R → Prop} {v0 : Nat} {μ : p_M} {r : Nat × Int32 × p_M} (h : F_X12_needWashed v0 μ = some r) (hQ : Q (tV r)) : p_Ev X (d + 0) M_X12_needWashed 0 [.ref v0] [] μ Q := by
  unfold F_X12_needWashed at h
  refine e_aload_n dX12_needWashed_0 rfl ?_
  obtain ⟨h1, h⟩ := p_ok_some h
  refine e_getI dX12_needWashed_1 rfl rfl h1.1 h1.2 ?_
  refine e_iconst (v := (3 : Int32)) dX12_needWashed_4 rfl ?_
  refine e_ic_eq dX12_needWashed_5 19 (by decide) (fun hc => ?_) (fun hc => ?_)
  · rw [if_pos hc] at h
    cases h
    exact e_vret dX12_needWashed_19 rfl hQ
  · rw [if_neg hc] at h
    cases h
    exact e_thr dX12_needWashed_8 rfl rfl rfl dX12_needWashed_11 dX12_needWashed_12 dX12_needWashed_15 dX12_needWashed_18 hQ
/-! X12_needWhat -/
def F_X12_needWhat_c9 (μ : p_M) : Option (Nat × Int32 × p_M) :=
  some (4, 0, sG μ 1 6)
theorem E_X12_needWhat_c9 {X : p_X} {d : Nat} {Q : p_R → Prop} {w0 : Value} {w1 : Value} {μ : p_M} {r : Nat × Int32 × p_M} (h : F_X12_needWhat_c9 μ = some r) (hQ : Q (tV r)) : p_Ev X (d + 0) M_X12_needWhat 9 [w0, w1] [] μ Q := by
  unfold F_X12_needWhat_c9 at h
  cases h
  exact e_thr dX12_needWhat_9 rfl rfl rfl dX12_needWhat_12 dX12_needWhat_13 dX12_needWhat_16 dX12_needWhat_19 hQ
def F_X12_needWhat (v0 : Int32) (v1 : Int32) (μ : p_M) : Option (Nat × Int32 × p_M) :=
  if v0 < 0
  then (F_X12_needWhat_c9 μ)
  else (if v0 ≤ v1
    then (some (0, 0, μ))
    else (F_X12_needWhat_c9 μ))
theorem E_X12_needWhat {X : p_X} {d : Nat} {Q : p_R → Prop} {v0 : Int32} {v1 : Int32} {μ : p_M} {r : Nat × Int32 × p_M} (h : F_X12_needWhat v0 v1 μ = some r) (hQ : Q (tV r)) : p_Ev X (d + 0) M_X12_needWhat 0 [.int v0, .int v1] [] μ Q := by
  unfold F_X12_needWhat at h
  refine e_iload_n dX12_needWhat_0 rfl ?_
  refine e_if_lt dX12_needWhat_1 9 (by decide) (fun hc => ?_) (fun hc => ?_)
  · rw [if_pos hc] at h
    exact E_X12_needWhat_c9 h hQ
  · rw [if_neg hc] at h
    refine e_iload_n dX12_needWhat_4 rfl ?_
    refine e_iload_n dX12_needWhat_5 rfl ?_
    refine e_ic_le dX12_needWhat_6 20 (by decide) (fun hc => ?_) (fun hc => ?_)
    · rw [if_pos hc] at h
      cases h
      exact e_vret dX12_needWhat_20 rfl hQ
    · rw [if_neg hc] at h
      exact E_X12_needWhat_c9 h hQ
/-! X12_sorted -/
def F_X12_sorted_c54 (K18 : Nat → Int32 → Int32 → Nat → Int32 → Int32 → p_M → Option (Nat × Int32 × p_M)) (v0 : Nat) (v2 : Int32) (v3 : Int32) (v4 : Nat) (v5 : Int32) (v6 : Int32) (μ : p_M) : Option (Nat × Int32 × p_M) :=
  K18 v0 v2 v3 v4 v5 (v6 + (1 : Int32)) μ
theorem E_X12_sorted_c54 {X : p_X} {d : Nat} {Q : p_R → Prop} {K18 : Nat → Int32 → Int32 → Nat → Int32 → Int32 → p_M → Option (Nat × Int32 × p_M)} (hK18 : ∀ (v0 : Nat) (v2 : Int32) (v3 : Int32) (v4 : Nat) (v5 : Int32) (v6 : Int32) (μ : p_M) (r : Nat × Int32 × p_M) (w1 : Value), K18 v0 v2 v3 v4 v5 v6 μ = some r → Q (tI r) → p_Ev X (d + 2) M_X12_sorted 18 [.ref v0, w1, .int v2, .int v3, .ref v4, .int v5, .int v6] [] μ Q) {v0 : Nat} {v2 : Int32} {v3 : Int32} {v4 : Nat} {v5 : Int32} {v6 : Int32} {w1 : Value} {μ : p_M} {r : Nat × Int32 × p_M} (h : F_X12_sorted_c54 K18 v0 v2 v3 v4 v5 v6 μ = some r) (hQ : Q (tI r)) : p_Ev X (d + 2) M_X12_sorted 54 [.ref v0, w1, .int v2, .int v3, .ref v4, .int v5, .int v6] [] μ Q := by
  unfold F_X12_sorted_c54 at h
  refine e_iinc (v := (1 : Int32)) dX12_sorted_54 rfl rfl rfl ?_
  refine e_goto dX12_sorted_57 18 (by decide) ?_
  exact hK18 _ _ _ _ _ _ _ _ _ h hQ
def F_X12_sorted_c18 : Nat → Nat → Int32 → Int32 → Nat → Int32 → Int32 → p_M → Option (Nat × Int32 × p_M)
  | 0, _, _, _, _, _, _, _ => none
  | n + 1, v0, v2, v3, v4, v5, v6, μ =>
    p_ok (mK μ v4 = 5 ∧ v4 < mN μ)
    (if (mI μ v4 1) ≤ v6
    then (some (0, v5, μ))
    else ((F_X4_isStillHere v4 v6 μ).bind fun q5 =>
      if q5.1 = 0
      then (F_X12_sorted_c54 (F_X12_sorted_c18 n) v0 v2 v3 v4 v5 v6 q5.2)
      else (p_ok (mK q5.2 v0 = 13 ∧ v0 < mN q5.2)
        ((F_X12_judged v0 v4 v6 v2 q5.2).bind fun q6 =>
        if ¬ q6.1 = v3
        then (F_X12_sorted_c54 (F_X12_sorted_c18 n) v0 v2 v3 v4 v5 v6 q6.2)
        else (F_X12_sorted_c54 (F_X12_sorted_c18 n) v0 v2 v3 v4 (v5 + (1 : Int32)) v6 q6.2)))))
theorem E_X12_sorted_c18 {X : p_X} {d : Nat} {Q : p_R → Prop} : ∀ (n : Nat) (v0 : Nat) (v2 : Int32) (v3 : Int32) (v4 : Nat) (v5 : Int32) (v6 : Int32) (μ : p_M) (r : Nat × Int32 × p_M) (w1 : Value), F_X12_sorted_c18 n v0 v2 v3 v4 v5 v6 μ = some r → Q (tI r) → p_Ev X (d + 2) M_X12_sorted 18 [.ref v0, w1, .int v2, .int v3, .ref v4, .int v5, .int v6] [] μ Q := by
  intro n
  induction n with
  | zero => intro v0 v2 v3 v4 v5 v6 μ r w1 h hQ; rw [F_X12_sorted_c18] at h; cases h
  | succ n ih =>
    intro v0 v2 v3 v4 v5 v6 μ r w1 h hQ
    rw [F_X12_sorted_c18] at h
    refine e_iload dX12_sorted_18 rfl ?_
    refine e_aload dX12_sorted_20 rfl ?_
    obtain ⟨h4, h⟩ := p_ok_some h
    refine e_getI dX12_sorted_22 rfl rfl h4.1 h4.2 ?_
    refine e_ic_ge dX12_sorted_25 60 (by decide) (fun hc => ?_) (fun hc => ?_)
    · rw [if_pos hc] at h
      refine e_iload dX12_sorted_60 rfl ?_
      cases h
      exact e_ireti dX12_sorted_62 rfl hQ
    · rw [if_neg hc] at h
      refine e_aload dX12_sorted_28 rfl ?_
      refine e_iload dX12_sorted_30 rfl ?_
      obtain ⟨q5, hq5, h⟩ := p_bd h
      refine f_cVi dX12_sorted_32 rfl rfl ⟨rfl, rfl, by decide⟩ rfl h4 (fun Q' hQ' => E_X4_isStillHere hq5 hQ') ?_
      refine e_if_eq dX12_sorted_35 54 (by decide) (fun hc => ?_) (fun hc => ?_)
      · rw [if_pos hc] at h
        exact E_X12_sorted_c54 ih h hQ
      · rw [if_neg hc] at h
        refine e_aload_n dX12_sorted_38 rfl ?_
        refine e_aload dX12_sorted_39 rfl ?_
        refine e_iload dX12_sorted_41 rfl ?_
        refine e_iload_n dX12_sorted_43 rfl ?_
        obtain ⟨h7, h⟩ := p_ok_some h
        obtain ⟨q6, hq6, h⟩ := p_bd h
        refine f_cVi dX12_sorted_44 rfl rfl ⟨rfl, rfl, by decide⟩ rfl h7 (fun Q' hQ' => E_X12_judged hq6 hQ') ?_
        refine e_iload_n dX12_sorted_47 rfl ?_
        refine e_ic_ne dX12_sorted_48 54 (by decide) (fun hc => ?_) (fun hc => ?_)
        · rw [if_pos hc] at h
          exact E_X12_sorted_c54 ih h hQ
        · rw [if_neg hc] at h
          refine e_iinc (v := (1 : Int32)) dX12_sorted_51 rfl rfl rfl ?_
          exact E_X12_sorted_c54 ih h hQ
def F_X12_sorted (v0 : Nat) (v1 : Int32) (v2 : Int32) (v3 : Int32) (μ : p_M) : Option (Nat × Int32 × p_M) :=
  p_ok (mK μ v0 = 13 ∧ v0 < mN μ)
  ((F_X12_lotAt v0 v1 μ).bind fun q1 =>
  if q1.1 = 0
  then ((F_X12_needWhat v3 (3 : Int32) q1.2.2).bind fun q3 =>
    if q3.1 = 0
    then (F_X12_sorted_c18 p_fu v0 v2 v3 q1.2.1 (0 : Int32) (0 : Int32) q3.2.2)
    else (some (q3.1, 0, q3.2.2)))
  else (some (q1.1, 0, q1.2.2)))
theorem E_X12_sorted {X : p_X} {d : Nat} {Q : p_R → Prop} {v0 : Nat} {v1 : Int32} {v2 : Int32} {v3 : Int32} {μ : p_M} {r : Nat × Int32 × p_M} (h : F_X12_sorted v0 v1 v2 v3 μ = some r) (hQ : Q (tI r)) : p_Ev X (d + 2) M_X12_sorted 0 [.ref v0, .int v1, .int v2, .int v3, .double 0, .double 0, .double 0] [] μ Q := by
  unfold F_X12_sorted at h
  refine e_aload_n dX12_sorted_0 rfl ?_
  refine e_iload_n dX12_sorted_1 rfl ?_
  obtain ⟨h2, h⟩ := p_ok_some h
  obtain ⟨q1, hq1, h⟩ := p_bd h
  refine f_tVr dX12_sorted_2 rfl rfl ⟨rfl, rfl, by decide⟩ rfl h2 (by decide) rfl (fun Q' hQ' => E_X12_lotAt hq1 hQ') (fun hc => ?_) (fun hc => ?_)
  · rw [if_pos hc] at h
    refine e_astore dX12_sorted_5 (Nat.le_of_ble_eq_true rfl) rfl ?_
    refine e_iload_n dX12_sorted_7 rfl ?_
    refine e_iconst (v := (3 : Int32)) dX12_sorted_8 rfl ?_
    obtain ⟨q3, hq3, h⟩ := p_bd h
    refine f_tSv dX12_sorted_9 rfl rfl rfl rfl (by decide) rfl (fun Q' hQ' => E_X12_needWhat hq3 hQ') (fun hc => ?_) (fun hc => ?_)
    · rw [if_pos hc] at h
      refine e_iconst (v := (0 : Int32)) dX12_sorted_12 rfl ?_
      refine e_istore dX12_sorted_13 (Nat.le_of_ble_eq_true rfl) rfl ?_
      refine e_iconst (v := (0 : Int32)) dX12_sorted_15 rfl ?_
      refine e_istore dX12_sorted_16 (Nat.le_of_ble_eq_true rfl) rfl ?_
      exact E_X12_sorted_c18 p_fu _ _ _ _ _ _ _ _ _ h hQ
    · rw [if_neg hc] at h
      cases h
      exact tI_E hc hQ
  · rw [if_neg hc] at h
    cases h
    exact tI_E hc hQ
/-! X1_value -/
def F_X1_value_c23 (s0 : Int32) (μ : p_M) : Option (Int32 × p_M) :=
  some (s0, μ)
theorem E_X1_value_c23 {X : p_X} {d : Nat} {Q : p_R → Prop} {s0 : Int32} {w0 : Value} {w1 : Value} {μ : p_M} {r : Int32 × p_M} (h : F_X1_value_c23 s0 μ = some r) (hQ : Q ((0, some (.int r.1)), r.2)) : p_Ev X (d + 0) M_X1_value 23 [w0, w1] [.int s0] μ Q := by
  unfold F_X1_value_c23 at h
  cases h
  exact e_ireti dX1_value_23 rfl hQ
def F_X1_value_c22 (μ : p_M) : Option (Int32 × p_M) :=
  F_X1_value_c23 (-1) μ
theorem E_X1_value_c22 {X : p_X} {d : Nat} {Q : p_R → Prop} {w0 : Value} {w1 : Value} {μ : p_M} {r : Int32 × p_M} (h : F_X1_value_c22 μ = some r) (hQ : Q ((0, some (.int r.1)), r.2)) : p_Ev X (d + 0) M_X1_value 22 [w0, w1] [] μ Q := by
  unfold F_X1_value_c22 at h
  refine e_iconst (v := (-1)) dX1_value_22 rfl ?_
  exact E_X1_value_c23 h hQ
def F_X1_value (v0 : Nat) (v1 : Int32) (μ : p_M) : Option (Int32 × p_M) :=
  if v1 < 0
  then (F_X1_value_c22 μ)
  else (p_ok (mK μ v0 = 2 ∧ v0 < mN μ)
    ((mR μ v0 0).bind fun q2 =>
    p_ok (q2 < p_E ∧ 20 ≤ mK μ q2 ∧ mK μ q2 ≤ 26 ∧ q2 < mN μ)
    (if (nI (mL μ q2)) ≤ v1
    then (F_X1_value_c22 μ)
    else (p_ok (q2 < p_E ∧ mK μ q2 = 20 ∧ q2 < mN μ)
      (p_ok (¬ v1 < 0 ∧ v1.toNatClampNeg < mL μ q2)
      (F_X1_value_c23 (mI μ q2 v1.toNatClampNeg) μ))))))
theorem E_X1_value {X : p_X} {d : Nat} {Q : p_R → Prop} {v0 : Nat} {v1 : Int32} {μ : p_M} {r : Int32 × p_M} (h : F_X1_value v0 v1 μ = some r) (hQ : Q ((0, some (.int r.1)), r.2)) : p_Ev X (d + 0) M_X1_value 0 [.ref v0, .int v1] [] μ Q := by
  unfold F_X1_value at h
  refine e_iload_n dX1_value_0 rfl ?_
  refine e_if_lt dX1_value_1 22 (by decide) (fun hc => ?_) (fun hc => ?_)
  · rw [if_pos hc] at h
    exact E_X1_value_c22 h hQ
  · rw [if_neg hc] at h
    refine e_iload_n dX1_value_4 rfl ?_
    refine e_aload_n dX1_value_5 rfl ?_
    obtain ⟨h1, h⟩ := p_ok_some h
    obtain ⟨q2, hq2, h⟩ := p_bd h
    refine e_getR dX1_value_6 rfl rfl h1.1 h1.2 hq2 ?_
    obtain ⟨h3, h⟩ := p_ok_some h
    refine e_alen dX1_value_9 h3 ?_
    refine e_ic_ge dX1_value_10 22 (by decide) (fun hc => ?_) (fun hc => ?_)
    · rw [if_pos hc] at h
      exact E_X1_value_c22 h hQ
    · rw [if_neg hc] at h
      refine e_aload_n dX1_value_13 rfl ?_
      refine e_getR dX1_value_14 rfl rfl h1.1 h1.2 hq2 ?_
      refine e_iload_n dX1_value_17 rfl ?_
      obtain ⟨h4, h⟩ := p_ok_some h
      obtain ⟨h5, h⟩ := p_ok_some h
      refine e_iaG dX1_value_18 h4 h5 ?_
      refine e_goto dX1_value_19 23 (by decide) ?_
      exact E_X1_value_c23 h hQ
/-! X3_copy -/
def F_X3_copy (v0 : Nat) (v1 : Nat) (μ : p_M) : Option (Int32 × p_M) :=
  p_ok (mK μ v1 = 4 ∧ v1 < mN μ)
  (p_ok (mK μ v0 = 4 ∧ v0 < mN μ)
  (p_let (sI μ v0 0 (mI μ v1 0)) fun m3 =>
  p_let (sI m3 v0 1 (mI m3 v1 1)) fun m4 =>
  p_let (sI m4 v0 2 (mI m4 v1 2)) fun m5 =>
  p_let (sI m5 v0 3 (mI m5 v1 3)) fun m6 =>
  p_ok ((mI m6 v1 4) = 0 ∨ (mI m6 v1 4) = 1)
  (p_let (sI m6 v0 4 (mI m6 v1 4)) fun m8 =>
  p_let (sI m8 v0 5 (mI m8 v1 5)) fun m9 =>
  some (0, m9))))
theorem E_X3_copy {X : p_X} {d : Nat} {Q : p_R → Prop} {v0 : Nat} {v1 : Nat} {μ : p_M} {r : Int32 × p_M} (h : F_X3_copy v0 v1 μ = some r) (hQ : Q ((0, none), r.2)) : p_Ev X (d + 0) M_X3_copy 0 [.ref v0, .ref v1] [] μ Q := by
  unfold F_X3_copy at h
  refine e_aload_n dX3_copy_0 rfl ?_
  refine e_aload_n dX3_copy_1 rfl ?_
  obtain ⟨h1, h⟩ := p_ok_some h
  refine e_getI dX3_copy_2 rfl rfl h1.1 h1.2 ?_
  obtain ⟨h2, h⟩ := p_ok_some h
  replace h := p_lt h
  refine e_putI dX3_copy_5 rfl ⟨rfl, rfl, (fun h => by cases h)⟩ (fun h => by cases h) h2.1 h2.2 ?_
  refine e_aload_n dX3_copy_8 rfl ?_
  refine e_aload_n dX3_copy_9 rfl ?_
  refine e_getI dX3_copy_10 rfl rfl h1.1 h1.2 ?_
  replace h := p_lt h
  refine e_putI dX3_copy_13 rfl ⟨rfl, rfl, (fun h => by cases h)⟩ (fun h => by cases h) h2.1 h2.2 ?_
  refine e_aload_n dX3_copy_16 rfl ?_
  refine e_aload_n dX3_copy_17 rfl ?_
  refine e_getI dX3_copy_18 rfl rfl h1.1 h1.2 ?_
  replace h := p_lt h
  refine e_putI dX3_copy_21 rfl ⟨rfl, rfl, (fun h => by cases h)⟩ (fun h => by cases h) h2.1 h2.2 ?_
  refine e_aload_n dX3_copy_24 rfl ?_
  refine e_aload_n dX3_copy_25 rfl ?_
  refine e_getI dX3_copy_26 rfl rfl h1.1 h1.2 ?_
  replace h := p_lt h
  refine e_putI dX3_copy_29 rfl ⟨rfl, rfl, (fun h => by cases h)⟩ (fun h => by cases h) h2.1 h2.2 ?_
  refine e_aload_n dX3_copy_32 rfl ?_
  refine e_aload_n dX3_copy_33 rfl ?_
  refine e_getI dX3_copy_34 rfl rfl h1.1 h1.2 ?_
  obtain ⟨h7, h⟩ := p_ok_some h
  replace h := p_lt h
  refine e_putI dX3_copy_37 rfl ⟨rfl, rfl, (fun h => by cases h)⟩ (fun _ => h7) h2.1 h2.2 ?_
  refine e_aload_n dX3_copy_40 rfl ?_
  refine e_aload_n dX3_copy_41 rfl ?_
  refine e_getI dX3_copy_42 rfl rfl h1.1 h1.2 ?_
  replace h := p_lt h
  refine e_putI dX3_copy_45 rfl ⟨rfl, rfl, (fun h => by cases h)⟩ (fun h => by cases h) h2.1 h2.2 ?_
  cases h
  exact e_vret dX3_copy_48 rfl hQ
/-! X3_init -/
def F_X3_init (v0 : Nat) (μ : p_M) : Option (Int32 × p_M) :=
  p_ok (v0 < mN μ ∧ mK μ v0 < 15)
  (some (0, μ))
theorem E_X3_init {X : p_X} {d : Nat} {Q : p_R → Prop} {v0 : Nat} {μ : p_M} {r : Int32 × p_M} (h : F_X3_init v0 μ = some r) (hQ : Q ((0, none), r.2)) : p_Ev X (d + 0) M_X3_init 0 [.ref v0] [] μ Q := by
  unfold F_X3_init at h
  refine e_aload_n dX3_init_0 rfl ?_
  obtain ⟨h1, h⟩ := p_ok_some h
  refine e_oinit dX3_init_1 rfl (Nat.le_of_ble_eq_true rfl) h1 ?_
  cases h
  exact e_vret dX3_init_4 rfl hQ
/-! X8_init -/
def F_X8_init (v0 : Nat) (v1 : Int32) (μ : p_M) : Option (Int32 × p_M) :=
  p_ok (v0 < mN μ ∧ mK μ v0 < 15)
  (p_ok (¬ ((if (0 : Int32) < v1 then v1 else (0 : Int32)) < 0 ∨ 100000 < (if (0 : Int32) < v1 then v1 else (0 : Int32)).toNatClampNeg))
  (p_let (sN μ 20 (if (0 : Int32) < v1 then v1 else (0 : Int32)).toNatClampNeg (if (0 : Int32) < v1 then v1 else (0 : Int32)).toNatClampNeg) fun m3 =>
  p_ok (mK m3 v0 = 9 ∧ v0 < mN m3)
  (p_let (sR m3 v0 0 (some (mN μ))) fun m5 =>
  p_ok (¬ ((if (0 : Int32) < v1 then v1 else (0 : Int32)) < 0 ∨ 100000 < (if (0 : Int32) < v1 then v1 else (0 : Int32)).toNatClampNeg))
  (p_let (sN m5 20 (if (0 : Int32) < v1 then v1 else (0 : Int32)).toNatClampNeg (if (0 : Int32) < v1 then v1 else (0 : Int32)).toNatClampNeg) fun m7 =>
  p_ok (mK m7 v0 = 9 ∧ v0 < mN m7)
  (p_let (sR m7 v0 1 (some (mN m5))) fun m9 =>
  some (0, m9))))))
theorem E_X8_init {X : p_X} {d : Nat} {Q : p_R → Prop} {v0 : Nat} {v1 : Int32} {μ : p_M} {r : Int32 × p_M} (h : F_X8_init v0 v1 μ = some r) (hQ : Q ((0, none), r.2)) : p_Ev X (d + 0) M_X8_init 0 [.ref v0, .int v1, .double 0] [] μ Q := by
  unfold F_X8_init at h
  refine e_aload_n dX8_init_0 rfl ?_
  obtain ⟨h1, h⟩ := p_ok_some h
  refine e_oinit dX8_init_1 rfl (Nat.le_of_ble_eq_true rfl) h1 ?_
  refine e_iconst (v := (0 : Int32)) dX8_init_4 rfl ?_
  refine e_iload_n dX8_init_5 rfl ?_
  refine e_max dX8_init_6 rfl (Nat.le_of_ble_eq_true rfl) ?_
  refine e_istore_n dX8_init_9 (Nat.le_of_ble_eq_true rfl) rfl ?_
  refine e_aload_n dX8_init_10 rfl ?_
  refine e_iload_n dX8_init_11 rfl ?_
  obtain ⟨h2, h⟩ := p_ok_some h
  replace h := p_lt h
  refine e_newI dX8_init_12 h2 ?_
  obtain ⟨h4, h⟩ := p_ok_some h
  replace h := p_lt h
  refine e_putR dX8_init_14 rfl ⟨rfl, (by decide +kernel), (fun h => by cases h)⟩ h4 ?_
  refine e_aload_n dX8_init_17 rfl ?_
  refine e_iload_n dX8_init_18 rfl ?_
  obtain ⟨h6, h⟩ := p_ok_some h
  replace h := p_lt h
  refine e_newI dX8_init_19 h6 ?_
  obtain ⟨h8, h⟩ := p_ok_some h
  replace h := p_lt h
  refine e_putR dX8_init_21 rfl ⟨rfl, (by decide +kernel), (fun h => by cases h)⟩ h8 ?_
  cases h
  exact e_vret dX8_init_24 rfl hQ
/-! X4_init -/
def F_X4_init (v0 : Nat) (v1 : Int32) (v2 : Int32) (v3 : Int32) (v4 : Int32) (v5 : Int32) (μ : p_M) : Option (Int32 × p_M) :=
  p_ok (v0 < mN μ ∧ mK μ v0 < 15)
  (p_let (sN μ 4 0 (q_N 4)) fun m2 =>
  p_ok (mK m2 (mN μ) = 4 ∧ (mN μ) < mN m2)
  ((F_X3_init (mN μ) m2).bind fun q3 =>
  p_ok (mK q3.2 v0 = 5 ∧ v0 < mN q3.2)
  (p_let (sR q3.2 v0 8 (some (mN μ))) fun m6 =>
  p_let (sI m6 v0 9 (0 : Int32)) fun m7 =>
  p_let (sI m7 v0 10 (-1)) fun m8 =>
  p_let (sI m8 v0 12 (-1)) fun m9 =>
  p_let (sI m9 v0 13 (-1)) fun m10 =>
  p_let (sI m10 v0 0 v1) fun m11 =>
  p_let (sI m11 v0 1 (if (0 : Int32) < v2 then v2 else (0 : Int32))) fun m12 =>
  p_let (sI m12 v0 2 v3) fun m13 =>
  p_let (sI m13 v0 3 v4) fun m14 =>
  p_let (sN m14 9 0 (q_N 9)) fun m15 =>
  p_ok (mK m15 (mN m14) = 9 ∧ (mN m14) < mN m15)
  ((F_X8_init (mN m14) v5 m15).bind fun q16 =>
  p_ok (mK q16.2 v0 = 5 ∧ v0 < mN q16.2)
  (p_let (sR q16.2 v0 7 (some (mN m14))) fun m19 =>
  p_ok (¬ ((mI m19 v0 1) < 0 ∨ 100000 < (mI m19 v0 1).toNatClampNeg))
  (p_let (sN m19 20 (mI m19 v0 1).toNatClampNeg (mI m19 v0 1).toNatClampNeg) fun m21 =>
  p_ok (mK m21 v0 = 5 ∧ v0 < mN m21)
  (p_let (sR m21 v0 15 (some (mN m19))) fun m23 =>
  p_ok (¬ ((mI m23 v0 1) < 0 ∨ 100000 < (mI m23 v0 1).toNatClampNeg))
  (p_let (sN m23 20 (mI m23 v0 1).toNatClampNeg (mI m23 v0 1).toNatClampNeg) fun m25 =>
  p_ok (mK m25 v0 = 5 ∧ v0 < mN m25)
  (p_let (sR m25 v0 16 (some (mN m23))) fun m27 =>
  (mR m27 v0 16).bind fun q28 =>
  (F_J7_fill_53178 q28 (-1) m27).bind fun q29 =>
  some (0, q29.2))))))))))
theorem E_X4_init {X : p_X} {d : Nat} {Q : p_R → Prop} {v0 : Nat} {v1 : Int32} {v2 : Int32} {v3 : Int32} {v4 : Int32} {v5 : Int32} {μ : p_M} {r : Int32 × p_M} (h : F_X4_init v0 v1 v2 v3 v4 v5 μ = some r) (hQ : Q ((0, none), r.2)) : p_Ev X (d + 1) M_X4_init 0 [.ref v0, .int v1, .int v2, .int v3, .int v4, .int v5] [] μ Q := by
  unfold F_X4_init at h
  refine e_aload_n dX4_init_0 rfl ?_
  obtain ⟨h1, h⟩ := p_ok_some h
  refine e_oinit dX4_init_1 rfl (Nat.le_of_ble_eq_true rfl) h1 ?_
  refine e_aload_n dX4_init_4 rfl ?_
  replace h := p_lt h
  refine e_new dX4_init_5 rfl ?_
  refine e_dupR dX4_init_8 ?_
  obtain ⟨h4, h⟩ := p_ok_some h
  obtain ⟨q3, hq3, h⟩ := p_bd h
  refine f_cPv dX4_init_9 rfl rfl ⟨rfl, rfl⟩ rfl h4 (fun Q' hQ' => E_X3_init hq3 hQ') ?_
  obtain ⟨h5, h⟩ := p_ok_some h
  replace h := p_lt h
  refine e_putR dX4_init_12 rfl ⟨rfl, (by decide +kernel), (fun h => by cases h)⟩ h5 ?_
  refine e_aload_n dX4_init_15 rfl ?_
  refine e_iconst (v := (0 : Int32)) dX4_init_16 rfl ?_
  replace h := p_lt h
  refine e_putI dX4_init_17 rfl ⟨rfl, (by decide +kernel), (fun h => by cases h)⟩ (fun h => by cases h) h5.1 h5.2 ?_
  refine e_aload_n dX4_init_20 rfl ?_
  refine e_iconst (v := (-1)) dX4_init_21 rfl ?_
  replace h := p_lt h
  refine e_putI dX4_init_22 rfl ⟨rfl, (by decide +kernel), (fun h => by cases h)⟩ (fun h => by cases h) h5.1 h5.2 ?_
  refine e_aload_n dX4_init_25 rfl ?_
  refine e_iconst (v := (-1)) dX4_init_26 rfl ?_
  replace h := p_lt h
  refine e_putI dX4_init_27 rfl ⟨rfl, (by decide +kernel), (fun h => by cases h)⟩ (fun h => by cases h) h5.1 h5.2 ?_
  refine e_aload_n dX4_init_30 rfl ?_
  refine e_iconst (v := (-1)) dX4_init_31 rfl ?_
  replace h := p_lt h
  refine e_putI dX4_init_32 rfl ⟨rfl, (by decide +kernel), (fun h => by cases h)⟩ (fun h => by cases h) h5.1 h5.2 ?_
  refine e_aload_n dX4_init_35 rfl ?_
  refine e_iload_n dX4_init_36 rfl ?_
  replace h := p_lt h
  refine e_putI dX4_init_37 rfl ⟨rfl, (by decide +kernel), (fun h => by cases h)⟩ (fun h => by cases h) h5.1 h5.2 ?_
  refine e_aload_n dX4_init_40 rfl ?_
  refine e_iconst (v := (0 : Int32)) dX4_init_41 rfl ?_
  refine e_iload_n dX4_init_42 rfl ?_
  refine e_max dX4_init_43 rfl (Nat.le_of_ble_eq_true rfl) ?_
  replace h := p_lt h
  refine e_putI dX4_init_46 rfl ⟨rfl, (by decide +kernel), (fun h => by cases h)⟩ (fun h => by cases h) h5.1 h5.2 ?_
  refine e_aload_n dX4_init_49 rfl ?_
  refine e_iload_n dX4_init_50 rfl ?_
  replace h := p_lt h
  refine e_putI dX4_init_51 rfl ⟨rfl, (by decide +kernel), (fun h => by cases h)⟩ (fun h => by cases h) h5.1 h5.2 ?_
  refine e_aload_n dX4_init_54 rfl ?_
  refine e_iload dX4_init_55 rfl ?_
  replace h := p_lt h
  refine e_putI dX4_init_57 rfl ⟨rfl, (by decide +kernel), (fun h => by cases h)⟩ (fun h => by cases h) h5.1 h5.2 ?_
  refine e_aload_n dX4_init_60 rfl ?_
  replace h := p_lt h
  refine e_new dX4_init_61 rfl ?_
  refine e_dupR dX4_init_64 ?_
  refine e_iload dX4_init_65 rfl ?_
  obtain ⟨h17, h⟩ := p_ok_some h
  obtain ⟨q16, hq16, h⟩ := p_bd h
  refine f_cPv dX4_init_67 rfl rfl ⟨rfl, rfl⟩ rfl h17 (fun Q' hQ' => E_X8_init hq16 hQ') ?_
  obtain ⟨h18, h⟩ := p_ok_some h
  replace h := p_lt h
  refine e_putR dX4_init_70 rfl ⟨rfl, (by decide +kernel), (fun h => by cases h)⟩ h18 ?_
  refine e_aload_n dX4_init_73 rfl ?_
  refine e_aload_n dX4_init_74 rfl ?_
  refine e_getI dX4_init_75 rfl rfl h18.1 h18.2 ?_
  obtain ⟨h20, h⟩ := p_ok_some h
  replace h := p_lt h
  refine e_newI dX4_init_78 h20 ?_
  obtain ⟨h22, h⟩ := p_ok_some h
  replace h := p_lt h
  refine e_putR dX4_init_80 rfl ⟨rfl, (by decide +kernel), (fun h => by cases h)⟩ h22 ?_
  refine e_aload_n dX4_init_83 rfl ?_
  refine e_aload_n dX4_init_84 rfl ?_
  refine e_getI dX4_init_85 rfl rfl h22.1 h22.2 ?_
  obtain ⟨h24, h⟩ := p_ok_some h
  replace h := p_lt h
  refine e_newI dX4_init_88 h24 ?_
  obtain ⟨h26, h⟩ := p_ok_some h
  replace h := p_lt h
  refine e_putR dX4_init_90 rfl ⟨rfl, (by decide +kernel), (fun h => by cases h)⟩ h26 ?_
  refine e_aload_n dX4_init_93 rfl ?_
  obtain ⟨q28, hq28, h⟩ := p_bd h
  refine e_getR dX4_init_94 rfl rfl h26.1 h26.2 hq28 ?_
  refine e_iconst (v := (-1)) dX4_init_97 rfl ?_
  obtain ⟨q29, hq29, h⟩ := p_bd h
  refine f_cSv dX4_init_98 rfl rfl rfl rfl (fun Q' hQ' => E_J7_fill_53178 hq29 hQ') ?_
  cases h
  exact e_vret dX4_init_101 rfl hQ
/-! X4_wishFor -/
def F_X4_wishFor (v0 : Nat) (v1 : Int32) (v2 : Int32) (v3 : Int32) (μ : p_M) : Option (Int32 × p_M) :=
  p_ok (mK μ v0 = 5 ∧ v0 < mN μ)
  (p_let (sI μ v0 4 v1) fun m2 =>
  p_let (sI m2 v0 5 v2) fun m3 =>
  p_let (sI m3 v0 6 v3) fun m4 =>
  some (0, m4))
theorem E_X4_wishFor {X : p_X} {d : Nat} {Q : p_R → Prop} {v0 : Nat} {v1 : Int32} {v2 : Int32} {v3 : Int32} {μ : p_M} {r : Int32 × p_M} (h : F_X4_wishFor v0 v1 v2 v3 μ = some r) (hQ : Q ((0, none), r.2)) : p_Ev X (d + 0) M_X4_wishFor 0 [.ref v0, .int v1, .int v2, .int v3] [] μ Q := by
  unfold F_X4_wishFor at h
  refine e_aload_n dX4_wishFor_0 rfl ?_
  refine e_iload_n dX4_wishFor_1 rfl ?_
  obtain ⟨h1, h⟩ := p_ok_some h
  replace h := p_lt h
  refine e_putI dX4_wishFor_2 rfl ⟨rfl, rfl, (fun h => by cases h)⟩ (fun h => by cases h) h1.1 h1.2 ?_
  refine e_aload_n dX4_wishFor_5 rfl ?_
  refine e_iload_n dX4_wishFor_6 rfl ?_
  replace h := p_lt h
  refine e_putI dX4_wishFor_7 rfl ⟨rfl, rfl, (fun h => by cases h)⟩ (fun h => by cases h) h1.1 h1.2 ?_
  refine e_aload_n dX4_wishFor_10 rfl ?_
  refine e_iload_n dX4_wishFor_11 rfl ?_
  replace h := p_lt h
  refine e_putI dX4_wishFor_12 rfl ⟨rfl, rfl, (fun h => by cases h)⟩ (fun h => by cases h) h1.1 h1.2 ?_
  cases h
  exact e_vret dX4_wishFor_15 rfl hQ
/-! X8_add -/
def F_X8_add_c42 (μ : p_M) : Option (Int32 × p_M) :=
  some (0, μ)
theorem E_X8_add_c42 {X : p_X} {d : Nat} {Q : p_R → Prop} {w0 : Value} {w1 : Value} {w2 : Value} {μ : p_M} {r : Int32 × p_M} (h : F_X8_add_c42 μ = some r) (hQ : Q ((0, none), r.2)) : p_Ev X (d + 0) M_X8_add 42 [w0, w1, w2] [] μ Q := by
  unfold F_X8_add_c42 at h
  cases h
  exact e_vret dX8_add_42 rfl hQ
def F_X8_add (v0 : Nat) (v1 : Int32) (v2 : Int32) (μ : p_M) : Option (Int32 × p_M) :=
  p_ok (mK μ v0 = 9 ∧ v0 < mN μ)
  ((mR μ v0 0).bind fun q2 =>
  p_ok (q2 < p_E ∧ 20 ≤ mK μ q2 ∧ mK μ q2 ≤ 26 ∧ q2 < mN μ)
  (if (nI (mL μ q2)) ≤ (mI μ v0 2)
  then (F_X8_add_c42 μ)
  else (p_ok (q2 < p_E ∧ mK μ q2 = 20 ∧ q2 < mN μ)
    (p_ok (¬ (mI μ v0 2) < 0 ∧ (mI μ v0 2).toNatClampNeg < mL μ q2)
    (p_let (sI μ q2 (mI μ v0 2).toNatClampNeg v1) fun m6 =>
    (mR m6 v0 1).bind fun q7 =>
    p_ok (q7 < p_E ∧ mK m6 q7 = 20 ∧ q7 < mN m6)
    (p_ok (¬ (mI m6 v0 2) < 0 ∧ (mI m6 v0 2).toNatClampNeg < mL m6 q7)
    (p_let (sI m6 q7 (mI m6 v0 2).toNatClampNeg v2) fun m10 =>
    p_let (sI m10 v0 2 ((mI m10 v0 2) + (1 : Int32))) fun m11 =>
    F_X8_add_c42 m11)))))))
theorem E_X8_add {X : p_X} {d : Nat} {Q : p_R → Prop} {v0 : Nat} {v1 : Int32} {v2 : Int32} {μ : p_M} {r : Int32 × p_M} (h : F_X8_add v0 v1 v2 μ = some r) (hQ : Q ((0, none), r.2)) : p_Ev X (d + 0) M_X8_add 0 [.ref v0, .int v1, .int v2] [] μ Q := by
  unfold F_X8_add at h
  refine e_aload_n dX8_add_0 rfl ?_
  obtain ⟨h1, h⟩ := p_ok_some h
  refine e_getI dX8_add_1 rfl rfl h1.1 h1.2 ?_
  refine e_aload_n dX8_add_4 rfl ?_
  obtain ⟨q2, hq2, h⟩ := p_bd h
  refine e_getR dX8_add_5 rfl rfl h1.1 h1.2 hq2 ?_
  obtain ⟨h3, h⟩ := p_ok_some h
  refine e_alen dX8_add_8 h3 ?_
  refine e_ic_ge dX8_add_9 42 (by decide) (fun hc => ?_) (fun hc => ?_)
  · rw [if_pos hc] at h
    exact E_X8_add_c42 h hQ
  · rw [if_neg hc] at h
    refine e_aload_n dX8_add_12 rfl ?_
    refine e_getR dX8_add_13 rfl rfl h1.1 h1.2 hq2 ?_
    refine e_aload_n dX8_add_16 rfl ?_
    refine e_getI dX8_add_17 rfl rfl h1.1 h1.2 ?_
    refine e_iload_n dX8_add_20 rfl ?_
    obtain ⟨h4, h⟩ := p_ok_some h
    obtain ⟨h5, h⟩ := p_ok_some h
    replace h := p_lt h
    refine e_iaS dX8_add_21 h4 h5 ?_
    refine e_aload_n dX8_add_22 rfl ?_
    obtain ⟨q7, hq7, h⟩ := p_bd h
    refine e_getR dX8_add_23 rfl rfl h1.1 h1.2 hq7 ?_
    refine e_aload_n dX8_add_26 rfl ?_
    refine e_getI dX8_add_27 rfl rfl h1.1 h1.2 ?_
    refine e_iload_n dX8_add_30 rfl ?_
    obtain ⟨h8, h⟩ := p_ok_some h
    obtain ⟨h9, h⟩ := p_ok_some h
    replace h := p_lt h
    refine e_iaS dX8_add_31 h8 h9 ?_
    refine e_aload_n dX8_add_32 rfl ?_
    refine e_dupR dX8_add_33 ?_
    refine e_getI dX8_add_34 rfl rfl h1.1 h1.2 ?_
    refine e_iconst (v := (1 : Int32)) dX8_add_37 rfl ?_
    refine e_iadd dX8_add_38 ?_
    replace h := p_lt h
    refine e_putI dX8_add_39 rfl ⟨rfl, rfl, (fun h => by cases h)⟩ (fun h => by cases h) h1.1 h1.2 ?_
    exact E_X8_add_c42 h hQ
/-! X8_setOnly -/
def F_X8_setOnly (v0 : Nat) (v1 : Int32) (v2 : Int32) (μ : p_M) : Option (Int32 × p_M) :=
  p_ok (mK μ v0 = 9 ∧ v0 < mN μ)
  (p_let (sI μ v0 2 (0 : Int32)) fun m2 =>
  (F_X8_add v0 v1 v2 m2).bind fun q3 =>
  some (0, q3.2))
theorem E_X8_setOnly {X : p_X} {d : Nat} {Q : p_R → Prop} {v0 : Nat} {v1 : Int32} {v2 : Int32} {μ : p_M} {r : Int32 × p_M} (h : F_X8_setOnly v0 v1 v2 μ = some r) (hQ : Q ((0, none), r.2)) : p_Ev X (d + 1) M_X8_setOnly 0 [.ref v0, .int v1, .int v2] [] μ Q := by
  unfold F_X8_setOnly at h
  refine e_aload_n dX8_setOnly_0 rfl ?_
  refine e_iconst (v := (0 : Int32)) dX8_setOnly_1 rfl ?_
  obtain ⟨h1, h⟩ := p_ok_some h
  replace h := p_lt h
  refine e_putI dX8_setOnly_2 rfl ⟨rfl, rfl, (fun h => by cases h)⟩ (fun h => by cases h) h1.1 h1.2 ?_
  refine e_aload_n dX8_setOnly_5 rfl ?_
  refine e_iload_n dX8_setOnly_6 rfl ?_
  refine e_iload_n dX8_setOnly_7 rfl ?_
  obtain ⟨q3, hq3, h⟩ := p_bd h
  refine f_cVv dX8_setOnly_8 rfl rfl ⟨rfl, rfl, by decide⟩ rfl h1 (fun Q' hQ' => E_X8_add hq3 hQ') ?_
  cases h
  exact e_vret dX8_setOnly_11 rfl hQ
/-! X12_again -/
def F_X12_again_c53 (μ : p_M) : Option (Nat × Int32 × p_M) :=
  some (0, (-1), μ)
theorem E_X12_again_c53 {X : p_X} {d : Nat} {Q : p_R → Prop} {w0 : Value} {w1 : Value} {w2 : Value} {w3 : Value} {w4 : Value} {μ : p_M} {r : Nat × Int32 × p_M} (h : F_X12_again_c53 μ = some r) (hQ : Q (tI r)) : p_Ev X (d + 3) M_X12_again 53 [w0, w1, w2, w3, w4] [] μ Q := by
  unfold F_X12_again_c53 at h
  refine e_iconst (v := (-1)) dX12_again_53 rfl ?_
  cases h
  exact e_ireti dX12_again_54 rfl hQ
def F_X12_again (v0 : Nat) (v1 : Int32) (μ : p_M) : Option (Nat × Int32 × p_M) :=
  p_ok (mK μ v0 = 13 ∧ v0 < mN μ)
  ((F_X12_lotAt v0 v1 μ).bind fun q1 =>
  if q1.1 = 0
  then ((F_X12_needWashed q1.2.1 q1.2.2).bind fun q3 =>
    if q3.1 = 0
    then (p_ok (mK q3.2.2 v0 = 13 ∧ v0 < mN q3.2.2)
      ((F_X12_sorted v0 v1 (mI q3.2.2 v0 15) (3 : Int32) q3.2.2).bind fun q5 =>
      if q5.1 = 0
      then (p_ok (mK q5.2.2 q1.2.1 = 5 ∧ q1.2.1 < mN q5.2.2)
        (p_ok (mK q5.2.2 v0 = 13 ∧ v0 < mN q5.2.2)
        ((mR q5.2.2 v0 5).bind fun q8 =>
        p_ok (mK q5.2.2 q8 = 2 ∧ q8 < mN q5.2.2)
        ((F_X1_value q8 (13 : Int32) q5.2.2).bind fun q9 =>
        if q9.1 ≤ (mI q5.2.2 q1.2.1 14)
        then (F_X12_again_c53 q9.2)
        else (if q5.2.1 = 0
          then (F_X12_again_c53 q9.2)
          else (p_ok (mK q9.2 v0 = 13 ∧ v0 < mN q9.2)
            ((mR q9.2 v0 14).bind fun q12 =>
            p_ok (q12 < mN q9.2 ∧ mK q9.2 q12 = 0)
            (if (mI q9.2 q12 2) < (40 : Int32)
            then (p_let (sN q9.2 5 0 (q_N 5)) fun m14 =>
              p_ok (mK m14 q1.2.1 = 5 ∧ q1.2.1 < mN m14)
              (p_ok (mK m14 (mN q9.2) = 5 ∧ (mN q9.2) < mN m14)
              ((F_X4_init (mN q9.2) (mI m14 q1.2.1 0) q5.2.1 (mI m14 q1.2.1 2) (mI m14 q1.2.1 3) (1 : Int32) m14).bind fun q16 =>
              p_ok (mK q16.2 q1.2.1 = 5 ∧ q1.2.1 < mN q16.2)
              (p_ok (mK q16.2 (mN q9.2) = 5 ∧ (mN q9.2) < mN q16.2)
              ((F_X4_wishFor (mN q9.2) (mI q16.2 q1.2.1 4) (mI q16.2 q1.2.1 5) (mI q16.2 q1.2.1 6) q16.2).bind fun q19 =>
              p_ok (mK q19.2 (mN q9.2) = 5 ∧ (mN q9.2) < mN q19.2)
              ((mR q19.2 (mN q9.2) 7).bind fun q22 =>
              p_ok (mK q19.2 v0 = 13 ∧ v0 < mN q19.2)
              ((mR q19.2 v0 5).bind fun q24 =>
              p_ok (mK q19.2 q24 = 2 ∧ q24 < mN q19.2)
              ((F_X1_value q24 (14 : Int32) q19.2).bind fun q25 =>
              p_ok (mK q25.2 v0 = 13 ∧ v0 < mN q25.2)
              ((mR q25.2 v0 5).bind fun q28 =>
              p_ok (mK q25.2 q28 = 2 ∧ q28 < mN q25.2)
              ((F_X1_value q28 (15 : Int32) q25.2).bind fun q29 =>
              p_ok (mK q29.2 q22 = 9 ∧ q22 < mN q29.2)
              ((F_X8_setOnly q22 q25.1 q29.1 q29.2).bind fun q31 =>
              p_ok (mK q31.2 (mN q9.2) = 5 ∧ (mN q9.2) < mN q31.2)
              (p_let (sI q31.2 (mN q9.2) 13 v1) fun m34 =>
              p_ok (mK m34 q1.2.1 = 5 ∧ q1.2.1 < mN m34)
              (p_let (sI m34 (mN q9.2) 14 ((mI m34 q1.2.1 14) + (1 : Int32))) fun m36 =>
              (mR m36 (mN q9.2) 8).bind fun q37 =>
              (mR m36 q1.2.1 8).bind fun q38 =>
              p_ok (mK m36 q37 = 4 ∧ q37 < mN m36)
              ((F_X3_copy q37 q38 m36).bind fun q39 =>
              p_ok (mK q39.2 (mN q9.2) = 5 ∧ (mN q9.2) < mN q39.2)
              ((mR q39.2 (mN q9.2) 8).bind fun q42 =>
              p_ok (mK q39.2 v0 = 13 ∧ v0 < mN q39.2)
              ((F_X12_moveDark v0 q1.2.1 q42 q39.2).bind fun q43 =>
              p_ok (mK q43.2 v0 = 13 ∧ v0 < mN q43.2)
              ((F_X12_addLot v0 (mN q9.2) q43.2).bind fun q45 =>
              some (0, q45.1, q45.2))))))))))))))))))
            else (F_X12_again_c53 q9.2)))))))))
      else (some (q5.1, 0, q5.2.2))))
    else (some (q3.1, 0, q3.2.2)))
  else (some (q1.1, 0, q1.2.2)))
theorem E_X12_again {X : p_X} {d : Nat} {Q : p_R → Prop} {v0 : Nat} {v1 : Int32} {μ : p_M} {r : Nat × Int32 × p_M} (h : F_X12_again v0 v1 μ = some r) (hQ : Q (tI r)) : p_Ev X (d + 3) M_X12_again 0 [.ref v0, .int v1, .double 0, .double 0, .double 0] [] μ Q := by
  unfold F_X12_again at h
  refine e_aload_n dX12_again_0 rfl ?_
  refine e_iload_n dX12_again_1 rfl ?_
  obtain ⟨h2, h⟩ := p_ok_some h
  obtain ⟨q1, hq1, h⟩ := p_bd h
  refine f_tVr dX12_again_2 rfl rfl ⟨rfl, rfl, by decide⟩ rfl h2 (by decide) rfl (fun Q' hQ' => E_X12_lotAt hq1 hQ') (fun hc => ?_) (fun hc => ?_)
  · rw [if_pos hc] at h
    refine e_astore_n dX12_again_5 (Nat.le_of_ble_eq_true rfl) rfl ?_
    refine e_aload_n dX12_again_6 rfl ?_
    obtain ⟨q3, hq3, h⟩ := p_bd h
    refine f_tSv dX12_again_7 rfl rfl rfl rfl (by decide) rfl (fun Q' hQ' => E_X12_needWashed hq3 hQ') (fun hc => ?_) (fun hc => ?_)
    · rw [if_pos hc] at h
      refine e_aload_n dX12_again_10 rfl ?_
      refine e_iload_n dX12_again_11 rfl ?_
      refine e_aload_n dX12_again_12 rfl ?_
      obtain ⟨h4, h⟩ := p_ok_some h
      refine e_getI dX12_again_13 rfl rfl h4.1 h4.2 ?_
      refine e_iconst (v := (3 : Int32)) dX12_again_16 rfl ?_
      obtain ⟨q5, hq5, h⟩ := p_bd h
      refine f_tVi dX12_again_17 rfl rfl ⟨rfl, rfl, by decide⟩ rfl h4 (by decide) rfl (fun Q' hQ' => E_X12_sorted hq5 hQ') (fun hc => ?_) (fun hc => ?_)
      · rw [if_pos hc] at h
        refine e_istore_n dX12_again_20 (Nat.le_of_ble_eq_true rfl) rfl ?_
        refine e_aload_n dX12_again_21 rfl ?_
        obtain ⟨h6, h⟩ := p_ok_some h
        refine e_getI dX12_again_22 rfl rfl h6.1 h6.2 ?_
        refine e_aload_n dX12_again_25 rfl ?_
        obtain ⟨h7, h⟩ := p_ok_some h
        obtain ⟨q8, hq8, h⟩ := p_bd h
        refine e_getR dX12_again_26 rfl rfl h7.1 h7.2 hq8 ?_
        refine e_bipush (v := (13 : Int32)) dX12_again_29 rfl ?_
        obtain ⟨h10, h⟩ := p_ok_some h
        obtain ⟨q9, hq9, h⟩ := p_bd h
        refine f_cVi dX12_again_31 rfl rfl ⟨rfl, rfl, by decide⟩ rfl h10 (fun Q' hQ' => E_X1_value hq9 hQ') ?_
        refine e_ic_ge dX12_again_34 53 (by decide) (fun hc => ?_) (fun hc => ?_)
        · rw [if_pos hc] at h
          exact E_X12_again_c53 h hQ
        · rw [if_neg hc] at h
          refine e_iload_n dX12_again_37 rfl ?_
          refine e_if_eq dX12_again_38 53 (by decide) (fun hc => ?_) (fun hc => ?_)
          · rw [if_pos hc] at h
            exact E_X12_again_c53 h hQ
          · rw [if_neg hc] at h
            refine e_aload_n dX12_again_41 rfl ?_
            obtain ⟨h11, h⟩ := p_ok_some h
            obtain ⟨q12, hq12, h⟩ := p_bd h
            refine e_getR dX12_again_42 rfl rfl h11.1 h11.2 hq12 ?_
            obtain ⟨h13, h⟩ := p_ok_some h
            refine e_lsz dX12_again_45 rfl (Nat.le_of_ble_eq_true rfl) h13 ?_
            refine e_bipush (v := (40 : Int32)) dX12_again_48 rfl ?_
            refine e_ic_lt dX12_again_50 55 (by decide) (fun hc => ?_) (fun hc => ?_)
            · rw [if_pos hc] at h
              replace h := p_lt h
              refine e_new dX12_again_55 rfl ?_
              refine e_dupR dX12_again_58 ?_
              refine e_aload_n dX12_again_59 rfl ?_
              obtain ⟨h15, h⟩ := p_ok_some h
              refine e_getI dX12_again_60 rfl rfl h15.1 h15.2 ?_
              refine e_iload_n dX12_again_63 rfl ?_
              refine e_aload_n dX12_again_64 rfl ?_
              refine e_getI dX12_again_65 rfl rfl h15.1 h15.2 ?_
              refine e_aload_n dX12_again_68 rfl ?_
              refine e_getI dX12_again_69 rfl rfl h15.1 h15.2 ?_
              refine e_iconst (v := (1 : Int32)) dX12_again_72 rfl ?_
              obtain ⟨h17, h⟩ := p_ok_some h
              obtain ⟨q16, hq16, h⟩ := p_bd h
              refine f_cPv dX12_again_73 rfl rfl ⟨rfl, rfl⟩ rfl h17 (fun Q' hQ' => E_X4_init hq16 hQ') ?_
              refine e_astore dX12_again_76 (Nat.le_of_ble_eq_true rfl) rfl ?_
              refine e_aload dX12_again_78 rfl ?_
              refine e_aload_n dX12_again_80 rfl ?_
              obtain ⟨h18, h⟩ := p_ok_some h
              refine e_getI dX12_again_81 rfl rfl h18.1 h18.2 ?_
              refine e_aload_n dX12_again_84 rfl ?_
              refine e_getI dX12_again_85 rfl rfl h18.1 h18.2 ?_
              refine e_aload_n dX12_again_88 rfl ?_
              refine e_getI dX12_again_89 rfl rfl h18.1 h18.2 ?_
              obtain ⟨h20, h⟩ := p_ok_some h
              obtain ⟨q19, hq19, h⟩ := p_bd h
              refine f_cVv dX12_again_92 rfl rfl ⟨rfl, rfl, by decide⟩ rfl h20 (fun Q' hQ' => E_X4_wishFor hq19 hQ') ?_
              refine e_aload dX12_again_95 rfl ?_
              obtain ⟨h21, h⟩ := p_ok_some h
              obtain ⟨q22, hq22, h⟩ := p_bd h
              refine e_getR dX12_again_97 rfl rfl h21.1 h21.2 hq22 ?_
              refine e_aload_n dX12_again_100 rfl ?_
              obtain ⟨h23, h⟩ := p_ok_some h
              obtain ⟨q24, hq24, h⟩ := p_bd h
              refine e_getR dX12_again_101 rfl rfl h23.1 h23.2 hq24 ?_
              refine e_bipush (v := (14 : Int32)) dX12_again_104 rfl ?_
              obtain ⟨h26, h⟩ := p_ok_some h
              obtain ⟨q25, hq25, h⟩ := p_bd h
              refine f_cVi dX12_again_106 rfl rfl ⟨rfl, rfl, by decide⟩ rfl h26 (fun Q' hQ' => E_X1_value hq25 hQ') ?_
              refine e_aload_n dX12_again_109 rfl ?_
              obtain ⟨h27, h⟩ := p_ok_some h
              obtain ⟨q28, hq28, h⟩ := p_bd h
              refine e_getR dX12_again_110 rfl rfl h27.1 h27.2 hq28 ?_
              refine e_bipush (v := (15 : Int32)) dX12_again_113 rfl ?_
              obtain ⟨h30, h⟩ := p_ok_some h
              obtain ⟨q29, hq29, h⟩ := p_bd h
              refine f_cVi dX12_again_115 rfl rfl ⟨rfl, rfl, by decide⟩ rfl h30 (fun Q' hQ' => E_X1_value hq29 hQ') ?_
              obtain ⟨h32, h⟩ := p_ok_some h
              obtain ⟨q31, hq31, h⟩ := p_bd h
              refine f_cVv dX12_again_118 rfl rfl ⟨rfl, rfl, by decide⟩ rfl h32 (fun Q' hQ' => E_X8_setOnly hq31 hQ') ?_
              refine e_aload dX12_again_121 rfl ?_
              refine e_iload_n dX12_again_123 rfl ?_
              obtain ⟨h33, h⟩ := p_ok_some h
              replace h := p_lt h
              refine e_putI dX12_again_124 rfl ⟨rfl, rfl, (fun _ => rfl)⟩ (fun h => by cases h) h33.1 h33.2 ?_
              refine e_aload dX12_again_127 rfl ?_
              refine e_aload_n dX12_again_129 rfl ?_
              obtain ⟨h35, h⟩ := p_ok_some h
              refine e_getI dX12_again_130 rfl rfl h35.1 h35.2 ?_
              refine e_iconst (v := (1 : Int32)) dX12_again_133 rfl ?_
              refine e_iadd dX12_again_134 ?_
              replace h := p_lt h
              refine e_putI dX12_again_135 rfl ⟨rfl, rfl, (fun _ => rfl)⟩ (fun h => by cases h) h33.1 h33.2 ?_
              refine e_aload dX12_again_138 rfl ?_
              obtain ⟨q37, hq37, h⟩ := p_bd h
              refine e_getR dX12_again_140 rfl rfl h33.1 h33.2 hq37 ?_
              refine e_aload_n dX12_again_143 rfl ?_
              obtain ⟨q38, hq38, h⟩ := p_bd h
              refine e_getR dX12_again_144 rfl rfl h35.1 h35.2 hq38 ?_
              obtain ⟨h40, h⟩ := p_ok_some h
              obtain ⟨q39, hq39, h⟩ := p_bd h
              refine f_cVv dX12_again_147 rfl rfl ⟨rfl, rfl, by decide⟩ rfl h40 (fun Q' hQ' => E_X3_copy hq39 hQ') ?_
              refine e_aload_n dX12_again_150 rfl ?_
              refine e_aload_n dX12_again_151 rfl ?_
              refine e_aload dX12_again_152 rfl ?_
              obtain ⟨h41, h⟩ := p_ok_some h
              obtain ⟨q42, hq42, h⟩ := p_bd h
              refine e_getR dX12_again_154 rfl rfl h41.1 h41.2 hq42 ?_
              obtain ⟨h44, h⟩ := p_ok_some h
              obtain ⟨q43, hq43, h⟩ := p_bd h
              refine f_cVv dX12_again_157 rfl rfl ⟨rfl, rfl, by decide⟩ rfl h44 (fun Q' hQ' => E_X12_moveDark hq43 hQ') ?_
              refine e_aload_n dX12_again_160 rfl ?_
              refine e_aload dX12_again_161 rfl ?_
              obtain ⟨h46, h⟩ := p_ok_some h
              obtain ⟨q45, hq45, h⟩ := p_bd h
              refine f_cVi dX12_again_163 rfl rfl ⟨rfl, rfl, by decide⟩ rfl h46 (fun Q' hQ' => E_X12_addLot hq45 hQ') ?_
              cases h
              exact e_ireti dX12_again_166 rfl hQ
            · rw [if_neg hc] at h
              exact E_X12_again_c53 h hQ
      · rw [if_neg hc] at h
        cases h
        exact tI_E hc hQ
    · rw [if_neg hc] at h
      cases h
      exact tI_E hc hQ
  · rw [if_neg hc] at h
    cases h
    exact tI_E hc hQ
