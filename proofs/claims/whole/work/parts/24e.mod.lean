/-! X13_washes -/
def F_X13_washes (v1 : Int32) (μ : p_M) : Option (Int32 × p_M) :=
  p_ok (¬ v1 < 0 ∧ v1.toNatClampNeg < 4)
  (p_ok (¬ (mI μ (aM 44) v1.toNatClampNeg) < 0 ∧ (mI μ (aM 44) v1.toNatClampNeg).toNatClampNeg < 40)
  (p_ok (¬ (mI μ (aM 44) v1.toNatClampNeg) < 0 ∧ (mI μ (aM 44) v1.toNatClampNeg).toNatClampNeg < 42)
  (if (mI μ (aM 8) (mI μ (aM 44) v1.toNatClampNeg).toNatClampNeg) ≤ (mI μ (aM 57) (mI μ (aM 44) v1.toNatClampNeg).toNatClampNeg)
  then (p_ok (¬ (mI μ (aM 44) v1.toNatClampNeg) < 0 ∧ (mI μ (aM 44) v1.toNatClampNeg).toNatClampNeg < 40)
    (p_ok (¬ (mI μ (aM 44) v1.toNatClampNeg) < 0 ∧ (mI μ (aM 44) v1.toNatClampNeg).toNatClampNeg < 40)
    (p_ok (¬ (mI μ (aM 44) v1.toNatClampNeg) < 0 ∧ (mI μ (aM 44) v1.toNatClampNeg).toNatClampNeg < 40)
    (p_ok (¬ v1 < 0 ∧ v1.toNatClampNeg < 4)
    (some (0, (sI (sI (sI (sI μ (aM 55) (mI μ (aM 44) v1.toNatClampNeg).toNatClampNeg (3 : Int32)) (aM 58) (mI μ (aM 44) v1.toNatClampNeg).toNatClampNeg (mI (sI μ (aM 55) (mI μ (aM 44) v1.toNatClampNeg).toNatClampNeg (3 : Int32)) tM 42)) (aM 56) (mI μ (aM 44) v1.toNatClampNeg).toNatClampNeg (-1)) (aM 44) v1.toNatClampNeg (-1))))))))
  else (some (0, μ)))))
theorem P_X13_washes {v1 : Int32} {μ : p_M} {r : Int32 × p_M} (h : F_X13_washes v1 μ = some r) : Sm μ r.2 := by
  unfold F_X13_washes at h
  obtain ⟨hc, h⟩ := p_ok_some h
  obtain ⟨hc, h⟩ := p_ok_some h
  obtain ⟨hc, h⟩ := p_ok_some h
  by_cases hc : (mI μ (aM 8) (mI μ (aM 44) v1.toNatClampNeg).toNatClampNeg) ≤ (mI μ (aM 57) (mI μ (aM 44) v1.toNatClampNeg).toNatClampNeg)
  · rw [if_pos hc] at h
    obtain ⟨hc, h⟩ := p_ok_some h
    obtain ⟨hc, h⟩ := p_ok_some h
    obtain ⟨hc, h⟩ := p_ok_some h
    obtain ⟨hc, h⟩ := p_ok_some h
    cases h
    exact (Sm_set (Sm_set (Sm_set (Sm_set (Sm_refl μ) (by decide)) (by decide)) (by decide)) (by decide))
  · rw [if_neg hc] at h
    cases h
    exact (Sm_refl μ)
theorem E_X13_washes {X : p_X} {d : Nat} {Q : p_R → Prop} {v1 : Int32} {μ : p_M} {r : Int32 × p_M} (hs : ShM μ) (h : F_X13_washes v1 μ = some r) (hQ : Q ((0, none), r.2)) : p_Ev X (d + 0) M_X13_washes 0 [.ref tM, .int v1, .double 0] [] μ Q := by
  unfold F_X13_washes at h
  refine e_aload_n dX13_washes_0 rfl ?_
  refine e_getR dX13_washes_1 rfl rfl hs.1 hs.2.1 (hs.2.2.2 44 (by decide) rfl).1 ?_
  refine e_iload_n dX13_washes_4 rfl ?_
  obtain ⟨hc, h⟩ := p_ok_some h
  refine e_iald dX13_washes_5 (Nat.lt_trans (hs.2.2.2 44 (by decide) rfl).2.2.2 hs.2.2.1) (hs.2.2.2 44 (by decide) rfl).2.1 (hs.2.2.2 44 (by decide) rfl).2.2.1 (hs.2.2.2 44 (by decide) rfl).2.2.2 hc ?_
  refine e_istore_n dX13_washes_6 (Nat.le_of_ble_eq_true rfl) rfl ?_
  refine e_aload_n dX13_washes_7 rfl ?_
  refine e_getR dX13_washes_8 rfl rfl hs.1 hs.2.1 (hs.2.2.2 57 (by decide) rfl).1 ?_
  refine e_iload_n dX13_washes_11 rfl ?_
  obtain ⟨hc, h⟩ := p_ok_some h
  refine e_iald dX13_washes_12 (Nat.lt_trans (hs.2.2.2 57 (by decide) rfl).2.2.2 hs.2.2.1) (hs.2.2.2 57 (by decide) rfl).2.1 (hs.2.2.2 57 (by decide) rfl).2.2.1 (hs.2.2.2 57 (by decide) rfl).2.2.2 hc ?_
  refine e_aload_n dX13_washes_13 rfl ?_
  refine e_getR dX13_washes_14 rfl rfl hs.1 hs.2.1 (hs.2.2.2 8 (by decide) rfl).1 ?_
  refine e_iload_n dX13_washes_17 rfl ?_
  obtain ⟨hc, h⟩ := p_ok_some h
  refine e_iald dX13_washes_18 (Nat.lt_trans (hs.2.2.2 8 (by decide) rfl).2.2.2 hs.2.2.1) (hs.2.2.2 8 (by decide) rfl).2.1 (hs.2.2.2 8 (by decide) rfl).2.2.1 (hs.2.2.2 8 (by decide) rfl).2.2.2 hc ?_
  refine e_ic_ge dX13_washes_19 23 (by decide) (fun hc => ?_) (fun hc => ?_)
  · rw [if_pos hc] at h
    refine e_aload_n dX13_washes_23 rfl ?_
    refine e_getR dX13_washes_24 rfl rfl hs.1 hs.2.1 (hs.2.2.2 55 (by decide) rfl).1 ?_
    refine e_iload_n dX13_washes_27 rfl ?_
    refine e_iconst (v := (3 : Int32)) dX13_washes_28 rfl ?_
    obtain ⟨hc, h⟩ := p_ok_some h
    refine e_iast dX13_washes_29 (hs.2.2.2 55 (by decide) rfl).2.1 (hs.2.2.2 55 (by decide) rfl).2.2.1 (hs.2.2.2 55 (by decide) rfl).2.2.2 hc ?_
    refine e_aload_n dX13_washes_30 rfl ?_
    refine e_getR dX13_washes_31 rfl rfl hs.1 hs.2.1 (hs.2.2.2 58 (by decide) rfl).1 ?_
    refine e_iload_n dX13_washes_34 rfl ?_
    refine e_aload_n dX13_washes_35 rfl ?_
    refine e_getI dX13_washes_36 rfl rfl hs.1 hs.2.1 ?_
    obtain ⟨hc, h⟩ := p_ok_some h
    refine e_iast dX13_washes_39 (hs.2.2.2 58 (by decide) rfl).2.1 (hs.2.2.2 58 (by decide) rfl).2.2.1 (hs.2.2.2 58 (by decide) rfl).2.2.2 hc ?_
    refine e_aload_n dX13_washes_40 rfl ?_
    refine e_getR dX13_washes_41 rfl rfl hs.1 hs.2.1 (hs.2.2.2 56 (by decide) rfl).1 ?_
    refine e_iload_n dX13_washes_44 rfl ?_
    refine e_iconst (v := (-1)) dX13_washes_45 rfl ?_
    obtain ⟨hc, h⟩ := p_ok_some h
    refine e_iast dX13_washes_46 (hs.2.2.2 56 (by decide) rfl).2.1 (hs.2.2.2 56 (by decide) rfl).2.2.1 (hs.2.2.2 56 (by decide) rfl).2.2.2 hc ?_
    refine e_aload_n dX13_washes_47 rfl ?_
    refine e_getR dX13_washes_48 rfl rfl hs.1 hs.2.1 (hs.2.2.2 44 (by decide) rfl).1 ?_
    refine e_iload_n dX13_washes_51 rfl ?_
    refine e_iconst (v := (-1)) dX13_washes_52 rfl ?_
    obtain ⟨hc, h⟩ := p_ok_some h
    refine e_iast dX13_washes_53 (hs.2.2.2 44 (by decide) rfl).2.1 (hs.2.2.2 44 (by decide) rfl).2.2.1 (hs.2.2.2 44 (by decide) rfl).2.2.2 hc ?_
    cases h
    exact e_vret dX13_washes_54 rfl hQ
  · rw [if_neg hc] at h
    cases h
    exact e_vret dX13_washes_22 rfl hQ
/-! X13_step -/
def F_X13_step_c136 (μ : p_M) : Option (Int32 × p_M) :=
  some ((-1), μ)
theorem P_X13_step_c136 {μ : p_M} {r : Int32 × p_M} (h : F_X13_step_c136 μ = some r) : Sm μ r.2 := by
  unfold F_X13_step_c136 at h
  cases h
  exact (Sm_refl μ)
theorem E_X13_step_c136 {X : p_X} {d : Nat} {Q : p_R → Prop} {w0 : Value} {w1 : Value} {w2 : Value} {w3 : Value} {w4 : Value} {μ : p_M} {r : Int32 × p_M} (hs : ShM μ) (h : F_X13_step_c136 μ = some r) (hQ : Q ((0, some (.int r.1)), r.2)) : p_Ev X (d + 3) M_X13_step 136 [w0, w1, w2, w3, w4] [] μ Q := by
  unfold F_X13_step_c136 at h
  refine e_iconst (v := (-1)) dX13_step_136 rfl ?_
  cases h
  exact e_ireti dX13_step_137 rfl hQ
def F_X13_step_c124 (v1 : Int32) (v2 : Int32) (v3 : Int32) (s0 : Int32) (μ : p_M) : Option (Int32 × p_M) :=
  if v3 < 0
  then (F_X13_step_c136 μ)
  else (if s0 ≤ v2
    then (p_ok (¬ v3 < 0 ∧ v3.toNatClampNeg < 40)
      (p_ok (¬ v1 < 0 ∧ v1.toNatClampNeg < 4)
      (p_ok (¬ v3 < 0 ∧ v3.toNatClampNeg < 40)
      (p_ok (¬ v1 < 0 ∧ v1.toNatClampNeg < 4)
      ((F_X13_washes v1 (sI (sI (sI (sI (sI (sI μ tM 31 ((mI μ tM 31) + s0)) tM 32 ((mI (sI μ tM 31 ((mI μ tM 31) + s0)) tM 32) + s0)) tM 34 ((mI (sI (sI μ tM 31 ((mI μ tM 31) + s0)) tM 32 ((mI (sI μ tM 31 ((mI μ tM 31) + s0)) tM 32) + s0)) tM 34) + s0)) (aM 55) v3.toNatClampNeg (2 : Int32)) (aM 44) v1.toNatClampNeg v3) (aM 45) v1.toNatClampNeg (mI (sI (sI (sI (sI (sI μ tM 31 ((mI μ tM 31) + s0)) tM 32 ((mI (sI μ tM 31 ((mI μ tM 31) + s0)) tM 32) + s0)) tM 34 ((mI (sI (sI μ tM 31 ((mI μ tM 31) + s0)) tM 32 ((mI (sI μ tM 31 ((mI μ tM 31) + s0)) tM 32) + s0)) tM 34) + s0)) (aM 55) v3.toNatClampNeg (2 : Int32)) (aM 44) v1.toNatClampNeg v3) (aM 50) v3.toNatClampNeg))).bind fun q4 =>
      some (s0, q4.2))))))
    else (F_X13_step_c136 μ))
theorem P_X13_step_c124 {v1 : Int32} {v2 : Int32} {v3 : Int32} {s0 : Int32} {μ : p_M} {r : Int32 × p_M} (h : F_X13_step_c124 v1 v2 v3 s0 μ = some r) : Sm μ r.2 := by
  unfold F_X13_step_c124 at h
  by_cases hc : v3 < 0
  · rw [if_pos hc] at h
    exact Sm_trans (Sm_refl μ) (P_X13_step_c136 h)
  · rw [if_neg hc] at h
    by_cases hc : s0 ≤ v2
    · rw [if_pos hc] at h
      obtain ⟨hc, h⟩ := p_ok_some h
      obtain ⟨hc, h⟩ := p_ok_some h
      obtain ⟨hc, h⟩ := p_ok_some h
      obtain ⟨hc, h⟩ := p_ok_some h
      obtain ⟨q4, hq4, h⟩ := p_bd h
      cases h
      exact (Sm_trans (Sm_set (Sm_set (Sm_set (Sm_set (Sm_set (Sm_set (Sm_refl μ) (by decide)) (by decide)) (by decide)) (by decide)) (by decide)) (by decide)) (P_X13_washes (r := q4) hq4))
    · rw [if_neg hc] at h
      exact Sm_trans (Sm_refl μ) (P_X13_step_c136 h)
theorem E_X13_step_c124 {X : p_X} {d : Nat} {Q : p_R → Prop} {v1 : Int32} {v2 : Int32} {v3 : Int32} {s0 : Int32} {w4 : Value} {μ : p_M} {r : Int32 × p_M} (hs : ShM μ) (h : F_X13_step_c124 v1 v2 v3 s0 μ = some r) (hQ : Q ((0, some (.int r.1)), r.2)) : p_Ev X (d + 3) M_X13_step 124 [.ref tM, .int v1, .int v2, .int v3, w4] [.int s0] μ Q := by
  unfold F_X13_step_c124 at h
  refine e_istore dX13_step_124 (Nat.le_of_ble_eq_true rfl) rfl ?_
  refine e_iload_n dX13_step_126 rfl ?_
  refine e_if_lt dX13_step_127 136 (by decide) (fun hc => ?_) (fun hc => ?_)
  · rw [if_pos hc] at h
    exact E_X13_step_c136 hs h hQ
  · rw [if_neg hc] at h
    refine e_iload dX13_step_130 rfl ?_
    refine e_iload_n dX13_step_132 rfl ?_
    refine e_ic_le dX13_step_133 138 (by decide) (fun hc => ?_) (fun hc => ?_)
    · rw [if_pos hc] at h
      refine e_aload_n dX13_step_138 rfl ?_
      refine e_dupR dX13_step_139 ?_
      refine e_getI dX13_step_140 rfl rfl hs.1 hs.2.1 ?_
      refine e_iload dX13_step_143 rfl ?_
      refine e_iadd dX13_step_145 ?_
      refine e_putI dX13_step_146 rfl ⟨rfl, rfl, fun h => by cases h⟩ (fun h => by cases h) hs.1 hs.2.1 ?_
      refine e_aload_n dX13_step_149 rfl ?_
      refine e_dupR dX13_step_150 ?_
      refine e_getI dX13_step_151 rfl rfl hs.1 hs.2.1 ?_
      refine e_iload dX13_step_154 rfl ?_
      refine e_iadd dX13_step_156 ?_
      refine e_putI dX13_step_157 rfl ⟨rfl, rfl, fun h => by cases h⟩ (fun h => by cases h) hs.1 hs.2.1 ?_
      refine e_aload_n dX13_step_160 rfl ?_
      refine e_dupR dX13_step_161 ?_
      refine e_getI dX13_step_162 rfl rfl hs.1 hs.2.1 ?_
      refine e_iload dX13_step_165 rfl ?_
      refine e_iadd dX13_step_167 ?_
      refine e_putI dX13_step_168 rfl ⟨rfl, rfl, fun h => by cases h⟩ (fun h => by cases h) hs.1 hs.2.1 ?_
      refine e_aload_n dX13_step_171 rfl ?_
      refine e_getR dX13_step_172 rfl rfl hs.1 hs.2.1 (hs.2.2.2 55 (by decide) rfl).1 ?_
      refine e_iload_n dX13_step_175 rfl ?_
      refine e_iconst (v := (2 : Int32)) dX13_step_176 rfl ?_
      obtain ⟨hc, h⟩ := p_ok_some h
      refine e_iast dX13_step_177 (hs.2.2.2 55 (by decide) rfl).2.1 (hs.2.2.2 55 (by decide) rfl).2.2.1 (hs.2.2.2 55 (by decide) rfl).2.2.2 hc ?_
      refine e_aload_n dX13_step_178 rfl ?_
      refine e_getR dX13_step_179 rfl rfl hs.1 hs.2.1 (hs.2.2.2 44 (by decide) rfl).1 ?_
      refine e_iload_n dX13_step_182 rfl ?_
      refine e_iload_n dX13_step_183 rfl ?_
      obtain ⟨hc, h⟩ := p_ok_some h
      refine e_iast dX13_step_184 (hs.2.2.2 44 (by decide) rfl).2.1 (hs.2.2.2 44 (by decide) rfl).2.2.1 (hs.2.2.2 44 (by decide) rfl).2.2.2 hc ?_
      refine e_aload_n dX13_step_185 rfl ?_
      refine e_getR dX13_step_186 rfl rfl hs.1 hs.2.1 (hs.2.2.2 45 (by decide) rfl).1 ?_
      refine e_iload_n dX13_step_189 rfl ?_
      refine e_aload_n dX13_step_190 rfl ?_
      refine e_getR dX13_step_191 rfl rfl hs.1 hs.2.1 (hs.2.2.2 50 (by decide) rfl).1 ?_
      refine e_iload_n dX13_step_194 rfl ?_
      obtain ⟨hc, h⟩ := p_ok_some h
      refine e_iald dX13_step_195 (Nat.lt_trans (hs.2.2.2 50 (by decide) rfl).2.2.2 hs.2.2.1) (hs.2.2.2 50 (by decide) rfl).2.1 (hs.2.2.2 50 (by decide) rfl).2.2.1 (hs.2.2.2 50 (by decide) rfl).2.2.2 hc ?_
      obtain ⟨hc, h⟩ := p_ok_some h
      refine e_iast dX13_step_196 (hs.2.2.2 45 (by decide) rfl).2.1 (hs.2.2.2 45 (by decide) rfl).2.2.1 (hs.2.2.2 45 (by decide) rfl).2.2.2 hc ?_
      refine e_aload_n dX13_step_197 rfl ?_
      refine e_iload_n dX13_step_198 rfl ?_
      obtain ⟨q4, hq4, h⟩ := p_bd h
      refine e_cV dX13_step_199 rfl rfl ⟨rfl, rfl, by decide⟩ rfl hs.1 hs.2.1 (E_X13_washes hs hq4 ⟨rfl, ?_⟩)
      have hs := ShM_of (P_X13_washes hq4) hs
      show p_Ev X (d + 3) M_X13_step 202 [.ref tM, .int v1, .int v2, .int v3, .int s0] [] q4.2 Q
      refine e_iload dX13_step_202 rfl ?_
      cases h
      exact e_ireti dX13_step_204 rfl hQ
    · rw [if_neg hc] at h
      exact E_X13_step_c136 hs h hQ
def F_X13_step_c99 (v1 : Int32) (v2 : Int32) (v3 : Int32) (μ : p_M) : Option (Int32 × p_M) :=
  F_X13_step_c124 v1 v2 v3 (0 : Int32) μ
theorem P_X13_step_c99 {v1 : Int32} {v2 : Int32} {v3 : Int32} {μ : p_M} {r : Int32 × p_M} (h : F_X13_step_c99 v1 v2 v3 μ = some r) : Sm μ r.2 := by
  unfold F_X13_step_c99 at h
  exact Sm_trans (Sm_refl μ) (P_X13_step_c124 h)
theorem E_X13_step_c99 {X : p_X} {d : Nat} {Q : p_R → Prop} {v1 : Int32} {v2 : Int32} {v3 : Int32} {w4 : Value} {μ : p_M} {r : Int32 × p_M} (hs : ShM μ) (h : F_X13_step_c99 v1 v2 v3 μ = some r) (hQ : Q ((0, some (.int r.1)), r.2)) : p_Ev X (d + 3) M_X13_step 99 [.ref tM, .int v1, .int v2, .int v3, w4] [] μ Q := by
  unfold F_X13_step_c99 at h
  refine e_iconst (v := (0 : Int32)) dX13_step_99 rfl ?_
  refine e_goto dX13_step_100 124 (by decide) ?_
  exact E_X13_step_c124 hs h hQ
def F_X13_step (v1 : Int32) (v2 : Int32) (μ : p_M) : Option (Int32 × p_M) :=
  p_ok (¬ v1 < 0 ∧ v1.toNatClampNeg < 4)
  (if (mI μ (aM 44) v1.toNatClampNeg) < 0
  then ((F_X13_nextFor v1 μ).bind fun q1 =>
    if q1.1 < 0
    then (F_X13_step_c99 v1 v2 q1.1 q1.2)
    else (p_ok (¬ v1 < 0 ∧ v1.toNatClampNeg < 4)
      (if 0 ≤ (mI q1.2 (aM 45) v1.toNatClampNeg)
      then (p_ok (¬ v1 < 0 ∧ v1.toNatClampNeg < 4)
        (p_ok (¬ q1.1 < 0 ∧ q1.1.toNatClampNeg < 40)
        (p_ok (¬ (((6 : Int32) * (mI q1.2 (aM 45) v1.toNatClampNeg)) + (mI q1.2 (aM 50) q1.1.toNatClampNeg)) < 0 ∧ (((6 : Int32) * (mI q1.2 (aM 45) v1.toNatClampNeg)) + (mI q1.2 (aM 50) q1.1.toNatClampNeg)).toNatClampNeg < 36)
        (F_X13_step_c124 v1 v2 q1.1 (mI q1.2 (aM 23) (((6 : Int32) * (mI q1.2 (aM 45) v1.toNatClampNeg)) + (mI q1.2 (aM 50) q1.1.toNatClampNeg)).toNatClampNeg) q1.2))))
      else (F_X13_step_c99 v1 v2 q1.1 q1.2))))
  else (p_ok (¬ v1 < 0 ∧ v1.toNatClampNeg < 4)
    (p_ok (¬ v1 < 0 ∧ v1.toNatClampNeg < 4)
    (p_ok (¬ (mI μ (aM 44) v1.toNatClampNeg) < 0 ∧ (mI μ (aM 44) v1.toNatClampNeg).toNatClampNeg < 40)
    (p_ok (¬ (((20 : Int32) * (mI μ (aM 44) v1.toNatClampNeg)) + (mI μ (aM 57) (mI μ (aM 44) v1.toNatClampNeg).toNatClampNeg)) < 0 ∧ (((20 : Int32) * (mI μ (aM 44) v1.toNatClampNeg)) + (mI μ (aM 57) (mI μ (aM 44) v1.toNatClampNeg).toNatClampNeg)).toNatClampNeg < 840)
    (p_ok (¬ ((9 : Int32) + (mI μ (aM 9) (((20 : Int32) * (mI μ (aM 44) v1.toNatClampNeg)) + (mI μ (aM 57) (mI μ (aM 44) v1.toNatClampNeg).toNatClampNeg)).toNatClampNeg)) < 0 ∧ ((9 : Int32) + (mI μ (aM 9) (((20 : Int32) * (mI μ (aM 44) v1.toNatClampNeg)) + (mI μ (aM 57) (mI μ (aM 44) v1.toNatClampNeg).toNatClampNeg)).toNatClampNeg)).toNatClampNeg < 36)
    (p_ok (¬ (((20 : Int32) * (mI μ (aM 44) v1.toNatClampNeg)) + (mI μ (aM 57) (mI μ (aM 44) v1.toNatClampNeg).toNatClampNeg)) < 0 ∧ (((20 : Int32) * (mI μ (aM 44) v1.toNatClampNeg)) + (mI μ (aM 57) (mI μ (aM 44) v1.toNatClampNeg).toNatClampNeg)).toNatClampNeg < 840)
    (if ((mI μ (aM 40) ((9 : Int32) + (mI μ (aM 9) (((20 : Int32) * (mI μ (aM 44) v1.toNatClampNeg)) + (mI μ (aM 57) (mI μ (aM 44) v1.toNatClampNeg).toNatClampNeg)).toNatClampNeg)).toNatClampNeg) * (mI μ (aM 10) (((20 : Int32) * (mI μ (aM 44) v1.toNatClampNeg)) + (mI μ (aM 57) (mI μ (aM 44) v1.toNatClampNeg).toNatClampNeg)).toNatClampNeg)) ≤ v2
    then (p_ok (¬ v1 < 0 ∧ v1.toNatClampNeg < 4)
      ((F_X13_bathes (mI μ (aM 44) v1.toNatClampNeg) μ).bind fun q2 =>
      (F_X13_washes v1 q2.2).bind fun q3 =>
      some (((mI μ (aM 40) ((9 : Int32) + (mI μ (aM 9) (((20 : Int32) * (mI μ (aM 44) v1.toNatClampNeg)) + (mI μ (aM 57) (mI μ (aM 44) v1.toNatClampNeg).toNatClampNeg)).toNatClampNeg)).toNatClampNeg) * (mI μ (aM 10) (((20 : Int32) * (mI μ (aM 44) v1.toNatClampNeg)) + (mI μ (aM 57) (mI μ (aM 44) v1.toNatClampNeg).toNatClampNeg)).toNatClampNeg)), q3.2)))
    else (some ((-1), μ))))))))))
theorem P_X13_step {v1 : Int32} {v2 : Int32} {μ : p_M} {r : Int32 × p_M} (h : F_X13_step v1 v2 μ = some r) : Sm μ r.2 := by
  unfold F_X13_step at h
  obtain ⟨hc, h⟩ := p_ok_some h
  by_cases hc : (mI μ (aM 44) v1.toNatClampNeg) < 0
  · rw [if_pos hc] at h
    obtain ⟨q1, hq1, h⟩ := p_bd h
    by_cases hc : q1.1 < 0
    · rw [if_pos hc] at h
      exact Sm_trans (Sm_trans (Sm_refl μ) (P_X13_nextFor (r := q1) hq1)) (P_X13_step_c99 h)
    · rw [if_neg hc] at h
      obtain ⟨hc, h⟩ := p_ok_some h
      by_cases hc : 0 ≤ (mI q1.2 (aM 45) v1.toNatClampNeg)
      · rw [if_pos hc] at h
        obtain ⟨hc, h⟩ := p_ok_some h
        obtain ⟨hc, h⟩ := p_ok_some h
        obtain ⟨hc, h⟩ := p_ok_some h
        exact Sm_trans (Sm_trans (Sm_refl μ) (P_X13_nextFor (r := q1) hq1)) (P_X13_step_c124 h)
      · rw [if_neg hc] at h
        exact Sm_trans (Sm_trans (Sm_refl μ) (P_X13_nextFor (r := q1) hq1)) (P_X13_step_c99 h)
  · rw [if_neg hc] at h
    obtain ⟨hc, h⟩ := p_ok_some h
    obtain ⟨hc, h⟩ := p_ok_some h
    obtain ⟨hc, h⟩ := p_ok_some h
    obtain ⟨hc, h⟩ := p_ok_some h
    obtain ⟨hc, h⟩ := p_ok_some h
    obtain ⟨hc, h⟩ := p_ok_some h
    by_cases hc : ((mI μ (aM 40) ((9 : Int32) + (mI μ (aM 9) (((20 : Int32) * (mI μ (aM 44) v1.toNatClampNeg)) + (mI μ (aM 57) (mI μ (aM 44) v1.toNatClampNeg).toNatClampNeg)).toNatClampNeg)).toNatClampNeg) * (mI μ (aM 10) (((20 : Int32) * (mI μ (aM 44) v1.toNatClampNeg)) + (mI μ (aM 57) (mI μ (aM 44) v1.toNatClampNeg).toNatClampNeg)).toNatClampNeg)) ≤ v2
    · rw [if_pos hc] at h
      obtain ⟨hc, h⟩ := p_ok_some h
      obtain ⟨q2, hq2, h⟩ := p_bd h
      obtain ⟨q3, hq3, h⟩ := p_bd h
      cases h
      exact (Sm_trans (Sm_trans (Sm_refl μ) (P_X13_bathes (r := q2) hq2)) (P_X13_washes (r := q3) hq3))
    · rw [if_neg hc] at h
      cases h
      exact (Sm_refl μ)
theorem E_X13_step {X : p_X} {d : Nat} {Q : p_R → Prop} {v1 : Int32} {v2 : Int32} {μ : p_M} {r : Int32 × p_M} (hs : ShM μ) (h : F_X13_step v1 v2 μ = some r) (hQ : Q ((0, some (.int r.1)), r.2)) : p_Ev X (d + 3) M_X13_step 0 [.ref tM, .int v1, .int v2, .double 0, .double 0] [] μ Q := by
  unfold F_X13_step at h
  refine e_aload_n dX13_step_0 rfl ?_
  refine e_getR dX13_step_1 rfl rfl hs.1 hs.2.1 (hs.2.2.2 44 (by decide) rfl).1 ?_
  refine e_iload_n dX13_step_4 rfl ?_
  obtain ⟨hc, h⟩ := p_ok_some h
  refine e_iald dX13_step_5 (Nat.lt_trans (hs.2.2.2 44 (by decide) rfl).2.2.2 hs.2.2.1) (hs.2.2.2 44 (by decide) rfl).2.1 (hs.2.2.2 44 (by decide) rfl).2.2.1 (hs.2.2.2 44 (by decide) rfl).2.2.2 hc ?_
  refine e_if_lt dX13_step_6 80 (by decide) (fun hc => ?_) (fun hc => ?_)
  · rw [if_pos hc] at h
    refine e_aload_n dX13_step_80 rfl ?_
    refine e_iload_n dX13_step_81 rfl ?_
    obtain ⟨q1, hq1, h⟩ := p_bd h
    refine e_cV dX13_step_82 rfl rfl ⟨rfl, rfl, by decide⟩ rfl hs.1 hs.2.1 (E_X13_nextFor hs hq1 ⟨rfl, ?_⟩)
    have hs := ShM_of (P_X13_nextFor hq1) hs
    show p_Ev X (d + 3) M_X13_step 85 [.ref tM, .int v1, .int v2, .double 0, .double 0] [.int q1.1] q1.2 Q
    refine e_istore_n dX13_step_85 (Nat.le_of_ble_eq_true rfl) rfl ?_
    refine e_iload_n dX13_step_86 rfl ?_
    refine e_if_lt dX13_step_87 99 (by decide) (fun hc => ?_) (fun hc => ?_)
    · rw [if_pos hc] at h
      exact E_X13_step_c99 hs h hQ
    · rw [if_neg hc] at h
      refine e_aload_n dX13_step_90 rfl ?_
      refine e_getR dX13_step_91 rfl rfl hs.1 hs.2.1 (hs.2.2.2 45 (by decide) rfl).1 ?_
      refine e_iload_n dX13_step_94 rfl ?_
      obtain ⟨hc, h⟩ := p_ok_some h
      refine e_iald dX13_step_95 (Nat.lt_trans (hs.2.2.2 45 (by decide) rfl).2.2.2 hs.2.2.1) (hs.2.2.2 45 (by decide) rfl).2.1 (hs.2.2.2 45 (by decide) rfl).2.2.1 (hs.2.2.2 45 (by decide) rfl).2.2.2 hc ?_
      refine e_if_ge dX13_step_96 103 (by decide) (fun hc => ?_) (fun hc => ?_)
      · rw [if_pos hc] at h
        refine e_aload_n dX13_step_103 rfl ?_
        refine e_getR dX13_step_104 rfl rfl hs.1 hs.2.1 (hs.2.2.2 23 (by decide) rfl).1 ?_
        refine e_bipush (v := (6 : Int32)) dX13_step_107 rfl ?_
        refine e_aload_n dX13_step_109 rfl ?_
        refine e_getR dX13_step_110 rfl rfl hs.1 hs.2.1 (hs.2.2.2 45 (by decide) rfl).1 ?_
        refine e_iload_n dX13_step_113 rfl ?_
        obtain ⟨hc, h⟩ := p_ok_some h
        refine e_iald dX13_step_114 (Nat.lt_trans (hs.2.2.2 45 (by decide) rfl).2.2.2 hs.2.2.1) (hs.2.2.2 45 (by decide) rfl).2.1 (hs.2.2.2 45 (by decide) rfl).2.2.1 (hs.2.2.2 45 (by decide) rfl).2.2.2 hc ?_
        refine e_imul dX13_step_115 ?_
        refine e_aload_n dX13_step_116 rfl ?_
        refine e_getR dX13_step_117 rfl rfl hs.1 hs.2.1 (hs.2.2.2 50 (by decide) rfl).1 ?_
        refine e_iload_n dX13_step_120 rfl ?_
        obtain ⟨hc, h⟩ := p_ok_some h
        refine e_iald dX13_step_121 (Nat.lt_trans (hs.2.2.2 50 (by decide) rfl).2.2.2 hs.2.2.1) (hs.2.2.2 50 (by decide) rfl).2.1 (hs.2.2.2 50 (by decide) rfl).2.2.1 (hs.2.2.2 50 (by decide) rfl).2.2.2 hc ?_
        refine e_iadd dX13_step_122 ?_
        obtain ⟨hc, h⟩ := p_ok_some h
        refine e_iald dX13_step_123 (Nat.lt_trans (hs.2.2.2 23 (by decide) rfl).2.2.2 hs.2.2.1) (hs.2.2.2 23 (by decide) rfl).2.1 (hs.2.2.2 23 (by decide) rfl).2.2.1 (hs.2.2.2 23 (by decide) rfl).2.2.2 hc ?_
        exact E_X13_step_c124 hs h hQ
      · rw [if_neg hc] at h
        exact E_X13_step_c99 hs h hQ
  · rw [if_neg hc] at h
    refine e_bipush (v := (20 : Int32)) dX13_step_9 rfl ?_
    refine e_aload_n dX13_step_11 rfl ?_
    refine e_getR dX13_step_12 rfl rfl hs.1 hs.2.1 (hs.2.2.2 44 (by decide) rfl).1 ?_
    refine e_iload_n dX13_step_15 rfl ?_
    obtain ⟨hc, h⟩ := p_ok_some h
    refine e_iald dX13_step_16 (Nat.lt_trans (hs.2.2.2 44 (by decide) rfl).2.2.2 hs.2.2.1) (hs.2.2.2 44 (by decide) rfl).2.1 (hs.2.2.2 44 (by decide) rfl).2.2.1 (hs.2.2.2 44 (by decide) rfl).2.2.2 hc ?_
    refine e_imul dX13_step_17 ?_
    refine e_aload_n dX13_step_18 rfl ?_
    refine e_getR dX13_step_19 rfl rfl hs.1 hs.2.1 (hs.2.2.2 57 (by decide) rfl).1 ?_
    refine e_aload_n dX13_step_22 rfl ?_
    refine e_getR dX13_step_23 rfl rfl hs.1 hs.2.1 (hs.2.2.2 44 (by decide) rfl).1 ?_
    refine e_iload_n dX13_step_26 rfl ?_
    obtain ⟨hc, h⟩ := p_ok_some h
    refine e_iald dX13_step_27 (Nat.lt_trans (hs.2.2.2 44 (by decide) rfl).2.2.2 hs.2.2.1) (hs.2.2.2 44 (by decide) rfl).2.1 (hs.2.2.2 44 (by decide) rfl).2.2.1 (hs.2.2.2 44 (by decide) rfl).2.2.2 hc ?_
    obtain ⟨hc, h⟩ := p_ok_some h
    refine e_iald dX13_step_28 (Nat.lt_trans (hs.2.2.2 57 (by decide) rfl).2.2.2 hs.2.2.1) (hs.2.2.2 57 (by decide) rfl).2.1 (hs.2.2.2 57 (by decide) rfl).2.2.1 (hs.2.2.2 57 (by decide) rfl).2.2.2 hc ?_
    refine e_iadd dX13_step_29 ?_
    refine e_istore_n dX13_step_30 (Nat.le_of_ble_eq_true rfl) rfl ?_
    refine e_aload_n dX13_step_31 rfl ?_
    refine e_getR dX13_step_32 rfl rfl hs.1 hs.2.1 (hs.2.2.2 40 (by decide) rfl).1 ?_
    refine e_bipush (v := (9 : Int32)) dX13_step_35 rfl ?_
    refine e_aload_n dX13_step_37 rfl ?_
    refine e_getR dX13_step_38 rfl rfl hs.1 hs.2.1 (hs.2.2.2 9 (by decide) rfl).1 ?_
    refine e_iload_n dX13_step_41 rfl ?_
    obtain ⟨hc, h⟩ := p_ok_some h
    refine e_iald dX13_step_42 (Nat.lt_trans (hs.2.2.2 9 (by decide) rfl).2.2.2 hs.2.2.1) (hs.2.2.2 9 (by decide) rfl).2.1 (hs.2.2.2 9 (by decide) rfl).2.2.1 (hs.2.2.2 9 (by decide) rfl).2.2.2 hc ?_
    refine e_iadd dX13_step_43 ?_
    obtain ⟨hc, h⟩ := p_ok_some h
    refine e_iald dX13_step_44 (Nat.lt_trans (hs.2.2.2 40 (by decide) rfl).2.2.2 hs.2.2.1) (hs.2.2.2 40 (by decide) rfl).2.1 (hs.2.2.2 40 (by decide) rfl).2.2.1 (hs.2.2.2 40 (by decide) rfl).2.2.2 hc ?_
    refine e_aload_n dX13_step_45 rfl ?_
    refine e_getR dX13_step_46 rfl rfl hs.1 hs.2.1 (hs.2.2.2 10 (by decide) rfl).1 ?_
    refine e_iload_n dX13_step_49 rfl ?_
    obtain ⟨hc, h⟩ := p_ok_some h
    refine e_iald dX13_step_50 (Nat.lt_trans (hs.2.2.2 10 (by decide) rfl).2.2.2 hs.2.2.1) (hs.2.2.2 10 (by decide) rfl).2.1 (hs.2.2.2 10 (by decide) rfl).2.2.1 (hs.2.2.2 10 (by decide) rfl).2.2.2 hc ?_
    refine e_imul dX13_step_51 ?_
    refine e_istore dX13_step_52 (Nat.le_of_ble_eq_true rfl) rfl ?_
    refine e_iload dX13_step_54 rfl ?_
    refine e_iload_n dX13_step_56 rfl ?_
    refine e_ic_le dX13_step_57 62 (by decide) (fun hc => ?_) (fun hc => ?_)
    · rw [if_pos hc] at h
      refine e_aload_n dX13_step_62 rfl ?_
      refine e_aload_n dX13_step_63 rfl ?_
      refine e_getR dX13_step_64 rfl rfl hs.1 hs.2.1 (hs.2.2.2 44 (by decide) rfl).1 ?_
      refine e_iload_n dX13_step_67 rfl ?_
      obtain ⟨hc, h⟩ := p_ok_some h
      refine e_iald dX13_step_68 (Nat.lt_trans (hs.2.2.2 44 (by decide) rfl).2.2.2 hs.2.2.1) (hs.2.2.2 44 (by decide) rfl).2.1 (hs.2.2.2 44 (by decide) rfl).2.2.1 (hs.2.2.2 44 (by decide) rfl).2.2.2 hc ?_
      obtain ⟨q2, hq2, h⟩ := p_bd h
      refine e_cV dX13_step_69 rfl rfl ⟨rfl, rfl, by decide⟩ rfl hs.1 hs.2.1 (E_X13_bathes hs hq2 ⟨rfl, ?_⟩)
      have hs := ShM_of (P_X13_bathes hq2) hs
      show p_Ev X (d + 3) M_X13_step 72 [.ref tM, .int v1, .int v2, .int (((20 : Int32) * (mI μ (aM 44) v1.toNatClampNeg)) + (mI μ (aM 57) (mI μ (aM 44) v1.toNatClampNeg).toNatClampNeg)), .int ((mI μ (aM 40) ((9 : Int32) + (mI μ (aM 9) (((20 : Int32) * (mI μ (aM 44) v1.toNatClampNeg)) + (mI μ (aM 57) (mI μ (aM 44) v1.toNatClampNeg).toNatClampNeg)).toNatClampNeg)).toNatClampNeg) * (mI μ (aM 10) (((20 : Int32) * (mI μ (aM 44) v1.toNatClampNeg)) + (mI μ (aM 57) (mI μ (aM 44) v1.toNatClampNeg).toNatClampNeg)).toNatClampNeg))] [] q2.2 Q
      refine e_aload_n dX13_step_72 rfl ?_
      refine e_iload_n dX13_step_73 rfl ?_
      obtain ⟨q3, hq3, h⟩ := p_bd h
      refine e_cV dX13_step_74 rfl rfl ⟨rfl, rfl, by decide⟩ rfl hs.1 hs.2.1 (E_X13_washes hs hq3 ⟨rfl, ?_⟩)
      have hs := ShM_of (P_X13_washes hq3) hs
      show p_Ev X (d + 3) M_X13_step 77 [.ref tM, .int v1, .int v2, .int (((20 : Int32) * (mI μ (aM 44) v1.toNatClampNeg)) + (mI μ (aM 57) (mI μ (aM 44) v1.toNatClampNeg).toNatClampNeg)), .int ((mI μ (aM 40) ((9 : Int32) + (mI μ (aM 9) (((20 : Int32) * (mI μ (aM 44) v1.toNatClampNeg)) + (mI μ (aM 57) (mI μ (aM 44) v1.toNatClampNeg).toNatClampNeg)).toNatClampNeg)).toNatClampNeg) * (mI μ (aM 10) (((20 : Int32) * (mI μ (aM 44) v1.toNatClampNeg)) + (mI μ (aM 57) (mI μ (aM 44) v1.toNatClampNeg).toNatClampNeg)).toNatClampNeg))] [] q3.2 Q
      refine e_iload dX13_step_77 rfl ?_
      cases h
      exact e_ireti dX13_step_79 rfl hQ
    · rw [if_neg hc] at h
      refine e_iconst (v := (-1)) dX13_step_60 rfl ?_
      cases h
      exact e_ireti dX13_step_61 rfl hQ
/-! X13_days -/
def F_X13_days_c81 (K32 : Int32 → Int32 → p_M → Option (Int32 × p_M)) (K59 : Int32 → Int32 → Int32 → p_M → Option (Int32 × p_M)) : Nat → Int32 → Int32 → Int32 → Int32 → Int32 → p_M → Option (Int32 × p_M)
  | 0, _, _, _, _, _, _ => none
  | n + 1, v1, v2, v3, v4, v5, μ =>
    if v5 < 0
    then (K59 v1 v2 (v3 + (1 : Int32)) μ)
    else (p_ok (¬ v3 < 0 ∧ v3.toNatClampNeg < 4)
      (p_ok (¬ v3 < 0 ∧ v3.toNatClampNeg < 4)
      ((F_X13_step v3 (v4 - v5) (sI μ (aM 46) v3.toNatClampNeg ((mI μ (aM 46) v3.toNatClampNeg) + v5))).bind fun q4 =>
      F_X13_days_c81 K32 K59 n v1 v2 v3 (v4 - v5) q4.1 q4.2)))
theorem P_X13_days_c81 {K32 : Int32 → Int32 → p_M → Option (Int32 × p_M)} {K59 : Int32 → Int32 → Int32 → p_M → Option (Int32 × p_M)} (hP32 : ∀ (v1 : Int32) (v2 : Int32) (μ : p_M) (r : Int32 × p_M), K32 v1 v2 μ = some r → Sm μ r.2) (hP59 : ∀ (v1 : Int32) (v2 : Int32) (v3 : Int32) (μ : p_M) (r : Int32 × p_M), K59 v1 v2 v3 μ = some r → Sm μ r.2) : ∀ (n : Nat) (v1 : Int32) (v2 : Int32) (v3 : Int32) (v4 : Int32) (v5 : Int32) (μ : p_M) (r : Int32 × p_M), F_X13_days_c81 K32 K59 n v1 v2 v3 v4 v5 μ = some r → Sm μ r.2 := by
  intro n
  induction n with
  | zero => intro v1 v2 v3 v4 v5 μ r h; rw [F_X13_days_c81] at h; cases h
  | succ n ih =>
    intro v1 v2 v3 v4 v5 μ r h
    rw [F_X13_days_c81] at h
    by_cases hc : v5 < 0
    · rw [if_pos hc] at h
      exact Sm_trans (Sm_refl μ) (hP59 _ _ _ _ _ h)
    · rw [if_neg hc] at h
      obtain ⟨hc, h⟩ := p_ok_some h
      obtain ⟨hc, h⟩ := p_ok_some h
      obtain ⟨q4, hq4, h⟩ := p_bd h
      exact Sm_trans (Sm_trans (Sm_set (Sm_refl μ) (by decide)) (P_X13_step (r := q4) hq4)) (ih _ _ _ _ _ _ _ h)
theorem E_X13_days_c81 {X : p_X} {d : Nat} {Q : p_R → Prop} {K32 : Int32 → Int32 → p_M → Option (Int32 × p_M)} {K59 : Int32 → Int32 → Int32 → p_M → Option (Int32 × p_M)} (hK32 : ∀ (v1 : Int32) (v2 : Int32) (μ : p_M) (r : Int32 × p_M) (w3 : Value) (w4 : Value) (w5 : Value), ShM μ → K32 v1 v2 μ = some r → Q ((0, some (.int r.1)), r.2) → p_Ev X (d + 4) M_X13_days 32 [.ref tM, .int v1, .int v2, w3, w4, w5] [] μ Q) (hK59 : ∀ (v1 : Int32) (v2 : Int32) (v3 : Int32) (μ : p_M) (r : Int32 × p_M) (w4 : Value) (w5 : Value), ShM μ → K59 v1 v2 v3 μ = some r → Q ((0, some (.int r.1)), r.2) → p_Ev X (d + 4) M_X13_days 59 [.ref tM, .int v1, .int v2, .int v3, w4, w5] [] μ Q) : ∀ (n : Nat) (v1 : Int32) (v2 : Int32) (v3 : Int32) (v4 : Int32) (v5 : Int32) (μ : p_M) (r : Int32 × p_M), ShM μ → F_X13_days_c81 K32 K59 n v1 v2 v3 v4 v5 μ = some r → Q ((0, some (.int r.1)), r.2) → p_Ev X (d + 4) M_X13_days 81 [.ref tM, .int v1, .int v2, .int v3, .int v4, .int v5] [] μ Q := by
  intro n
  induction n with
  | zero => intro v1 v2 v3 v4 v5 μ r hs h hQ; rw [F_X13_days_c81] at h; cases h
  | succ n ih =>
    intro v1 v2 v3 v4 v5 μ r hs h hQ
    rw [F_X13_days_c81] at h
    refine e_iload dX13_days_81 rfl ?_
    refine e_if_lt dX13_days_83 116 (by decide) (fun hc => ?_) (fun hc => ?_)
    · rw [if_pos hc] at h
      refine e_iinc (v := (1 : Int32)) dX13_days_116 rfl rfl rfl ?_
      refine e_goto dX13_days_119 59 (by decide) ?_
      exact hK59 _ _ _ _ _ _ _ hs h hQ
    · rw [if_neg hc] at h
      refine e_iload dX13_days_86 rfl ?_
      refine e_iload dX13_days_88 rfl ?_
      refine e_isub dX13_days_90 ?_
      refine e_istore dX13_days_91 (Nat.le_of_ble_eq_true rfl) rfl ?_
      refine e_aload_n dX13_days_93 rfl ?_
      refine e_getR dX13_days_94 rfl rfl hs.1 hs.2.1 (hs.2.2.2 46 (by decide) rfl).1 ?_
      refine e_iload_n dX13_days_97 rfl ?_
      refine e_dup2 dX13_days_98 ?_
      obtain ⟨hc, h⟩ := p_ok_some h
      refine e_iald dX13_days_99 (Nat.lt_trans (hs.2.2.2 46 (by decide) rfl).2.2.2 hs.2.2.1) (hs.2.2.2 46 (by decide) rfl).2.1 (hs.2.2.2 46 (by decide) rfl).2.2.1 (hs.2.2.2 46 (by decide) rfl).2.2.2 hc ?_
      refine e_iload dX13_days_100 rfl ?_
      refine e_iadd dX13_days_102 ?_
      obtain ⟨hc, h⟩ := p_ok_some h
      refine e_iast dX13_days_103 (hs.2.2.2 46 (by decide) rfl).2.1 (hs.2.2.2 46 (by decide) rfl).2.2.1 (hs.2.2.2 46 (by decide) rfl).2.2.2 hc ?_
      refine e_aload_n dX13_days_104 rfl ?_
      refine e_iload_n dX13_days_105 rfl ?_
      refine e_iload dX13_days_106 rfl ?_
      obtain ⟨q4, hq4, h⟩ := p_bd h
      refine e_cV dX13_days_108 rfl rfl ⟨rfl, rfl, by decide⟩ rfl hs.1 hs.2.1 (E_X13_step hs hq4 ⟨rfl, ?_⟩)
      have hs := ShM_of (P_X13_step hq4) hs
      show p_Ev X (d + 4) M_X13_days 111 [.ref tM, .int v1, .int v2, .int v3, .int (v4 - v5), .int v5] [.int q4.1] q4.2 Q
      refine e_istore dX13_days_111 (Nat.le_of_ble_eq_true rfl) rfl ?_
      refine e_goto dX13_days_113 81 (by decide) ?_
      exact ih _ _ _ _ _ _ _ hs h hQ
def F_X13_days_c59 (K32 : Int32 → Int32 → p_M → Option (Int32 × p_M)) : Nat → Int32 → Int32 → Int32 → p_M → Option (Int32 × p_M)
  | 0, _, _, _, _ => none
  | n + 1, v1, v2, v3, μ =>
    if (mI μ tM 47) ≤ v3
    then (K32 v1 (v2 + (1 : Int32)) μ)
    else ((F_X13_step v3 (480 : Int32) μ).bind fun q3 =>
      F_X13_days_c81 K32 (F_X13_days_c59 K32 n) p_fu v1 v2 v3 (480 : Int32) q3.1 q3.2)
theorem P_X13_days_c59 {K32 : Int32 → Int32 → p_M → Option (Int32 × p_M)} (hP32 : ∀ (v1 : Int32) (v2 : Int32) (μ : p_M) (r : Int32 × p_M), K32 v1 v2 μ = some r → Sm μ r.2) : ∀ (n : Nat) (v1 : Int32) (v2 : Int32) (v3 : Int32) (μ : p_M) (r : Int32 × p_M), F_X13_days_c59 K32 n v1 v2 v3 μ = some r → Sm μ r.2 := by
  intro n
  induction n with
  | zero => intro v1 v2 v3 μ r h; rw [F_X13_days_c59] at h; cases h
  | succ n ih =>
    intro v1 v2 v3 μ r h
    rw [F_X13_days_c59] at h
    by_cases hc : (mI μ tM 47) ≤ v3
    · rw [if_pos hc] at h
      exact Sm_trans (Sm_refl μ) (hP32 _ _ _ _ h)
    · rw [if_neg hc] at h
      obtain ⟨q3, hq3, h⟩ := p_bd h
      exact Sm_trans (Sm_trans (Sm_refl μ) (P_X13_step (r := q3) hq3)) (P_X13_days_c81 hP32 ih p_fu _ _ _ _ _ _ _ h)
theorem E_X13_days_c59 {X : p_X} {d : Nat} {Q : p_R → Prop} {K32 : Int32 → Int32 → p_M → Option (Int32 × p_M)} (hK32 : ∀ (v1 : Int32) (v2 : Int32) (μ : p_M) (r : Int32 × p_M) (w3 : Value) (w4 : Value) (w5 : Value), ShM μ → K32 v1 v2 μ = some r → Q ((0, some (.int r.1)), r.2) → p_Ev X (d + 4) M_X13_days 32 [.ref tM, .int v1, .int v2, w3, w4, w5] [] μ Q) : ∀ (n : Nat) (v1 : Int32) (v2 : Int32) (v3 : Int32) (μ : p_M) (r : Int32 × p_M) (w4 : Value) (w5 : Value), ShM μ → F_X13_days_c59 K32 n v1 v2 v3 μ = some r → Q ((0, some (.int r.1)), r.2) → p_Ev X (d + 4) M_X13_days 59 [.ref tM, .int v1, .int v2, .int v3, w4, w5] [] μ Q := by
  intro n
  induction n with
  | zero => intro v1 v2 v3 μ r w4 w5 hs h hQ; rw [F_X13_days_c59] at h; cases h
  | succ n ih =>
    intro v1 v2 v3 μ r w4 w5 hs h hQ
    rw [F_X13_days_c59] at h
    refine e_iload_n dX13_days_59 rfl ?_
    refine e_aload_n dX13_days_60 rfl ?_
    refine e_getI dX13_days_61 rfl rfl hs.1 hs.2.1 ?_
    refine e_ic_ge dX13_days_64 122 (by decide) (fun hc => ?_) (fun hc => ?_)
    · rw [if_pos hc] at h
      refine e_iinc (v := (1 : Int32)) dX13_days_122 rfl rfl rfl ?_
      refine e_goto dX13_days_125 32 (by decide) ?_
      exact hK32 _ _ _ _ _ _ _ hs h hQ
    · rw [if_neg hc] at h
      refine e_sipush (v := (480 : Int32)) dX13_days_67 rfl ?_
      refine e_istore dX13_days_70 (Nat.le_of_ble_eq_true rfl) rfl ?_
      refine e_aload_n dX13_days_72 rfl ?_
      refine e_iload_n dX13_days_73 rfl ?_
      refine e_iload dX13_days_74 rfl ?_
      obtain ⟨q3, hq3, h⟩ := p_bd h
      refine e_cV dX13_days_76 rfl rfl ⟨rfl, rfl, by decide⟩ rfl hs.1 hs.2.1 (E_X13_step hs hq3 ⟨rfl, ?_⟩)
      have hs := ShM_of (P_X13_step hq3) hs
      show p_Ev X (d + 4) M_X13_days 79 [.ref tM, .int v1, .int v2, .int v3, .int (480 : Int32), w5] [.int q3.1] q3.2 Q
      refine e_istore dX13_days_79 (Nat.le_of_ble_eq_true rfl) rfl ?_
      exact E_X13_days_c81 hK32 ih p_fu _ _ _ _ _ _ _ hs h hQ
def F_X13_days_c128 (μ : p_M) : Option (Int32 × p_M) :=
  some ((mI μ tM 42), μ)
theorem P_X13_days_c128 {μ : p_M} {r : Int32 × p_M} (h : F_X13_days_c128 μ = some r) : Sm μ r.2 := by
  unfold F_X13_days_c128 at h
  cases h
  exact (Sm_refl μ)
theorem E_X13_days_c128 {X : p_X} {d : Nat} {Q : p_R → Prop} {w1 : Value} {w2 : Value} {w3 : Value} {w4 : Value} {w5 : Value} {μ : p_M} {r : Int32 × p_M} (hs : ShM μ) (h : F_X13_days_c128 μ = some r) (hQ : Q ((0, some (.int r.1)), r.2)) : p_Ev X (d + 4) M_X13_days 128 [.ref tM, w1, w2, w3, w4, w5] [] μ Q := by
  unfold F_X13_days_c128 at h
  refine e_aload_n dX13_days_128 rfl ?_
  refine e_getI dX13_days_129 rfl rfl hs.1 hs.2.1 ?_
  cases h
  exact e_ireti dX13_days_132 rfl hQ
def F_X13_days_c32 : Nat → Int32 → Int32 → p_M → Option (Int32 × p_M)
  | 0, _, _, _ => none
  | n + 1, v1, v2, μ =>
    if v1 ≤ v2
    then (F_X13_days_c128 μ)
    else (if (400 : Int32) ≤ (mI μ tM 42)
      then (F_X13_days_c128 μ)
      else (F_X13_days_c59 (F_X13_days_c32 n) p_fu v1 v2 (0 : Int32) (sI μ tM 42 ((mI μ tM 42) + (1 : Int32)))))
theorem P_X13_days_c32 : ∀ (n : Nat) (v1 : Int32) (v2 : Int32) (μ : p_M) (r : Int32 × p_M), F_X13_days_c32 n v1 v2 μ = some r → Sm μ r.2 := by
  intro n
  induction n with
  | zero => intro v1 v2 μ r h; rw [F_X13_days_c32] at h; cases h
  | succ n ih =>
    intro v1 v2 μ r h
    rw [F_X13_days_c32] at h
    by_cases hc : v1 ≤ v2
    · rw [if_pos hc] at h
      exact Sm_trans (Sm_refl μ) (P_X13_days_c128 h)
    · rw [if_neg hc] at h
      by_cases hc : (400 : Int32) ≤ (mI μ tM 42)
      · rw [if_pos hc] at h
        exact Sm_trans (Sm_refl μ) (P_X13_days_c128 h)
      · rw [if_neg hc] at h
        exact Sm_trans (Sm_set (Sm_refl μ) (by decide)) (P_X13_days_c59 ih p_fu _ _ _ _ _ h)
theorem E_X13_days_c32 {X : p_X} {d : Nat} {Q : p_R → Prop} : ∀ (n : Nat) (v1 : Int32) (v2 : Int32) (μ : p_M) (r : Int32 × p_M) (w3 : Value) (w4 : Value) (w5 : Value), ShM μ → F_X13_days_c32 n v1 v2 μ = some r → Q ((0, some (.int r.1)), r.2) → p_Ev X (d + 4) M_X13_days 32 [.ref tM, .int v1, .int v2, w3, w4, w5] [] μ Q := by
  intro n
  induction n with
  | zero => intro v1 v2 μ r w3 w4 w5 hs h hQ; rw [F_X13_days_c32] at h; cases h
  | succ n ih =>
    intro v1 v2 μ r w3 w4 w5 hs h hQ
    rw [F_X13_days_c32] at h
    refine e_iload_n dX13_days_32 rfl ?_
    refine e_iload_n dX13_days_33 rfl ?_
    refine e_ic_ge dX13_days_34 128 (by decide) (fun hc => ?_) (fun hc => ?_)
    · rw [if_pos hc] at h
      exact E_X13_days_c128 hs h hQ
    · rw [if_neg hc] at h
      refine e_aload_n dX13_days_37 rfl ?_
      refine e_getI dX13_days_38 rfl rfl hs.1 hs.2.1 ?_
      refine e_sipush (v := (400 : Int32)) dX13_days_41 rfl ?_
      refine e_ic_ge dX13_days_44 128 (by decide) (fun hc => ?_) (fun hc => ?_)
      · rw [if_pos hc] at h
        exact E_X13_days_c128 hs h hQ
      · rw [if_neg hc] at h
        refine e_aload_n dX13_days_47 rfl ?_
        refine e_dupR dX13_days_48 ?_
        refine e_getI dX13_days_49 rfl rfl hs.1 hs.2.1 ?_
        refine e_iconst (v := (1 : Int32)) dX13_days_52 rfl ?_
        refine e_iadd dX13_days_53 ?_
        refine e_putI dX13_days_54 rfl ⟨rfl, rfl, fun h => by cases h⟩ (fun h => by cases h) hs.1 hs.2.1 ?_
        refine e_iconst (v := (0 : Int32)) dX13_days_57 rfl ?_
        refine e_istore_n dX13_days_58 (Nat.le_of_ble_eq_true rfl) rfl ?_
        exact E_X13_days_c59 ih p_fu _ _ _ _ _ _ _ hs h hQ
def F_X13_days_c21 (v1 : Int32) (s0 : Int32) (μ : p_M) : Option (Int32 × p_M) :=
  (F_X13_throwsIf s0 (1 : Int32) μ).bind fun q2 =>
  if q2.1 = 0
  then (F_X13_days_c32 p_fu v1 (0 : Int32) q2.2)
  else (some ((0 : Int32), q2.2))
theorem P_X13_days_c21 {v1 : Int32} {s0 : Int32} {μ : p_M} {r : Int32 × p_M} (h : F_X13_days_c21 v1 s0 μ = some r) : Sm μ r.2 := by
  unfold F_X13_days_c21 at h
  obtain ⟨q2, hq2, h⟩ := p_bd h
  by_cases hc : q2.1 = 0
  · rw [if_pos hc] at h
    exact Sm_trans (Sm_trans (Sm_refl μ) (P_X13_throwsIf (r := q2) hq2)) (P_X13_days_c32 p_fu _ _ _ _ h)
  · rw [if_neg hc] at h
    cases h
    exact (Sm_trans (Sm_refl μ) (P_X13_throwsIf (r := q2) hq2))
theorem E_X13_days_c21 {X : p_X} {d : Nat} {Q : p_R → Prop} {v1 : Int32} {s0 : Int32} {w2 : Value} {w3 : Value} {w4 : Value} {w5 : Value} {μ : p_M} {r : Int32 × p_M} (hs : ShM μ) (h : F_X13_days_c21 v1 s0 μ = some r) (hQ : Q ((0, some (.int r.1)), r.2)) : p_Ev X (d + 4) M_X13_days 21 [.ref tM, .int v1, w2, w3, w4, w5] [.int s0, .ref tM] μ Q := by
  unfold F_X13_days_c21 at h
  refine e_iconst (v := (1 : Int32)) dX13_days_21 rfl ?_
  obtain ⟨q2, hq2, h⟩ := p_bd h
  refine e_cV dX13_days_22 rfl rfl ⟨rfl, rfl, by decide⟩ rfl hs.1 hs.2.1 (E_X13_throwsIf hs hq2 ⟨rfl, ?_⟩)
  have hs := ShM_of (P_X13_throwsIf hq2) hs
  show p_Ev X (d + 4) M_X13_days 25 [.ref tM, .int v1, w2, w3, w4, w5] [.int q2.1] q2.2 Q
  refine e_if_eq dX13_days_25 30 (by decide) (fun hc => ?_) (fun hc => ?_)
  · rw [if_pos hc] at h
    refine e_iconst (v := (0 : Int32)) dX13_days_30 rfl ?_
    refine e_istore_n dX13_days_31 (Nat.le_of_ble_eq_true rfl) rfl ?_
    exact E_X13_days_c32 p_fu _ _ _ _ _ _ _ hs h hQ
  · rw [if_neg hc] at h
    refine e_iconst (v := (0 : Int32)) dX13_days_28 rfl ?_
    cases h
    exact e_ireti dX13_days_29 rfl hQ
def F_X13_days (v1 : Int32) (μ : p_M) : Option (Int32 × p_M) :=
  (F_X13_in v1 (0 : Int32) (60 : Int32) (sI μ tM 0 (0 : Int32))).bind fun q1 =>
  if ¬ q1.1 = 0
  then (F_X13_days_c21 v1 (0 : Int32) q1.2)
  else (F_X13_days_c21 v1 (1 : Int32) q1.2)
theorem P_X13_days {v1 : Int32} {μ : p_M} {r : Int32 × p_M} (h : F_X13_days v1 μ = some r) : Sm μ r.2 := by
  unfold F_X13_days at h
  obtain ⟨q1, hq1, h⟩ := p_bd h
  by_cases hc : ¬ q1.1 = 0
  · rw [if_pos hc] at h
    exact Sm_trans (Sm_trans (Sm_set (Sm_refl μ) (by decide)) (P_X13_in (r := q1) hq1)) (P_X13_days_c21 h)
  · rw [if_neg hc] at h
    exact Sm_trans (Sm_trans (Sm_set (Sm_refl μ) (by decide)) (P_X13_in (r := q1) hq1)) (P_X13_days_c21 h)
theorem E_X13_days {X : p_X} {d : Nat} {Q : p_R → Prop} {v1 : Int32} {μ : p_M} {r : Int32 × p_M} (hs : ShM μ) (h : F_X13_days v1 μ = some r) (hQ : Q ((0, some (.int r.1)), r.2)) : p_Ev X (d + 4) M_X13_days 0 [.ref tM, .int v1, .double 0, .double 0, .double 0, .double 0] [] μ Q := by
  unfold F_X13_days at h
  refine e_aload_n dX13_days_0 rfl ?_
  refine e_iconst (v := (0 : Int32)) dX13_days_1 rfl ?_
  refine e_putI dX13_days_2 rfl ⟨rfl, rfl, fun h => by cases h⟩ (fun h => by cases h) hs.1 hs.2.1 ?_
  refine e_aload_n dX13_days_5 rfl ?_
  refine e_iload_n dX13_days_6 rfl ?_
  refine e_iconst (v := (0 : Int32)) dX13_days_7 rfl ?_
  refine e_bipush (v := (60 : Int32)) dX13_days_8 rfl ?_
  obtain ⟨q1, hq1, h⟩ := p_bd h
  refine e_cS dX13_days_10 rfl rfl rfl rfl (E_X13_in hs hq1 ⟨rfl, ?_⟩)
  have hs := ShM_of (P_X13_in hq1) hs
  show p_Ev X (d + 4) M_X13_days 13 [.ref tM, .int v1, .double 0, .double 0, .double 0, .double 0] [.int q1.1, .ref tM] q1.2 Q
  refine e_if_ne dX13_days_13 20 (by decide) (fun hc => ?_) (fun hc => ?_)
  · rw [if_pos hc] at h
    refine e_iconst (v := (0 : Int32)) dX13_days_20 rfl ?_
    exact E_X13_days_c21 hs h hQ
  · rw [if_neg hc] at h
    refine e_iconst (v := (1 : Int32)) dX13_days_16 rfl ?_
    refine e_goto dX13_days_17 21 (by decide) ?_
    exact E_X13_days_c21 hs h hQ
/-! X13_gathers -/
def F_X13_gathers_c185 (K7 : Int32 → Int32 → p_M → Option (Int32 × p_M)) (K17 : Int32 → Int32 → Int32 → p_M → Option (Int32 × p_M)) (v1 : Int32) (v2 : Int32) (v3 : Int32) (μ : p_M) : Option (Int32 × p_M) :=
  K17 v1 v2 (v3 + (1 : Int32)) μ
theorem P_X13_gathers_c185 {K7 : Int32 → Int32 → p_M → Option (Int32 × p_M)} {K17 : Int32 → Int32 → Int32 → p_M → Option (Int32 × p_M)} (hP7 : ∀ (v1 : Int32) (v2 : Int32) (μ : p_M) (r : Int32 × p_M), K7 v1 v2 μ = some r → Sm μ r.2) (hP17 : ∀ (v1 : Int32) (v2 : Int32) (v3 : Int32) (μ : p_M) (r : Int32 × p_M), K17 v1 v2 v3 μ = some r → Sm μ r.2) {v1 : Int32} {v2 : Int32} {v3 : Int32} {μ : p_M} {r : Int32 × p_M} (h : F_X13_gathers_c185 K7 K17 v1 v2 v3 μ = some r) : Sm μ r.2 := by
  unfold F_X13_gathers_c185 at h
  exact Sm_trans (Sm_refl μ) (hP17 _ _ _ _ _ h)
theorem E_X13_gathers_c185 {X : p_X} {d : Nat} {Q : p_R → Prop} {K7 : Int32 → Int32 → p_M → Option (Int32 × p_M)} {K17 : Int32 → Int32 → Int32 → p_M → Option (Int32 × p_M)} (hK7 : ∀ (v1 : Int32) (v2 : Int32) (μ : p_M) (r : Int32 × p_M) (w3 : Value) (w4 : Value) (w5 : Value), ShM μ → K7 v1 v2 μ = some r → Q ((0, none), r.2) → p_Ev X (d + 2) M_X13_gathers 7 [.ref tM, .int v1, .int v2, w3, w4, w5] [] μ Q) (hK17 : ∀ (v1 : Int32) (v2 : Int32) (v3 : Int32) (μ : p_M) (r : Int32 × p_M) (w4 : Value) (w5 : Value), ShM μ → K17 v1 v2 v3 μ = some r → Q ((0, none), r.2) → p_Ev X (d + 2) M_X13_gathers 17 [.ref tM, .int v1, .int v2, .int v3, w4, w5] [] μ Q) {v1 : Int32} {v2 : Int32} {v3 : Int32} {w4 : Value} {w5 : Value} {μ : p_M} {r : Int32 × p_M} (hs : ShM μ) (h : F_X13_gathers_c185 K7 K17 v1 v2 v3 μ = some r) (hQ : Q ((0, none), r.2)) : p_Ev X (d + 2) M_X13_gathers 185 [.ref tM, .int v1, .int v2, .int v3, w4, w5] [] μ Q := by
  unfold F_X13_gathers_c185 at h
  refine e_iinc (v := (1 : Int32)) dX13_gathers_185 rfl rfl rfl ?_
  refine e_goto dX13_gathers_188 17 (by decide) ?_
  exact hK17 _ _ _ _ _ _ _ hs h hQ
def F_X13_gathers_c153 (K7 : Int32 → Int32 → p_M → Option (Int32 × p_M)) (K17 : Int32 → Int32 → Int32 → p_M → Option (Int32 × p_M)) (v1 : Int32) (v2 : Int32) (v3 : Int32) (v4 : Int32) (v5 : Int32) (μ : p_M) : Option (Int32 × p_M) :=
  p_ok (¬ v5 < 0 ∧ v5.toNatClampNeg < 2400)
  (p_ok (¬ v5 < 0 ∧ v5.toNatClampNeg < 2400)
  (F_X13_gathers_c185 K7 K17 v1 v2 v3 (sI (sI (sI μ (aM 72) v5.toNatClampNeg v4) (aM 71) v5.toNatClampNeg (((60 : Int32) * v2) + v3)) tM 73 ((mI (sI (sI μ (aM 72) v5.toNatClampNeg v4) (aM 71) v5.toNatClampNeg (((60 : Int32) * v2) + v3)) tM 73) + (1 : Int32)))))
theorem P_X13_gathers_c153 {K7 : Int32 → Int32 → p_M → Option (Int32 × p_M)} {K17 : Int32 → Int32 → Int32 → p_M → Option (Int32 × p_M)} (hP7 : ∀ (v1 : Int32) (v2 : Int32) (μ : p_M) (r : Int32 × p_M), K7 v1 v2 μ = some r → Sm μ r.2) (hP17 : ∀ (v1 : Int32) (v2 : Int32) (v3 : Int32) (μ : p_M) (r : Int32 × p_M), K17 v1 v2 v3 μ = some r → Sm μ r.2) {v1 : Int32} {v2 : Int32} {v3 : Int32} {v4 : Int32} {v5 : Int32} {μ : p_M} {r : Int32 × p_M} (h : F_X13_gathers_c153 K7 K17 v1 v2 v3 v4 v5 μ = some r) : Sm μ r.2 := by
  unfold F_X13_gathers_c153 at h
  obtain ⟨hc, h⟩ := p_ok_some h
  obtain ⟨hc, h⟩ := p_ok_some h
  exact Sm_trans (Sm_set (Sm_set (Sm_set (Sm_refl μ) (by decide)) (by decide)) (by decide)) (P_X13_gathers_c185 hP7 hP17 h)
theorem E_X13_gathers_c153 {X : p_X} {d : Nat} {Q : p_R → Prop} {K7 : Int32 → Int32 → p_M → Option (Int32 × p_M)} {K17 : Int32 → Int32 → Int32 → p_M → Option (Int32 × p_M)} (hK7 : ∀ (v1 : Int32) (v2 : Int32) (μ : p_M) (r : Int32 × p_M) (w3 : Value) (w4 : Value) (w5 : Value), ShM μ → K7 v1 v2 μ = some r → Q ((0, none), r.2) → p_Ev X (d + 2) M_X13_gathers 7 [.ref tM, .int v1, .int v2, w3, w4, w5] [] μ Q) (hK17 : ∀ (v1 : Int32) (v2 : Int32) (v3 : Int32) (μ : p_M) (r : Int32 × p_M) (w4 : Value) (w5 : Value), ShM μ → K17 v1 v2 v3 μ = some r → Q ((0, none), r.2) → p_Ev X (d + 2) M_X13_gathers 17 [.ref tM, .int v1, .int v2, .int v3, w4, w5] [] μ Q) {v1 : Int32} {v2 : Int32} {v3 : Int32} {v4 : Int32} {v5 : Int32} {μ : p_M} {r : Int32 × p_M} (hs : ShM μ) (h : F_X13_gathers_c153 K7 K17 v1 v2 v3 v4 v5 μ = some r) (hQ : Q ((0, none), r.2)) : p_Ev X (d + 2) M_X13_gathers 153 [.ref tM, .int v1, .int v2, .int v3, .int v4, .int v5] [] μ Q := by
  unfold F_X13_gathers_c153 at h
  refine e_aload_n dX13_gathers_153 rfl ?_
  refine e_getR dX13_gathers_154 rfl rfl hs.1 hs.2.1 (hs.2.2.2 72 (by decide) rfl).1 ?_
  refine e_iload dX13_gathers_157 rfl ?_
  refine e_iload dX13_gathers_159 rfl ?_
  obtain ⟨hc, h⟩ := p_ok_some h
  refine e_iast dX13_gathers_161 (hs.2.2.2 72 (by decide) rfl).2.1 (hs.2.2.2 72 (by decide) rfl).2.2.1 (hs.2.2.2 72 (by decide) rfl).2.2.2 hc ?_
  refine e_aload_n dX13_gathers_162 rfl ?_
  refine e_getR dX13_gathers_163 rfl rfl hs.1 hs.2.1 (hs.2.2.2 71 (by decide) rfl).1 ?_
  refine e_iload dX13_gathers_166 rfl ?_
  refine e_bipush (v := (60 : Int32)) dX13_gathers_168 rfl ?_
  refine e_iload_n dX13_gathers_170 rfl ?_
  refine e_imul dX13_gathers_171 ?_
  refine e_iload_n dX13_gathers_172 rfl ?_
  refine e_iadd dX13_gathers_173 ?_
  obtain ⟨hc, h⟩ := p_ok_some h
  refine e_iast dX13_gathers_174 (hs.2.2.2 71 (by decide) rfl).2.1 (hs.2.2.2 71 (by decide) rfl).2.2.1 (hs.2.2.2 71 (by decide) rfl).2.2.2 hc ?_
  refine e_aload_n dX13_gathers_175 rfl ?_
  refine e_dupR dX13_gathers_176 ?_
  refine e_getI dX13_gathers_177 rfl rfl hs.1 hs.2.1 ?_
  refine e_iconst (v := (1 : Int32)) dX13_gathers_180 rfl ?_
  refine e_iadd dX13_gathers_181 ?_
  refine e_putI dX13_gathers_182 rfl ⟨rfl, rfl, fun h => by cases h⟩ (fun h => by cases h) hs.1 hs.2.1 ?_
  exact E_X13_gathers_c185 hK7 hK17 hs h hQ
def F_X13_gathers_c96 (K7 : Int32 → Int32 → p_M → Option (Int32 × p_M)) (K17 : Int32 → Int32 → Int32 → p_M → Option (Int32 × p_M)) : Nat → Int32 → Int32 → Int32 → Int32 → Int32 → p_M → Option (Int32 × p_M)
  | 0, _, _, _, _, _, _ => none
  | n + 1, v1, v2, v3, v4, v5, μ =>
    if v5 ≤ 0
    then (F_X13_gathers_c153 K7 K17 v1 v2 v3 v4 v5 μ)
    else (p_ok (¬ (v5 - (1 : Int32)) < 0 ∧ (v5 - (1 : Int32)).toNatClampNeg < 2400)
      (if (mI μ (aM 72) (v5 - (1 : Int32)).toNatClampNeg) ≤ v4
      then (F_X13_gathers_c153 K7 K17 v1 v2 v3 v4 v5 μ)
      else (p_ok (¬ (v5 - (1 : Int32)) < 0 ∧ (v5 - (1 : Int32)).toNatClampNeg < 2400)
        (p_ok (¬ v5 < 0 ∧ v5.toNatClampNeg < 2400)
        (p_ok (¬ (v5 - (1 : Int32)) < 0 ∧ (v5 - (1 : Int32)).toNatClampNeg < 2400)
        (p_ok (¬ v5 < 0 ∧ v5.toNatClampNeg < 2400)
        (F_X13_gathers_c96 K7 K17 n v1 v2 v3 v4 (v5 + (-1)) (sI (sI μ (aM 72) v5.toNatClampNeg (mI μ (aM 72) (v5 - (1 : Int32)).toNatClampNeg)) (aM 71) v5.toNatClampNeg (mI (sI μ (aM 72) v5.toNatClampNeg (mI μ (aM 72) (v5 - (1 : Int32)).toNatClampNeg)) (aM 71) (v5 - (1 : Int32)).toNatClampNeg)))))))))
theorem P_X13_gathers_c96 {K7 : Int32 → Int32 → p_M → Option (Int32 × p_M)} {K17 : Int32 → Int32 → Int32 → p_M → Option (Int32 × p_M)} (hP7 : ∀ (v1 : Int32) (v2 : Int32) (μ : p_M) (r : Int32 × p_M), K7 v1 v2 μ = some r → Sm μ r.2) (hP17 : ∀ (v1 : Int32) (v2 : Int32) (v3 : Int32) (μ : p_M) (r : Int32 × p_M), K17 v1 v2 v3 μ = some r → Sm μ r.2) : ∀ (n : Nat) (v1 : Int32) (v2 : Int32) (v3 : Int32) (v4 : Int32) (v5 : Int32) (μ : p_M) (r : Int32 × p_M), F_X13_gathers_c96 K7 K17 n v1 v2 v3 v4 v5 μ = some r → Sm μ r.2 := by
  intro n
  induction n with
  | zero => intro v1 v2 v3 v4 v5 μ r h; rw [F_X13_gathers_c96] at h; cases h
  | succ n ih =>
    intro v1 v2 v3 v4 v5 μ r h
    rw [F_X13_gathers_c96] at h
    by_cases hc : v5 ≤ 0
    · rw [if_pos hc] at h
      exact Sm_trans (Sm_refl μ) (P_X13_gathers_c153 hP7 hP17 h)
    · rw [if_neg hc] at h
      obtain ⟨hc, h⟩ := p_ok_some h
      by_cases hc : (mI μ (aM 72) (v5 - (1 : Int32)).toNatClampNeg) ≤ v4
      · rw [if_pos hc] at h
        exact Sm_trans (Sm_refl μ) (P_X13_gathers_c153 hP7 hP17 h)
      · rw [if_neg hc] at h
        obtain ⟨hc, h⟩ := p_ok_some h
        obtain ⟨hc, h⟩ := p_ok_some h
        obtain ⟨hc, h⟩ := p_ok_some h
        obtain ⟨hc, h⟩ := p_ok_some h
        exact Sm_trans (Sm_set (Sm_set (Sm_refl μ) (by decide)) (by decide)) (ih _ _ _ _ _ _ _ h)
theorem E_X13_gathers_c96 {X : p_X} {d : Nat} {Q : p_R → Prop} {K7 : Int32 → Int32 → p_M → Option (Int32 × p_M)} {K17 : Int32 → Int32 → Int32 → p_M → Option (Int32 × p_M)} (hK7 : ∀ (v1 : Int32) (v2 : Int32) (μ : p_M) (r : Int32 × p_M) (w3 : Value) (w4 : Value) (w5 : Value), ShM μ → K7 v1 v2 μ = some r → Q ((0, none), r.2) → p_Ev X (d + 2) M_X13_gathers 7 [.ref tM, .int v1, .int v2, w3, w4, w5] [] μ Q) (hK17 : ∀ (v1 : Int32) (v2 : Int32) (v3 : Int32) (μ : p_M) (r : Int32 × p_M) (w4 : Value) (w5 : Value), ShM μ → K17 v1 v2 v3 μ = some r → Q ((0, none), r.2) → p_Ev X (d + 2) M_X13_gathers 17 [.ref tM, .int v1, .int v2, .int v3, w4, w5] [] μ Q) : ∀ (n : Nat) (v1 : Int32) (v2 : Int32) (v3 : Int32) (v4 : Int32) (v5 : Int32) (μ : p_M) (r : Int32 × p_M), ShM μ → F_X13_gathers_c96 K7 K17 n v1 v2 v3 v4 v5 μ = some r → Q ((0, none), r.2) → p_Ev X (d + 2) M_X13_gathers 96 [.ref tM, .int v1, .int v2, .int v3, .int v4, .int v5] [] μ Q := by
  intro n
  induction n with
  | zero => intro v1 v2 v3 v4 v5 μ r hs h hQ; rw [F_X13_gathers_c96] at h; cases h
  | succ n ih =>
    intro v1 v2 v3 v4 v5 μ r hs h hQ
    rw [F_X13_gathers_c96] at h
    refine e_iload dX13_gathers_96 rfl ?_
    refine e_if_le dX13_gathers_98 153 (by decide) (fun hc => ?_) (fun hc => ?_)
    · rw [if_pos hc] at h
      exact E_X13_gathers_c153 hK7 hK17 hs h hQ
    · rw [if_neg hc] at h
      refine e_aload_n dX13_gathers_101 rfl ?_
      refine e_getR dX13_gathers_102 rfl rfl hs.1 hs.2.1 (hs.2.2.2 72 (by decide) rfl).1 ?_
      refine e_iload dX13_gathers_105 rfl ?_
      refine e_iconst (v := (1 : Int32)) dX13_gathers_107 rfl ?_
      refine e_isub dX13_gathers_108 ?_
      obtain ⟨hc, h⟩ := p_ok_some h
      refine e_iald dX13_gathers_109 (Nat.lt_trans (hs.2.2.2 72 (by decide) rfl).2.2.2 hs.2.2.1) (hs.2.2.2 72 (by decide) rfl).2.1 (hs.2.2.2 72 (by decide) rfl).2.2.1 (hs.2.2.2 72 (by decide) rfl).2.2.2 hc ?_
      refine e_iload dX13_gathers_110 rfl ?_
      refine e_ic_le dX13_gathers_112 153 (by decide) (fun hc => ?_) (fun hc => ?_)
      · rw [if_pos hc] at h
        exact E_X13_gathers_c153 hK7 hK17 hs h hQ
      · rw [if_neg hc] at h
        refine e_aload_n dX13_gathers_115 rfl ?_
        refine e_getR dX13_gathers_116 rfl rfl hs.1 hs.2.1 (hs.2.2.2 72 (by decide) rfl).1 ?_
        refine e_iload dX13_gathers_119 rfl ?_
        refine e_aload_n dX13_gathers_121 rfl ?_
        refine e_getR dX13_gathers_122 rfl rfl hs.1 hs.2.1 (hs.2.2.2 72 (by decide) rfl).1 ?_
        refine e_iload dX13_gathers_125 rfl ?_
        refine e_iconst (v := (1 : Int32)) dX13_gathers_127 rfl ?_
        refine e_isub dX13_gathers_128 ?_
        obtain ⟨hc, h⟩ := p_ok_some h
        refine e_iald dX13_gathers_129 (Nat.lt_trans (hs.2.2.2 72 (by decide) rfl).2.2.2 hs.2.2.1) (hs.2.2.2 72 (by decide) rfl).2.1 (hs.2.2.2 72 (by decide) rfl).2.2.1 (hs.2.2.2 72 (by decide) rfl).2.2.2 hc ?_
        obtain ⟨hc, h⟩ := p_ok_some h
        refine e_iast dX13_gathers_130 (hs.2.2.2 72 (by decide) rfl).2.1 (hs.2.2.2 72 (by decide) rfl).2.2.1 (hs.2.2.2 72 (by decide) rfl).2.2.2 hc ?_
        refine e_aload_n dX13_gathers_131 rfl ?_
        refine e_getR dX13_gathers_132 rfl rfl hs.1 hs.2.1 (hs.2.2.2 71 (by decide) rfl).1 ?_
        refine e_iload dX13_gathers_135 rfl ?_
        refine e_aload_n dX13_gathers_137 rfl ?_
        refine e_getR dX13_gathers_138 rfl rfl hs.1 hs.2.1 (hs.2.2.2 71 (by decide) rfl).1 ?_
        refine e_iload dX13_gathers_141 rfl ?_
        refine e_iconst (v := (1 : Int32)) dX13_gathers_143 rfl ?_
        refine e_isub dX13_gathers_144 ?_
        obtain ⟨hc, h⟩ := p_ok_some h
        refine e_iald dX13_gathers_145 (Nat.lt_trans (hs.2.2.2 71 (by decide) rfl).2.2.2 hs.2.2.1) (hs.2.2.2 71 (by decide) rfl).2.1 (hs.2.2.2 71 (by decide) rfl).2.2.1 (hs.2.2.2 71 (by decide) rfl).2.2.2 hc ?_
        obtain ⟨hc, h⟩ := p_ok_some h
        refine e_iast dX13_gathers_146 (hs.2.2.2 71 (by decide) rfl).2.1 (hs.2.2.2 71 (by decide) rfl).2.2.1 (hs.2.2.2 71 (by decide) rfl).2.2.2 hc ?_
        refine e_iinc (v := (-1)) dX13_gathers_147 rfl rfl rfl ?_
        refine e_goto dX13_gathers_150 96 (by decide) ?_
        exact ih _ _ _ _ _ _ _ hs h hQ
def F_X13_gathers_c17 (K7 : Int32 → Int32 → p_M → Option (Int32 × p_M)) : Nat → Int32 → Int32 → Int32 → p_M → Option (Int32 × p_M)
  | 0, _, _, _, _ => none
  | n + 1, v1, v2, v3, μ =>
    p_ok (¬ v2 < 0 ∧ v2.toNatClampNeg < 40)
    (if (mI μ (aM 49) v2.toNatClampNeg) ≤ v3
    then (K7 v1 (v2 + (1 : Int32)) μ)
    else (p_ok (¬ v2 < 0 ∧ v2.toNatClampNeg < 40)
      (if ¬ (mI μ (aM 48) v2.toNatClampNeg) = v1
      then (F_X13_gathers_c185 K7 (F_X13_gathers_c17 K7 n) v1 v2 v3 μ)
      else (p_ok (¬ v2 < 0 ∧ v2.toNatClampNeg < 40)
        (if ¬ (mI μ (aM 55) v2.toNatClampNeg) = (3 : Int32)
        then (F_X13_gathers_c185 K7 (F_X13_gathers_c17 K7 n) v1 v2 v3 μ)
        else (p_ok (¬ (((60 : Int32) * v2) + v3) < 0 ∧ (((60 : Int32) * v2) + v3).toNatClampNeg < 2400)
          (if ¬ (mI μ (aM 64) (((60 : Int32) * v2) + v3).toNatClampNeg) = 0
          then (F_X13_gathers_c185 K7 (F_X13_gathers_c17 K7 n) v1 v2 v3 μ)
          else ((F_X13_knownOf v2 v3 (mI μ tM 42) μ).bind fun q1 =>
            if q1.1 = (2 : Int32)
            then ((F_X13_shadeOf v2 v3 (mI q1.2 tM 42) q1.2).bind fun q2 =>
              F_X13_gathers_c96 K7 (F_X13_gathers_c17 K7 n) p_fu v1 v2 v3 q2.1 (mI q2.2 tM 73) q2.2)
            else (F_X13_gathers_c185 K7 (F_X13_gathers_c17 K7 n) v1 v2 v3 q1.2)))))))))
theorem P_X13_gathers_c17 {K7 : Int32 → Int32 → p_M → Option (Int32 × p_M)} (hP7 : ∀ (v1 : Int32) (v2 : Int32) (μ : p_M) (r : Int32 × p_M), K7 v1 v2 μ = some r → Sm μ r.2) : ∀ (n : Nat) (v1 : Int32) (v2 : Int32) (v3 : Int32) (μ : p_M) (r : Int32 × p_M), F_X13_gathers_c17 K7 n v1 v2 v3 μ = some r → Sm μ r.2 := by
  intro n
  induction n with
  | zero => intro v1 v2 v3 μ r h; rw [F_X13_gathers_c17] at h; cases h
  | succ n ih =>
    intro v1 v2 v3 μ r h
    rw [F_X13_gathers_c17] at h
    obtain ⟨hc, h⟩ := p_ok_some h
    by_cases hc : (mI μ (aM 49) v2.toNatClampNeg) ≤ v3
    · rw [if_pos hc] at h
      exact Sm_trans (Sm_refl μ) (hP7 _ _ _ _ h)
    · rw [if_neg hc] at h
      obtain ⟨hc, h⟩ := p_ok_some h
      by_cases hc : ¬ (mI μ (aM 48) v2.toNatClampNeg) = v1
      · rw [if_pos hc] at h
        exact Sm_trans (Sm_refl μ) (P_X13_gathers_c185 hP7 ih h)
      · rw [if_neg hc] at h
        obtain ⟨hc, h⟩ := p_ok_some h
        by_cases hc : ¬ (mI μ (aM 55) v2.toNatClampNeg) = (3 : Int32)
        · rw [if_pos hc] at h
          exact Sm_trans (Sm_refl μ) (P_X13_gathers_c185 hP7 ih h)
        · rw [if_neg hc] at h
          obtain ⟨hc, h⟩ := p_ok_some h
          by_cases hc : ¬ (mI μ (aM 64) (((60 : Int32) * v2) + v3).toNatClampNeg) = 0
          · rw [if_pos hc] at h
            exact Sm_trans (Sm_refl μ) (P_X13_gathers_c185 hP7 ih h)
          · rw [if_neg hc] at h
            obtain ⟨q1, hq1, h⟩ := p_bd h
            by_cases hc : q1.1 = (2 : Int32)
            · rw [if_pos hc] at h
              obtain ⟨q2, hq2, h⟩ := p_bd h
              exact Sm_trans (Sm_trans (Sm_trans (Sm_refl μ) (P_X13_knownOf (r := q1) hq1)) (P_X13_shadeOf (r := q2) hq2)) (P_X13_gathers_c96 hP7 ih p_fu _ _ _ _ _ _ _ h)
            · rw [if_neg hc] at h
              exact Sm_trans (Sm_trans (Sm_refl μ) (P_X13_knownOf (r := q1) hq1)) (P_X13_gathers_c185 hP7 ih h)
theorem E_X13_gathers_c17 {X : p_X} {d : Nat} {Q : p_R → Prop} {K7 : Int32 → Int32 → p_M → Option (Int32 × p_M)} (hK7 : ∀ (v1 : Int32) (v2 : Int32) (μ : p_M) (r : Int32 × p_M) (w3 : Value) (w4 : Value) (w5 : Value), ShM μ → K7 v1 v2 μ = some r → Q ((0, none), r.2) → p_Ev X (d + 2) M_X13_gathers 7 [.ref tM, .int v1, .int v2, w3, w4, w5] [] μ Q) : ∀ (n : Nat) (v1 : Int32) (v2 : Int32) (v3 : Int32) (μ : p_M) (r : Int32 × p_M) (w4 : Value) (w5 : Value), ShM μ → F_X13_gathers_c17 K7 n v1 v2 v3 μ = some r → Q ((0, none), r.2) → p_Ev X (d + 2) M_X13_gathers 17 [.ref tM, .int v1, .int v2, .int v3, w4, w5] [] μ Q := by
  intro n
  induction n with
  | zero => intro v1 v2 v3 μ r w4 w5 hs h hQ; rw [F_X13_gathers_c17] at h; cases h
  | succ n ih =>
    intro v1 v2 v3 μ r w4 w5 hs h hQ
    rw [F_X13_gathers_c17] at h
    refine e_iload_n dX13_gathers_17 rfl ?_
    refine e_aload_n dX13_gathers_18 rfl ?_
    refine e_getR dX13_gathers_19 rfl rfl hs.1 hs.2.1 (hs.2.2.2 49 (by decide) rfl).1 ?_
    refine e_iload_n dX13_gathers_22 rfl ?_
    obtain ⟨hc, h⟩ := p_ok_some h
    refine e_iald dX13_gathers_23 (Nat.lt_trans (hs.2.2.2 49 (by decide) rfl).2.2.2 hs.2.2.1) (hs.2.2.2 49 (by decide) rfl).2.1 (hs.2.2.2 49 (by decide) rfl).2.2.1 (hs.2.2.2 49 (by decide) rfl).2.2.2 hc ?_
    refine e_ic_ge dX13_gathers_24 191 (by decide) (fun hc => ?_) (fun hc => ?_)
    · rw [if_pos hc] at h
      refine e_iinc (v := (1 : Int32)) dX13_gathers_191 rfl rfl rfl ?_
      refine e_goto dX13_gathers_194 7 (by decide) ?_
      exact hK7 _ _ _ _ _ _ _ hs h hQ
    · rw [if_neg hc] at h
      refine e_aload_n dX13_gathers_27 rfl ?_
      refine e_getR dX13_gathers_28 rfl rfl hs.1 hs.2.1 (hs.2.2.2 48 (by decide) rfl).1 ?_
      refine e_iload_n dX13_gathers_31 rfl ?_
      obtain ⟨hc, h⟩ := p_ok_some h
      refine e_iald dX13_gathers_32 (Nat.lt_trans (hs.2.2.2 48 (by decide) rfl).2.2.2 hs.2.2.1) (hs.2.2.2 48 (by decide) rfl).2.1 (hs.2.2.2 48 (by decide) rfl).2.2.1 (hs.2.2.2 48 (by decide) rfl).2.2.2 hc ?_
      refine e_iload_n dX13_gathers_33 rfl ?_
      refine e_ic_ne dX13_gathers_34 185 (by decide) (fun hc => ?_) (fun hc => ?_)
      · rw [if_pos hc] at h
        exact E_X13_gathers_c185 hK7 ih hs h hQ
      · rw [if_neg hc] at h
        refine e_aload_n dX13_gathers_37 rfl ?_
        refine e_getR dX13_gathers_38 rfl rfl hs.1 hs.2.1 (hs.2.2.2 55 (by decide) rfl).1 ?_
        refine e_iload_n dX13_gathers_41 rfl ?_
        obtain ⟨hc, h⟩ := p_ok_some h
        refine e_iald dX13_gathers_42 (Nat.lt_trans (hs.2.2.2 55 (by decide) rfl).2.2.2 hs.2.2.1) (hs.2.2.2 55 (by decide) rfl).2.1 (hs.2.2.2 55 (by decide) rfl).2.2.1 (hs.2.2.2 55 (by decide) rfl).2.2.2 hc ?_
        refine e_iconst (v := (3 : Int32)) dX13_gathers_43 rfl ?_
        refine e_ic_ne dX13_gathers_44 185 (by decide) (fun hc => ?_) (fun hc => ?_)
        · rw [if_pos hc] at h
          exact E_X13_gathers_c185 hK7 ih hs h hQ
        · rw [if_neg hc] at h
          refine e_aload_n dX13_gathers_47 rfl ?_
          refine e_getR dX13_gathers_48 rfl rfl hs.1 hs.2.1 (hs.2.2.2 64 (by decide) rfl).1 ?_
          refine e_bipush (v := (60 : Int32)) dX13_gathers_51 rfl ?_
          refine e_iload_n dX13_gathers_53 rfl ?_
          refine e_imul dX13_gathers_54 ?_
          refine e_iload_n dX13_gathers_55 rfl ?_
          refine e_iadd dX13_gathers_56 ?_
          obtain ⟨hc, h⟩ := p_ok_some h
          refine e_iald dX13_gathers_57 (Nat.lt_trans (hs.2.2.2 64 (by decide) rfl).2.2.2 hs.2.2.1) (hs.2.2.2 64 (by decide) rfl).2.1 (hs.2.2.2 64 (by decide) rfl).2.2.1 (hs.2.2.2 64 (by decide) rfl).2.2.2 hc ?_
          refine e_if_ne dX13_gathers_58 185 (by decide) (fun hc => ?_) (fun hc => ?_)
          · rw [if_pos hc] at h
            exact E_X13_gathers_c185 hK7 ih hs h hQ
          · rw [if_neg hc] at h
            refine e_aload_n dX13_gathers_61 rfl ?_
            refine e_iload_n dX13_gathers_62 rfl ?_
            refine e_iload_n dX13_gathers_63 rfl ?_
            refine e_aload_n dX13_gathers_64 rfl ?_
            refine e_getI dX13_gathers_65 rfl rfl hs.1 hs.2.1 ?_
            obtain ⟨q1, hq1, h⟩ := p_bd h
            refine e_cV dX13_gathers_68 rfl rfl ⟨rfl, rfl, by decide⟩ rfl hs.1 hs.2.1 (E_X13_knownOf hs hq1 ⟨rfl, ?_⟩)
            have hs := ShM_of (P_X13_knownOf hq1) hs
            show p_Ev X (d + 2) M_X13_gathers 71 [.ref tM, .int v1, .int v2, .int v3, w4, w5] [.int q1.1] q1.2 Q
            refine e_iconst (v := (2 : Int32)) dX13_gathers_71 rfl ?_
            refine e_ic_eq dX13_gathers_72 78 (by decide) (fun hc => ?_) (fun hc => ?_)
            · rw [if_pos hc] at h
              refine e_aload_n dX13_gathers_78 rfl ?_
              refine e_iload_n dX13_gathers_79 rfl ?_
              refine e_iload_n dX13_gathers_80 rfl ?_
              refine e_aload_n dX13_gathers_81 rfl ?_
              refine e_getI dX13_gathers_82 rfl rfl hs.1 hs.2.1 ?_
              obtain ⟨q2, hq2, h⟩ := p_bd h
              refine e_cV dX13_gathers_85 rfl rfl ⟨rfl, rfl, by decide⟩ rfl hs.1 hs.2.1 (E_X13_shadeOf hs hq2 ⟨rfl, ?_⟩)
              have hs := ShM_of (P_X13_shadeOf hq2) hs
              show p_Ev X (d + 2) M_X13_gathers 88 [.ref tM, .int v1, .int v2, .int v3, w4, w5] [.int q2.1] q2.2 Q
              refine e_istore dX13_gathers_88 (Nat.le_of_ble_eq_true rfl) rfl ?_
              refine e_aload_n dX13_gathers_90 rfl ?_
              refine e_getI dX13_gathers_91 rfl rfl hs.1 hs.2.1 ?_
              refine e_istore dX13_gathers_94 (Nat.le_of_ble_eq_true rfl) rfl ?_
              exact E_X13_gathers_c96 hK7 ih p_fu _ _ _ _ _ _ _ hs h hQ
            · rw [if_neg hc] at h
              refine e_goto dX13_gathers_75 185 (by decide) ?_
              exact E_X13_gathers_c185 hK7 ih hs h hQ
def F_X13_gathers_c7 : Nat → Int32 → Int32 → p_M → Option (Int32 × p_M)
  | 0, _, _, _ => none
  | n + 1, v1, v2, μ =>
    if (mI μ tM 62) ≤ v2
    then (some (0, μ))
    else (F_X13_gathers_c17 (F_X13_gathers_c7 n) p_fu v1 v2 (0 : Int32) μ)
theorem P_X13_gathers_c7 : ∀ (n : Nat) (v1 : Int32) (v2 : Int32) (μ : p_M) (r : Int32 × p_M), F_X13_gathers_c7 n v1 v2 μ = some r → Sm μ r.2 := by
  intro n
  induction n with
  | zero => intro v1 v2 μ r h; rw [F_X13_gathers_c7] at h; cases h
  | succ n ih =>
    intro v1 v2 μ r h
    rw [F_X13_gathers_c7] at h
    by_cases hc : (mI μ tM 62) ≤ v2
    · rw [if_pos hc] at h
      cases h
      exact (Sm_refl μ)
    · rw [if_neg hc] at h
      exact Sm_trans (Sm_refl μ) (P_X13_gathers_c17 ih p_fu _ _ _ _ _ h)
theorem E_X13_gathers_c7 {X : p_X} {d : Nat} {Q : p_R → Prop} : ∀ (n : Nat) (v1 : Int32) (v2 : Int32) (μ : p_M) (r : Int32 × p_M) (w3 : Value) (w4 : Value) (w5 : Value), ShM μ → F_X13_gathers_c7 n v1 v2 μ = some r → Q ((0, none), r.2) → p_Ev X (d + 2) M_X13_gathers 7 [.ref tM, .int v1, .int v2, w3, w4, w5] [] μ Q := by
  intro n
  induction n with
  | zero => intro v1 v2 μ r w3 w4 w5 hs h hQ; rw [F_X13_gathers_c7] at h; cases h
  | succ n ih =>
    intro v1 v2 μ r w3 w4 w5 hs h hQ
    rw [F_X13_gathers_c7] at h
    refine e_iload_n dX13_gathers_7 rfl ?_
    refine e_aload_n dX13_gathers_8 rfl ?_
    refine e_getI dX13_gathers_9 rfl rfl hs.1 hs.2.1 ?_
    refine e_ic_ge dX13_gathers_12 197 (by decide) (fun hc => ?_) (fun hc => ?_)
    · rw [if_pos hc] at h
      cases h
      exact e_vret dX13_gathers_197 rfl hQ
    · rw [if_neg hc] at h
      refine e_iconst (v := (0 : Int32)) dX13_gathers_15 rfl ?_
      refine e_istore_n dX13_gathers_16 (Nat.le_of_ble_eq_true rfl) rfl ?_
      exact E_X13_gathers_c17 ih p_fu _ _ _ _ _ _ _ hs h hQ
def F_X13_gathers (v1 : Int32) (μ : p_M) : Option (Int32 × p_M) :=
  F_X13_gathers_c7 p_fu v1 (0 : Int32) (sI μ tM 73 (0 : Int32))
theorem P_X13_gathers {v1 : Int32} {μ : p_M} {r : Int32 × p_M} (h : F_X13_gathers v1 μ = some r) : Sm μ r.2 := by
  unfold F_X13_gathers at h
  exact Sm_trans (Sm_set (Sm_refl μ) (by decide)) (P_X13_gathers_c7 p_fu _ _ _ _ h)
theorem E_X13_gathers {X : p_X} {d : Nat} {Q : p_R → Prop} {v1 : Int32} {μ : p_M} {r : Int32 × p_M} (hs : ShM μ) (h : F_X13_gathers v1 μ = some r) (hQ : Q ((0, none), r.2)) : p_Ev X (d + 2) M_X13_gathers 0 [.ref tM, .int v1, .double 0, .double 0, .double 0, .double 0] [] μ Q := by
  unfold F_X13_gathers at h
  refine e_aload_n dX13_gathers_0 rfl ?_
  refine e_iconst (v := (0 : Int32)) dX13_gathers_1 rfl ?_
  refine e_putI dX13_gathers_2 rfl ⟨rfl, rfl, fun h => by cases h⟩ (fun h => by cases h) hs.1 hs.2.1 ?_
  refine e_iconst (v := (0 : Int32)) dX13_gathers_5 rfl ?_
  refine e_istore_n dX13_gathers_6 (Nat.le_of_ble_eq_true rfl) rfl ?_
  exact E_X13_gathers_c7 p_fu _ _ _ _ _ _ _ hs h hQ
