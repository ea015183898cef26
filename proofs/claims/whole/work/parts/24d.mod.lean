/-! X13_carry -/
def F_X13_carry_c60 (μ : p_M) : Option (Int32 × p_M) :=
  some (0, μ)
theorem P_X13_carry_c60 {μ : p_M} {r : Int32 × p_M} (h : F_X13_carry_c60 μ = some r) : Sm μ r.2 := by
  unfold F_X13_carry_c60 at h
  cases h
  exact (Sm_refl μ)
theorem E_X13_carry_c60 {X : p_X} {d : Nat} {Q : p_R → Prop} {w0 : Value} {w1 : Value} {w2 : Value} {w3 : Value} {μ : p_M} {r : Int32 × p_M} (hs : ShM μ) (h : F_X13_carry_c60 μ = some r) (hQ : Q ((0, none), r.2)) : p_Ev X (d + 2) M_X13_carry 60 [w0, w1, w2, w3] [] μ Q := by
  unfold F_X13_carry_c60 at h
  cases h
  exact e_vret dX13_carry_60 rfl hQ
def F_X13_carry_c53 (v1 : Int32) (v2 : Int32) (v3 : Int32) (s0 : Int32) (μ : p_M) : Option (Int32 × p_M) :=
  (F_X13_throwsIf s0 (2 : Int32) μ).bind fun q5 =>
  if q5.1 = 0
  then (p_ok (¬ (((6 : Int32) * v1) + v2) < 0 ∧ (((6 : Int32) * v1) + v2).toNatClampNeg < 36)
    (some (0, (sI q5.2 (aM 23) (((6 : Int32) * v1) + v2).toNatClampNeg v3))))
  else (F_X13_carry_c60 q5.2)
theorem P_X13_carry_c53 {v1 : Int32} {v2 : Int32} {v3 : Int32} {s0 : Int32} {μ : p_M} {r : Int32 × p_M} (h : F_X13_carry_c53 v1 v2 v3 s0 μ = some r) : Sm μ r.2 := by
  unfold F_X13_carry_c53 at h
  obtain ⟨q5, hq5, h⟩ := p_bd h
  by_cases hc : q5.1 = 0
  · rw [if_pos hc] at h
    obtain ⟨hc, h⟩ := p_ok_some h
    cases h
    exact (Sm_set (Sm_trans (Sm_refl μ) (P_X13_throwsIf (r := q5) hq5)) (by decide))
  · rw [if_neg hc] at h
    exact Sm_trans (Sm_trans (Sm_refl μ) (P_X13_throwsIf (r := q5) hq5)) (P_X13_carry_c60 h)
theorem E_X13_carry_c53 {X : p_X} {d : Nat} {Q : p_R → Prop} {v1 : Int32} {v2 : Int32} {v3 : Int32} {s0 : Int32} {μ : p_M} {r : Int32 × p_M} (hs : ShM μ) (h : F_X13_carry_c53 v1 v2 v3 s0 μ = some r) (hQ : Q ((0, none), r.2)) : p_Ev X (d + 2) M_X13_carry 53 [.ref tM, .int v1, .int v2, .int v3] [.int s0, .ref tM] μ Q := by
  unfold F_X13_carry_c53 at h
  refine e_iconst (v := (2 : Int32)) dX13_carry_53 rfl ?_
  obtain ⟨q5, hq5, h⟩ := p_bd h
  refine e_cV dX13_carry_54 rfl rfl ⟨rfl, rfl, by decide⟩ rfl hs.1 hs.2.1 (E_X13_throwsIf hs hq5 ⟨rfl, ?_⟩)
  have hs := ShM_of (P_X13_throwsIf hq5) hs
  show p_Ev X (d + 2) M_X13_carry 57 [.ref tM, .int v1, .int v2, .int v3] [.int q5.1] q5.2 Q
  refine e_if_eq dX13_carry_57 61 (by decide) (fun hc => ?_) (fun hc => ?_)
  · rw [if_pos hc] at h
    refine e_aload_n dX13_carry_61 rfl ?_
    refine e_getR dX13_carry_62 rfl rfl hs.1 hs.2.1 (hs.2.2.2 23 (by decide) rfl).1 ?_
    refine e_bipush (v := (6 : Int32)) dX13_carry_65 rfl ?_
    refine e_iload_n dX13_carry_67 rfl ?_
    refine e_imul dX13_carry_68 ?_
    refine e_iload_n dX13_carry_69 rfl ?_
    refine e_iadd dX13_carry_70 ?_
    refine e_iload_n dX13_carry_71 rfl ?_
    obtain ⟨hc, h⟩ := p_ok_some h
    refine e_iast dX13_carry_72 (hs.2.2.2 23 (by decide) rfl).2.1 (hs.2.2.2 23 (by decide) rfl).2.2.1 (hs.2.2.2 23 (by decide) rfl).2.2.2 hc ?_
    cases h
    exact e_vret dX13_carry_73 rfl hQ
  · rw [if_neg hc] at h
    exact E_X13_carry_c60 hs h hQ
def F_X13_carry_c48 (v1 : Int32) (v2 : Int32) (v3 : Int32) (μ : p_M) : Option (Int32 × p_M) :=
  F_X13_carry_c53 v1 v2 v3 (1 : Int32) μ
theorem P_X13_carry_c48 {v1 : Int32} {v2 : Int32} {v3 : Int32} {μ : p_M} {r : Int32 × p_M} (h : F_X13_carry_c48 v1 v2 v3 μ = some r) : Sm μ r.2 := by
  unfold F_X13_carry_c48 at h
  exact Sm_trans (Sm_refl μ) (P_X13_carry_c53 h)
theorem E_X13_carry_c48 {X : p_X} {d : Nat} {Q : p_R → Prop} {v1 : Int32} {v2 : Int32} {v3 : Int32} {μ : p_M} {r : Int32 × p_M} (hs : ShM μ) (h : F_X13_carry_c48 v1 v2 v3 μ = some r) (hQ : Q ((0, none), r.2)) : p_Ev X (d + 2) M_X13_carry 48 [.ref tM, .int v1, .int v2, .int v3] [.ref tM] μ Q := by
  unfold F_X13_carry_c48 at h
  refine e_iconst (v := (1 : Int32)) dX13_carry_48 rfl ?_
  refine e_goto dX13_carry_49 53 (by decide) ?_
  exact E_X13_carry_c53 hs h hQ
def F_X13_carry_c25 (v1 : Int32) (v2 : Int32) (v3 : Int32) (s0 : Int32) (μ : p_M) : Option (Int32 × p_M) :=
  (F_X13_throwsIf s0 (1 : Int32) μ).bind fun q3 =>
  if ¬ q3.1 = 0
  then (F_X13_carry_c60 q3.2)
  else ((F_X13_in v3 (-1) (100 : Int32) q3.2).bind fun q4 =>
    if q4.1 = 0
    then (F_X13_carry_c48 v1 v2 v3 q4.2)
    else (if ¬ v1 = v2
      then (F_X13_carry_c53 v1 v2 v3 (0 : Int32) q4.2)
      else (F_X13_carry_c48 v1 v2 v3 q4.2)))
theorem P_X13_carry_c25 {v1 : Int32} {v2 : Int32} {v3 : Int32} {s0 : Int32} {μ : p_M} {r : Int32 × p_M} (h : F_X13_carry_c25 v1 v2 v3 s0 μ = some r) : Sm μ r.2 := by
  unfold F_X13_carry_c25 at h
  obtain ⟨q3, hq3, h⟩ := p_bd h
  by_cases hc : ¬ q3.1 = 0
  · rw [if_pos hc] at h
    exact Sm_trans (Sm_trans (Sm_refl μ) (P_X13_throwsIf (r := q3) hq3)) (P_X13_carry_c60 h)
  · rw [if_neg hc] at h
    obtain ⟨q4, hq4, h⟩ := p_bd h
    by_cases hc : q4.1 = 0
    · rw [if_pos hc] at h
      exact Sm_trans (Sm_trans (Sm_trans (Sm_refl μ) (P_X13_throwsIf (r := q3) hq3)) (P_X13_in (r := q4) hq4)) (P_X13_carry_c48 h)
    · rw [if_neg hc] at h
      by_cases hc : ¬ v1 = v2
      · rw [if_pos hc] at h
        exact Sm_trans (Sm_trans (Sm_trans (Sm_refl μ) (P_X13_throwsIf (r := q3) hq3)) (P_X13_in (r := q4) hq4)) (P_X13_carry_c53 h)
      · rw [if_neg hc] at h
        exact Sm_trans (Sm_trans (Sm_trans (Sm_refl μ) (P_X13_throwsIf (r := q3) hq3)) (P_X13_in (r := q4) hq4)) (P_X13_carry_c48 h)
theorem E_X13_carry_c25 {X : p_X} {d : Nat} {Q : p_R → Prop} {v1 : Int32} {v2 : Int32} {v3 : Int32} {s0 : Int32} {μ : p_M} {r : Int32 × p_M} (hs : ShM μ) (h : F_X13_carry_c25 v1 v2 v3 s0 μ = some r) (hQ : Q ((0, none), r.2)) : p_Ev X (d + 2) M_X13_carry 25 [.ref tM, .int v1, .int v2, .int v3] [.int s0, .ref tM] μ Q := by
  unfold F_X13_carry_c25 at h
  refine e_iconst (v := (1 : Int32)) dX13_carry_25 rfl ?_
  obtain ⟨q3, hq3, h⟩ := p_bd h
  refine e_cV dX13_carry_26 rfl rfl ⟨rfl, rfl, by decide⟩ rfl hs.1 hs.2.1 (E_X13_throwsIf hs hq3 ⟨rfl, ?_⟩)
  have hs := ShM_of (P_X13_throwsIf hq3) hs
  show p_Ev X (d + 2) M_X13_carry 29 [.ref tM, .int v1, .int v2, .int v3] [.int q3.1] q3.2 Q
  refine e_if_ne dX13_carry_29 60 (by decide) (fun hc => ?_) (fun hc => ?_)
  · rw [if_pos hc] at h
    exact E_X13_carry_c60 hs h hQ
  · rw [if_neg hc] at h
    refine e_aload_n dX13_carry_32 rfl ?_
    refine e_iload_n dX13_carry_33 rfl ?_
    refine e_iconst (v := (-1)) dX13_carry_34 rfl ?_
    refine e_bipush (v := (100 : Int32)) dX13_carry_35 rfl ?_
    obtain ⟨q4, hq4, h⟩ := p_bd h
    refine e_cS dX13_carry_37 rfl rfl rfl rfl (E_X13_in hs hq4 ⟨rfl, ?_⟩)
    have hs := ShM_of (P_X13_in hq4) hs
    show p_Ev X (d + 2) M_X13_carry 40 [.ref tM, .int v1, .int v2, .int v3] [.int q4.1, .ref tM] q4.2 Q
    refine e_if_eq dX13_carry_40 48 (by decide) (fun hc => ?_) (fun hc => ?_)
    · rw [if_pos hc] at h
      exact E_X13_carry_c48 hs h hQ
    · rw [if_neg hc] at h
      refine e_iload_n dX13_carry_43 rfl ?_
      refine e_iload_n dX13_carry_44 rfl ?_
      refine e_ic_ne dX13_carry_45 52 (by decide) (fun hc => ?_) (fun hc => ?_)
      · rw [if_pos hc] at h
        refine e_iconst (v := (0 : Int32)) dX13_carry_52 rfl ?_
        exact E_X13_carry_c53 hs h hQ
      · rw [if_neg hc] at h
        exact E_X13_carry_c48 hs h hQ
def F_X13_carry_c20 (v1 : Int32) (v2 : Int32) (v3 : Int32) (μ : p_M) : Option (Int32 × p_M) :=
  F_X13_carry_c25 v1 v2 v3 (1 : Int32) μ
theorem P_X13_carry_c20 {v1 : Int32} {v2 : Int32} {v3 : Int32} {μ : p_M} {r : Int32 × p_M} (h : F_X13_carry_c20 v1 v2 v3 μ = some r) : Sm μ r.2 := by
  unfold F_X13_carry_c20 at h
  exact Sm_trans (Sm_refl μ) (P_X13_carry_c25 h)
theorem E_X13_carry_c20 {X : p_X} {d : Nat} {Q : p_R → Prop} {v1 : Int32} {v2 : Int32} {v3 : Int32} {μ : p_M} {r : Int32 × p_M} (hs : ShM μ) (h : F_X13_carry_c20 v1 v2 v3 μ = some r) (hQ : Q ((0, none), r.2)) : p_Ev X (d + 2) M_X13_carry 20 [.ref tM, .int v1, .int v2, .int v3] [.ref tM] μ Q := by
  unfold F_X13_carry_c20 at h
  refine e_iconst (v := (1 : Int32)) dX13_carry_20 rfl ?_
  refine e_goto dX13_carry_21 25 (by decide) ?_
  exact E_X13_carry_c25 hs h hQ
def F_X13_carry (v1 : Int32) (v2 : Int32) (v3 : Int32) (μ : p_M) : Option (Int32 × p_M) :=
  (F_X13_noKind v1 (sI μ tM 0 (0 : Int32))).bind fun q1 =>
  if ¬ q1.1 = 0
  then (F_X13_carry_c20 v1 v2 v3 q1.2)
  else ((F_X13_noKind v2 q1.2).bind fun q2 =>
    if q2.1 = 0
    then (F_X13_carry_c25 v1 v2 v3 (0 : Int32) q2.2)
    else (F_X13_carry_c20 v1 v2 v3 q2.2))
theorem P_X13_carry {v1 : Int32} {v2 : Int32} {v3 : Int32} {μ : p_M} {r : Int32 × p_M} (h : F_X13_carry v1 v2 v3 μ = some r) : Sm μ r.2 := by
  unfold F_X13_carry at h
  obtain ⟨q1, hq1, h⟩ := p_bd h
  by_cases hc : ¬ q1.1 = 0
  · rw [if_pos hc] at h
    exact Sm_trans (Sm_trans (Sm_set (Sm_refl μ) (by decide)) (P_X13_noKind (r := q1) hq1)) (P_X13_carry_c20 h)
  · rw [if_neg hc] at h
    obtain ⟨q2, hq2, h⟩ := p_bd h
    by_cases hc : q2.1 = 0
    · rw [if_pos hc] at h
      exact Sm_trans (Sm_trans (Sm_trans (Sm_set (Sm_refl μ) (by decide)) (P_X13_noKind (r := q1) hq1)) (P_X13_noKind (r := q2) hq2)) (P_X13_carry_c25 h)
    · rw [if_neg hc] at h
      exact Sm_trans (Sm_trans (Sm_trans (Sm_set (Sm_refl μ) (by decide)) (P_X13_noKind (r := q1) hq1)) (P_X13_noKind (r := q2) hq2)) (P_X13_carry_c20 h)
theorem E_X13_carry {X : p_X} {d : Nat} {Q : p_R → Prop} {v1 : Int32} {v2 : Int32} {v3 : Int32} {μ : p_M} {r : Int32 × p_M} (hs : ShM μ) (h : F_X13_carry v1 v2 v3 μ = some r) (hQ : Q ((0, none), r.2)) : p_Ev X (d + 2) M_X13_carry 0 [.ref tM, .int v1, .int v2, .int v3] [] μ Q := by
  unfold F_X13_carry at h
  refine e_aload_n dX13_carry_0 rfl ?_
  refine e_iconst (v := (0 : Int32)) dX13_carry_1 rfl ?_
  refine e_putI dX13_carry_2 rfl ⟨rfl, rfl, fun h => by cases h⟩ (fun h => by cases h) hs.1 hs.2.1 ?_
  refine e_aload_n dX13_carry_5 rfl ?_
  refine e_iload_n dX13_carry_6 rfl ?_
  obtain ⟨q1, hq1, h⟩ := p_bd h
  refine e_cS dX13_carry_7 rfl rfl rfl rfl (E_X13_noKind hs hq1 ⟨rfl, ?_⟩)
  have hs := ShM_of (P_X13_noKind hq1) hs
  show p_Ev X (d + 2) M_X13_carry 10 [.ref tM, .int v1, .int v2, .int v3] [.int q1.1, .ref tM] q1.2 Q
  refine e_if_ne dX13_carry_10 20 (by decide) (fun hc => ?_) (fun hc => ?_)
  · rw [if_pos hc] at h
    exact E_X13_carry_c20 hs h hQ
  · rw [if_neg hc] at h
    refine e_iload_n dX13_carry_13 rfl ?_
    obtain ⟨q2, hq2, h⟩ := p_bd h
    refine e_cS dX13_carry_14 rfl rfl rfl rfl (E_X13_noKind hs hq2 ⟨rfl, ?_⟩)
    have hs := ShM_of (P_X13_noKind hq2) hs
    show p_Ev X (d + 2) M_X13_carry 17 [.ref tM, .int v1, .int v2, .int v3] [.int q2.1, .ref tM] q2.2 Q
    refine e_if_eq dX13_carry_17 24 (by decide) (fun hc => ?_) (fun hc => ?_)
    · rw [if_pos hc] at h
      refine e_iconst (v := (0 : Int32)) dX13_carry_24 rfl ?_
      exact E_X13_carry_c25 hs h hQ
    · rw [if_neg hc] at h
      exact E_X13_carry_c20 hs h hQ
/-! X13_clear -/
def F_X13_clear (μ : p_M) : Option (Int32 × p_M) :=
  some ((mI (sI μ tM 0 (0 : Int32)) tM 25), (sI (sI μ tM 0 (0 : Int32)) tM 25 (0 : Int32)))
theorem P_X13_clear {μ : p_M} {r : Int32 × p_M} (h : F_X13_clear μ = some r) : Sm μ r.2 := by
  unfold F_X13_clear at h
  cases h
  exact (Sm_set (Sm_set (Sm_refl μ) (by decide)) (by decide))
theorem E_X13_clear {X : p_X} {d : Nat} {Q : p_R → Prop} {μ : p_M} {r : Int32 × p_M} (hs : ShM μ) (h : F_X13_clear μ = some r) (hQ : Q ((0, some (.int r.1)), r.2)) : p_Ev X (d + 0) M_X13_clear 0 [.ref tM, .double 0] [] μ Q := by
  unfold F_X13_clear at h
  refine e_aload_n dX13_clear_0 rfl ?_
  refine e_iconst (v := (0 : Int32)) dX13_clear_1 rfl ?_
  refine e_putI dX13_clear_2 rfl ⟨rfl, rfl, fun h => by cases h⟩ (fun h => by cases h) hs.1 hs.2.1 ?_
  refine e_aload_n dX13_clear_5 rfl ?_
  refine e_getI dX13_clear_6 rfl rfl hs.1 hs.2.1 ?_
  refine e_istore_n dX13_clear_9 (Nat.le_of_ble_eq_true rfl) rfl ?_
  refine e_aload_n dX13_clear_10 rfl ?_
  refine e_iconst (v := (0 : Int32)) dX13_clear_11 rfl ?_
  refine e_putI dX13_clear_12 rfl ⟨rfl, rfl, fun h => by cases h⟩ (fun h => by cases h) hs.1 hs.2.1 ?_
  refine e_iload_n dX13_clear_15 rfl ?_
  cases h
  exact e_ireti dX13_clear_16 rfl hQ
/-! X13_cloth -/
def F_X13_cloth_c72 (μ : p_M) : Option (Int32 × p_M) :=
  some ((0 : Int32), μ)
theorem P_X13_cloth_c72 {μ : p_M} {r : Int32 × p_M} (h : F_X13_cloth_c72 μ = some r) : Sm μ r.2 := by
  unfold F_X13_cloth_c72 at h
  cases h
  exact (Sm_refl μ)
theorem E_X13_cloth_c72 {X : p_X} {d : Nat} {Q : p_R → Prop} {w0 : Value} {w1 : Value} {w2 : Value} {w3 : Value} {μ : p_M} {r : Int32 × p_M} (hs : ShM μ) (h : F_X13_cloth_c72 μ = some r) (hQ : Q ((0, some (.int r.1)), r.2)) : p_Ev X (d + 1) M_X13_cloth 72 [w0, w1, w2, w3] [] μ Q := by
  unfold F_X13_cloth_c72 at h
  refine e_iconst (v := (0 : Int32)) dX13_cloth_72 rfl ?_
  cases h
  exact e_ireti dX13_cloth_73 rfl hQ
def F_X13_cloth_c65 (v1 : Int32) (v2 : Int32) (v3 : Int32) (s0 : Int32) (μ : p_M) : Option (Int32 × p_M) :=
  (F_X13_throwsIf s0 (2 : Int32) μ).bind fun q5 =>
  if q5.1 = 0
  then (p_ok (¬ (mI q5.2 tM 14) < 0 ∧ (mI q5.2 tM 14).toNatClampNeg < 6)
    (p_ok (¬ (mI (sI q5.2 (aM 11) (mI q5.2 tM 14).toNatClampNeg v1) tM 14) < 0 ∧ (mI (sI q5.2 (aM 11) (mI q5.2 tM 14).toNatClampNeg v1) tM 14).toNatClampNeg < 6)
    (p_ok (¬ (mI (sI (sI q5.2 (aM 11) (mI q5.2 tM 14).toNatClampNeg v1) (aM 12) (mI (sI q5.2 (aM 11) (mI q5.2 tM 14).toNatClampNeg v1) tM 14).toNatClampNeg v2) tM 14) < 0 ∧ (mI (sI (sI q5.2 (aM 11) (mI q5.2 tM 14).toNatClampNeg v1) (aM 12) (mI (sI q5.2 (aM 11) (mI q5.2 tM 14).toNatClampNeg v1) tM 14).toNatClampNeg v2) tM 14).toNatClampNeg < 6)
    (some (((mI (sI (sI (sI (sI q5.2 (aM 11) (mI q5.2 tM 14).toNatClampNeg v1) (aM 12) (mI (sI q5.2 (aM 11) (mI q5.2 tM 14).toNatClampNeg v1) tM 14).toNatClampNeg v2) (aM 13) (mI (sI (sI q5.2 (aM 11) (mI q5.2 tM 14).toNatClampNeg v1) (aM 12) (mI (sI q5.2 (aM 11) (mI q5.2 tM 14).toNatClampNeg v1) tM 14).toNatClampNeg v2) tM 14).toNatClampNeg v3) tM 14 ((mI (sI (sI (sI q5.2 (aM 11) (mI q5.2 tM 14).toNatClampNeg v1) (aM 12) (mI (sI q5.2 (aM 11) (mI q5.2 tM 14).toNatClampNeg v1) tM 14).toNatClampNeg v2) (aM 13) (mI (sI (sI q5.2 (aM 11) (mI q5.2 tM 14).toNatClampNeg v1) (aM 12) (mI (sI q5.2 (aM 11) (mI q5.2 tM 14).toNatClampNeg v1) tM 14).toNatClampNeg v2) tM 14).toNatClampNeg v3) tM 14) + (1 : Int32))) tM 14) - (1 : Int32)), (sI (sI (sI (sI q5.2 (aM 11) (mI q5.2 tM 14).toNatClampNeg v1) (aM 12) (mI (sI q5.2 (aM 11) (mI q5.2 tM 14).toNatClampNeg v1) tM 14).toNatClampNeg v2) (aM 13) (mI (sI (sI q5.2 (aM 11) (mI q5.2 tM 14).toNatClampNeg v1) (aM 12) (mI (sI q5.2 (aM 11) (mI q5.2 tM 14).toNatClampNeg v1) tM 14).toNatClampNeg v2) tM 14).toNatClampNeg v3) tM 14 ((mI (sI (sI (sI q5.2 (aM 11) (mI q5.2 tM 14).toNatClampNeg v1) (aM 12) (mI (sI q5.2 (aM 11) (mI q5.2 tM 14).toNatClampNeg v1) tM 14).toNatClampNeg v2) (aM 13) (mI (sI (sI q5.2 (aM 11) (mI q5.2 tM 14).toNatClampNeg v1) (aM 12) (mI (sI q5.2 (aM 11) (mI q5.2 tM 14).toNatClampNeg v1) tM 14).toNatClampNeg v2) tM 14).toNatClampNeg v3) tM 14) + (1 : Int32))))))))
  else (F_X13_cloth_c72 q5.2)
theorem P_X13_cloth_c65 {v1 : Int32} {v2 : Int32} {v3 : Int32} {s0 : Int32} {μ : p_M} {r : Int32 × p_M} (h : F_X13_cloth_c65 v1 v2 v3 s0 μ = some r) : Sm μ r.2 := by
  unfold F_X13_cloth_c65 at h
  obtain ⟨q5, hq5, h⟩ := p_bd h
  by_cases hc : q5.1 = 0
  · rw [if_pos hc] at h
    obtain ⟨hc, h⟩ := p_ok_some h
    obtain ⟨hc, h⟩ := p_ok_some h
    obtain ⟨hc, h⟩ := p_ok_some h
    cases h
    exact (Sm_set (Sm_set (Sm_set (Sm_set (Sm_trans (Sm_refl μ) (P_X13_throwsIf (r := q5) hq5)) (by decide)) (by decide)) (by decide)) (by decide))
  · rw [if_neg hc] at h
    exact Sm_trans (Sm_trans (Sm_refl μ) (P_X13_throwsIf (r := q5) hq5)) (P_X13_cloth_c72 h)
theorem E_X13_cloth_c65 {X : p_X} {d : Nat} {Q : p_R → Prop} {v1 : Int32} {v2 : Int32} {v3 : Int32} {s0 : Int32} {μ : p_M} {r : Int32 × p_M} (hs : ShM μ) (h : F_X13_cloth_c65 v1 v2 v3 s0 μ = some r) (hQ : Q ((0, some (.int r.1)), r.2)) : p_Ev X (d + 1) M_X13_cloth 65 [.ref tM, .int v1, .int v2, .int v3] [.int s0, .ref tM] μ Q := by
  unfold F_X13_cloth_c65 at h
  refine e_iconst (v := (2 : Int32)) dX13_cloth_65 rfl ?_
  obtain ⟨q5, hq5, h⟩ := p_bd h
  refine e_cV dX13_cloth_66 rfl rfl ⟨rfl, rfl, by decide⟩ rfl hs.1 hs.2.1 (E_X13_throwsIf hs hq5 ⟨rfl, ?_⟩)
  have hs := ShM_of (P_X13_throwsIf hq5) hs
  show p_Ev X (d + 1) M_X13_cloth 69 [.ref tM, .int v1, .int v2, .int v3] [.int q5.1] q5.2 Q
  refine e_if_eq dX13_cloth_69 74 (by decide) (fun hc => ?_) (fun hc => ?_)
  · rw [if_pos hc] at h
    refine e_aload_n dX13_cloth_74 rfl ?_
    refine e_getR dX13_cloth_75 rfl rfl hs.1 hs.2.1 (hs.2.2.2 11 (by decide) rfl).1 ?_
    refine e_aload_n dX13_cloth_78 rfl ?_
    refine e_getI dX13_cloth_79 rfl rfl hs.1 hs.2.1 ?_
    refine e_iload_n dX13_cloth_82 rfl ?_
    obtain ⟨hc, h⟩ := p_ok_some h
    refine e_iast dX13_cloth_83 (hs.2.2.2 11 (by decide) rfl).2.1 (hs.2.2.2 11 (by decide) rfl).2.2.1 (hs.2.2.2 11 (by decide) rfl).2.2.2 hc ?_
    refine e_aload_n dX13_cloth_84 rfl ?_
    refine e_getR dX13_cloth_85 rfl rfl hs.1 hs.2.1 (hs.2.2.2 12 (by decide) rfl).1 ?_
    refine e_aload_n dX13_cloth_88 rfl ?_
    refine e_getI dX13_cloth_89 rfl rfl hs.1 hs.2.1 ?_
    refine e_iload_n dX13_cloth_92 rfl ?_
    obtain ⟨hc, h⟩ := p_ok_some h
    refine e_iast dX13_cloth_93 (hs.2.2.2 12 (by decide) rfl).2.1 (hs.2.2.2 12 (by decide) rfl).2.2.1 (hs.2.2.2 12 (by decide) rfl).2.2.2 hc ?_
    refine e_aload_n dX13_cloth_94 rfl ?_
    refine e_getR dX13_cloth_95 rfl rfl hs.1 hs.2.1 (hs.2.2.2 13 (by decide) rfl).1 ?_
    refine e_aload_n dX13_cloth_98 rfl ?_
    refine e_getI dX13_cloth_99 rfl rfl hs.1 hs.2.1 ?_
    refine e_iload_n dX13_cloth_102 rfl ?_
    obtain ⟨hc, h⟩ := p_ok_some h
    refine e_iast dX13_cloth_103 (hs.2.2.2 13 (by decide) rfl).2.1 (hs.2.2.2 13 (by decide) rfl).2.2.1 (hs.2.2.2 13 (by decide) rfl).2.2.2 hc ?_
    refine e_aload_n dX13_cloth_104 rfl ?_
    refine e_dupR dX13_cloth_105 ?_
    refine e_getI dX13_cloth_106 rfl rfl hs.1 hs.2.1 ?_
    refine e_iconst (v := (1 : Int32)) dX13_cloth_109 rfl ?_
    refine e_iadd dX13_cloth_110 ?_
    refine e_putI dX13_cloth_111 rfl ⟨rfl, rfl, fun h => by cases h⟩ (fun h => by cases h) hs.1 hs.2.1 ?_
    refine e_aload_n dX13_cloth_114 rfl ?_
    refine e_getI dX13_cloth_115 rfl rfl hs.1 hs.2.1 ?_
    refine e_iconst (v := (1 : Int32)) dX13_cloth_118 rfl ?_
    refine e_isub dX13_cloth_119 ?_
    cases h
    exact e_ireti dX13_cloth_120 rfl hQ
  · rw [if_neg hc] at h
    exact E_X13_cloth_c72 hs h hQ
def F_X13_cloth_c43 (v1 : Int32) (v2 : Int32) (v3 : Int32) (s0 : Int32) (μ : p_M) : Option (Int32 × p_M) :=
  (F_X13_throwsIf s0 (1 : Int32) μ).bind fun q4 =>
  if ¬ q4.1 = 0
  then (F_X13_cloth_c72 q4.2)
  else (if ¬ (mI q4.2 tM 14) = (6 : Int32)
    then (F_X13_cloth_c65 v1 v2 v3 (0 : Int32) q4.2)
    else (F_X13_cloth_c65 v1 v2 v3 (1 : Int32) q4.2))
theorem P_X13_cloth_c43 {v1 : Int32} {v2 : Int32} {v3 : Int32} {s0 : Int32} {μ : p_M} {r : Int32 × p_M} (h : F_X13_cloth_c43 v1 v2 v3 s0 μ = some r) : Sm μ r.2 := by
  unfold F_X13_cloth_c43 at h
  obtain ⟨q4, hq4, h⟩ := p_bd h
  by_cases hc : ¬ q4.1 = 0
  · rw [if_pos hc] at h
    exact Sm_trans (Sm_trans (Sm_refl μ) (P_X13_throwsIf (r := q4) hq4)) (P_X13_cloth_c72 h)
  · rw [if_neg hc] at h
    by_cases hc : ¬ (mI q4.2 tM 14) = (6 : Int32)
    · rw [if_pos hc] at h
      exact Sm_trans (Sm_trans (Sm_refl μ) (P_X13_throwsIf (r := q4) hq4)) (P_X13_cloth_c65 h)
    · rw [if_neg hc] at h
      exact Sm_trans (Sm_trans (Sm_refl μ) (P_X13_throwsIf (r := q4) hq4)) (P_X13_cloth_c65 h)
theorem E_X13_cloth_c43 {X : p_X} {d : Nat} {Q : p_R → Prop} {v1 : Int32} {v2 : Int32} {v3 : Int32} {s0 : Int32} {μ : p_M} {r : Int32 × p_M} (hs : ShM μ) (h : F_X13_cloth_c43 v1 v2 v3 s0 μ = some r) (hQ : Q ((0, some (.int r.1)), r.2)) : p_Ev X (d + 1) M_X13_cloth 43 [.ref tM, .int v1, .int v2, .int v3] [.int s0, .ref tM] μ Q := by
  unfold F_X13_cloth_c43 at h
  refine e_iconst (v := (1 : Int32)) dX13_cloth_43 rfl ?_
  obtain ⟨q4, hq4, h⟩ := p_bd h
  refine e_cV dX13_cloth_44 rfl rfl ⟨rfl, rfl, by decide⟩ rfl hs.1 hs.2.1 (E_X13_throwsIf hs hq4 ⟨rfl, ?_⟩)
  have hs := ShM_of (P_X13_throwsIf hq4) hs
  show p_Ev X (d + 1) M_X13_cloth 47 [.ref tM, .int v1, .int v2, .int v3] [.int q4.1] q4.2 Q
  refine e_if_ne dX13_cloth_47 72 (by decide) (fun hc => ?_) (fun hc => ?_)
  · rw [if_pos hc] at h
    exact E_X13_cloth_c72 hs h hQ
  · rw [if_neg hc] at h
    refine e_aload_n dX13_cloth_50 rfl ?_
    refine e_aload_n dX13_cloth_51 rfl ?_
    refine e_getI dX13_cloth_52 rfl rfl hs.1 hs.2.1 ?_
    refine e_bipush (v := (6 : Int32)) dX13_cloth_55 rfl ?_
    refine e_ic_ne dX13_cloth_57 64 (by decide) (fun hc => ?_) (fun hc => ?_)
    · rw [if_pos hc] at h
      refine e_iconst (v := (0 : Int32)) dX13_cloth_64 rfl ?_
      exact E_X13_cloth_c65 hs h hQ
    · rw [if_neg hc] at h
      refine e_iconst (v := (1 : Int32)) dX13_cloth_60 rfl ?_
      refine e_goto dX13_cloth_61 65 (by decide) ?_
      exact E_X13_cloth_c65 hs h hQ
def F_X13_cloth_c38 (v1 : Int32) (v2 : Int32) (v3 : Int32) (μ : p_M) : Option (Int32 × p_M) :=
  F_X13_cloth_c43 v1 v2 v3 (1 : Int32) μ
theorem P_X13_cloth_c38 {v1 : Int32} {v2 : Int32} {v3 : Int32} {μ : p_M} {r : Int32 × p_M} (h : F_X13_cloth_c38 v1 v2 v3 μ = some r) : Sm μ r.2 := by
  unfold F_X13_cloth_c38 at h
  exact Sm_trans (Sm_refl μ) (P_X13_cloth_c43 h)
theorem E_X13_cloth_c38 {X : p_X} {d : Nat} {Q : p_R → Prop} {v1 : Int32} {v2 : Int32} {v3 : Int32} {μ : p_M} {r : Int32 × p_M} (hs : ShM μ) (h : F_X13_cloth_c38 v1 v2 v3 μ = some r) (hQ : Q ((0, some (.int r.1)), r.2)) : p_Ev X (d + 1) M_X13_cloth 38 [.ref tM, .int v1, .int v2, .int v3] [.ref tM] μ Q := by
  unfold F_X13_cloth_c38 at h
  refine e_iconst (v := (1 : Int32)) dX13_cloth_38 rfl ?_
  refine e_goto dX13_cloth_39 43 (by decide) ?_
  exact E_X13_cloth_c43 hs h hQ
def F_X13_cloth (v1 : Int32) (v2 : Int32) (v3 : Int32) (μ : p_M) : Option (Int32 × p_M) :=
  (F_X13_in v1 (0 : Int32) (255 : Int32) (sI μ tM 0 (0 : Int32))).bind fun q1 =>
  if q1.1 = 0
  then (F_X13_cloth_c38 v1 v2 v3 q1.2)
  else ((F_X13_in v2 (0 : Int32) (255 : Int32) q1.2).bind fun q2 =>
    if q2.1 = 0
    then (F_X13_cloth_c38 v1 v2 v3 q2.2)
    else ((F_X13_in v3 (0 : Int32) (9 : Int32) q2.2).bind fun q3 =>
      if ¬ q3.1 = 0
      then (F_X13_cloth_c43 v1 v2 v3 (0 : Int32) q3.2)
      else (F_X13_cloth_c38 v1 v2 v3 q3.2)))
theorem P_X13_cloth {v1 : Int32} {v2 : Int32} {v3 : Int32} {μ : p_M} {r : Int32 × p_M} (h : F_X13_cloth v1 v2 v3 μ = some r) : Sm μ r.2 := by
  unfold F_X13_cloth at h
  obtain ⟨q1, hq1, h⟩ := p_bd h
  by_cases hc : q1.1 = 0
  · rw [if_pos hc] at h
    exact Sm_trans (Sm_trans (Sm_set (Sm_refl μ) (by decide)) (P_X13_in (r := q1) hq1)) (P_X13_cloth_c38 h)
  · rw [if_neg hc] at h
    obtain ⟨q2, hq2, h⟩ := p_bd h
    by_cases hc : q2.1 = 0
    · rw [if_pos hc] at h
      exact Sm_trans (Sm_trans (Sm_trans (Sm_set (Sm_refl μ) (by decide)) (P_X13_in (r := q1) hq1)) (P_X13_in (r := q2) hq2)) (P_X13_cloth_c38 h)
    · rw [if_neg hc] at h
      obtain ⟨q3, hq3, h⟩ := p_bd h
      by_cases hc : ¬ q3.1 = 0
      · rw [if_pos hc] at h
        exact Sm_trans (Sm_trans (Sm_trans (Sm_trans (Sm_set (Sm_refl μ) (by decide)) (P_X13_in (r := q1) hq1)) (P_X13_in (r := q2) hq2)) (P_X13_in (r := q3) hq3)) (P_X13_cloth_c43 h)
      · rw [if_neg hc] at h
        exact Sm_trans (Sm_trans (Sm_trans (Sm_trans (Sm_set (Sm_refl μ) (by decide)) (P_X13_in (r := q1) hq1)) (P_X13_in (r := q2) hq2)) (P_X13_in (r := q3) hq3)) (P_X13_cloth_c38 h)
theorem E_X13_cloth {X : p_X} {d : Nat} {Q : p_R → Prop} {v1 : Int32} {v2 : Int32} {v3 : Int32} {μ : p_M} {r : Int32 × p_M} (hs : ShM μ) (h : F_X13_cloth v1 v2 v3 μ = some r) (hQ : Q ((0, some (.int r.1)), r.2)) : p_Ev X (d + 1) M_X13_cloth 0 [.ref tM, .int v1, .int v2, .int v3] [] μ Q := by
  unfold F_X13_cloth at h
  refine e_aload_n dX13_cloth_0 rfl ?_
  refine e_iconst (v := (0 : Int32)) dX13_cloth_1 rfl ?_
  refine e_putI dX13_cloth_2 rfl ⟨rfl, rfl, fun h => by cases h⟩ (fun h => by cases h) hs.1 hs.2.1 ?_
  refine e_aload_n dX13_cloth_5 rfl ?_
  refine e_iload_n dX13_cloth_6 rfl ?_
  refine e_iconst (v := (0 : Int32)) dX13_cloth_7 rfl ?_
  refine e_sipush (v := (255 : Int32)) dX13_cloth_8 rfl ?_
  obtain ⟨q1, hq1, h⟩ := p_bd h
  refine e_cS dX13_cloth_11 rfl rfl rfl rfl (E_X13_in hs hq1 ⟨rfl, ?_⟩)
  have hs := ShM_of (P_X13_in hq1) hs
  show p_Ev X (d + 1) M_X13_cloth 14 [.ref tM, .int v1, .int v2, .int v3] [.int q1.1, .ref tM] q1.2 Q
  refine e_if_eq dX13_cloth_14 38 (by decide) (fun hc => ?_) (fun hc => ?_)
  · rw [if_pos hc] at h
    exact E_X13_cloth_c38 hs h hQ
  · rw [if_neg hc] at h
    refine e_iload_n dX13_cloth_17 rfl ?_
    refine e_iconst (v := (0 : Int32)) dX13_cloth_18 rfl ?_
    refine e_sipush (v := (255 : Int32)) dX13_cloth_19 rfl ?_
    obtain ⟨q2, hq2, h⟩ := p_bd h
    refine e_cS dX13_cloth_22 rfl rfl rfl rfl (E_X13_in hs hq2 ⟨rfl, ?_⟩)
    have hs := ShM_of (P_X13_in hq2) hs
    show p_Ev X (d + 1) M_X13_cloth 25 [.ref tM, .int v1, .int v2, .int v3] [.int q2.1, .ref tM] q2.2 Q
    refine e_if_eq dX13_cloth_25 38 (by decide) (fun hc => ?_) (fun hc => ?_)
    · rw [if_pos hc] at h
      exact E_X13_cloth_c38 hs h hQ
    · rw [if_neg hc] at h
      refine e_iload_n dX13_cloth_28 rfl ?_
      refine e_iconst (v := (0 : Int32)) dX13_cloth_29 rfl ?_
      refine e_bipush (v := (9 : Int32)) dX13_cloth_30 rfl ?_
      obtain ⟨q3, hq3, h⟩ := p_bd h
      refine e_cS dX13_cloth_32 rfl rfl rfl rfl (E_X13_in hs hq3 ⟨rfl, ?_⟩)
      have hs := ShM_of (P_X13_in hq3) hs
      show p_Ev X (d + 1) M_X13_cloth 35 [.ref tM, .int v1, .int v2, .int v3] [.int q3.1, .ref tM] q3.2 Q
      refine e_if_ne dX13_cloth_35 42 (by decide) (fun hc => ?_) (fun hc => ?_)
      · rw [if_pos hc] at h
        refine e_iconst (v := (0 : Int32)) dX13_cloth_42 rfl ?_
        exact E_X13_cloth_c43 hs h hQ
      · rw [if_neg hc] at h
        exact E_X13_cloth_c38 hs h hQ
/-! X13_costOf -/
def F_X13_costOf_c33 (s0 : Int32) (μ : p_M) : Option (Int32 × p_M) :=
  some (s0, μ)
theorem P_X13_costOf_c33 {s0 : Int32} {μ : p_M} {r : Int32 × p_M} (h : F_X13_costOf_c33 s0 μ = some r) : Sm μ r.2 := by
  unfold F_X13_costOf_c33 at h
  cases h
  exact (Sm_refl μ)
theorem E_X13_costOf_c33 {X : p_X} {d : Nat} {Q : p_R → Prop} {s0 : Int32} {w0 : Value} {w1 : Value} {μ : p_M} {r : Int32 × p_M} (hs : ShM μ) (h : F_X13_costOf_c33 s0 μ = some r) (hQ : Q ((0, some (.int r.1)), r.2)) : p_Ev X (d + 0) M_X13_costOf 33 [w0, w1] [.int s0] μ Q := by
  unfold F_X13_costOf_c33 at h
  cases h
  exact e_ireti dX13_costOf_33 rfl hQ
def F_X13_costOf (v0 : Int32) (v1 : Int32) (μ : p_M) : Option (Int32 × p_M) :=
  if ¬ v0 = 0
  then (if ¬ v0 = (1 : Int32)
    then (if ¬ v0 = (2 : Int32)
      then (F_X13_costOf_c33 (1 : Int32) μ)
      else (F_X13_costOf_c33 (((2 : Int32) * v1) + (1 : Int32)) μ))
    else (F_X13_costOf_c33 ((3 : Int32) * v1) μ))
  else (F_X13_costOf_c33 v1 μ)
theorem P_X13_costOf {v0 : Int32} {v1 : Int32} {μ : p_M} {r : Int32 × p_M} (h : F_X13_costOf v0 v1 μ = some r) : Sm μ r.2 := by
  unfold F_X13_costOf at h
  by_cases hc : ¬ v0 = 0
  · rw [if_pos hc] at h
    by_cases hc : ¬ v0 = (1 : Int32)
    · rw [if_pos hc] at h
      by_cases hc : ¬ v0 = (2 : Int32)
      · rw [if_pos hc] at h
        exact Sm_trans (Sm_refl μ) (P_X13_costOf_c33 h)
      · rw [if_neg hc] at h
        exact Sm_trans (Sm_refl μ) (P_X13_costOf_c33 h)
    · rw [if_neg hc] at h
      exact Sm_trans (Sm_refl μ) (P_X13_costOf_c33 h)
  · rw [if_neg hc] at h
    exact Sm_trans (Sm_refl μ) (P_X13_costOf_c33 h)
theorem E_X13_costOf {X : p_X} {d : Nat} {Q : p_R → Prop} {v0 : Int32} {v1 : Int32} {μ : p_M} {r : Int32 × p_M} (hs : ShM μ) (h : F_X13_costOf v0 v1 μ = some r) (hQ : Q ((0, some (.int r.1)), r.2)) : p_Ev X (d + 0) M_X13_costOf 0 [.int v0, .int v1] [] μ Q := by
  unfold F_X13_costOf at h
  refine e_iload_n dX13_costOf_0 rfl ?_
  refine e_if_ne dX13_costOf_1 8 (by decide) (fun hc => ?_) (fun hc => ?_)
  · rw [if_pos hc] at h
    refine e_iload_n dX13_costOf_8 rfl ?_
    refine e_iconst (v := (1 : Int32)) dX13_costOf_9 rfl ?_
    refine e_ic_ne dX13_costOf_10 19 (by decide) (fun hc => ?_) (fun hc => ?_)
    · rw [if_pos hc] at h
      refine e_iload_n dX13_costOf_19 rfl ?_
      refine e_iconst (v := (2 : Int32)) dX13_costOf_20 rfl ?_
      refine e_ic_ne dX13_costOf_21 32 (by decide) (fun hc => ?_) (fun hc => ?_)
      · rw [if_pos hc] at h
        refine e_iconst (v := (1 : Int32)) dX13_costOf_32 rfl ?_
        exact E_X13_costOf_c33 hs h hQ
      · rw [if_neg hc] at h
        refine e_iconst (v := (2 : Int32)) dX13_costOf_24 rfl ?_
        refine e_iload_n dX13_costOf_25 rfl ?_
        refine e_imul dX13_costOf_26 ?_
        refine e_iconst (v := (1 : Int32)) dX13_costOf_27 rfl ?_
        refine e_iadd dX13_costOf_28 ?_
        refine e_goto dX13_costOf_29 33 (by decide) ?_
        exact E_X13_costOf_c33 hs h hQ
    · rw [if_neg hc] at h
      refine e_iconst (v := (3 : Int32)) dX13_costOf_13 rfl ?_
      refine e_iload_n dX13_costOf_14 rfl ?_
      refine e_imul dX13_costOf_15 ?_
      refine e_goto dX13_costOf_16 33 (by decide) ?_
      exact E_X13_costOf_c33 hs h hQ
  · rw [if_neg hc] at h
    refine e_iload_n dX13_costOf_4 rfl ?_
    refine e_goto dX13_costOf_5 33 (by decide) ?_
    exact E_X13_costOf_c33 hs h hQ
/-! X13_cost -/
def F_X13_cost_c11 : Nat → Int32 → Int32 → p_M → Option (Int32 × p_M)
  | 0, _, _, _ => none
  | n + 1, v1, v2, μ =>
    p_ok (¬ (40 : Int32) < 0 ∧ (40 : Int32).toNatClampNeg < 42)
    (if ((800 : Int32) + (mI μ (aM 8) (40 : Int32).toNatClampNeg)) ≤ v2
    then (some (v1, μ))
    else (p_ok (¬ v2 < 0 ∧ v2.toNatClampNeg < 840)
      (p_ok (¬ v2 < 0 ∧ v2.toNatClampNeg < 840)
      ((F_X13_costOf (mI μ (aM 9) v2.toNatClampNeg) (mI μ (aM 10) v2.toNatClampNeg) μ).bind fun q1 =>
      F_X13_cost_c11 n (v1 + q1.1) (v2 + (1 : Int32)) q1.2))))
theorem P_X13_cost_c11 : ∀ (n : Nat) (v1 : Int32) (v2 : Int32) (μ : p_M) (r : Int32 × p_M), F_X13_cost_c11 n v1 v2 μ = some r → Sm μ r.2 := by
  intro n
  induction n with
  | zero => intro v1 v2 μ r h; rw [F_X13_cost_c11] at h; cases h
  | succ n ih =>
    intro v1 v2 μ r h
    rw [F_X13_cost_c11] at h
    obtain ⟨hc, h⟩ := p_ok_some h
    by_cases hc : ((800 : Int32) + (mI μ (aM 8) (40 : Int32).toNatClampNeg)) ≤ v2
    · rw [if_pos hc] at h
      cases h
      exact (Sm_refl μ)
    · rw [if_neg hc] at h
      obtain ⟨hc, h⟩ := p_ok_some h
      obtain ⟨hc, h⟩ := p_ok_some h
      obtain ⟨q1, hq1, h⟩ := p_bd h
      exact Sm_trans (Sm_trans (Sm_refl μ) (P_X13_costOf (r := q1) hq1)) (ih _ _ _ _ h)
theorem E_X13_cost_c11 {X : p_X} {d : Nat} {Q : p_R → Prop} : ∀ (n : Nat) (v1 : Int32) (v2 : Int32) (μ : p_M) (r : Int32 × p_M), ShM μ → F_X13_cost_c11 n v1 v2 μ = some r → Q ((0, some (.int r.1)), r.2) → p_Ev X (d + 1) M_X13_cost 11 [.ref tM, .int v1, .int v2] [] μ Q := by
  intro n
  induction n with
  | zero => intro v1 v2 μ r hs h hQ; rw [F_X13_cost_c11] at h; cases h
  | succ n ih =>
    intro v1 v2 μ r hs h hQ
    rw [F_X13_cost_c11] at h
    refine e_iload_n dX13_cost_11 rfl ?_
    refine e_sipush (v := (800 : Int32)) dX13_cost_12 rfl ?_
    refine e_aload_n dX13_cost_15 rfl ?_
    refine e_getR dX13_cost_16 rfl rfl hs.1 hs.2.1 (hs.2.2.2 8 (by decide) rfl).1 ?_
    refine e_bipush (v := (40 : Int32)) dX13_cost_19 rfl ?_
    obtain ⟨hc, h⟩ := p_ok_some h
    refine e_iald dX13_cost_21 (Nat.lt_trans (hs.2.2.2 8 (by decide) rfl).2.2.2 hs.2.2.1) (hs.2.2.2 8 (by decide) rfl).2.1 (hs.2.2.2 8 (by decide) rfl).2.2.1 (hs.2.2.2 8 (by decide) rfl).2.2.2 hc ?_
    refine e_iadd dX13_cost_22 ?_
    refine e_ic_ge dX13_cost_23 50 (by decide) (fun hc => ?_) (fun hc => ?_)
    · rw [if_pos hc] at h
      refine e_iload_n dX13_cost_50 rfl ?_
      cases h
      exact e_ireti dX13_cost_51 rfl hQ
    · rw [if_neg hc] at h
      refine e_iload_n dX13_cost_26 rfl ?_
      refine e_aload_n dX13_cost_27 rfl ?_
      refine e_getR dX13_cost_28 rfl rfl hs.1 hs.2.1 (hs.2.2.2 9 (by decide) rfl).1 ?_
      refine e_iload_n dX13_cost_31 rfl ?_
      obtain ⟨hc, h⟩ := p_ok_some h
      refine e_iald dX13_cost_32 (Nat.lt_trans (hs.2.2.2 9 (by decide) rfl).2.2.2 hs.2.2.1) (hs.2.2.2 9 (by decide) rfl).2.1 (hs.2.2.2 9 (by decide) rfl).2.2.1 (hs.2.2.2 9 (by decide) rfl).2.2.2 hc ?_
      refine e_aload_n dX13_cost_33 rfl ?_
      refine e_getR dX13_cost_34 rfl rfl hs.1 hs.2.1 (hs.2.2.2 10 (by decide) rfl).1 ?_
      refine e_iload_n dX13_cost_37 rfl ?_
      obtain ⟨hc, h⟩ := p_ok_some h
      refine e_iald dX13_cost_38 (Nat.lt_trans (hs.2.2.2 10 (by decide) rfl).2.2.2 hs.2.2.1) (hs.2.2.2 10 (by decide) rfl).2.1 (hs.2.2.2 10 (by decide) rfl).2.2.1 (hs.2.2.2 10 (by decide) rfl).2.2.2 hc ?_
      obtain ⟨q1, hq1, h⟩ := p_bd h
      refine e_cS dX13_cost_39 rfl rfl rfl rfl (E_X13_costOf hs hq1 ⟨rfl, ?_⟩)
      have hs := ShM_of (P_X13_costOf hq1) hs
      show p_Ev X (d + 1) M_X13_cost 42 [.ref tM, .int v1, .int v2] [.int q1.1, .int v1] q1.2 Q
      refine e_iadd dX13_cost_42 ?_
      refine e_istore_n dX13_cost_43 (Nat.le_of_ble_eq_true rfl) rfl ?_
      refine e_iinc (v := (1 : Int32)) dX13_cost_44 rfl rfl rfl ?_
      refine e_goto dX13_cost_47 11 (by decide) ?_
      exact ih _ _ _ _ hs h hQ
def F_X13_cost (μ : p_M) : Option (Int32 × p_M) :=
  F_X13_cost_c11 p_fu (0 : Int32) (800 : Int32) (sI μ tM 0 (0 : Int32))
theorem P_X13_cost {μ : p_M} {r : Int32 × p_M} (h : F_X13_cost μ = some r) : Sm μ r.2 := by
  unfold F_X13_cost at h
  exact Sm_trans (Sm_set (Sm_refl μ) (by decide)) (P_X13_cost_c11 p_fu _ _ _ _ h)
theorem E_X13_cost {X : p_X} {d : Nat} {Q : p_R → Prop} {μ : p_M} {r : Int32 × p_M} (hs : ShM μ) (h : F_X13_cost μ = some r) (hQ : Q ((0, some (.int r.1)), r.2)) : p_Ev X (d + 1) M_X13_cost 0 [.ref tM, .double 0, .double 0] [] μ Q := by
  unfold F_X13_cost at h
  refine e_aload_n dX13_cost_0 rfl ?_
  refine e_iconst (v := (0 : Int32)) dX13_cost_1 rfl ?_
  refine e_putI dX13_cost_2 rfl ⟨rfl, rfl, fun h => by cases h⟩ (fun h => by cases h) hs.1 hs.2.1 ?_
  refine e_iconst (v := (0 : Int32)) dX13_cost_5 rfl ?_
  refine e_istore_n dX13_cost_6 (Nat.le_of_ble_eq_true rfl) rfl ?_
  refine e_sipush (v := (800 : Int32)) dX13_cost_7 rfl ?_
  refine e_istore_n dX13_cost_10 (Nat.le_of_ble_eq_true rfl) rfl ?_
  exact E_X13_cost_c11 p_fu _ _ _ _ hs h hQ
/-! X13_count -/
def F_X13_count_c135 : Nat → Int32 → Int32 → p_M → Option (Int32 × p_M)
  | 0, _, _, _ => none
  | n + 1, v2, v3, μ =>
    if (mI μ tM 30) ≤ v3
    then (some (v2, μ))
    else (p_ok (¬ v3 < 0 ∧ v3.toNatClampNeg < 5)
      (F_X13_count_c135 n (v2 + (mI μ (aM 29) v3.toNatClampNeg)) (v3 + (1 : Int32)) μ))
theorem P_X13_count_c135 : ∀ (n : Nat) (v2 : Int32) (v3 : Int32) (μ : p_M) (r : Int32 × p_M), F_X13_count_c135 n v2 v3 μ = some r → Sm μ r.2 := by
  intro n
  induction n with
  | zero => intro v2 v3 μ r h; rw [F_X13_count_c135] at h; cases h
  | succ n ih =>
    intro v2 v3 μ r h
    rw [F_X13_count_c135] at h
    by_cases hc : (mI μ tM 30) ≤ v3
    · rw [if_pos hc] at h
      cases h
      exact (Sm_refl μ)
    · rw [if_neg hc] at h
      obtain ⟨hc, h⟩ := p_ok_some h
      exact Sm_trans (Sm_refl μ) (ih _ _ _ _ h)
theorem E_X13_count_c135 {X : p_X} {d : Nat} {Q : p_R → Prop} : ∀ (n : Nat) (v2 : Int32) (v3 : Int32) (μ : p_M) (r : Int32 × p_M) (w1 : Value), ShM μ → F_X13_count_c135 n v2 v3 μ = some r → Q ((0, some (.int r.1)), r.2) → p_Ev X (d + 0) M_X13_count 135 [.ref tM, w1, .int v2, .int v3] [] μ Q := by
  intro n
  induction n with
  | zero => intro v2 v3 μ r w1 hs h hQ; rw [F_X13_count_c135] at h; cases h
  | succ n ih =>
    intro v2 v3 μ r w1 hs h hQ
    rw [F_X13_count_c135] at h
    refine e_iload_n dX13_count_135 rfl ?_
    refine e_aload_n dX13_count_136 rfl ?_
    refine e_getI dX13_count_137 rfl rfl hs.1 hs.2.1 ?_
    refine e_ic_ge dX13_count_140 158 (by decide) (fun hc => ?_) (fun hc => ?_)
    · rw [if_pos hc] at h
      refine e_iload_n dX13_count_158 rfl ?_
      cases h
      exact e_ireti dX13_count_159 rfl hQ
    · rw [if_neg hc] at h
      refine e_iload_n dX13_count_143 rfl ?_
      refine e_aload_n dX13_count_144 rfl ?_
      refine e_getR dX13_count_145 rfl rfl hs.1 hs.2.1 (hs.2.2.2 29 (by decide) rfl).1 ?_
      refine e_iload_n dX13_count_148 rfl ?_
      obtain ⟨hc, h⟩ := p_ok_some h
      refine e_iald dX13_count_149 (Nat.lt_trans (hs.2.2.2 29 (by decide) rfl).2.2.2 hs.2.2.1) (hs.2.2.2 29 (by decide) rfl).2.1 (hs.2.2.2 29 (by decide) rfl).2.2.1 (hs.2.2.2 29 (by decide) rfl).2.2.2 hc ?_
      refine e_iadd dX13_count_150 ?_
      refine e_istore_n dX13_count_151 (Nat.le_of_ble_eq_true rfl) rfl ?_
      refine e_iinc (v := (1 : Int32)) dX13_count_152 rfl rfl rfl ?_
      refine e_goto dX13_count_155 135 (by decide) ?_
      exact ih _ _ _ _ _ hs h hQ
def F_X13_count_c216 (K192 : Int32 → Int32 → p_M → Option (Int32 × p_M)) (v3 : Int32) (s0 : Int32) (s1 : Int32) (μ : p_M) : Option (Int32 × p_M) :=
  K192 (s1 + s0) (v3 + (1 : Int32)) μ
theorem P_X13_count_c216 {K192 : Int32 → Int32 → p_M → Option (Int32 × p_M)} (hP192 : ∀ (v2 : Int32) (v3 : Int32) (μ : p_M) (r : Int32 × p_M), K192 v2 v3 μ = some r → Sm μ r.2) {v3 : Int32} {s0 : Int32} {s1 : Int32} {μ : p_M} {r : Int32 × p_M} (h : F_X13_count_c216 K192 v3 s0 s1 μ = some r) : Sm μ r.2 := by
  unfold F_X13_count_c216 at h
  exact Sm_trans (Sm_refl μ) (hP192 _ _ _ _ h)
theorem E_X13_count_c216 {X : p_X} {d : Nat} {Q : p_R → Prop} {K192 : Int32 → Int32 → p_M → Option (Int32 × p_M)} (hK192 : ∀ (v2 : Int32) (v3 : Int32) (μ : p_M) (r : Int32 × p_M) (w1 : Value), ShM μ → K192 v2 v3 μ = some r → Q ((0, some (.int r.1)), r.2) → p_Ev X (d + 0) M_X13_count 192 [.ref tM, w1, .int v2, .int v3] [] μ Q) {v3 : Int32} {s0 : Int32} {s1 : Int32} {w1 : Value} {w2 : Value} {μ : p_M} {r : Int32 × p_M} (hs : ShM μ) (h : F_X13_count_c216 K192 v3 s0 s1 μ = some r) (hQ : Q ((0, some (.int r.1)), r.2)) : p_Ev X (d + 0) M_X13_count 216 [.ref tM, w1, w2, .int v3] [.int s0, .int s1] μ Q := by
  unfold F_X13_count_c216 at h
  refine e_iadd dX13_count_216 ?_
  refine e_istore_n dX13_count_217 (Nat.le_of_ble_eq_true rfl) rfl ?_
  refine e_iinc (v := (1 : Int32)) dX13_count_218 rfl rfl rfl ?_
  refine e_goto dX13_count_221 192 (by decide) ?_
  exact hK192 _ _ _ _ _ hs h hQ
def F_X13_count_c192 : Nat → Int32 → Int32 → p_M → Option (Int32 × p_M)
  | 0, _, _, _ => none
  | n + 1, v2, v3, μ =>
    if (mI μ tM 62) ≤ v3
    then (some (v2, μ))
    else (p_ok (¬ v3 < 0 ∧ v3.toNatClampNeg < 40)
      (if ¬ (mI μ (aM 55) v3.toNatClampNeg) = (3 : Int32)
      then (F_X13_count_c216 (F_X13_count_c192 n) v3 (0 : Int32) v2 μ)
      else (F_X13_count_c216 (F_X13_count_c192 n) v3 (1 : Int32) v2 μ)))
theorem P_X13_count_c192 : ∀ (n : Nat) (v2 : Int32) (v3 : Int32) (μ : p_M) (r : Int32 × p_M), F_X13_count_c192 n v2 v3 μ = some r → Sm μ r.2 := by
  intro n
  induction n with
  | zero => intro v2 v3 μ r h; rw [F_X13_count_c192] at h; cases h
  | succ n ih =>
    intro v2 v3 μ r h
    rw [F_X13_count_c192] at h
    by_cases hc : (mI μ tM 62) ≤ v3
    · rw [if_pos hc] at h
      cases h
      exact (Sm_refl μ)
    · rw [if_neg hc] at h
      obtain ⟨hc, h⟩ := p_ok_some h
      by_cases hc : ¬ (mI μ (aM 55) v3.toNatClampNeg) = (3 : Int32)
      · rw [if_pos hc] at h
        exact Sm_trans (Sm_refl μ) (P_X13_count_c216 ih h)
      · rw [if_neg hc] at h
        exact Sm_trans (Sm_refl μ) (P_X13_count_c216 ih h)
theorem E_X13_count_c192 {X : p_X} {d : Nat} {Q : p_R → Prop} : ∀ (n : Nat) (v2 : Int32) (v3 : Int32) (μ : p_M) (r : Int32 × p_M) (w1 : Value), ShM μ → F_X13_count_c192 n v2 v3 μ = some r → Q ((0, some (.int r.1)), r.2) → p_Ev X (d + 0) M_X13_count 192 [.ref tM, w1, .int v2, .int v3] [] μ Q := by
  intro n
  induction n with
  | zero => intro v2 v3 μ r w1 hs h hQ; rw [F_X13_count_c192] at h; cases h
  | succ n ih =>
    intro v2 v3 μ r w1 hs h hQ
    rw [F_X13_count_c192] at h
    refine e_iload_n dX13_count_192 rfl ?_
    refine e_aload_n dX13_count_193 rfl ?_
    refine e_getI dX13_count_194 rfl rfl hs.1 hs.2.1 ?_
    refine e_ic_ge dX13_count_197 224 (by decide) (fun hc => ?_) (fun hc => ?_)
    · rw [if_pos hc] at h
      refine e_iload_n dX13_count_224 rfl ?_
      cases h
      exact e_ireti dX13_count_225 rfl hQ
    · rw [if_neg hc] at h
      refine e_iload_n dX13_count_200 rfl ?_
      refine e_aload_n dX13_count_201 rfl ?_
      refine e_getR dX13_count_202 rfl rfl hs.1 hs.2.1 (hs.2.2.2 55 (by decide) rfl).1 ?_
      refine e_iload_n dX13_count_205 rfl ?_
      obtain ⟨hc, h⟩ := p_ok_some h
      refine e_iald dX13_count_206 (Nat.lt_trans (hs.2.2.2 55 (by decide) rfl).2.2.2 hs.2.2.1) (hs.2.2.2 55 (by decide) rfl).2.1 (hs.2.2.2 55 (by decide) rfl).2.2.1 (hs.2.2.2 55 (by decide) rfl).2.2.2 hc ?_
      refine e_iconst (v := (3 : Int32)) dX13_count_207 rfl ?_
      refine e_ic_ne dX13_count_208 215 (by decide) (fun hc => ?_) (fun hc => ?_)
      · rw [if_pos hc] at h
        refine e_iconst (v := (0 : Int32)) dX13_count_215 rfl ?_
        exact E_X13_count_c216 ih hs h hQ
      · rw [if_neg hc] at h
        refine e_iconst (v := (1 : Int32)) dX13_count_211 rfl ?_
        refine e_goto dX13_count_212 216 (by decide) ?_
        exact E_X13_count_c216 ih hs h hQ
def F_X13_count (v1 : Int32) (μ : p_M) : Option (Int32 × p_M) :=
  if v1.toInt < 0 ∨ 18 < v1.toInt then (some ((-1), (sI μ tM 0 (0 : Int32))))
  else if v1 = 0 then (some ((mI (sI μ tM 0 (0 : Int32)) tM 14), (sI μ tM 0 (0 : Int32))))
  else if v1 = 1 then (p_ok (¬ (40 : Int32) < 0 ∧ (40 : Int32).toNatClampNeg < 42)
    (some ((mI (sI μ tM 0 (0 : Int32)) (aM 8) (40 : Int32).toNatClampNeg), (sI μ tM 0 (0 : Int32)))))
  else if v1 = 2 then (some ((mI (sI μ tM 0 (0 : Int32)) tM 25), (sI μ tM 0 (0 : Int32))))
  else if v1 = 3 then (some ((mI (sI μ tM 0 (0 : Int32)) tM 30), (sI μ tM 0 (0 : Int32))))
  else if v1 = 4 then (some ((mI (sI μ tM 0 (0 : Int32)) tM 31), (sI μ tM 0 (0 : Int32))))
  else if v1 = 5 then (some ((mI (sI μ tM 0 (0 : Int32)) tM 32), (sI μ tM 0 (0 : Int32))))
  else if v1 = 6 then (F_X13_count_c135 p_fu (0 : Int32) (0 : Int32) (sI μ tM 0 (0 : Int32)))
  else if v1 = 7 then (some ((mI (sI μ tM 0 (0 : Int32)) tM 33), (sI μ tM 0 (0 : Int32))))
  else if v1 = 8 then (some ((mI (sI μ tM 0 (0 : Int32)) tM 34), (sI μ tM 0 (0 : Int32))))
  else if v1 = 9 then (some ((mI (sI μ tM 0 (0 : Int32)) tM 39), (sI μ tM 0 (0 : Int32))))
  else if v1 = 10 then (some ((mI (sI μ tM 0 (0 : Int32)) tM 42), (sI μ tM 0 (0 : Int32))))
  else if v1 = 11 then (some ((mI (sI μ tM 0 (0 : Int32)) tM 47), (sI μ tM 0 (0 : Int32))))
  else if v1 = 12 then (some ((mI (sI μ tM 0 (0 : Int32)) tM 62), (sI μ tM 0 (0 : Int32))))
  else if v1 = 13 then (F_X13_count_c192 p_fu (0 : Int32) (0 : Int32) (sI μ tM 0 (0 : Int32)))
  else if v1 = 14 then (some ((mI (sI μ tM 0 (0 : Int32)) tM 69), (sI μ tM 0 (0 : Int32))))
  else if v1 = 15 then (some ((mI (sI μ tM 0 (0 : Int32)) tM 70), (sI μ tM 0 (0 : Int32))))
  else if v1 = 16 then (some ((mI (sI μ tM 0 (0 : Int32)) tM 74), (sI μ tM 0 (0 : Int32))))
  else if v1 = 17 then (some ((mI (sI μ tM 0 (0 : Int32)) tM 75), (sI μ tM 0 (0 : Int32))))
  else if v1 = 18 then (some ((mI (sI μ tM 0 (0 : Int32)) tM 41), (sI μ tM 0 (0 : Int32))))
  else none
theorem P_X13_count {v1 : Int32} {μ : p_M} {r : Int32 × p_M} (h : F_X13_count v1 μ = some r) : Sm μ r.2 := by
  unfold F_X13_count at h
  by_cases hc : v1.toInt < 0 ∨ 18 < v1.toInt
  · rw [if_pos hc] at h
    cases h
    exact (Sm_set (Sm_refl μ) (by decide))
  rw [if_neg hc] at h
  by_cases hc : v1 = 0
  · rw [if_pos hc] at h
    cases h
    exact (Sm_set (Sm_refl μ) (by decide))
  rw [if_neg hc] at h
  by_cases hc : v1 = 1
  · rw [if_pos hc] at h
    obtain ⟨hc, h⟩ := p_ok_some h
    cases h
    exact (Sm_set (Sm_refl μ) (by decide))
  rw [if_neg hc] at h
  by_cases hc : v1 = 2
  · rw [if_pos hc] at h
    cases h
    exact (Sm_set (Sm_refl μ) (by decide))
  rw [if_neg hc] at h
  by_cases hc : v1 = 3
  · rw [if_pos hc] at h
    cases h
    exact (Sm_set (Sm_refl μ) (by decide))
  rw [if_neg hc] at h
  by_cases hc : v1 = 4
  · rw [if_pos hc] at h
    cases h
    exact (Sm_set (Sm_refl μ) (by decide))
  rw [if_neg hc] at h
  by_cases hc : v1 = 5
  · rw [if_pos hc] at h
    cases h
    exact (Sm_set (Sm_refl μ) (by decide))
  rw [if_neg hc] at h
  by_cases hc : v1 = 6
  · rw [if_pos hc] at h
    exact Sm_trans (Sm_set (Sm_refl μ) (by decide)) (P_X13_count_c135 p_fu _ _ _ _ h)
  rw [if_neg hc] at h
  by_cases hc : v1 = 7
  · rw [if_pos hc] at h
    cases h
    exact (Sm_set (Sm_refl μ) (by decide))
  rw [if_neg hc] at h
  by_cases hc : v1 = 8
  · rw [if_pos hc] at h
    cases h
    exact (Sm_set (Sm_refl μ) (by decide))
  rw [if_neg hc] at h
  by_cases hc : v1 = 9
  · rw [if_pos hc] at h
    cases h
    exact (Sm_set (Sm_refl μ) (by decide))
  rw [if_neg hc] at h
  by_cases hc : v1 = 10
  · rw [if_pos hc] at h
    cases h
    exact (Sm_set (Sm_refl μ) (by decide))
  rw [if_neg hc] at h
  by_cases hc : v1 = 11
  · rw [if_pos hc] at h
    cases h
    exact (Sm_set (Sm_refl μ) (by decide))
  rw [if_neg hc] at h
  by_cases hc : v1 = 12
  · rw [if_pos hc] at h
    cases h
    exact (Sm_set (Sm_refl μ) (by decide))
  rw [if_neg hc] at h
  by_cases hc : v1 = 13
  · rw [if_pos hc] at h
    exact Sm_trans (Sm_set (Sm_refl μ) (by decide)) (P_X13_count_c192 p_fu _ _ _ _ h)
  rw [if_neg hc] at h
  by_cases hc : v1 = 14
  · rw [if_pos hc] at h
    cases h
    exact (Sm_set (Sm_refl μ) (by decide))
  rw [if_neg hc] at h
  by_cases hc : v1 = 15
  · rw [if_pos hc] at h
    cases h
    exact (Sm_set (Sm_refl μ) (by decide))
  rw [if_neg hc] at h
  by_cases hc : v1 = 16
  · rw [if_pos hc] at h
    cases h
    exact (Sm_set (Sm_refl μ) (by decide))
  rw [if_neg hc] at h
  by_cases hc : v1 = 17
  · rw [if_pos hc] at h
    cases h
    exact (Sm_set (Sm_refl μ) (by decide))
  rw [if_neg hc] at h
  by_cases hc : v1 = 18
  · rw [if_pos hc] at h
    cases h
    exact (Sm_set (Sm_refl μ) (by decide))
  rw [if_neg hc] at h
  cases h
theorem E_X13_count {X : p_X} {d : Nat} {Q : p_R → Prop} {v1 : Int32} {μ : p_M} {r : Int32 × p_M} (hs : ShM μ) (h : F_X13_count v1 μ = some r) (hQ : Q ((0, some (.int r.1)), r.2)) : p_Ev X (d + 0) M_X13_count 0 [.ref tM, .int v1, .double 0, .double 0] [] μ Q := by
  unfold F_X13_count at h
  refine e_aload_n dX13_count_0 rfl ?_
  refine e_iconst (v := (0 : Int32)) dX13_count_1 rfl ?_
  refine e_putI dX13_count_2 rfl ⟨rfl, rfl, fun h => by cases h⟩ (fun h => by cases h) hs.1 hs.2.1 ?_
  refine e_iconst (v := (0 : Int32)) dX13_count_5 rfl ?_
  refine e_istore_n dX13_count_6 (Nat.le_of_ble_eq_true rfl) rfl ?_
  refine e_iload_n dX13_count_7 rfl ?_
  by_cases hc : v1.toInt < 0 ∨ 18 < v1.toInt
  · rw [if_pos hc] at h
    refine e_swD dX13_count_8 hc 251 (by decide) ?_
    refine e_iconst (v := (-1)) dX13_count_251 rfl ?_
    cases h
    exact e_ireti dX13_count_252 rfl hQ
  rw [if_neg hc] at h
  by_cases hc : v1 = 0
  · rw [if_pos hc] at h
    refine e_swK (v := 0) dX13_count_8 hc (by decide) rfl 100 (by decide) ?_
    refine e_aload_n dX13_count_100 rfl ?_
    refine e_getI dX13_count_101 rfl rfl hs.1 hs.2.1 ?_
    cases h
    exact e_ireti dX13_count_104 rfl hQ
  rw [if_neg hc] at h
  by_cases hc : v1 = 1
  · rw [if_pos hc] at h
    refine e_swK (v := 1) dX13_count_8 hc (by decide) rfl 105 (by decide) ?_
    refine e_aload_n dX13_count_105 rfl ?_
    refine e_getR dX13_count_106 rfl rfl hs.1 hs.2.1 (hs.2.2.2 8 (by decide) rfl).1 ?_
    refine e_bipush (v := (40 : Int32)) dX13_count_109 rfl ?_
    obtain ⟨hc, h⟩ := p_ok_some h
    refine e_iald dX13_count_111 (Nat.lt_trans (hs.2.2.2 8 (by decide) rfl).2.2.2 hs.2.2.1) (hs.2.2.2 8 (by decide) rfl).2.1 (hs.2.2.2 8 (by decide) rfl).2.2.1 (hs.2.2.2 8 (by decide) rfl).2.2.2 hc ?_
    cases h
    exact e_ireti dX13_count_112 rfl hQ
  rw [if_neg hc] at h
  by_cases hc : v1 = 2
  · rw [if_pos hc] at h
    refine e_swK (v := 2) dX13_count_8 hc (by decide) rfl 113 (by decide) ?_
    refine e_aload_n dX13_count_113 rfl ?_
    refine e_getI dX13_count_114 rfl rfl hs.1 hs.2.1 ?_
    cases h
    exact e_ireti dX13_count_117 rfl hQ
  rw [if_neg hc] at h
  by_cases hc : v1 = 3
  · rw [if_pos hc] at h
    refine e_swK (v := 3) dX13_count_8 hc (by decide) rfl 118 (by decide) ?_
    refine e_aload_n dX13_count_118 rfl ?_
    refine e_getI dX13_count_119 rfl rfl hs.1 hs.2.1 ?_
    cases h
    exact e_ireti dX13_count_122 rfl hQ
  rw [if_neg hc] at h
  by_cases hc : v1 = 4
  · rw [if_pos hc] at h
    refine e_swK (v := 4) dX13_count_8 hc (by decide) rfl 123 (by decide) ?_
    refine e_aload_n dX13_count_123 rfl ?_
    refine e_getI dX13_count_124 rfl rfl hs.1 hs.2.1 ?_
    cases h
    exact e_ireti dX13_count_127 rfl hQ
  rw [if_neg hc] at h
  by_cases hc : v1 = 5
  · rw [if_pos hc] at h
    refine e_swK (v := 5) dX13_count_8 hc (by decide) rfl 128 (by decide) ?_
    refine e_aload_n dX13_count_128 rfl ?_
    refine e_getI dX13_count_129 rfl rfl hs.1 hs.2.1 ?_
    cases h
    exact e_ireti dX13_count_132 rfl hQ
  rw [if_neg hc] at h
  by_cases hc : v1 = 6
  · rw [if_pos hc] at h
    refine e_swK (v := 6) dX13_count_8 hc (by decide) rfl 133 (by decide) ?_
    refine e_iconst (v := (0 : Int32)) dX13_count_133 rfl ?_
    refine e_istore_n dX13_count_134 (Nat.le_of_ble_eq_true rfl) rfl ?_
    exact E_X13_count_c135 p_fu _ _ _ _ _ hs h hQ
  rw [if_neg hc] at h
  by_cases hc : v1 = 7
  · rw [if_pos hc] at h
    refine e_swK (v := 7) dX13_count_8 hc (by decide) rfl 160 (by decide) ?_
    refine e_aload_n dX13_count_160 rfl ?_
    refine e_getI dX13_count_161 rfl rfl hs.1 hs.2.1 ?_
    cases h
    exact e_ireti dX13_count_164 rfl hQ
  rw [if_neg hc] at h
  by_cases hc : v1 = 8
  · rw [if_pos hc] at h
    refine e_swK (v := 8) dX13_count_8 hc (by decide) rfl 165 (by decide) ?_
    refine e_aload_n dX13_count_165 rfl ?_
    refine e_getI dX13_count_166 rfl rfl hs.1 hs.2.1 ?_
    cases h
    exact e_ireti dX13_count_169 rfl hQ
  rw [if_neg hc] at h
  by_cases hc : v1 = 9
  · rw [if_pos hc] at h
    refine e_swK (v := 9) dX13_count_8 hc (by decide) rfl 170 (by decide) ?_
    refine e_aload_n dX13_count_170 rfl ?_
    refine e_getI dX13_count_171 rfl rfl hs.1 hs.2.1 ?_
    cases h
    exact e_ireti dX13_count_174 rfl hQ
  rw [if_neg hc] at h
  by_cases hc : v1 = 10
  · rw [if_pos hc] at h
    refine e_swK (v := 10) dX13_count_8 hc (by decide) rfl 175 (by decide) ?_
    refine e_aload_n dX13_count_175 rfl ?_
    refine e_getI dX13_count_176 rfl rfl hs.1 hs.2.1 ?_
    cases h
    exact e_ireti dX13_count_179 rfl hQ
  rw [if_neg hc] at h
  by_cases hc : v1 = 11
  · rw [if_pos hc] at h
    refine e_swK (v := 11) dX13_count_8 hc (by decide) rfl 180 (by decide) ?_
    refine e_aload_n dX13_count_180 rfl ?_
    refine e_getI dX13_count_181 rfl rfl hs.1 hs.2.1 ?_
    cases h
    exact e_ireti dX13_count_184 rfl hQ
  rw [if_neg hc] at h
  by_cases hc : v1 = 12
  · rw [if_pos hc] at h
    refine e_swK (v := 12) dX13_count_8 hc (by decide) rfl 185 (by decide) ?_
    refine e_aload_n dX13_count_185 rfl ?_
    refine e_getI dX13_count_186 rfl rfl hs.1 hs.2.1 ?_
    cases h
    exact e_ireti dX13_count_189 rfl hQ
  rw [if_neg hc] at h
  by_cases hc : v1 = 13
  · rw [if_pos hc] at h
    refine e_swK (v := 13) dX13_count_8 hc (by decide) rfl 190 (by decide) ?_
    refine e_iconst (v := (0 : Int32)) dX13_count_190 rfl ?_
    refine e_istore_n dX13_count_191 (Nat.le_of_ble_eq_true rfl) rfl ?_
    exact E_X13_count_c192 p_fu _ _ _ _ _ hs h hQ
  rw [if_neg hc] at h
  by_cases hc : v1 = 14
  · rw [if_pos hc] at h
    refine e_swK (v := 14) dX13_count_8 hc (by decide) rfl 226 (by decide) ?_
    refine e_aload_n dX13_count_226 rfl ?_
    refine e_getI dX13_count_227 rfl rfl hs.1 hs.2.1 ?_
    cases h
    exact e_ireti dX13_count_230 rfl hQ
  rw [if_neg hc] at h
  by_cases hc : v1 = 15
  · rw [if_pos hc] at h
    refine e_swK (v := 15) dX13_count_8 hc (by decide) rfl 231 (by decide) ?_
    refine e_aload_n dX13_count_231 rfl ?_
    refine e_getI dX13_count_232 rfl rfl hs.1 hs.2.1 ?_
    cases h
    exact e_ireti dX13_count_235 rfl hQ
  rw [if_neg hc] at h
  by_cases hc : v1 = 16
  · rw [if_pos hc] at h
    refine e_swK (v := 16) dX13_count_8 hc (by decide) rfl 236 (by decide) ?_
    refine e_aload_n dX13_count_236 rfl ?_
    refine e_getI dX13_count_237 rfl rfl hs.1 hs.2.1 ?_
    cases h
    exact e_ireti dX13_count_240 rfl hQ
  rw [if_neg hc] at h
  by_cases hc : v1 = 17
  · rw [if_pos hc] at h
    refine e_swK (v := 17) dX13_count_8 hc (by decide) rfl 241 (by decide) ?_
    refine e_aload_n dX13_count_241 rfl ?_
    refine e_getI dX13_count_242 rfl rfl hs.1 hs.2.1 ?_
    cases h
    exact e_ireti dX13_count_245 rfl hQ
  rw [if_neg hc] at h
  by_cases hc : v1 = 18
  · rw [if_pos hc] at h
    refine e_swK (v := 18) dX13_count_8 hc (by decide) rfl 246 (by decide) ?_
    refine e_aload_n dX13_count_246 rfl ?_
    refine e_getI dX13_count_247 rfl rfl hs.1 hs.2.1 ?_
    cases h
    exact e_ireti dX13_count_250 rfl hQ
  rw [if_neg hc] at h
  cases h
/-! X13_nextFor -/
def F_X13_nextFor_c92 (K4 : Int32 → Int32 → Int32 → p_M → Option (Int32 × p_M)) (v1 : Int32) (v2 : Int32) (v3 : Int32) (μ : p_M) : Option (Int32 × p_M) :=
  K4 v1 v2 (v3 + (1 : Int32)) μ
theorem P_X13_nextFor_c92 {K4 : Int32 → Int32 → Int32 → p_M → Option (Int32 × p_M)} (hP4 : ∀ (v1 : Int32) (v2 : Int32) (v3 : Int32) (μ : p_M) (r : Int32 × p_M), K4 v1 v2 v3 μ = some r → Sm μ r.2) {v1 : Int32} {v2 : Int32} {v3 : Int32} {μ : p_M} {r : Int32 × p_M} (h : F_X13_nextFor_c92 K4 v1 v2 v3 μ = some r) : Sm μ r.2 := by
  unfold F_X13_nextFor_c92 at h
  exact Sm_trans (Sm_refl μ) (hP4 _ _ _ _ _ h)
theorem E_X13_nextFor_c92 {X : p_X} {d : Nat} {Q : p_R → Prop} {K4 : Int32 → Int32 → Int32 → p_M → Option (Int32 × p_M)} (hK4 : ∀ (v1 : Int32) (v2 : Int32) (v3 : Int32) (μ : p_M) (r : Int32 × p_M), ShM μ → K4 v1 v2 v3 μ = some r → Q ((0, some (.int r.1)), r.2) → p_Ev X (d + 0) M_X13_nextFor 4 [.ref tM, .int v1, .int v2, .int v3] [] μ Q) {v1 : Int32} {v2 : Int32} {v3 : Int32} {μ : p_M} {r : Int32 × p_M} (hs : ShM μ) (h : F_X13_nextFor_c92 K4 v1 v2 v3 μ = some r) (hQ : Q ((0, some (.int r.1)), r.2)) : p_Ev X (d + 0) M_X13_nextFor 92 [.ref tM, .int v1, .int v2, .int v3] [] μ Q := by
  unfold F_X13_nextFor_c92 at h
  refine e_iinc (v := (1 : Int32)) dX13_nextFor_92 rfl rfl rfl ?_
  refine e_goto dX13_nextFor_95 4 (by decide) ?_
  exact hK4 _ _ _ _ _ hs h hQ
def F_X13_nextFor_c90 (K4 : Int32 → Int32 → Int32 → p_M → Option (Int32 × p_M)) (v1 : Int32) (v3 : Int32) (μ : p_M) : Option (Int32 × p_M) :=
  F_X13_nextFor_c92 K4 v1 v3 v3 μ
theorem P_X13_nextFor_c90 {K4 : Int32 → Int32 → Int32 → p_M → Option (Int32 × p_M)} (hP4 : ∀ (v1 : Int32) (v2 : Int32) (v3 : Int32) (μ : p_M) (r : Int32 × p_M), K4 v1 v2 v3 μ = some r → Sm μ r.2) {v1 : Int32} {v3 : Int32} {μ : p_M} {r : Int32 × p_M} (h : F_X13_nextFor_c90 K4 v1 v3 μ = some r) : Sm μ r.2 := by
  unfold F_X13_nextFor_c90 at h
  exact Sm_trans (Sm_refl μ) (P_X13_nextFor_c92 hP4 h)
theorem E_X13_nextFor_c90 {X : p_X} {d : Nat} {Q : p_R → Prop} {K4 : Int32 → Int32 → Int32 → p_M → Option (Int32 × p_M)} (hK4 : ∀ (v1 : Int32) (v2 : Int32) (v3 : Int32) (μ : p_M) (r : Int32 × p_M), ShM μ → K4 v1 v2 v3 μ = some r → Q ((0, some (.int r.1)), r.2) → p_Ev X (d + 0) M_X13_nextFor 4 [.ref tM, .int v1, .int v2, .int v3] [] μ Q) {v1 : Int32} {v3 : Int32} {w2 : Value} {μ : p_M} {r : Int32 × p_M} (hs : ShM μ) (h : F_X13_nextFor_c90 K4 v1 v3 μ = some r) (hQ : Q ((0, some (.int r.1)), r.2)) : p_Ev X (d + 0) M_X13_nextFor 90 [.ref tM, .int v1, w2, .int v3] [] μ Q := by
  unfold F_X13_nextFor_c90 at h
  refine e_iload_n dX13_nextFor_90 rfl ?_
  refine e_istore_n dX13_nextFor_91 (Nat.le_of_ble_eq_true rfl) rfl ?_
  exact E_X13_nextFor_c92 hK4 hs h hQ
def F_X13_nextFor_c71 (K4 : Int32 → Int32 → Int32 → p_M → Option (Int32 × p_M)) (v1 : Int32) (v2 : Int32) (v3 : Int32) (μ : p_M) : Option (Int32 × p_M) :=
  if v2 < 0
  then (F_X13_nextFor_c90 K4 v1 v3 μ)
  else (p_ok (¬ v3 < 0 ∧ v3.toNatClampNeg < 40)
    (p_ok (¬ v2 < 0 ∧ v2.toNatClampNeg < 40)
    (if (mI μ (aM 61) v2.toNatClampNeg) ≤ (mI μ (aM 61) v3.toNatClampNeg)
    then (F_X13_nextFor_c92 K4 v1 v2 v3 μ)
    else (F_X13_nextFor_c90 K4 v1 v3 μ))))
theorem P_X13_nextFor_c71 {K4 : Int32 → Int32 → Int32 → p_M → Option (Int32 × p_M)} (hP4 : ∀ (v1 : Int32) (v2 : Int32) (v3 : Int32) (μ : p_M) (r : Int32 × p_M), K4 v1 v2 v3 μ = some r → Sm μ r.2) {v1 : Int32} {v2 : Int32} {v3 : Int32} {μ : p_M} {r : Int32 × p_M} (h : F_X13_nextFor_c71 K4 v1 v2 v3 μ = some r) : Sm μ r.2 := by
  unfold F_X13_nextFor_c71 at h
  by_cases hc : v2 < 0
  · rw [if_pos hc] at h
    exact Sm_trans (Sm_refl μ) (P_X13_nextFor_c90 hP4 h)
  · rw [if_neg hc] at h
    obtain ⟨hc, h⟩ := p_ok_some h
    obtain ⟨hc, h⟩ := p_ok_some h
    by_cases hc : (mI μ (aM 61) v2.toNatClampNeg) ≤ (mI μ (aM 61) v3.toNatClampNeg)
    · rw [if_pos hc] at h
      exact Sm_trans (Sm_refl μ) (P_X13_nextFor_c92 hP4 h)
    · rw [if_neg hc] at h
      exact Sm_trans (Sm_refl μ) (P_X13_nextFor_c90 hP4 h)
theorem E_X13_nextFor_c71 {X : p_X} {d : Nat} {Q : p_R → Prop} {K4 : Int32 → Int32 → Int32 → p_M → Option (Int32 × p_M)} (hK4 : ∀ (v1 : Int32) (v2 : Int32) (v3 : Int32) (μ : p_M) (r : Int32 × p_M), ShM μ → K4 v1 v2 v3 μ = some r → Q ((0, some (.int r.1)), r.2) → p_Ev X (d + 0) M_X13_nextFor 4 [.ref tM, .int v1, .int v2, .int v3] [] μ Q) {v1 : Int32} {v2 : Int32} {v3 : Int32} {μ : p_M} {r : Int32 × p_M} (hs : ShM μ) (h : F_X13_nextFor_c71 K4 v1 v2 v3 μ = some r) (hQ : Q ((0, some (.int r.1)), r.2)) : p_Ev X (d + 0) M_X13_nextFor 71 [.ref tM, .int v1, .int v2, .int v3] [] μ Q := by
  unfold F_X13_nextFor_c71 at h
  refine e_iload_n dX13_nextFor_71 rfl ?_
  refine e_if_lt dX13_nextFor_72 90 (by decide) (fun hc => ?_) (fun hc => ?_)
  · rw [if_pos hc] at h
    exact E_X13_nextFor_c90 hK4 hs h hQ
  · rw [if_neg hc] at h
    refine e_aload_n dX13_nextFor_75 rfl ?_
    refine e_getR dX13_nextFor_76 rfl rfl hs.1 hs.2.1 (hs.2.2.2 61 (by decide) rfl).1 ?_
    refine e_iload_n dX13_nextFor_79 rfl ?_
    obtain ⟨hc, h⟩ := p_ok_some h
    refine e_iald dX13_nextFor_80 (Nat.lt_trans (hs.2.2.2 61 (by decide) rfl).2.2.2 hs.2.2.1) (hs.2.2.2 61 (by decide) rfl).2.1 (hs.2.2.2 61 (by decide) rfl).2.2.1 (hs.2.2.2 61 (by decide) rfl).2.2.2 hc ?_
    refine e_aload_n dX13_nextFor_81 rfl ?_
    refine e_getR dX13_nextFor_82 rfl rfl hs.1 hs.2.1 (hs.2.2.2 61 (by decide) rfl).1 ?_
    refine e_iload_n dX13_nextFor_85 rfl ?_
    obtain ⟨hc, h⟩ := p_ok_some h
    refine e_iald dX13_nextFor_86 (Nat.lt_trans (hs.2.2.2 61 (by decide) rfl).2.2.2 hs.2.2.1) (hs.2.2.2 61 (by decide) rfl).2.1 (hs.2.2.2 61 (by decide) rfl).2.2.1 (hs.2.2.2 61 (by decide) rfl).2.2.2 hc ?_
    refine e_ic_ge dX13_nextFor_87 92 (by decide) (fun hc => ?_) (fun hc => ?_)
    · rw [if_pos hc] at h
      exact E_X13_nextFor_c92 hK4 hs h hQ
    · rw [if_neg hc] at h
      exact E_X13_nextFor_c90 hK4 hs h hQ
def F_X13_nextFor_c4 : Nat → Int32 → Int32 → Int32 → p_M → Option (Int32 × p_M)
  | 0, _, _, _, _ => none
  | n + 1, v1, v2, v3, μ =>
    if (mI μ tM 62) ≤ v3
    then (some (v2, μ))
    else (p_ok (¬ v3 < 0 ∧ v3.toNatClampNeg < 40)
      (if ¬ (mI μ (aM 55) v3.toNatClampNeg) = (1 : Int32)
      then (F_X13_nextFor_c92 (F_X13_nextFor_c4 n) v1 v2 v3 μ)
      else (p_ok (¬ v3 < 0 ∧ v3.toNatClampNeg < 40)
        (if (mI μ (aM 56) v3.toNatClampNeg) = v1
        then (p_ok (¬ v1 < 0 ∧ v1.toNatClampNeg < 4)
          (if (mI μ (aM 45) v1.toNatClampNeg) < 0
          then (F_X13_nextFor_c71 (F_X13_nextFor_c4 n) v1 v2 v3 μ)
          else (p_ok (¬ v1 < 0 ∧ v1.toNatClampNeg < 4)
            (p_ok (¬ v3 < 0 ∧ v3.toNatClampNeg < 40)
            (p_ok (¬ (((6 : Int32) * (mI μ (aM 45) v1.toNatClampNeg)) + (mI μ (aM 50) v3.toNatClampNeg)) < 0 ∧ (((6 : Int32) * (mI μ (aM 45) v1.toNatClampNeg)) + (mI μ (aM 50) v3.toNatClampNeg)).toNatClampNeg < 36)
            (if 0 ≤ (mI μ (aM 23) (((6 : Int32) * (mI μ (aM 45) v1.toNatClampNeg)) + (mI μ (aM 50) v3.toNatClampNeg)).toNatClampNeg)
            then (F_X13_nextFor_c71 (F_X13_nextFor_c4 n) v1 v2 v3 μ)
            else (F_X13_nextFor_c92 (F_X13_nextFor_c4 n) v1 v2 v3 μ)))))))
        else (F_X13_nextFor_c92 (F_X13_nextFor_c4 n) v1 v2 v3 μ)))))
theorem P_X13_nextFor_c4 : ∀ (n : Nat) (v1 : Int32) (v2 : Int32) (v3 : Int32) (μ : p_M) (r : Int32 × p_M), F_X13_nextFor_c4 n v1 v2 v3 μ = some r → Sm μ r.2 := by
  intro n
  induction n with
  | zero => intro v1 v2 v3 μ r h; rw [F_X13_nextFor_c4] at h; cases h
  | succ n ih =>
    intro v1 v2 v3 μ r h
    rw [F_X13_nextFor_c4] at h
    by_cases hc : (mI μ tM 62) ≤ v3
    · rw [if_pos hc] at h
      cases h
      exact (Sm_refl μ)
    · rw [if_neg hc] at h
      obtain ⟨hc, h⟩ := p_ok_some h
      by_cases hc : ¬ (mI μ (aM 55) v3.toNatClampNeg) = (1 : Int32)
      · rw [if_pos hc] at h
        exact Sm_trans (Sm_refl μ) (P_X13_nextFor_c92 ih h)
      · rw [if_neg hc] at h
        obtain ⟨hc, h⟩ := p_ok_some h
        by_cases hc : (mI μ (aM 56) v3.toNatClampNeg) = v1
        · rw [if_pos hc] at h
          obtain ⟨hc, h⟩ := p_ok_some h
          by_cases hc : (mI μ (aM 45) v1.toNatClampNeg) < 0
          · rw [if_pos hc] at h
            exact Sm_trans (Sm_refl μ) (P_X13_nextFor_c71 ih h)
          · rw [if_neg hc] at h
            obtain ⟨hc, h⟩ := p_ok_some h
            obtain ⟨hc, h⟩ := p_ok_some h
            obtain ⟨hc, h⟩ := p_ok_some h
            by_cases hc : 0 ≤ (mI μ (aM 23) (((6 : Int32) * (mI μ (aM 45) v1.toNatClampNeg)) + (mI μ (aM 50) v3.toNatClampNeg)).toNatClampNeg)
            · rw [if_pos hc] at h
              exact Sm_trans (Sm_refl μ) (P_X13_nextFor_c71 ih h)
            · rw [if_neg hc] at h
              exact Sm_trans (Sm_refl μ) (P_X13_nextFor_c92 ih h)
        · rw [if_neg hc] at h
          exact Sm_trans (Sm_refl μ) (P_X13_nextFor_c92 ih h)
theorem E_X13_nextFor_c4 {X : p_X} {d : Nat} {Q : p_R → Prop} : ∀ (n : Nat) (v1 : Int32) (v2 : Int32) (v3 : Int32) (μ : p_M) (r : Int32 × p_M), ShM μ → F_X13_nextFor_c4 n v1 v2 v3 μ = some r → Q ((0, some (.int r.1)), r.2) → p_Ev X (d + 0) M_X13_nextFor 4 [.ref tM, .int v1, .int v2, .int v3] [] μ Q := by
  intro n
  induction n with
  | zero => intro v1 v2 v3 μ r hs h hQ; rw [F_X13_nextFor_c4] at h; cases h
  | succ n ih =>
    intro v1 v2 v3 μ r hs h hQ
    rw [F_X13_nextFor_c4] at h
    refine e_iload_n dX13_nextFor_4 rfl ?_
    refine e_aload_n dX13_nextFor_5 rfl ?_
    refine e_getI dX13_nextFor_6 rfl rfl hs.1 hs.2.1 ?_
    refine e_ic_ge dX13_nextFor_9 98 (by decide) (fun hc => ?_) (fun hc => ?_)
    · rw [if_pos hc] at h
      refine e_iload_n dX13_nextFor_98 rfl ?_
      cases h
      exact e_ireti dX13_nextFor_99 rfl hQ
    · rw [if_neg hc] at h
      refine e_aload_n dX13_nextFor_12 rfl ?_
      refine e_getR dX13_nextFor_13 rfl rfl hs.1 hs.2.1 (hs.2.2.2 55 (by decide) rfl).1 ?_
      refine e_iload_n dX13_nextFor_16 rfl ?_
      obtain ⟨hc, h⟩ := p_ok_some h
      refine e_iald dX13_nextFor_17 (Nat.lt_trans (hs.2.2.2 55 (by decide) rfl).2.2.2 hs.2.2.1) (hs.2.2.2 55 (by decide) rfl).2.1 (hs.2.2.2 55 (by decide) rfl).2.2.1 (hs.2.2.2 55 (by decide) rfl).2.2.2 hc ?_
      refine e_iconst (v := (1 : Int32)) dX13_nextFor_18 rfl ?_
      refine e_ic_ne dX13_nextFor_19 92 (by decide) (fun hc => ?_) (fun hc => ?_)
      · rw [if_pos hc] at h
        exact E_X13_nextFor_c92 ih hs h hQ
      · rw [if_neg hc] at h
        refine e_aload_n dX13_nextFor_22 rfl ?_
        refine e_getR dX13_nextFor_23 rfl rfl hs.1 hs.2.1 (hs.2.2.2 56 (by decide) rfl).1 ?_
        refine e_iload_n dX13_nextFor_26 rfl ?_
        obtain ⟨hc, h⟩ := p_ok_some h
        refine e_iald dX13_nextFor_27 (Nat.lt_trans (hs.2.2.2 56 (by decide) rfl).2.2.2 hs.2.2.1) (hs.2.2.2 56 (by decide) rfl).2.1 (hs.2.2.2 56 (by decide) rfl).2.2.1 (hs.2.2.2 56 (by decide) rfl).2.2.2 hc ?_
        refine e_iload_n dX13_nextFor_28 rfl ?_
        refine e_ic_eq dX13_nextFor_29 35 (by decide) (fun hc => ?_) (fun hc => ?_)
        · rw [if_pos hc] at h
          refine e_aload_n dX13_nextFor_35 rfl ?_
          refine e_getR dX13_nextFor_36 rfl rfl hs.1 hs.2.1 (hs.2.2.2 45 (by decide) rfl).1 ?_
          refine e_iload_n dX13_nextFor_39 rfl ?_
          obtain ⟨hc, h⟩ := p_ok_some h
          refine e_iald dX13_nextFor_40 (Nat.lt_trans (hs.2.2.2 45 (by decide) rfl).2.2.2 hs.2.2.1) (hs.2.2.2 45 (by decide) rfl).2.1 (hs.2.2.2 45 (by decide) rfl).2.2.1 (hs.2.2.2 45 (by decide) rfl).2.2.2 hc ?_
          refine e_if_lt dX13_nextFor_41 71 (by decide) (fun hc => ?_) (fun hc => ?_)
          · rw [if_pos hc] at h
            exact E_X13_nextFor_c71 ih hs h hQ
          · rw [if_neg hc] at h
            refine e_aload_n dX13_nextFor_44 rfl ?_
            refine e_getR dX13_nextFor_45 rfl rfl hs.1 hs.2.1 (hs.2.2.2 23 (by decide) rfl).1 ?_
            refine e_bipush (v := (6 : Int32)) dX13_nextFor_48 rfl ?_
            refine e_aload_n dX13_nextFor_50 rfl ?_
            refine e_getR dX13_nextFor_51 rfl rfl hs.1 hs.2.1 (hs.2.2.2 45 (by decide) rfl).1 ?_
            refine e_iload_n dX13_nextFor_54 rfl ?_
            obtain ⟨hc, h⟩ := p_ok_some h
            refine e_iald dX13_nextFor_55 (Nat.lt_trans (hs.2.2.2 45 (by decide) rfl).2.2.2 hs.2.2.1) (hs.2.2.2 45 (by decide) rfl).2.1 (hs.2.2.2 45 (by decide) rfl).2.2.1 (hs.2.2.2 45 (by decide) rfl).2.2.2 hc ?_
            refine e_imul dX13_nextFor_56 ?_
            refine e_aload_n dX13_nextFor_57 rfl ?_
            refine e_getR dX13_nextFor_58 rfl rfl hs.1 hs.2.1 (hs.2.2.2 50 (by decide) rfl).1 ?_
            refine e_iload_n dX13_nextFor_61 rfl ?_
            obtain ⟨hc, h⟩ := p_ok_some h
            refine e_iald dX13_nextFor_62 (Nat.lt_trans (hs.2.2.2 50 (by decide) rfl).2.2.2 hs.2.2.1) (hs.2.2.2 50 (by decide) rfl).2.1 (hs.2.2.2 50 (by decide) rfl).2.2.1 (hs.2.2.2 50 (by decide) rfl).2.2.2 hc ?_
            refine e_iadd dX13_nextFor_63 ?_
            obtain ⟨hc, h⟩ := p_ok_some h
            refine e_iald dX13_nextFor_64 (Nat.lt_trans (hs.2.2.2 23 (by decide) rfl).2.2.2 hs.2.2.1) (hs.2.2.2 23 (by decide) rfl).2.1 (hs.2.2.2 23 (by decide) rfl).2.2.1 (hs.2.2.2 23 (by decide) rfl).2.2.2 hc ?_
            refine e_if_ge dX13_nextFor_65 71 (by decide) (fun hc => ?_) (fun hc => ?_)
            · rw [if_pos hc] at h
              exact E_X13_nextFor_c71 ih hs h hQ
            · rw [if_neg hc] at h
              refine e_goto dX13_nextFor_68 92 (by decide) ?_
              exact E_X13_nextFor_c92 ih hs h hQ
        · rw [if_neg hc] at h
          refine e_goto dX13_nextFor_32 92 (by decide) ?_
          exact E_X13_nextFor_c92 ih hs h hQ
def F_X13_nextFor (v1 : Int32) (μ : p_M) : Option (Int32 × p_M) :=
  F_X13_nextFor_c4 p_fu v1 (-1) (0 : Int32) μ
theorem P_X13_nextFor {v1 : Int32} {μ : p_M} {r : Int32 × p_M} (h : F_X13_nextFor v1 μ = some r) : Sm μ r.2 := by
  unfold F_X13_nextFor at h
  exact Sm_trans (Sm_refl μ) (P_X13_nextFor_c4 p_fu _ _ _ _ _ h)
theorem E_X13_nextFor {X : p_X} {d : Nat} {Q : p_R → Prop} {v1 : Int32} {μ : p_M} {r : Int32 × p_M} (hs : ShM μ) (h : F_X13_nextFor v1 μ = some r) (hQ : Q ((0, some (.int r.1)), r.2)) : p_Ev X (d + 0) M_X13_nextFor 0 [.ref tM, .int v1, .double 0, .double 0] [] μ Q := by
  unfold F_X13_nextFor at h
  refine e_iconst (v := (-1)) dX13_nextFor_0 rfl ?_
  refine e_istore_n dX13_nextFor_1 (Nat.le_of_ble_eq_true rfl) rfl ?_
  refine e_iconst (v := (0 : Int32)) dX13_nextFor_2 rfl ?_
  refine e_istore_n dX13_nextFor_3 (Nat.le_of_ble_eq_true rfl) rfl ?_
  exact E_X13_nextFor_c4 p_fu _ _ _ _ _ hs h hQ
