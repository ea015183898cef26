/-! X13_noMachine -/
def F_X13_noMachine_c19 (s0 : Int32) (μ : p_M) : Option (Int32 × p_M) :=
  p_ok (s0 = 0 ∨ s0 = 1) (some (s0, μ))
theorem P_X13_noMachine_c19 {s0 : Int32} {μ : p_M} {r : Int32 × p_M} (h : F_X13_noMachine_c19 s0 μ = some r) : Sm μ r.2 := by
  unfold F_X13_noMachine_c19 at h
  obtain ⟨hc, h⟩ := p_ok_some h
  cases h
  exact (Sm_refl μ)
theorem E_X13_noMachine_c19 {X : p_X} {d : Nat} {Q : p_R → Prop} {s0 : Int32} {w0 : Value} {w1 : Value} {μ : p_M} {r : Int32 × p_M} (hs : ShM μ) (h : F_X13_noMachine_c19 s0 μ = some r) (hQ : Q ((0, some (.int r.1)), r.2)) : p_Ev X (d + 1) M_X13_noMachine 19 [w0, w1] [.int s0] μ Q := by
  unfold F_X13_noMachine_c19 at h
  obtain ⟨hc, h⟩ := p_ok_some h
  cases h
  exact e_iretz dX13_noMachine_19 rfl hc hQ
def F_X13_noMachine (v1 : Int32) (μ : p_M) : Option (Int32 × p_M) :=
  (F_X13_in v1 (0 : Int32) ((mI μ tM 47) - (1 : Int32)) μ).bind fun q1 =>
  if ¬ q1.1 = 0
  then (F_X13_noMachine_c19 (0 : Int32) q1.2)
  else (F_X13_noMachine_c19 (1 : Int32) q1.2)
theorem P_X13_noMachine {v1 : Int32} {μ : p_M} {r : Int32 × p_M} (h : F_X13_noMachine v1 μ = some r) : Sm μ r.2 := by
  unfold F_X13_noMachine at h
  obtain ⟨q1, hq1, h⟩ := p_bd h
  by_cases hc : ¬ q1.1 = 0
  · rw [if_pos hc] at h
    exact Sm_trans (Sm_trans (Sm_refl μ) (P_X13_in (r := q1) hq1)) (P_X13_noMachine_c19 h)
  · rw [if_neg hc] at h
    exact Sm_trans (Sm_trans (Sm_refl μ) (P_X13_in (r := q1) hq1)) (P_X13_noMachine_c19 h)
theorem E_X13_noMachine {X : p_X} {d : Nat} {Q : p_R → Prop} {v1 : Int32} {μ : p_M} {r : Int32 × p_M} (hs : ShM μ) (h : F_X13_noMachine v1 μ = some r) (hQ : Q ((0, some (.int r.1)), r.2)) : p_Ev X (d + 1) M_X13_noMachine 0 [.ref tM, .int v1] [] μ Q := by
  unfold F_X13_noMachine at h
  refine e_iload_n dX13_noMachine_0 rfl ?_
  refine e_iconst (v := (0 : Int32)) dX13_noMachine_1 rfl ?_
  refine e_aload_n dX13_noMachine_2 rfl ?_
  refine e_getI dX13_noMachine_3 rfl rfl hs.1 hs.2.1 ?_
  refine e_iconst (v := (1 : Int32)) dX13_noMachine_6 rfl ?_
  refine e_isub dX13_noMachine_7 ?_
  obtain ⟨q1, hq1, h⟩ := p_bd h
  refine e_cS dX13_noMachine_8 rfl rfl rfl rfl (E_X13_in hs hq1 ⟨rfl, ?_⟩)
  have hs := ShM_of (P_X13_in hq1) hs
  show p_Ev X (d + 1) M_X13_noMachine 11 [.ref tM, .int v1] [.int q1.1] q1.2 Q
  refine e_if_ne dX13_noMachine_11 18 (by decide) (fun hc => ?_) (fun hc => ?_)
  · rw [if_pos hc] at h
    refine e_iconst (v := (0 : Int32)) dX13_noMachine_18 rfl ?_
    exact E_X13_noMachine_c19 hs h hQ
  · rw [if_neg hc] at h
    refine e_iconst (v := (1 : Int32)) dX13_noMachine_14 rfl ?_
    refine e_goto dX13_noMachine_15 19 (by decide) ?_
    exact E_X13_noMachine_c19 hs h hQ
/-! X13_load -/
def F_X13_load_c58 (μ : p_M) : Option (Int32 × p_M) :=
  some ((0 : Int32), μ)
theorem P_X13_load_c58 {μ : p_M} {r : Int32 × p_M} (h : F_X13_load_c58 μ = some r) : Sm μ r.2 := by
  unfold F_X13_load_c58 at h
  cases h
  exact (Sm_refl μ)
theorem E_X13_load_c58 {X : p_X} {d : Nat} {Q : p_R → Prop} {w0 : Value} {w1 : Value} {w2 : Value} {μ : p_M} {r : Int32 × p_M} (hs : ShM μ) (h : F_X13_load_c58 μ = some r) (hQ : Q ((0, some (.int r.1)), r.2)) : p_Ev X (d + 2) M_X13_load 58 [w0, w1, w2] [] μ Q := by
  unfold F_X13_load_c58 at h
  refine e_iconst (v := (0 : Int32)) dX13_load_58 rfl ?_
  cases h
  exact e_iretz dX13_load_59 rfl (by decide) hQ
def F_X13_load_c27 (v1 : Int32) (v2 : Int32) (s0 : Int32) (μ : p_M) : Option (Int32 × p_M) :=
  (F_X13_throwsIf s0 (1 : Int32) μ).bind fun q3 =>
  if ¬ q3.1 = 0
  then (F_X13_load_c58 q3.2)
  else (p_ok (¬ v1 < 0 ∧ v1.toNatClampNeg < 40)
    (if ¬ (mI q3.2 (aM 55) v1.toNatClampNeg) = 0
    then (F_X13_load_c58 q3.2)
    else (p_ok (¬ v1 < 0 ∧ v1.toNatClampNeg < 40)
      (p_ok (¬ v2 < 0 ∧ v2.toNatClampNeg < 4)
      (if (mI q3.2 (aM 49) v1.toNatClampNeg) ≤ (mI q3.2 (aM 43) v2.toNatClampNeg)
      then (p_ok (¬ v1 < 0 ∧ v1.toNatClampNeg < 40)
        (p_ok (¬ v1 < 0 ∧ v1.toNatClampNeg < 40)
        (p_ok (¬ v1 < 0 ∧ v1.toNatClampNeg < 40)
        (some ((1 : Int32), (sI (sI (sI (sI q3.2 (aM 55) v1.toNatClampNeg (1 : Int32)) (aM 56) v1.toNatClampNeg v2) (aM 61) v1.toNatClampNeg (mI (sI (sI q3.2 (aM 55) v1.toNatClampNeg (1 : Int32)) (aM 56) v1.toNatClampNeg v2) tM 63)) tM 63 ((mI (sI (sI (sI q3.2 (aM 55) v1.toNatClampNeg (1 : Int32)) (aM 56) v1.toNatClampNeg v2) (aM 61) v1.toNatClampNeg (mI (sI (sI q3.2 (aM 55) v1.toNatClampNeg (1 : Int32)) (aM 56) v1.toNatClampNeg v2) tM 63)) tM 63) + (1 : Int32))))))))
      else (F_X13_load_c58 q3.2))))))
theorem P_X13_load_c27 {v1 : Int32} {v2 : Int32} {s0 : Int32} {μ : p_M} {r : Int32 × p_M} (h : F_X13_load_c27 v1 v2 s0 μ = some r) : Sm μ r.2 := by
  unfold F_X13_load_c27 at h
  obtain ⟨q3, hq3, h⟩ := p_bd h
  by_cases hc : ¬ q3.1 = 0
  · rw [if_pos hc] at h
    exact Sm_trans (Sm_trans (Sm_refl μ) (P_X13_throwsIf (r := q3) hq3)) (P_X13_load_c58 h)
  · rw [if_neg hc] at h
    obtain ⟨hc, h⟩ := p_ok_some h
    by_cases hc : ¬ (mI q3.2 (aM 55) v1.toNatClampNeg) = 0
    · rw [if_pos hc] at h
      exact Sm_trans (Sm_trans (Sm_refl μ) (P_X13_throwsIf (r := q3) hq3)) (P_X13_load_c58 h)
    · rw [if_neg hc] at h
      obtain ⟨hc, h⟩ := p_ok_some h
      obtain ⟨hc, h⟩ := p_ok_some h
      by_cases hc : (mI q3.2 (aM 49) v1.toNatClampNeg) ≤ (mI q3.2 (aM 43) v2.toNatClampNeg)
      · rw [if_pos hc] at h
        obtain ⟨hc, h⟩ := p_ok_some h
        obtain ⟨hc, h⟩ := p_ok_some h
        obtain ⟨hc, h⟩ := p_ok_some h
        cases h
        exact (Sm_set (Sm_set (Sm_set (Sm_set (Sm_trans (Sm_refl μ) (P_X13_throwsIf (r := q3) hq3)) (by decide)) (by decide)) (by decide)) (by decide))
      · rw [if_neg hc] at h
        exact Sm_trans (Sm_trans (Sm_refl μ) (P_X13_throwsIf (r := q3) hq3)) (P_X13_load_c58 h)
theorem E_X13_load_c27 {X : p_X} {d : Nat} {Q : p_R → Prop} {v1 : Int32} {v2 : Int32} {s0 : Int32} {μ : p_M} {r : Int32 × p_M} (hs : ShM μ) (h : F_X13_load_c27 v1 v2 s0 μ = some r) (hQ : Q ((0, some (.int r.1)), r.2)) : p_Ev X (d + 2) M_X13_load 27 [.ref tM, .int v1, .int v2] [.int s0, .ref tM] μ Q := by
  unfold F_X13_load_c27 at h
  refine e_iconst (v := (1 : Int32)) dX13_load_27 rfl ?_
  obtain ⟨q3, hq3, h⟩ := p_bd h
  refine e_cV dX13_load_28 rfl rfl ⟨rfl, rfl, by decide⟩ rfl hs.1 hs.2.1 (E_X13_throwsIf hs hq3 ⟨rfl, ?_⟩)
  have hs := ShM_of (P_X13_throwsIf hq3) hs
  show p_Ev X (d + 2) M_X13_load 31 [.ref tM, .int v1, .int v2] [.int q3.1] q3.2 Q
  refine e_if_ne dX13_load_31 58 (by decide) (fun hc => ?_) (fun hc => ?_)
  · rw [if_pos hc] at h
    exact E_X13_load_c58 hs h hQ
  · rw [if_neg hc] at h
    refine e_aload_n dX13_load_34 rfl ?_
    refine e_getR dX13_load_35 rfl rfl hs.1 hs.2.1 (hs.2.2.2 55 (by decide) rfl).1 ?_
    refine e_iload_n dX13_load_38 rfl ?_
    obtain ⟨hc, h⟩ := p_ok_some h
    refine e_iald dX13_load_39 (Nat.lt_trans (hs.2.2.2 55 (by decide) rfl).2.2.2 hs.2.2.1) (hs.2.2.2 55 (by decide) rfl).2.1 (hs.2.2.2 55 (by decide) rfl).2.2.1 (hs.2.2.2 55 (by decide) rfl).2.2.2 hc ?_
    refine e_if_ne dX13_load_40 58 (by decide) (fun hc => ?_) (fun hc => ?_)
    · rw [if_pos hc] at h
      exact E_X13_load_c58 hs h hQ
    · rw [if_neg hc] at h
      refine e_aload_n dX13_load_43 rfl ?_
      refine e_getR dX13_load_44 rfl rfl hs.1 hs.2.1 (hs.2.2.2 49 (by decide) rfl).1 ?_
      refine e_iload_n dX13_load_47 rfl ?_
      obtain ⟨hc, h⟩ := p_ok_some h
      refine e_iald dX13_load_48 (Nat.lt_trans (hs.2.2.2 49 (by decide) rfl).2.2.2 hs.2.2.1) (hs.2.2.2 49 (by decide) rfl).2.1 (hs.2.2.2 49 (by decide) rfl).2.2.1 (hs.2.2.2 49 (by decide) rfl).2.2.2 hc ?_
      refine e_aload_n dX13_load_49 rfl ?_
      refine e_getR dX13_load_50 rfl rfl hs.1 hs.2.1 (hs.2.2.2 43 (by decide) rfl).1 ?_
      refine e_iload_n dX13_load_53 rfl ?_
      obtain ⟨hc, h⟩ := p_ok_some h
      refine e_iald dX13_load_54 (Nat.lt_trans (hs.2.2.2 43 (by decide) rfl).2.2.2 hs.2.2.1) (hs.2.2.2 43 (by decide) rfl).2.1 (hs.2.2.2 43 (by decide) rfl).2.2.1 (hs.2.2.2 43 (by decide) rfl).2.2.2 hc ?_
      refine e_ic_le dX13_load_55 60 (by decide) (fun hc => ?_) (fun hc => ?_)
      · rw [if_pos hc] at h
        refine e_aload_n dX13_load_60 rfl ?_
        refine e_getR dX13_load_61 rfl rfl hs.1 hs.2.1 (hs.2.2.2 55 (by decide) rfl).1 ?_
        refine e_iload_n dX13_load_64 rfl ?_
        refine e_iconst (v := (1 : Int32)) dX13_load_65 rfl ?_
        obtain ⟨hc, h⟩ := p_ok_some h
        refine e_iast dX13_load_66 (hs.2.2.2 55 (by decide) rfl).2.1 (hs.2.2.2 55 (by decide) rfl).2.2.1 (hs.2.2.2 55 (by decide) rfl).2.2.2 hc ?_
        refine e_aload_n dX13_load_67 rfl ?_
        refine e_getR dX13_load_68 rfl rfl hs.1 hs.2.1 (hs.2.2.2 56 (by decide) rfl).1 ?_
        refine e_iload_n dX13_load_71 rfl ?_
        refine e_iload_n dX13_load_72 rfl ?_
        obtain ⟨hc, h⟩ := p_ok_some h
        refine e_iast dX13_load_73 (hs.2.2.2 56 (by decide) rfl).2.1 (hs.2.2.2 56 (by decide) rfl).2.2.1 (hs.2.2.2 56 (by decide) rfl).2.2.2 hc ?_
        refine e_aload_n dX13_load_74 rfl ?_
        refine e_getR dX13_load_75 rfl rfl hs.1 hs.2.1 (hs.2.2.2 61 (by decide) rfl).1 ?_
        refine e_iload_n dX13_load_78 rfl ?_
        refine e_aload_n dX13_load_79 rfl ?_
        refine e_getI dX13_load_80 rfl rfl hs.1 hs.2.1 ?_
        obtain ⟨hc, h⟩ := p_ok_some h
        refine e_iast dX13_load_83 (hs.2.2.2 61 (by decide) rfl).2.1 (hs.2.2.2 61 (by decide) rfl).2.2.1 (hs.2.2.2 61 (by decide) rfl).2.2.2 hc ?_
        refine e_aload_n dX13_load_84 rfl ?_
        refine e_dupR dX13_load_85 ?_
        refine e_getI dX13_load_86 rfl rfl hs.1 hs.2.1 ?_
        refine e_iconst (v := (1 : Int32)) dX13_load_89 rfl ?_
        refine e_iadd dX13_load_90 ?_
        refine e_putI dX13_load_91 rfl ⟨rfl, rfl, fun h => by cases h⟩ (fun h => by cases h) hs.1 hs.2.1 ?_
        refine e_iconst (v := (1 : Int32)) dX13_load_94 rfl ?_
        cases h
        exact e_iretz dX13_load_95 rfl (by decide) hQ
      · rw [if_neg hc] at h
        exact E_X13_load_c58 hs h hQ
def F_X13_load_c22 (v1 : Int32) (v2 : Int32) (μ : p_M) : Option (Int32 × p_M) :=
  F_X13_load_c27 v1 v2 (1 : Int32) μ
theorem P_X13_load_c22 {v1 : Int32} {v2 : Int32} {μ : p_M} {r : Int32 × p_M} (h : F_X13_load_c22 v1 v2 μ = some r) : Sm μ r.2 := by
  unfold F_X13_load_c22 at h
  exact Sm_trans (Sm_refl μ) (P_X13_load_c27 h)
theorem E_X13_load_c22 {X : p_X} {d : Nat} {Q : p_R → Prop} {v1 : Int32} {v2 : Int32} {μ : p_M} {r : Int32 × p_M} (hs : ShM μ) (h : F_X13_load_c22 v1 v2 μ = some r) (hQ : Q ((0, some (.int r.1)), r.2)) : p_Ev X (d + 2) M_X13_load 22 [.ref tM, .int v1, .int v2] [.ref tM] μ Q := by
  unfold F_X13_load_c22 at h
  refine e_iconst (v := (1 : Int32)) dX13_load_22 rfl ?_
  refine e_goto dX13_load_23 27 (by decide) ?_
  exact E_X13_load_c27 hs h hQ
def F_X13_load (v1 : Int32) (v2 : Int32) (μ : p_M) : Option (Int32 × p_M) :=
  (F_X13_noLot v1 (sI μ tM 0 (0 : Int32))).bind fun q1 =>
  if ¬ q1.1 = 0
  then (F_X13_load_c22 v1 v2 q1.2)
  else ((F_X13_noMachine v2 q1.2).bind fun q2 =>
    if q2.1 = 0
    then (F_X13_load_c27 v1 v2 (0 : Int32) q2.2)
    else (F_X13_load_c22 v1 v2 q2.2))
theorem P_X13_load {v1 : Int32} {v2 : Int32} {μ : p_M} {r : Int32 × p_M} (h : F_X13_load v1 v2 μ = some r) : Sm μ r.2 := by
  unfold F_X13_load at h
  obtain ⟨q1, hq1, h⟩ := p_bd h
  by_cases hc : ¬ q1.1 = 0
  · rw [if_pos hc] at h
    exact Sm_trans (Sm_trans (Sm_set (Sm_refl μ) (by decide)) (P_X13_noLot (r := q1) hq1)) (P_X13_load_c22 h)
  · rw [if_neg hc] at h
    obtain ⟨q2, hq2, h⟩ := p_bd h
    by_cases hc : q2.1 = 0
    · rw [if_pos hc] at h
      exact Sm_trans (Sm_trans (Sm_trans (Sm_set (Sm_refl μ) (by decide)) (P_X13_noLot (r := q1) hq1)) (P_X13_noMachine (r := q2) hq2)) (P_X13_load_c27 h)
    · rw [if_neg hc] at h
      exact Sm_trans (Sm_trans (Sm_trans (Sm_set (Sm_refl μ) (by decide)) (P_X13_noLot (r := q1) hq1)) (P_X13_noMachine (r := q2) hq2)) (P_X13_load_c22 h)
theorem E_X13_load {X : p_X} {d : Nat} {Q : p_R → Prop} {v1 : Int32} {v2 : Int32} {μ : p_M} {r : Int32 × p_M} (hs : ShM μ) (h : F_X13_load v1 v2 μ = some r) (hQ : Q ((0, some (.int r.1)), r.2)) : p_Ev X (d + 2) M_X13_load 0 [.ref tM, .int v1, .int v2] [] μ Q := by
  unfold F_X13_load at h
  refine e_aload_n dX13_load_0 rfl ?_
  refine e_iconst (v := (0 : Int32)) dX13_load_1 rfl ?_
  refine e_putI dX13_load_2 rfl ⟨rfl, rfl, fun h => by cases h⟩ (fun h => by cases h) hs.1 hs.2.1 ?_
  refine e_aload_n dX13_load_5 rfl ?_
  refine e_aload_n dX13_load_6 rfl ?_
  refine e_iload_n dX13_load_7 rfl ?_
  obtain ⟨q1, hq1, h⟩ := p_bd h
  refine e_cV dX13_load_8 rfl rfl ⟨rfl, rfl, by decide⟩ rfl hs.1 hs.2.1 (E_X13_noLot hs hq1 ⟨rfl, ?_⟩)
  have hs := ShM_of (P_X13_noLot hq1) hs
  show p_Ev X (d + 2) M_X13_load 11 [.ref tM, .int v1, .int v2] [.int q1.1, .ref tM] q1.2 Q
  refine e_if_ne dX13_load_11 22 (by decide) (fun hc => ?_) (fun hc => ?_)
  · rw [if_pos hc] at h
    exact E_X13_load_c22 hs h hQ
  · rw [if_neg hc] at h
    refine e_aload_n dX13_load_14 rfl ?_
    refine e_iload_n dX13_load_15 rfl ?_
    obtain ⟨q2, hq2, h⟩ := p_bd h
    refine e_cV dX13_load_16 rfl rfl ⟨rfl, rfl, by decide⟩ rfl hs.1 hs.2.1 (E_X13_noMachine hs hq2 ⟨rfl, ?_⟩)
    have hs := ShM_of (P_X13_noMachine hq2) hs
    show p_Ev X (d + 2) M_X13_load 19 [.ref tM, .int v1, .int v2] [.int q2.1, .ref tM] q2.2 Q
    refine e_if_eq dX13_load_19 26 (by decide) (fun hc => ?_) (fun hc => ?_)
    · rw [if_pos hc] at h
      refine e_iconst (v := (0 : Int32)) dX13_load_26 rfl ?_
      exact E_X13_load_c27 hs h hQ
    · rw [if_neg hc] at h
      exact E_X13_load_c22 hs h hQ
/-! X13_tries -/
def F_X13_tries_c58 (μ : p_M) : Option (Int32 × p_M) :=
  some (0, μ)
theorem P_X13_tries_c58 {μ : p_M} {r : Int32 × p_M} (h : F_X13_tries_c58 μ = some r) : Sm μ r.2 := by
  unfold F_X13_tries_c58 at h
  cases h
  exact (Sm_refl μ)
theorem E_X13_tries_c58 {X : p_X} {d : Nat} {Q : p_R → Prop} {w0 : Value} {w1 : Value} {w2 : Value} {w3 : Value} {μ : p_M} {r : Int32 × p_M} (hs : ShM μ) (h : F_X13_tries_c58 μ = some r) (hQ : Q ((0, none), r.2)) : p_Ev X (d + 2) M_X13_tries 58 [w0, w1, w2, w3] [] μ Q := by
  unfold F_X13_tries_c58 at h
  cases h
  exact e_vret dX13_tries_58 rfl hQ
def F_X13_tries_c9 : Nat → Int32 → Int32 → Int32 → p_M → Option (Int32 × p_M)
  | 0, _, _, _, _ => none
  | n + 1, v1, v2, v3, μ =>
    if v2 ≤ v3
    then (F_X13_tries_c58 μ)
    else (p_ok (¬ (40 : Int32) < 0 ∧ (40 : Int32).toNatClampNeg < 42)
      (if (mI μ (aM 8) (40 : Int32).toNatClampNeg) ≤ v3
      then (F_X13_tries_c58 μ)
      else (p_ok (¬ ((800 : Int32) + v3) < 0 ∧ ((800 : Int32) + v3).toNatClampNeg < 840)
        (p_ok (¬ ((800 : Int32) + v3) < 0 ∧ ((800 : Int32) + v3).toNatClampNeg < 840)
        ((F_X13_does (40 : Int32) v1 (mI μ (aM 9) ((800 : Int32) + v3).toNatClampNeg) (mI μ (aM 10) ((800 : Int32) + v3).toNatClampNeg) μ).bind fun q2 =>
        F_X13_tries_c9 n v1 v2 (v3 + (1 : Int32)) q2.2)))))
theorem P_X13_tries_c9 : ∀ (n : Nat) (v1 : Int32) (v2 : Int32) (v3 : Int32) (μ : p_M) (r : Int32 × p_M), F_X13_tries_c9 n v1 v2 v3 μ = some r → Sm μ r.2 := by
  intro n
  induction n with
  | zero => intro v1 v2 v3 μ r h; rw [F_X13_tries_c9] at h; cases h
  | succ n ih =>
    intro v1 v2 v3 μ r h
    rw [F_X13_tries_c9] at h
    by_cases hc : v2 ≤ v3
    · rw [if_pos hc] at h
      exact Sm_trans (Sm_refl μ) (P_X13_tries_c58 h)
    · rw [if_neg hc] at h
      obtain ⟨hc, h⟩ := p_ok_some h
      by_cases hc : (mI μ (aM 8) (40 : Int32).toNatClampNeg) ≤ v3
      · rw [if_pos hc] at h
        exact Sm_trans (Sm_refl μ) (P_X13_tries_c58 h)
      · rw [if_neg hc] at h
        obtain ⟨hc, h⟩ := p_ok_some h
        obtain ⟨hc, h⟩ := p_ok_some h
        obtain ⟨q2, hq2, h⟩ := p_bd h
        exact Sm_trans (Sm_trans (Sm_refl μ) (P_X13_does (r := q2) hq2)) (ih _ _ _ _ _ h)
theorem E_X13_tries_c9 {X : p_X} {d : Nat} {Q : p_R → Prop} : ∀ (n : Nat) (v1 : Int32) (v2 : Int32) (v3 : Int32) (μ : p_M) (r : Int32 × p_M), ShM μ → F_X13_tries_c9 n v1 v2 v3 μ = some r → Q ((0, none), r.2) → p_Ev X (d + 2) M_X13_tries 9 [.ref tM, .int v1, .int v2, .int v3] [] μ Q := by
  intro n
  induction n with
  | zero => intro v1 v2 v3 μ r hs h hQ; rw [F_X13_tries_c9] at h; cases h
  | succ n ih =>
    intro v1 v2 v3 μ r hs h hQ
    rw [F_X13_tries_c9] at h
    refine e_iload_n dX13_tries_9 rfl ?_
    refine e_iload_n dX13_tries_10 rfl ?_
    refine e_ic_ge dX13_tries_11 58 (by decide) (fun hc => ?_) (fun hc => ?_)
    · rw [if_pos hc] at h
      exact E_X13_tries_c58 hs h hQ
    · rw [if_neg hc] at h
      refine e_iload_n dX13_tries_14 rfl ?_
      refine e_aload_n dX13_tries_15 rfl ?_
      refine e_getR dX13_tries_16 rfl rfl hs.1 hs.2.1 (hs.2.2.2 8 (by decide) rfl).1 ?_
      refine e_bipush (v := (40 : Int32)) dX13_tries_19 rfl ?_
      obtain ⟨hc, h⟩ := p_ok_some h
      refine e_iald dX13_tries_21 (Nat.lt_trans (hs.2.2.2 8 (by decide) rfl).2.2.2 hs.2.2.1) (hs.2.2.2 8 (by decide) rfl).2.1 (hs.2.2.2 8 (by decide) rfl).2.2.1 (hs.2.2.2 8 (by decide) rfl).2.2.2 hc ?_
      refine e_ic_ge dX13_tries_22 58 (by decide) (fun hc => ?_) (fun hc => ?_)
      · rw [if_pos hc] at h
        exact E_X13_tries_c58 hs h hQ
      · rw [if_neg hc] at h
        refine e_aload_n dX13_tries_25 rfl ?_
        refine e_bipush (v := (40 : Int32)) dX13_tries_26 rfl ?_
        refine e_iload_n dX13_tries_28 rfl ?_
        refine e_aload_n dX13_tries_29 rfl ?_
        refine e_getR dX13_tries_30 rfl rfl hs.1 hs.2.1 (hs.2.2.2 9 (by decide) rfl).1 ?_
        refine e_sipush (v := (800 : Int32)) dX13_tries_33 rfl ?_
        refine e_iload_n dX13_tries_36 rfl ?_
        refine e_iadd dX13_tries_37 ?_
        obtain ⟨hc, h⟩ := p_ok_some h
        refine e_iald dX13_tries_38 (Nat.lt_trans (hs.2.2.2 9 (by decide) rfl).2.2.2 hs.2.2.1) (hs.2.2.2 9 (by decide) rfl).2.1 (hs.2.2.2 9 (by decide) rfl).2.2.1 (hs.2.2.2 9 (by decide) rfl).2.2.2 hc ?_
        refine e_aload_n dX13_tries_39 rfl ?_
        refine e_getR dX13_tries_40 rfl rfl hs.1 hs.2.1 (hs.2.2.2 10 (by decide) rfl).1 ?_
        refine e_sipush (v := (800 : Int32)) dX13_tries_43 rfl ?_
        refine e_iload_n dX13_tries_46 rfl ?_
        refine e_iadd dX13_tries_47 ?_
        obtain ⟨hc, h⟩ := p_ok_some h
        refine e_iald dX13_tries_48 (Nat.lt_trans (hs.2.2.2 10 (by decide) rfl).2.2.2 hs.2.2.1) (hs.2.2.2 10 (by decide) rfl).2.1 (hs.2.2.2 10 (by decide) rfl).2.2.1 (hs.2.2.2 10 (by decide) rfl).2.2.2 hc ?_
        obtain ⟨q2, hq2, h⟩ := p_bd h
        refine e_cV dX13_tries_49 rfl rfl ⟨rfl, rfl, by decide⟩ rfl hs.1 hs.2.1 (E_X13_does hs hq2 ⟨rfl, ?_⟩)
        have hs := ShM_of (P_X13_does hq2) hs
        show p_Ev X (d + 2) M_X13_tries 52 [.ref tM, .int v1, .int v2, .int v3] [] q2.2 Q
        refine e_iinc (v := (1 : Int32)) dX13_tries_52 rfl rfl rfl ?_
        refine e_goto dX13_tries_55 9 (by decide) ?_
        exact ih _ _ _ _ _ hs h hQ
def F_X13_tries (v1 : Int32) (v2 : Int32) (μ : p_M) : Option (Int32 × p_M) :=
  (F_X13_begins (40 : Int32) v1 μ).bind fun q1 =>
  F_X13_tries_c9 p_fu v1 v2 (0 : Int32) q1.2
theorem P_X13_tries {v1 : Int32} {v2 : Int32} {μ : p_M} {r : Int32 × p_M} (h : F_X13_tries v1 v2 μ = some r) : Sm μ r.2 := by
  unfold F_X13_tries at h
  obtain ⟨q1, hq1, h⟩ := p_bd h
  exact Sm_trans (Sm_trans (Sm_refl μ) (P_X13_begins (r := q1) hq1)) (P_X13_tries_c9 p_fu _ _ _ _ _ h)
theorem E_X13_tries {X : p_X} {d : Nat} {Q : p_R → Prop} {v1 : Int32} {v2 : Int32} {μ : p_M} {r : Int32 × p_M} (hs : ShM μ) (h : F_X13_tries v1 v2 μ = some r) (hQ : Q ((0, none), r.2)) : p_Ev X (d + 2) M_X13_tries 0 [.ref tM, .int v1, .int v2, .double 0] [] μ Q := by
  unfold F_X13_tries at h
  refine e_aload_n dX13_tries_0 rfl ?_
  refine e_bipush (v := (40 : Int32)) dX13_tries_1 rfl ?_
  refine e_iload_n dX13_tries_3 rfl ?_
  obtain ⟨q1, hq1, h⟩ := p_bd h
  refine e_cV dX13_tries_4 rfl rfl ⟨rfl, rfl, by decide⟩ rfl hs.1 hs.2.1 (E_X13_begins hs hq1 ⟨rfl, ?_⟩)
  have hs := ShM_of (P_X13_begins hq1) hs
  show p_Ev X (d + 2) M_X13_tries 7 [.ref tM, .int v1, .int v2, .double 0] [] q1.2 Q
  refine e_iconst (v := (0 : Int32)) dX13_tries_7 rfl ?_
  refine e_istore_n dX13_tries_8 (Nat.le_of_ble_eq_true rfl) rfl ?_
  exact E_X13_tries_c9 p_fu _ _ _ _ _ hs h hQ
/-! X13_look -/
def F_X13_look_c57 (μ : p_M) : Option (Int32 × p_M) :=
  some ((0 : Int32), μ)
theorem P_X13_look_c57 {μ : p_M} {r : Int32 × p_M} (h : F_X13_look_c57 μ = some r) : Sm μ r.2 := by
  unfold F_X13_look_c57 at h
  cases h
  exact (Sm_refl μ)
theorem E_X13_look_c57 {X : p_X} {d : Nat} {Q : p_R → Prop} {w0 : Value} {w1 : Value} {w2 : Value} {w3 : Value} {μ : p_M} {r : Int32 × p_M} (hs : ShM μ) (h : F_X13_look_c57 μ = some r) (hQ : Q ((0, some (.int r.1)), r.2)) : p_Ev X (d + 3) M_X13_look 57 [w0, w1, w2, w3] [] μ Q := by
  unfold F_X13_look_c57 at h
  refine e_iconst (v := (0 : Int32)) dX13_look_57 rfl ?_
  cases h
  exact e_ireti dX13_look_58 rfl hQ
def F_X13_look_c50 (v1 : Int32) (v2 : Int32) (v3 : Int32) (s0 : Int32) (μ : p_M) : Option (Int32 × p_M) :=
  (F_X13_throwsIf s0 (3 : Int32) μ).bind fun q5 =>
  if q5.1 = 0
  then ((F_X13_tries v1 v2 q5.2).bind fun q6 =>
    p_ok (¬ ((200 : Int32) + v3) < 0 ∧ ((200 : Int32) + v3).toNatClampNeg < 240)
    (some ((mI q6.2 (aM 15) ((200 : Int32) + v3).toNatClampNeg), q6.2)))
  else (F_X13_look_c57 q5.2)
theorem P_X13_look_c50 {v1 : Int32} {v2 : Int32} {v3 : Int32} {s0 : Int32} {μ : p_M} {r : Int32 × p_M} (h : F_X13_look_c50 v1 v2 v3 s0 μ = some r) : Sm μ r.2 := by
  unfold F_X13_look_c50 at h
  obtain ⟨q5, hq5, h⟩ := p_bd h
  by_cases hc : q5.1 = 0
  · rw [if_pos hc] at h
    obtain ⟨q6, hq6, h⟩ := p_bd h
    obtain ⟨hc, h⟩ := p_ok_some h
    cases h
    exact (Sm_trans (Sm_trans (Sm_refl μ) (P_X13_throwsIf (r := q5) hq5)) (P_X13_tries (r := q6) hq6))
  · rw [if_neg hc] at h
    exact Sm_trans (Sm_trans (Sm_refl μ) (P_X13_throwsIf (r := q5) hq5)) (P_X13_look_c57 h)
theorem E_X13_look_c50 {X : p_X} {d : Nat} {Q : p_R → Prop} {v1 : Int32} {v2 : Int32} {v3 : Int32} {s0 : Int32} {μ : p_M} {r : Int32 × p_M} (hs : ShM μ) (h : F_X13_look_c50 v1 v2 v3 s0 μ = some r) (hQ : Q ((0, some (.int r.1)), r.2)) : p_Ev X (d + 3) M_X13_look 50 [.ref tM, .int v1, .int v2, .int v3] [.int s0, .ref tM] μ Q := by
  unfold F_X13_look_c50 at h
  refine e_iconst (v := (3 : Int32)) dX13_look_50 rfl ?_
  obtain ⟨q5, hq5, h⟩ := p_bd h
  refine e_cV dX13_look_51 rfl rfl ⟨rfl, rfl, by decide⟩ rfl hs.1 hs.2.1 (E_X13_throwsIf hs hq5 ⟨rfl, ?_⟩)
  have hs := ShM_of (P_X13_throwsIf hq5) hs
  show p_Ev X (d + 3) M_X13_look 54 [.ref tM, .int v1, .int v2, .int v3] [.int q5.1] q5.2 Q
  refine e_if_eq dX13_look_54 59 (by decide) (fun hc => ?_) (fun hc => ?_)
  · rw [if_pos hc] at h
    refine e_aload_n dX13_look_59 rfl ?_
    refine e_iload_n dX13_look_60 rfl ?_
    refine e_iload_n dX13_look_61 rfl ?_
    obtain ⟨q6, hq6, h⟩ := p_bd h
    refine e_cV dX13_look_62 rfl rfl ⟨rfl, rfl, by decide⟩ rfl hs.1 hs.2.1 (E_X13_tries hs hq6 ⟨rfl, ?_⟩)
    have hs := ShM_of (P_X13_tries hq6) hs
    show p_Ev X (d + 3) M_X13_look 65 [.ref tM, .int v1, .int v2, .int v3] [] q6.2 Q
    refine e_aload_n dX13_look_65 rfl ?_
    refine e_getR dX13_look_66 rfl rfl hs.1 hs.2.1 (hs.2.2.2 15 (by decide) rfl).1 ?_
    refine e_sipush (v := (200 : Int32)) dX13_look_69 rfl ?_
    refine e_iload_n dX13_look_72 rfl ?_
    refine e_iadd dX13_look_73 ?_
    obtain ⟨hc, h⟩ := p_ok_some h
    refine e_iald dX13_look_74 (Nat.lt_trans (hs.2.2.2 15 (by decide) rfl).2.2.2 hs.2.2.1) (hs.2.2.2 15 (by decide) rfl).2.1 (hs.2.2.2 15 (by decide) rfl).2.2.1 (hs.2.2.2 15 (by decide) rfl).2.2.2 hc ?_
    cases h
    exact e_ireti dX13_look_75 rfl hQ
  · rw [if_neg hc] at h
    exact E_X13_look_c57 hs h hQ
def F_X13_look_c28 (v1 : Int32) (v2 : Int32) (v3 : Int32) (s0 : Int32) (μ : p_M) : Option (Int32 × p_M) :=
  (F_X13_throwsIf s0 (2 : Int32) μ).bind fun q3 =>
  if ¬ q3.1 = 0
  then (F_X13_look_c57 q3.2)
  else ((F_X13_in v3 (0 : Int32) (4 : Int32) q3.2).bind fun q4 =>
    if ¬ q4.1 = 0
    then (F_X13_look_c50 v1 v2 v3 (0 : Int32) q4.2)
    else (F_X13_look_c50 v1 v2 v3 (1 : Int32) q4.2))
theorem P_X13_look_c28 {v1 : Int32} {v2 : Int32} {v3 : Int32} {s0 : Int32} {μ : p_M} {r : Int32 × p_M} (h : F_X13_look_c28 v1 v2 v3 s0 μ = some r) : Sm μ r.2 := by
  unfold F_X13_look_c28 at h
  obtain ⟨q3, hq3, h⟩ := p_bd h
  by_cases hc : ¬ q3.1 = 0
  · rw [if_pos hc] at h
    exact Sm_trans (Sm_trans (Sm_refl μ) (P_X13_throwsIf (r := q3) hq3)) (P_X13_look_c57 h)
  · rw [if_neg hc] at h
    obtain ⟨q4, hq4, h⟩ := p_bd h
    by_cases hc : ¬ q4.1 = 0
    · rw [if_pos hc] at h
      exact Sm_trans (Sm_trans (Sm_trans (Sm_refl μ) (P_X13_throwsIf (r := q3) hq3)) (P_X13_in (r := q4) hq4)) (P_X13_look_c50 h)
    · rw [if_neg hc] at h
      exact Sm_trans (Sm_trans (Sm_trans (Sm_refl μ) (P_X13_throwsIf (r := q3) hq3)) (P_X13_in (r := q4) hq4)) (P_X13_look_c50 h)
theorem E_X13_look_c28 {X : p_X} {d : Nat} {Q : p_R → Prop} {v1 : Int32} {v2 : Int32} {v3 : Int32} {s0 : Int32} {μ : p_M} {r : Int32 × p_M} (hs : ShM μ) (h : F_X13_look_c28 v1 v2 v3 s0 μ = some r) (hQ : Q ((0, some (.int r.1)), r.2)) : p_Ev X (d + 3) M_X13_look 28 [.ref tM, .int v1, .int v2, .int v3] [.int s0, .ref tM] μ Q := by
  unfold F_X13_look_c28 at h
  refine e_iconst (v := (2 : Int32)) dX13_look_28 rfl ?_
  obtain ⟨q3, hq3, h⟩ := p_bd h
  refine e_cV dX13_look_29 rfl rfl ⟨rfl, rfl, by decide⟩ rfl hs.1 hs.2.1 (E_X13_throwsIf hs hq3 ⟨rfl, ?_⟩)
  have hs := ShM_of (P_X13_throwsIf hq3) hs
  show p_Ev X (d + 3) M_X13_look 32 [.ref tM, .int v1, .int v2, .int v3] [.int q3.1] q3.2 Q
  refine e_if_ne dX13_look_32 57 (by decide) (fun hc => ?_) (fun hc => ?_)
  · rw [if_pos hc] at h
    exact E_X13_look_c57 hs h hQ
  · rw [if_neg hc] at h
    refine e_aload_n dX13_look_35 rfl ?_
    refine e_iload_n dX13_look_36 rfl ?_
    refine e_iconst (v := (0 : Int32)) dX13_look_37 rfl ?_
    refine e_iconst (v := (4 : Int32)) dX13_look_38 rfl ?_
    obtain ⟨q4, hq4, h⟩ := p_bd h
    refine e_cS dX13_look_39 rfl rfl rfl rfl (E_X13_in hs hq4 ⟨rfl, ?_⟩)
    have hs := ShM_of (P_X13_in hq4) hs
    show p_Ev X (d + 3) M_X13_look 42 [.ref tM, .int v1, .int v2, .int v3] [.int q4.1, .ref tM] q4.2 Q
    refine e_if_ne dX13_look_42 49 (by decide) (fun hc => ?_) (fun hc => ?_)
    · rw [if_pos hc] at h
      refine e_iconst (v := (0 : Int32)) dX13_look_49 rfl ?_
      exact E_X13_look_c50 hs h hQ
    · rw [if_neg hc] at h
      refine e_iconst (v := (1 : Int32)) dX13_look_45 rfl ?_
      refine e_goto dX13_look_46 50 (by decide) ?_
      exact E_X13_look_c50 hs h hQ
def F_X13_look (v1 : Int32) (v2 : Int32) (v3 : Int32) (μ : p_M) : Option (Int32 × p_M) :=
  (F_X13_noCloth v1 (sI μ tM 0 (0 : Int32))).bind fun q1 =>
  (F_X13_throwsIf q1.1 (1 : Int32) q1.2).bind fun q2 =>
  if ¬ q2.1 = 0
  then (F_X13_look_c57 q2.2)
  else (if 0 ≤ v2
    then (F_X13_look_c28 v1 v2 v3 (0 : Int32) q2.2)
    else (F_X13_look_c28 v1 v2 v3 (1 : Int32) q2.2))
theorem P_X13_look {v1 : Int32} {v2 : Int32} {v3 : Int32} {μ : p_M} {r : Int32 × p_M} (h : F_X13_look v1 v2 v3 μ = some r) : Sm μ r.2 := by
  unfold F_X13_look at h
  obtain ⟨q1, hq1, h⟩ := p_bd h
  obtain ⟨q2, hq2, h⟩ := p_bd h
  by_cases hc : ¬ q2.1 = 0
  · rw [if_pos hc] at h
    exact Sm_trans (Sm_trans (Sm_trans (Sm_set (Sm_refl μ) (by decide)) (P_X13_noCloth (r := q1) hq1)) (P_X13_throwsIf (r := q2) hq2)) (P_X13_look_c57 h)
  · rw [if_neg hc] at h
    by_cases hc : 0 ≤ v2
    · rw [if_pos hc] at h
      exact Sm_trans (Sm_trans (Sm_trans (Sm_set (Sm_refl μ) (by decide)) (P_X13_noCloth (r := q1) hq1)) (P_X13_throwsIf (r := q2) hq2)) (P_X13_look_c28 h)
    · rw [if_neg hc] at h
      exact Sm_trans (Sm_trans (Sm_trans (Sm_set (Sm_refl μ) (by decide)) (P_X13_noCloth (r := q1) hq1)) (P_X13_throwsIf (r := q2) hq2)) (P_X13_look_c28 h)
theorem E_X13_look {X : p_X} {d : Nat} {Q : p_R → Prop} {v1 : Int32} {v2 : Int32} {v3 : Int32} {μ : p_M} {r : Int32 × p_M} (hs : ShM μ) (h : F_X13_look v1 v2 v3 μ = some r) (hQ : Q ((0, some (.int r.1)), r.2)) : p_Ev X (d + 3) M_X13_look 0 [.ref tM, .int v1, .int v2, .int v3] [] μ Q := by
  unfold F_X13_look at h
  refine e_aload_n dX13_look_0 rfl ?_
  refine e_iconst (v := (0 : Int32)) dX13_look_1 rfl ?_
  refine e_putI dX13_look_2 rfl ⟨rfl, rfl, fun h => by cases h⟩ (fun h => by cases h) hs.1 hs.2.1 ?_
  refine e_aload_n dX13_look_5 rfl ?_
  refine e_aload_n dX13_look_6 rfl ?_
  refine e_iload_n dX13_look_7 rfl ?_
  obtain ⟨q1, hq1, h⟩ := p_bd h
  refine e_cV dX13_look_8 rfl rfl ⟨rfl, rfl, by decide⟩ rfl hs.1 hs.2.1 (E_X13_noCloth hs hq1 ⟨rfl, ?_⟩)
  have hs := ShM_of (P_X13_noCloth hq1) hs
  show p_Ev X (d + 3) M_X13_look 11 [.ref tM, .int v1, .int v2, .int v3] [.int q1.1, .ref tM] q1.2 Q
  refine e_iconst (v := (1 : Int32)) dX13_look_11 rfl ?_
  obtain ⟨q2, hq2, h⟩ := p_bd h
  refine e_cV dX13_look_12 rfl rfl ⟨rfl, rfl, by decide⟩ rfl hs.1 hs.2.1 (E_X13_throwsIf hs hq2 ⟨rfl, ?_⟩)
  have hs := ShM_of (P_X13_throwsIf hq2) hs
  show p_Ev X (d + 3) M_X13_look 15 [.ref tM, .int v1, .int v2, .int v3] [.int q2.1] q2.2 Q
  refine e_if_ne dX13_look_15 57 (by decide) (fun hc => ?_) (fun hc => ?_)
  · rw [if_pos hc] at h
    exact E_X13_look_c57 hs h hQ
  · rw [if_neg hc] at h
    refine e_aload_n dX13_look_18 rfl ?_
    refine e_iload_n dX13_look_19 rfl ?_
    refine e_if_ge dX13_look_20 27 (by decide) (fun hc => ?_) (fun hc => ?_)
    · rw [if_pos hc] at h
      refine e_iconst (v := (0 : Int32)) dX13_look_27 rfl ?_
      exact E_X13_look_c28 hs h hQ
    · rw [if_neg hc] at h
      refine e_iconst (v := (1 : Int32)) dX13_look_23 rfl ?_
      refine e_goto dX13_look_24 28 (by decide) ?_
      exact E_X13_look_c28 hs h hQ
/-! X13_noWish -/
def F_X13_noWish_c32 (s0 : Int32) (μ : p_M) : Option (Int32 × p_M) :=
  p_ok (s0 = 0 ∨ s0 = 1) (some (s0, μ))
theorem P_X13_noWish_c32 {s0 : Int32} {μ : p_M} {r : Int32 × p_M} (h : F_X13_noWish_c32 s0 μ = some r) : Sm μ r.2 := by
  unfold F_X13_noWish_c32 at h
  obtain ⟨hc, h⟩ := p_ok_some h
  cases h
  exact (Sm_refl μ)
theorem E_X13_noWish_c32 {X : p_X} {d : Nat} {Q : p_R → Prop} {s0 : Int32} {w0 : Value} {w1 : Value} {w2 : Value} {μ : p_M} {r : Int32 × p_M} (hs : ShM μ) (h : F_X13_noWish_c32 s0 μ = some r) (hQ : Q ((0, some (.int r.1)), r.2)) : p_Ev X (d + 1) M_X13_noWish 32 [w0, w1, w2] [.int s0] μ Q := by
  unfold F_X13_noWish_c32 at h
  obtain ⟨hc, h⟩ := p_ok_some h
  cases h
  exact e_iretz dX13_noWish_32 rfl hc hQ
def F_X13_noWish_c27 (μ : p_M) : Option (Int32 × p_M) :=
  F_X13_noWish_c32 (1 : Int32) μ
theorem P_X13_noWish_c27 {μ : p_M} {r : Int32 × p_M} (h : F_X13_noWish_c27 μ = some r) : Sm μ r.2 := by
  unfold F_X13_noWish_c27 at h
  exact Sm_trans (Sm_refl μ) (P_X13_noWish_c32 h)
theorem E_X13_noWish_c27 {X : p_X} {d : Nat} {Q : p_R → Prop} {w0 : Value} {w1 : Value} {w2 : Value} {μ : p_M} {r : Int32 × p_M} (hs : ShM μ) (h : F_X13_noWish_c27 μ = some r) (hQ : Q ((0, some (.int r.1)), r.2)) : p_Ev X (d + 1) M_X13_noWish 27 [w0, w1, w2] [] μ Q := by
  unfold F_X13_noWish_c27 at h
  refine e_iconst (v := (1 : Int32)) dX13_noWish_27 rfl ?_
  refine e_goto dX13_noWish_28 32 (by decide) ?_
  exact E_X13_noWish_c32 hs h hQ
def F_X13_noWish (v0 : Int32) (v1 : Int32) (v2 : Int32) (μ : p_M) : Option (Int32 × p_M) :=
  if v0 < 0
  then (F_X13_noWish_c27 μ)
  else (if v1 < v0
    then (F_X13_noWish_c27 μ)
    else (if (255 : Int32) < v1
      then (F_X13_noWish_c27 μ)
      else ((F_X13_in v2 (0 : Int32) (255 : Int32) μ).bind fun q1 =>
        if ¬ q1.1 = 0
        then (F_X13_noWish_c32 (0 : Int32) q1.2)
        else (F_X13_noWish_c27 q1.2))))
theorem P_X13_noWish {v0 : Int32} {v1 : Int32} {v2 : Int32} {μ : p_M} {r : Int32 × p_M} (h : F_X13_noWish v0 v1 v2 μ = some r) : Sm μ r.2 := by
  unfold F_X13_noWish at h
  by_cases hc : v0 < 0
  · rw [if_pos hc] at h
    exact Sm_trans (Sm_refl μ) (P_X13_noWish_c27 h)
  · rw [if_neg hc] at h
    by_cases hc : v1 < v0
    · rw [if_pos hc] at h
      exact Sm_trans (Sm_refl μ) (P_X13_noWish_c27 h)
    · rw [if_neg hc] at h
      by_cases hc : (255 : Int32) < v1
      · rw [if_pos hc] at h
        exact Sm_trans (Sm_refl μ) (P_X13_noWish_c27 h)
      · rw [if_neg hc] at h
        obtain ⟨q1, hq1, h⟩ := p_bd h
        by_cases hc : ¬ q1.1 = 0
        · rw [if_pos hc] at h
          exact Sm_trans (Sm_trans (Sm_refl μ) (P_X13_in (r := q1) hq1)) (P_X13_noWish_c32 h)
        · rw [if_neg hc] at h
          exact Sm_trans (Sm_trans (Sm_refl μ) (P_X13_in (r := q1) hq1)) (P_X13_noWish_c27 h)
theorem E_X13_noWish {X : p_X} {d : Nat} {Q : p_R → Prop} {v0 : Int32} {v1 : Int32} {v2 : Int32} {μ : p_M} {r : Int32 × p_M} (hs : ShM μ) (h : F_X13_noWish v0 v1 v2 μ = some r) (hQ : Q ((0, some (.int r.1)), r.2)) : p_Ev X (d + 1) M_X13_noWish 0 [.int v0, .int v1, .int v2] [] μ Q := by
  unfold F_X13_noWish at h
  refine e_iload_n dX13_noWish_0 rfl ?_
  refine e_if_lt dX13_noWish_1 27 (by decide) (fun hc => ?_) (fun hc => ?_)
  · rw [if_pos hc] at h
    exact E_X13_noWish_c27 hs h hQ
  · rw [if_neg hc] at h
    refine e_iload_n dX13_noWish_4 rfl ?_
    refine e_iload_n dX13_noWish_5 rfl ?_
    refine e_ic_lt dX13_noWish_6 27 (by decide) (fun hc => ?_) (fun hc => ?_)
    · rw [if_pos hc] at h
      exact E_X13_noWish_c27 hs h hQ
    · rw [if_neg hc] at h
      refine e_iload_n dX13_noWish_9 rfl ?_
      refine e_sipush (v := (255 : Int32)) dX13_noWish_10 rfl ?_
      refine e_ic_gt dX13_noWish_13 27 (by decide) (fun hc => ?_) (fun hc => ?_)
      · rw [if_pos hc] at h
        exact E_X13_noWish_c27 hs h hQ
      · rw [if_neg hc] at h
        refine e_iload_n dX13_noWish_16 rfl ?_
        refine e_iconst (v := (0 : Int32)) dX13_noWish_17 rfl ?_
        refine e_sipush (v := (255 : Int32)) dX13_noWish_18 rfl ?_
        obtain ⟨q1, hq1, h⟩ := p_bd h
        refine e_cS dX13_noWish_21 rfl rfl rfl rfl (E_X13_in hs hq1 ⟨rfl, ?_⟩)
        have hs := ShM_of (P_X13_in hq1) hs
        show p_Ev X (d + 1) M_X13_noWish 24 [.int v0, .int v1, .int v2] [.int q1.1] q1.2 Q
        refine e_if_ne dX13_noWish_24 31 (by decide) (fun hc => ?_) (fun hc => ?_)
        · rw [if_pos hc] at h
          refine e_iconst (v := (0 : Int32)) dX13_noWish_31 rfl ?_
          exact E_X13_noWish_c32 hs h hQ
        · rw [if_neg hc] at h
          exact E_X13_noWish_c27 hs h hQ
/-! X13_lot -/
def F_X13_lot_c102 (μ : p_M) : Option (Int32 × p_M) :=
  some ((0 : Int32), μ)
theorem P_X13_lot_c102 {μ : p_M} {r : Int32 × p_M} (h : F_X13_lot_c102 μ = some r) : Sm μ r.2 := by
  unfold F_X13_lot_c102 at h
  cases h
  exact (Sm_refl μ)
theorem E_X13_lot_c102 {X : p_X} {d : Nat} {Q : p_R → Prop} {w0 : Value} {w1 : Value} {w2 : Value} {w3 : Value} {w4 : Value} {w5 : Value} {w6 : Value} {w7 : Value} {μ : p_M} {r : Int32 × p_M} (hs : ShM μ) (h : F_X13_lot_c102 μ = some r) (hQ : Q ((0, some (.int r.1)), r.2)) : p_Ev X (d + 2) M_X13_lot 102 [w0, w1, w2, w3, w4, w5, w6, w7] [] μ Q := by
  unfold F_X13_lot_c102 at h
  refine e_iconst (v := (0 : Int32)) dX13_lot_102 rfl ?_
  cases h
  exact e_ireti dX13_lot_103 rfl hQ
def F_X13_lot_c95 (v1 : Int32) (v2 : Int32) (v3 : Int32) (v4 : Int32) (v5 : Int32) (v6 : Int32) (v7 : Int32) (s0 : Int32) (μ : p_M) : Option (Int32 × p_M) :=
  (F_X13_throwsIf s0 (3 : Int32) μ).bind fun q8 =>
  if q8.1 = 0
  then ((F_X13_adds v1 v2 v3 v4 v5 v6 v7 q8.2).bind fun q9 =>
    some (q9.1, q9.2))
  else (F_X13_lot_c102 q8.2)
theorem P_X13_lot_c95 {v1 : Int32} {v2 : Int32} {v3 : Int32} {v4 : Int32} {v5 : Int32} {v6 : Int32} {v7 : Int32} {s0 : Int32} {μ : p_M} {r : Int32 × p_M} (h : F_X13_lot_c95 v1 v2 v3 v4 v5 v6 v7 s0 μ = some r) : Sm μ r.2 := by
  unfold F_X13_lot_c95 at h
  obtain ⟨q8, hq8, h⟩ := p_bd h
  by_cases hc : q8.1 = 0
  · rw [if_pos hc] at h
    obtain ⟨q9, hq9, h⟩ := p_bd h
    cases h
    exact (Sm_trans (Sm_trans (Sm_refl μ) (P_X13_throwsIf (r := q8) hq8)) (P_X13_adds (r := q9) hq9))
  · rw [if_neg hc] at h
    exact Sm_trans (Sm_trans (Sm_refl μ) (P_X13_throwsIf (r := q8) hq8)) (P_X13_lot_c102 h)
theorem E_X13_lot_c95 {X : p_X} {d : Nat} {Q : p_R → Prop} {v1 : Int32} {v2 : Int32} {v3 : Int32} {v4 : Int32} {v5 : Int32} {v6 : Int32} {v7 : Int32} {s0 : Int32} {μ : p_M} {r : Int32 × p_M} (hs : ShM μ) (h : F_X13_lot_c95 v1 v2 v3 v4 v5 v6 v7 s0 μ = some r) (hQ : Q ((0, some (.int r.1)), r.2)) : p_Ev X (d + 2) M_X13_lot 95 [.ref tM, .int v1, .int v2, .int v3, .int v4, .int v5, .int v6, .int v7] [.int s0, .ref tM] μ Q := by
  unfold F_X13_lot_c95 at h
  refine e_iconst (v := (3 : Int32)) dX13_lot_95 rfl ?_
  obtain ⟨q8, hq8, h⟩ := p_bd h
  refine e_cV dX13_lot_96 rfl rfl ⟨rfl, rfl, by decide⟩ rfl hs.1 hs.2.1 (E_X13_throwsIf hs hq8 ⟨rfl, ?_⟩)
  have hs := ShM_of (P_X13_throwsIf hq8) hs
  show p_Ev X (d + 2) M_X13_lot 99 [.ref tM, .int v1, .int v2, .int v3, .int v4, .int v5, .int v6, .int v7] [.int q8.1] q8.2 Q
  refine e_if_eq dX13_lot_99 104 (by decide) (fun hc => ?_) (fun hc => ?_)
  · rw [if_pos hc] at h
    refine e_aload_n dX13_lot_104 rfl ?_
    refine e_iload_n dX13_lot_105 rfl ?_
    refine e_iload_n dX13_lot_106 rfl ?_
    refine e_iload_n dX13_lot_107 rfl ?_
    refine e_iload dX13_lot_108 rfl ?_
    refine e_iload dX13_lot_110 rfl ?_
    refine e_iload dX13_lot_112 rfl ?_
    refine e_iload dX13_lot_114 rfl ?_
    obtain ⟨q9, hq9, h⟩ := p_bd h
    refine e_cV dX13_lot_116 rfl rfl ⟨rfl, rfl, by decide⟩ rfl hs.1 hs.2.1 (E_X13_adds hs hq9 ⟨rfl, ?_⟩)
    have hs := ShM_of (P_X13_adds hq9) hs
    show p_Ev X (d + 2) M_X13_lot 119 [.ref tM, .int v1, .int v2, .int v3, .int v4, .int v5, .int v6, .int v7] [.int q9.1] q9.2 Q
    cases h
    exact e_ireti dX13_lot_119 rfl hQ
  · rw [if_neg hc] at h
    exact E_X13_lot_c102 hs h hQ
def F_X13_lot_c73 (v1 : Int32) (v2 : Int32) (v3 : Int32) (v4 : Int32) (v5 : Int32) (v6 : Int32) (v7 : Int32) (s0 : Int32) (μ : p_M) : Option (Int32 × p_M) :=
  (F_X13_throwsIf s0 (2 : Int32) μ).bind fun q7 =>
  if ¬ q7.1 = 0
  then (F_X13_lot_c102 q7.2)
  else (if ¬ (mI q7.2 tM 62) = (40 : Int32)
    then (F_X13_lot_c95 v1 v2 v3 v4 v5 v6 v7 (0 : Int32) q7.2)
    else (F_X13_lot_c95 v1 v2 v3 v4 v5 v6 v7 (1 : Int32) q7.2))
theorem P_X13_lot_c73 {v1 : Int32} {v2 : Int32} {v3 : Int32} {v4 : Int32} {v5 : Int32} {v6 : Int32} {v7 : Int32} {s0 : Int32} {μ : p_M} {r : Int32 × p_M} (h : F_X13_lot_c73 v1 v2 v3 v4 v5 v6 v7 s0 μ = some r) : Sm μ r.2 := by
  unfold F_X13_lot_c73 at h
  obtain ⟨q7, hq7, h⟩ := p_bd h
  by_cases hc : ¬ q7.1 = 0
  · rw [if_pos hc] at h
    exact Sm_trans (Sm_trans (Sm_refl μ) (P_X13_throwsIf (r := q7) hq7)) (P_X13_lot_c102 h)
  · rw [if_neg hc] at h
    by_cases hc : ¬ (mI q7.2 tM 62) = (40 : Int32)
    · rw [if_pos hc] at h
      exact Sm_trans (Sm_trans (Sm_refl μ) (P_X13_throwsIf (r := q7) hq7)) (P_X13_lot_c95 h)
    · rw [if_neg hc] at h
      exact Sm_trans (Sm_trans (Sm_refl μ) (P_X13_throwsIf (r := q7) hq7)) (P_X13_lot_c95 h)
theorem E_X13_lot_c73 {X : p_X} {d : Nat} {Q : p_R → Prop} {v1 : Int32} {v2 : Int32} {v3 : Int32} {v4 : Int32} {v5 : Int32} {v6 : Int32} {v7 : Int32} {s0 : Int32} {μ : p_M} {r : Int32 × p_M} (hs : ShM μ) (h : F_X13_lot_c73 v1 v2 v3 v4 v5 v6 v7 s0 μ = some r) (hQ : Q ((0, some (.int r.1)), r.2)) : p_Ev X (d + 2) M_X13_lot 73 [.ref tM, .int v1, .int v2, .int v3, .int v4, .int v5, .int v6, .int v7] [.int s0, .ref tM] μ Q := by
  unfold F_X13_lot_c73 at h
  refine e_iconst (v := (2 : Int32)) dX13_lot_73 rfl ?_
  obtain ⟨q7, hq7, h⟩ := p_bd h
  refine e_cV dX13_lot_74 rfl rfl ⟨rfl, rfl, by decide⟩ rfl hs.1 hs.2.1 (E_X13_throwsIf hs hq7 ⟨rfl, ?_⟩)
  have hs := ShM_of (P_X13_throwsIf hq7) hs
  show p_Ev X (d + 2) M_X13_lot 77 [.ref tM, .int v1, .int v2, .int v3, .int v4, .int v5, .int v6, .int v7] [.int q7.1] q7.2 Q
  refine e_if_ne dX13_lot_77 102 (by decide) (fun hc => ?_) (fun hc => ?_)
  · rw [if_pos hc] at h
    exact E_X13_lot_c102 hs h hQ
  · rw [if_neg hc] at h
    refine e_aload_n dX13_lot_80 rfl ?_
    refine e_aload_n dX13_lot_81 rfl ?_
    refine e_getI dX13_lot_82 rfl rfl hs.1 hs.2.1 ?_
    refine e_bipush (v := (40 : Int32)) dX13_lot_85 rfl ?_
    refine e_ic_ne dX13_lot_87 94 (by decide) (fun hc => ?_) (fun hc => ?_)
    · rw [if_pos hc] at h
      refine e_iconst (v := (0 : Int32)) dX13_lot_94 rfl ?_
      exact E_X13_lot_c95 hs h hQ
    · rw [if_neg hc] at h
      refine e_iconst (v := (1 : Int32)) dX13_lot_90 rfl ?_
      refine e_goto dX13_lot_91 95 (by decide) ?_
      exact E_X13_lot_c95 hs h hQ
def F_X13_lot_c68 (v1 : Int32) (v2 : Int32) (v3 : Int32) (v4 : Int32) (v5 : Int32) (v6 : Int32) (v7 : Int32) (μ : p_M) : Option (Int32 × p_M) :=
  F_X13_lot_c73 v1 v2 v3 v4 v5 v6 v7 (1 : Int32) μ
theorem P_X13_lot_c68 {v1 : Int32} {v2 : Int32} {v3 : Int32} {v4 : Int32} {v5 : Int32} {v6 : Int32} {v7 : Int32} {μ : p_M} {r : Int32 × p_M} (h : F_X13_lot_c68 v1 v2 v3 v4 v5 v6 v7 μ = some r) : Sm μ r.2 := by
  unfold F_X13_lot_c68 at h
  exact Sm_trans (Sm_refl μ) (P_X13_lot_c73 h)
theorem E_X13_lot_c68 {X : p_X} {d : Nat} {Q : p_R → Prop} {v1 : Int32} {v2 : Int32} {v3 : Int32} {v4 : Int32} {v5 : Int32} {v6 : Int32} {v7 : Int32} {μ : p_M} {r : Int32 × p_M} (hs : ShM μ) (h : F_X13_lot_c68 v1 v2 v3 v4 v5 v6 v7 μ = some r) (hQ : Q ((0, some (.int r.1)), r.2)) : p_Ev X (d + 2) M_X13_lot 68 [.ref tM, .int v1, .int v2, .int v3, .int v4, .int v5, .int v6, .int v7] [.ref tM] μ Q := by
  unfold F_X13_lot_c68 at h
  refine e_iconst (v := (1 : Int32)) dX13_lot_68 rfl ?_
  refine e_goto dX13_lot_69 73 (by decide) ?_
  exact E_X13_lot_c73 hs h hQ
def F_X13_lot_c26 (v1 : Int32) (v2 : Int32) (v3 : Int32) (v4 : Int32) (v5 : Int32) (v6 : Int32) (v7 : Int32) (s0 : Int32) (μ : p_M) : Option (Int32 × p_M) :=
  (F_X13_throwsIf s0 (1 : Int32) μ).bind fun q3 =>
  if ¬ q3.1 = 0
  then (F_X13_lot_c102 q3.2)
  else ((F_X13_in v2 (1 : Int32) (60 : Int32) q3.2).bind fun q4 =>
    if q4.1 = 0
    then (F_X13_lot_c68 v1 v2 v3 v4 v5 v6 v7 q4.2)
    else ((F_X13_noWish v4 v5 v6 q4.2).bind fun q5 =>
      if ¬ q5.1 = 0
      then (F_X13_lot_c68 v1 v2 v3 v4 v5 v6 v7 q5.2)
      else ((F_X13_in v7 (0 : Int32) (400 : Int32) q5.2).bind fun q6 =>
        if ¬ q6.1 = 0
        then (F_X13_lot_c73 v1 v2 v3 v4 v5 v6 v7 (0 : Int32) q6.2)
        else (F_X13_lot_c68 v1 v2 v3 v4 v5 v6 v7 q6.2))))
theorem P_X13_lot_c26 {v1 : Int32} {v2 : Int32} {v3 : Int32} {v4 : Int32} {v5 : Int32} {v6 : Int32} {v7 : Int32} {s0 : Int32} {μ : p_M} {r : Int32 × p_M} (h : F_X13_lot_c26 v1 v2 v3 v4 v5 v6 v7 s0 μ = some r) : Sm μ r.2 := by
  unfold F_X13_lot_c26 at h
  obtain ⟨q3, hq3, h⟩ := p_bd h
  by_cases hc : ¬ q3.1 = 0
  · rw [if_pos hc] at h
    exact Sm_trans (Sm_trans (Sm_refl μ) (P_X13_throwsIf (r := q3) hq3)) (P_X13_lot_c102 h)
  · rw [if_neg hc] at h
    obtain ⟨q4, hq4, h⟩ := p_bd h
    by_cases hc : q4.1 = 0
    · rw [if_pos hc] at h
      exact Sm_trans (Sm_trans (Sm_trans (Sm_refl μ) (P_X13_throwsIf (r := q3) hq3)) (P_X13_in (r := q4) hq4)) (P_X13_lot_c68 h)
    · rw [if_neg hc] at h
      obtain ⟨q5, hq5, h⟩ := p_bd h
      by_cases hc : ¬ q5.1 = 0
      · rw [if_pos hc] at h
        exact Sm_trans (Sm_trans (Sm_trans (Sm_trans (Sm_refl μ) (P_X13_throwsIf (r := q3) hq3)) (P_X13_in (r := q4) hq4)) (P_X13_noWish (r := q5) hq5)) (P_X13_lot_c68 h)
      · rw [if_neg hc] at h
        obtain ⟨q6, hq6, h⟩ := p_bd h
        by_cases hc : ¬ q6.1 = 0
        · rw [if_pos hc] at h
          exact Sm_trans (Sm_trans (Sm_trans (Sm_trans (Sm_trans (Sm_refl μ) (P_X13_throwsIf (r := q3) hq3)) (P_X13_in (r := q4) hq4)) (P_X13_noWish (r := q5) hq5)) (P_X13_in (r := q6) hq6)) (P_X13_lot_c73 h)
        · rw [if_neg hc] at h
          exact Sm_trans (Sm_trans (Sm_trans (Sm_trans (Sm_trans (Sm_refl μ) (P_X13_throwsIf (r := q3) hq3)) (P_X13_in (r := q4) hq4)) (P_X13_noWish (r := q5) hq5)) (P_X13_in (r := q6) hq6)) (P_X13_lot_c68 h)
theorem E_X13_lot_c26 {X : p_X} {d : Nat} {Q : p_R → Prop} {v1 : Int32} {v2 : Int32} {v3 : Int32} {v4 : Int32} {v5 : Int32} {v6 : Int32} {v7 : Int32} {s0 : Int32} {μ : p_M} {r : Int32 × p_M} (hs : ShM μ) (h : F_X13_lot_c26 v1 v2 v3 v4 v5 v6 v7 s0 μ = some r) (hQ : Q ((0, some (.int r.1)), r.2)) : p_Ev X (d + 2) M_X13_lot 26 [.ref tM, .int v1, .int v2, .int v3, .int v4, .int v5, .int v6, .int v7] [.int s0, .ref tM] μ Q := by
  unfold F_X13_lot_c26 at h
  refine e_iconst (v := (1 : Int32)) dX13_lot_26 rfl ?_
  obtain ⟨q3, hq3, h⟩ := p_bd h
  refine e_cV dX13_lot_27 rfl rfl ⟨rfl, rfl, by decide⟩ rfl hs.1 hs.2.1 (E_X13_throwsIf hs hq3 ⟨rfl, ?_⟩)
  have hs := ShM_of (P_X13_throwsIf hq3) hs
  show p_Ev X (d + 2) M_X13_lot 30 [.ref tM, .int v1, .int v2, .int v3, .int v4, .int v5, .int v6, .int v7] [.int q3.1] q3.2 Q
  refine e_if_ne dX13_lot_30 102 (by decide) (fun hc => ?_) (fun hc => ?_)
  · rw [if_pos hc] at h
    exact E_X13_lot_c102 hs h hQ
  · rw [if_neg hc] at h
    refine e_aload_n dX13_lot_33 rfl ?_
    refine e_iload_n dX13_lot_34 rfl ?_
    refine e_iconst (v := (1 : Int32)) dX13_lot_35 rfl ?_
    refine e_bipush (v := (60 : Int32)) dX13_lot_36 rfl ?_
    obtain ⟨q4, hq4, h⟩ := p_bd h
    refine e_cS dX13_lot_38 rfl rfl rfl rfl (E_X13_in hs hq4 ⟨rfl, ?_⟩)
    have hs := ShM_of (P_X13_in hq4) hs
    show p_Ev X (d + 2) M_X13_lot 41 [.ref tM, .int v1, .int v2, .int v3, .int v4, .int v5, .int v6, .int v7] [.int q4.1, .ref tM] q4.2 Q
    refine e_if_eq dX13_lot_41 68 (by decide) (fun hc => ?_) (fun hc => ?_)
    · rw [if_pos hc] at h
      exact E_X13_lot_c68 hs h hQ
    · rw [if_neg hc] at h
      refine e_iload dX13_lot_44 rfl ?_
      refine e_iload dX13_lot_46 rfl ?_
      refine e_iload dX13_lot_48 rfl ?_
      obtain ⟨q5, hq5, h⟩ := p_bd h
      refine e_cS dX13_lot_50 rfl rfl rfl rfl (E_X13_noWish hs hq5 ⟨rfl, ?_⟩)
      have hs := ShM_of (P_X13_noWish hq5) hs
      show p_Ev X (d + 2) M_X13_lot 53 [.ref tM, .int v1, .int v2, .int v3, .int v4, .int v5, .int v6, .int v7] [.int q5.1, .ref tM] q5.2 Q
      refine e_if_ne dX13_lot_53 68 (by decide) (fun hc => ?_) (fun hc => ?_)
      · rw [if_pos hc] at h
        exact E_X13_lot_c68 hs h hQ
      · rw [if_neg hc] at h
        refine e_iload dX13_lot_56 rfl ?_
        refine e_iconst (v := (0 : Int32)) dX13_lot_58 rfl ?_
        refine e_sipush (v := (400 : Int32)) dX13_lot_59 rfl ?_
        obtain ⟨q6, hq6, h⟩ := p_bd h
        refine e_cS dX13_lot_62 rfl rfl rfl rfl (E_X13_in hs hq6 ⟨rfl, ?_⟩)
        have hs := ShM_of (P_X13_in hq6) hs
        show p_Ev X (d + 2) M_X13_lot 65 [.ref tM, .int v1, .int v2, .int v3, .int v4, .int v5, .int v6, .int v7] [.int q6.1, .ref tM] q6.2 Q
        refine e_if_ne dX13_lot_65 72 (by decide) (fun hc => ?_) (fun hc => ?_)
        · rw [if_pos hc] at h
          refine e_iconst (v := (0 : Int32)) dX13_lot_72 rfl ?_
          exact E_X13_lot_c73 hs h hQ
        · rw [if_neg hc] at h
          exact E_X13_lot_c68 hs h hQ
def F_X13_lot_c21 (v1 : Int32) (v2 : Int32) (v3 : Int32) (v4 : Int32) (v5 : Int32) (v6 : Int32) (v7 : Int32) (μ : p_M) : Option (Int32 × p_M) :=
  F_X13_lot_c26 v1 v2 v3 v4 v5 v6 v7 (1 : Int32) μ
theorem P_X13_lot_c21 {v1 : Int32} {v2 : Int32} {v3 : Int32} {v4 : Int32} {v5 : Int32} {v6 : Int32} {v7 : Int32} {μ : p_M} {r : Int32 × p_M} (h : F_X13_lot_c21 v1 v2 v3 v4 v5 v6 v7 μ = some r) : Sm μ r.2 := by
  unfold F_X13_lot_c21 at h
  exact Sm_trans (Sm_refl μ) (P_X13_lot_c26 h)
theorem E_X13_lot_c21 {X : p_X} {d : Nat} {Q : p_R → Prop} {v1 : Int32} {v2 : Int32} {v3 : Int32} {v4 : Int32} {v5 : Int32} {v6 : Int32} {v7 : Int32} {μ : p_M} {r : Int32 × p_M} (hs : ShM μ) (h : F_X13_lot_c21 v1 v2 v3 v4 v5 v6 v7 μ = some r) (hQ : Q ((0, some (.int r.1)), r.2)) : p_Ev X (d + 2) M_X13_lot 21 [.ref tM, .int v1, .int v2, .int v3, .int v4, .int v5, .int v6, .int v7] [.ref tM] μ Q := by
  unfold F_X13_lot_c21 at h
  refine e_iconst (v := (1 : Int32)) dX13_lot_21 rfl ?_
  refine e_goto dX13_lot_22 26 (by decide) ?_
  exact E_X13_lot_c26 hs h hQ
def F_X13_lot (v1 : Int32) (v2 : Int32) (v3 : Int32) (v4 : Int32) (v5 : Int32) (v6 : Int32) (v7 : Int32) (μ : p_M) : Option (Int32 × p_M) :=
  (F_X13_noCloth v1 (sI μ tM 0 (0 : Int32))).bind fun q1 =>
  if ¬ q1.1 = 0
  then (F_X13_lot_c21 v1 v2 v3 v4 v5 v6 v7 q1.2)
  else ((F_X13_noKind v3 q1.2).bind fun q2 =>
    if q2.1 = 0
    then (F_X13_lot_c26 v1 v2 v3 v4 v5 v6 v7 (0 : Int32) q2.2)
    else (F_X13_lot_c21 v1 v2 v3 v4 v5 v6 v7 q2.2))
theorem P_X13_lot {v1 : Int32} {v2 : Int32} {v3 : Int32} {v4 : Int32} {v5 : Int32} {v6 : Int32} {v7 : Int32} {μ : p_M} {r : Int32 × p_M} (h : F_X13_lot v1 v2 v3 v4 v5 v6 v7 μ = some r) : Sm μ r.2 := by
  unfold F_X13_lot at h
  obtain ⟨q1, hq1, h⟩ := p_bd h
  by_cases hc : ¬ q1.1 = 0
  · rw [if_pos hc] at h
    exact Sm_trans (Sm_trans (Sm_set (Sm_refl μ) (by decide)) (P_X13_noCloth (r := q1) hq1)) (P_X13_lot_c21 h)
  · rw [if_neg hc] at h
    obtain ⟨q2, hq2, h⟩ := p_bd h
    by_cases hc : q2.1 = 0
    · rw [if_pos hc] at h
      exact Sm_trans (Sm_trans (Sm_trans (Sm_set (Sm_refl μ) (by decide)) (P_X13_noCloth (r := q1) hq1)) (P_X13_noKind (r := q2) hq2)) (P_X13_lot_c26 h)
    · rw [if_neg hc] at h
      exact Sm_trans (Sm_trans (Sm_trans (Sm_set (Sm_refl μ) (by decide)) (P_X13_noCloth (r := q1) hq1)) (P_X13_noKind (r := q2) hq2)) (P_X13_lot_c21 h)
theorem E_X13_lot {X : p_X} {d : Nat} {Q : p_R → Prop} {v1 : Int32} {v2 : Int32} {v3 : Int32} {v4 : Int32} {v5 : Int32} {v6 : Int32} {v7 : Int32} {μ : p_M} {r : Int32 × p_M} (hs : ShM μ) (h : F_X13_lot v1 v2 v3 v4 v5 v6 v7 μ = some r) (hQ : Q ((0, some (.int r.1)), r.2)) : p_Ev X (d + 2) M_X13_lot 0 [.ref tM, .int v1, .int v2, .int v3, .int v4, .int v5, .int v6, .int v7] [] μ Q := by
  unfold F_X13_lot at h
  refine e_aload_n dX13_lot_0 rfl ?_
  refine e_iconst (v := (0 : Int32)) dX13_lot_1 rfl ?_
  refine e_putI dX13_lot_2 rfl ⟨rfl, rfl, fun h => by cases h⟩ (fun h => by cases h) hs.1 hs.2.1 ?_
  refine e_aload_n dX13_lot_5 rfl ?_
  refine e_aload_n dX13_lot_6 rfl ?_
  refine e_iload_n dX13_lot_7 rfl ?_
  obtain ⟨q1, hq1, h⟩ := p_bd h
  refine e_cV dX13_lot_8 rfl rfl ⟨rfl, rfl, by decide⟩ rfl hs.1 hs.2.1 (E_X13_noCloth hs hq1 ⟨rfl, ?_⟩)
  have hs := ShM_of (P_X13_noCloth hq1) hs
  show p_Ev X (d + 2) M_X13_lot 11 [.ref tM, .int v1, .int v2, .int v3, .int v4, .int v5, .int v6, .int v7] [.int q1.1, .ref tM] q1.2 Q
  refine e_if_ne dX13_lot_11 21 (by decide) (fun hc => ?_) (fun hc => ?_)
  · rw [if_pos hc] at h
    exact E_X13_lot_c21 hs h hQ
  · rw [if_neg hc] at h
    refine e_iload_n dX13_lot_14 rfl ?_
    obtain ⟨q2, hq2, h⟩ := p_bd h
    refine e_cS dX13_lot_15 rfl rfl rfl rfl (E_X13_noKind hs hq2 ⟨rfl, ?_⟩)
    have hs := ShM_of (P_X13_noKind hq2) hs
    show p_Ev X (d + 2) M_X13_lot 18 [.ref tM, .int v1, .int v2, .int v3, .int v4, .int v5, .int v6, .int v7] [.int q2.1, .ref tM] q2.2 Q
    refine e_if_eq dX13_lot_18 25 (by decide) (fun hc => ?_) (fun hc => ?_)
    · rw [if_pos hc] at h
      refine e_iconst (v := (0 : Int32)) dX13_lot_25 rfl ?_
      exact E_X13_lot_c26 hs h hQ
    · rw [if_neg hc] at h
      exact E_X13_lot_c21 hs h hQ
/-! X13_machine -/
def F_X13_machine_c49 (μ : p_M) : Option (Int32 × p_M) :=
  some ((0 : Int32), μ)
theorem P_X13_machine_c49 {μ : p_M} {r : Int32 × p_M} (h : F_X13_machine_c49 μ = some r) : Sm μ r.2 := by
  unfold F_X13_machine_c49 at h
  cases h
  exact (Sm_refl μ)
theorem E_X13_machine_c49 {X : p_X} {d : Nat} {Q : p_R → Prop} {w0 : Value} {w1 : Value} {μ : p_M} {r : Int32 × p_M} (hs : ShM μ) (h : F_X13_machine_c49 μ = some r) (hQ : Q ((0, some (.int r.1)), r.2)) : p_Ev X (d + 1) M_X13_machine 49 [w0, w1] [] μ Q := by
  unfold F_X13_machine_c49 at h
  refine e_iconst (v := (0 : Int32)) dX13_machine_49 rfl ?_
  cases h
  exact e_ireti dX13_machine_50 rfl hQ
def F_X13_machine_c42 (v1 : Int32) (s0 : Int32) (μ : p_M) : Option (Int32 × p_M) :=
  (F_X13_throwsIf s0 (2 : Int32) μ).bind fun q3 =>
  if q3.1 = 0
  then (p_ok (¬ (mI q3.2 tM 47) < 0 ∧ (mI q3.2 tM 47).toNatClampNeg < 4)
    (p_ok (¬ (mI (sI q3.2 (aM 43) (mI q3.2 tM 47).toNatClampNeg v1) tM 47) < 0 ∧ (mI (sI q3.2 (aM 43) (mI q3.2 tM 47).toNatClampNeg v1) tM 47).toNatClampNeg < 4)
    (p_ok (¬ (mI (sI (sI q3.2 (aM 43) (mI q3.2 tM 47).toNatClampNeg v1) (aM 44) (mI (sI q3.2 (aM 43) (mI q3.2 tM 47).toNatClampNeg v1) tM 47).toNatClampNeg (-1)) tM 47) < 0 ∧ (mI (sI (sI q3.2 (aM 43) (mI q3.2 tM 47).toNatClampNeg v1) (aM 44) (mI (sI q3.2 (aM 43) (mI q3.2 tM 47).toNatClampNeg v1) tM 47).toNatClampNeg (-1)) tM 47).toNatClampNeg < 4)
    (some (((mI (sI (sI (sI (sI q3.2 (aM 43) (mI q3.2 tM 47).toNatClampNeg v1) (aM 44) (mI (sI q3.2 (aM 43) (mI q3.2 tM 47).toNatClampNeg v1) tM 47).toNatClampNeg (-1)) (aM 45) (mI (sI (sI q3.2 (aM 43) (mI q3.2 tM 47).toNatClampNeg v1) (aM 44) (mI (sI q3.2 (aM 43) (mI q3.2 tM 47).toNatClampNeg v1) tM 47).toNatClampNeg (-1)) tM 47).toNatClampNeg (-1)) tM 47 ((mI (sI (sI (sI q3.2 (aM 43) (mI q3.2 tM 47).toNatClampNeg v1) (aM 44) (mI (sI q3.2 (aM 43) (mI q3.2 tM 47).toNatClampNeg v1) tM 47).toNatClampNeg (-1)) (aM 45) (mI (sI (sI q3.2 (aM 43) (mI q3.2 tM 47).toNatClampNeg v1) (aM 44) (mI (sI q3.2 (aM 43) (mI q3.2 tM 47).toNatClampNeg v1) tM 47).toNatClampNeg (-1)) tM 47).toNatClampNeg (-1)) tM 47) + (1 : Int32))) tM 47) - (1 : Int32)), (sI (sI (sI (sI q3.2 (aM 43) (mI q3.2 tM 47).toNatClampNeg v1) (aM 44) (mI (sI q3.2 (aM 43) (mI q3.2 tM 47).toNatClampNeg v1) tM 47).toNatClampNeg (-1)) (aM 45) (mI (sI (sI q3.2 (aM 43) (mI q3.2 tM 47).toNatClampNeg v1) (aM 44) (mI (sI q3.2 (aM 43) (mI q3.2 tM 47).toNatClampNeg v1) tM 47).toNatClampNeg (-1)) tM 47).toNatClampNeg (-1)) tM 47 ((mI (sI (sI (sI q3.2 (aM 43) (mI q3.2 tM 47).toNatClampNeg v1) (aM 44) (mI (sI q3.2 (aM 43) (mI q3.2 tM 47).toNatClampNeg v1) tM 47).toNatClampNeg (-1)) (aM 45) (mI (sI (sI q3.2 (aM 43) (mI q3.2 tM 47).toNatClampNeg v1) (aM 44) (mI (sI q3.2 (aM 43) (mI q3.2 tM 47).toNatClampNeg v1) tM 47).toNatClampNeg (-1)) tM 47).toNatClampNeg (-1)) tM 47) + (1 : Int32))))))))
  else (F_X13_machine_c49 q3.2)
theorem P_X13_machine_c42 {v1 : Int32} {s0 : Int32} {μ : p_M} {r : Int32 × p_M} (h : F_X13_machine_c42 v1 s0 μ = some r) : Sm μ r.2 := by
  unfold F_X13_machine_c42 at h
  obtain ⟨q3, hq3, h⟩ := p_bd h
  by_cases hc : q3.1 = 0
  · rw [if_pos hc] at h
    obtain ⟨hc, h⟩ := p_ok_some h
    obtain ⟨hc, h⟩ := p_ok_some h
    obtain ⟨hc, h⟩ := p_ok_some h
    cases h
    exact (Sm_set (Sm_set (Sm_set (Sm_set (Sm_trans (Sm_refl μ) (P_X13_throwsIf (r := q3) hq3)) (by decide)) (by decide)) (by decide)) (by decide))
  · rw [if_neg hc] at h
    exact Sm_trans (Sm_trans (Sm_refl μ) (P_X13_throwsIf (r := q3) hq3)) (P_X13_machine_c49 h)
theorem E_X13_machine_c42 {X : p_X} {d : Nat} {Q : p_R → Prop} {v1 : Int32} {s0 : Int32} {μ : p_M} {r : Int32 × p_M} (hs : ShM μ) (h : F_X13_machine_c42 v1 s0 μ = some r) (hQ : Q ((0, some (.int r.1)), r.2)) : p_Ev X (d + 1) M_X13_machine 42 [.ref tM, .int v1] [.int s0, .ref tM] μ Q := by
  unfold F_X13_machine_c42 at h
  refine e_iconst (v := (2 : Int32)) dX13_machine_42 rfl ?_
  obtain ⟨q3, hq3, h⟩ := p_bd h
  refine e_cV dX13_machine_43 rfl rfl ⟨rfl, rfl, by decide⟩ rfl hs.1 hs.2.1 (E_X13_throwsIf hs hq3 ⟨rfl, ?_⟩)
  have hs := ShM_of (P_X13_throwsIf hq3) hs
  show p_Ev X (d + 1) M_X13_machine 46 [.ref tM, .int v1] [.int q3.1] q3.2 Q
  refine e_if_eq dX13_machine_46 51 (by decide) (fun hc => ?_) (fun hc => ?_)
  · rw [if_pos hc] at h
    refine e_aload_n dX13_machine_51 rfl ?_
    refine e_getR dX13_machine_52 rfl rfl hs.1 hs.2.1 (hs.2.2.2 43 (by decide) rfl).1 ?_
    refine e_aload_n dX13_machine_55 rfl ?_
    refine e_getI dX13_machine_56 rfl rfl hs.1 hs.2.1 ?_
    refine e_iload_n dX13_machine_59 rfl ?_
    obtain ⟨hc, h⟩ := p_ok_some h
    refine e_iast dX13_machine_60 (hs.2.2.2 43 (by decide) rfl).2.1 (hs.2.2.2 43 (by decide) rfl).2.2.1 (hs.2.2.2 43 (by decide) rfl).2.2.2 hc ?_
    refine e_aload_n dX13_machine_61 rfl ?_
    refine e_getR dX13_machine_62 rfl rfl hs.1 hs.2.1 (hs.2.2.2 44 (by decide) rfl).1 ?_
    refine e_aload_n dX13_machine_65 rfl ?_
    refine e_getI dX13_machine_66 rfl rfl hs.1 hs.2.1 ?_
    refine e_iconst (v := (-1)) dX13_machine_69 rfl ?_
    obtain ⟨hc, h⟩ := p_ok_some h
    refine e_iast dX13_machine_70 (hs.2.2.2 44 (by decide) rfl).2.1 (hs.2.2.2 44 (by decide) rfl).2.2.1 (hs.2.2.2 44 (by decide) rfl).2.2.2 hc ?_
    refine e_aload_n dX13_machine_71 rfl ?_
    refine e_getR dX13_machine_72 rfl rfl hs.1 hs.2.1 (hs.2.2.2 45 (by decide) rfl).1 ?_
    refine e_aload_n dX13_machine_75 rfl ?_
    refine e_getI dX13_machine_76 rfl rfl hs.1 hs.2.1 ?_
    refine e_iconst (v := (-1)) dX13_machine_79 rfl ?_
    obtain ⟨hc, h⟩ := p_ok_some h
    refine e_iast dX13_machine_80 (hs.2.2.2 45 (by decide) rfl).2.1 (hs.2.2.2 45 (by decide) rfl).2.2.1 (hs.2.2.2 45 (by decide) rfl).2.2.2 hc ?_
    refine e_aload_n dX13_machine_81 rfl ?_
    refine e_dupR dX13_machine_82 ?_
    refine e_getI dX13_machine_83 rfl rfl hs.1 hs.2.1 ?_
    refine e_iconst (v := (1 : Int32)) dX13_machine_86 rfl ?_
    refine e_iadd dX13_machine_87 ?_
    refine e_putI dX13_machine_88 rfl ⟨rfl, rfl, fun h => by cases h⟩ (fun h => by cases h) hs.1 hs.2.1 ?_
    refine e_aload_n dX13_machine_91 rfl ?_
    refine e_getI dX13_machine_92 rfl rfl hs.1 hs.2.1 ?_
    refine e_iconst (v := (1 : Int32)) dX13_machine_95 rfl ?_
    refine e_isub dX13_machine_96 ?_
    cases h
    exact e_ireti dX13_machine_97 rfl hQ
  · rw [if_neg hc] at h
    exact E_X13_machine_c49 hs h hQ
def F_X13_machine_c21 (v1 : Int32) (s0 : Int32) (μ : p_M) : Option (Int32 × p_M) :=
  (F_X13_throwsIf s0 (1 : Int32) μ).bind fun q2 =>
  if ¬ q2.1 = 0
  then (F_X13_machine_c49 q2.2)
  else (if ¬ (mI q2.2 tM 47) = (4 : Int32)
    then (F_X13_machine_c42 v1 (0 : Int32) q2.2)
    else (F_X13_machine_c42 v1 (1 : Int32) q2.2))
theorem P_X13_machine_c21 {v1 : Int32} {s0 : Int32} {μ : p_M} {r : Int32 × p_M} (h : F_X13_machine_c21 v1 s0 μ = some r) : Sm μ r.2 := by
  unfold F_X13_machine_c21 at h
  obtain ⟨q2, hq2, h⟩ := p_bd h
  by_cases hc : ¬ q2.1 = 0
  · rw [if_pos hc] at h
    exact Sm_trans (Sm_trans (Sm_refl μ) (P_X13_throwsIf (r := q2) hq2)) (P_X13_machine_c49 h)
  · rw [if_neg hc] at h
    by_cases hc : ¬ (mI q2.2 tM 47) = (4 : Int32)
    · rw [if_pos hc] at h
      exact Sm_trans (Sm_trans (Sm_refl μ) (P_X13_throwsIf (r := q2) hq2)) (P_X13_machine_c42 h)
    · rw [if_neg hc] at h
      exact Sm_trans (Sm_trans (Sm_refl μ) (P_X13_throwsIf (r := q2) hq2)) (P_X13_machine_c42 h)
theorem E_X13_machine_c21 {X : p_X} {d : Nat} {Q : p_R → Prop} {v1 : Int32} {s0 : Int32} {μ : p_M} {r : Int32 × p_M} (hs : ShM μ) (h : F_X13_machine_c21 v1 s0 μ = some r) (hQ : Q ((0, some (.int r.1)), r.2)) : p_Ev X (d + 1) M_X13_machine 21 [.ref tM, .int v1] [.int s0, .ref tM] μ Q := by
  unfold F_X13_machine_c21 at h
  refine e_iconst (v := (1 : Int32)) dX13_machine_21 rfl ?_
  obtain ⟨q2, hq2, h⟩ := p_bd h
  refine e_cV dX13_machine_22 rfl rfl ⟨rfl, rfl, by decide⟩ rfl hs.1 hs.2.1 (E_X13_throwsIf hs hq2 ⟨rfl, ?_⟩)
  have hs := ShM_of (P_X13_throwsIf hq2) hs
  show p_Ev X (d + 1) M_X13_machine 25 [.ref tM, .int v1] [.int q2.1] q2.2 Q
  refine e_if_ne dX13_machine_25 49 (by decide) (fun hc => ?_) (fun hc => ?_)
  · rw [if_pos hc] at h
    exact E_X13_machine_c49 hs h hQ
  · rw [if_neg hc] at h
    refine e_aload_n dX13_machine_28 rfl ?_
    refine e_aload_n dX13_machine_29 rfl ?_
    refine e_getI dX13_machine_30 rfl rfl hs.1 hs.2.1 ?_
    refine e_iconst (v := (4 : Int32)) dX13_machine_33 rfl ?_
    refine e_ic_ne dX13_machine_34 41 (by decide) (fun hc => ?_) (fun hc => ?_)
    · rw [if_pos hc] at h
      refine e_iconst (v := (0 : Int32)) dX13_machine_41 rfl ?_
      exact E_X13_machine_c42 hs h hQ
    · rw [if_neg hc] at h
      refine e_iconst (v := (1 : Int32)) dX13_machine_37 rfl ?_
      refine e_goto dX13_machine_38 42 (by decide) ?_
      exact E_X13_machine_c42 hs h hQ
def F_X13_machine (v1 : Int32) (μ : p_M) : Option (Int32 × p_M) :=
  (F_X13_in v1 (1 : Int32) (60 : Int32) (sI μ tM 0 (0 : Int32))).bind fun q1 =>
  if ¬ q1.1 = 0
  then (F_X13_machine_c21 v1 (0 : Int32) q1.2)
  else (F_X13_machine_c21 v1 (1 : Int32) q1.2)
theorem P_X13_machine {v1 : Int32} {μ : p_M} {r : Int32 × p_M} (h : F_X13_machine v1 μ = some r) : Sm μ r.2 := by
  unfold F_X13_machine at h
  obtain ⟨q1, hq1, h⟩ := p_bd h
  by_cases hc : ¬ q1.1 = 0
  · rw [if_pos hc] at h
    exact Sm_trans (Sm_trans (Sm_set (Sm_refl μ) (by decide)) (P_X13_in (r := q1) hq1)) (P_X13_machine_c21 h)
  · rw [if_neg hc] at h
    exact Sm_trans (Sm_trans (Sm_set (Sm_refl μ) (by decide)) (P_X13_in (r := q1) hq1)) (P_X13_machine_c21 h)
theorem E_X13_machine {X : p_X} {d : Nat} {Q : p_R → Prop} {v1 : Int32} {μ : p_M} {r : Int32 × p_M} (hs : ShM μ) (h : F_X13_machine v1 μ = some r) (hQ : Q ((0, some (.int r.1)), r.2)) : p_Ev X (d + 1) M_X13_machine 0 [.ref tM, .int v1] [] μ Q := by
  unfold F_X13_machine at h
  refine e_aload_n dX13_machine_0 rfl ?_
  refine e_iconst (v := (0 : Int32)) dX13_machine_1 rfl ?_
  refine e_putI dX13_machine_2 rfl ⟨rfl, rfl, fun h => by cases h⟩ (fun h => by cases h) hs.1 hs.2.1 ?_
  refine e_aload_n dX13_machine_5 rfl ?_
  refine e_iload_n dX13_machine_6 rfl ?_
  refine e_iconst (v := (1 : Int32)) dX13_machine_7 rfl ?_
  refine e_bipush (v := (60 : Int32)) dX13_machine_8 rfl ?_
  obtain ⟨q1, hq1, h⟩ := p_bd h
  refine e_cS dX13_machine_10 rfl rfl rfl rfl (E_X13_in hs hq1 ⟨rfl, ?_⟩)
  have hs := ShM_of (P_X13_in hq1) hs
  show p_Ev X (d + 1) M_X13_machine 13 [.ref tM, .int v1] [.int q1.1, .ref tM] q1.2 Q
  refine e_if_ne dX13_machine_13 20 (by decide) (fun hc => ?_) (fun hc => ?_)
  · rw [if_pos hc] at h
    refine e_iconst (v := (0 : Int32)) dX13_machine_20 rfl ?_
    exact E_X13_machine_c21 hs h hQ
  · rw [if_neg hc] at h
    refine e_iconst (v := (1 : Int32)) dX13_machine_16 rfl ?_
    refine e_goto dX13_machine_17 21 (by decide) ?_
    exact E_X13_machine_c21 hs h hQ
