/-! X13_asAtFirst -/
def F_X13_asAtFirst_c2 : Nat → Int32 → p_M → Option (Int32 × p_M)
  | 0, _, _ => none
  | n + 1, v1, μ =>
    if (4 : Int32) ≤ v1
    then (p_ok (¬ (26 : Int32) < 0 ∧ (26 : Int32).toNatClampNeg < 36)
      (p_ok (¬ (27 : Int32) < 0 ∧ (27 : Int32).toNatClampNeg < 36)
      (p_ok (¬ (28 : Int32) < 0 ∧ (28 : Int32).toNatClampNeg < 36)
      (p_ok (¬ (29 : Int32) < 0 ∧ (29 : Int32).toNatClampNeg < 36)
      (p_ok (¬ (30 : Int32) < 0 ∧ (30 : Int32).toNatClampNeg < 36)
      (p_ok (¬ (31 : Int32) < 0 ∧ (31 : Int32).toNatClampNeg < 36)
      (p_ok (¬ (32 : Int32) < 0 ∧ (32 : Int32).toNatClampNeg < 36)
      (p_ok (¬ (33 : Int32) < 0 ∧ (33 : Int32).toNatClampNeg < 36)
      (p_ok (¬ (34 : Int32) < 0 ∧ (34 : Int32).toNatClampNeg < 36)
      (p_ok (¬ (35 : Int32) < 0 ∧ (35 : Int32).toNatClampNeg < 36)
      (some (0, (sI (sI (sI (sI (sI (sI (sI (sI (sI (sI μ (aM 40) (26 : Int32).toNatClampNeg (5 : Int32)) (aM 40) (27 : Int32).toNatClampNeg (3 : Int32)) (aM 40) (28 : Int32).toNatClampNeg (4 : Int32)) (aM 40) (29 : Int32).toNatClampNeg (5 : Int32)) (aM 40) (30 : Int32).toNatClampNeg (4 : Int32)) (aM 40) (31 : Int32).toNatClampNeg (0 : Int32)) (aM 40) (32 : Int32).toNatClampNeg (0 : Int32)) (aM 40) (33 : Int32).toNatClampNeg (1 : Int32)) (aM 40) (34 : Int32).toNatClampNeg (5 : Int32)) (aM 40) (35 : Int32).toNatClampNeg (4 : Int32))))))))))))))
    else (p_ok (¬ ((18 : Int32) + v1) < 0 ∧ ((18 : Int32) + v1).toNatClampNeg < 36)
      (p_ok (¬ ((22 : Int32) + v1) < 0 ∧ ((22 : Int32) + v1).toNatClampNeg < 36)
      (F_X13_asAtFirst_c2 n (v1 + (1 : Int32)) (sI (sI μ (aM 40) ((18 : Int32) + v1).toNatClampNeg (0 : Int32)) (aM 40) ((22 : Int32) + v1).toNatClampNeg (-1)))))
theorem P_X13_asAtFirst_c2 : ∀ (n : Nat) (v1 : Int32) (μ : p_M) (r : Int32 × p_M), F_X13_asAtFirst_c2 n v1 μ = some r → Sm μ r.2 := by
  intro n
  induction n with
  | zero => intro v1 μ r h; rw [F_X13_asAtFirst_c2] at h; cases h
  | succ n ih =>
    intro v1 μ r h
    rw [F_X13_asAtFirst_c2] at h
    by_cases hc : (4 : Int32) ≤ v1
    · rw [if_pos hc] at h
      obtain ⟨hc, h⟩ := p_ok_some h
      obtain ⟨hc, h⟩ := p_ok_some h
      obtain ⟨hc, h⟩ := p_ok_some h
      obtain ⟨hc, h⟩ := p_ok_some h
      obtain ⟨hc, h⟩ := p_ok_some h
      obtain ⟨hc, h⟩ := p_ok_some h
      obtain ⟨hc, h⟩ := p_ok_some h
      obtain ⟨hc, h⟩ := p_ok_some h
      obtain ⟨hc, h⟩ := p_ok_some h
      obtain ⟨hc, h⟩ := p_ok_some h
      cases h
      exact (Sm_set (Sm_set (Sm_set (Sm_set (Sm_set (Sm_set (Sm_set (Sm_set (Sm_set (Sm_set (Sm_refl μ) (by decide)) (by decide)) (by decide)) (by decide)) (by decide)) (by decide)) (by decide)) (by decide)) (by decide)) (by decide))
    · rw [if_neg hc] at h
      obtain ⟨hc, h⟩ := p_ok_some h
      obtain ⟨hc, h⟩ := p_ok_some h
      exact Sm_trans (Sm_set (Sm_set (Sm_refl μ) (by decide)) (by decide)) (ih _ _ _ h)
theorem E_X13_asAtFirst_c2 {X : p_X} {d : Nat} {Q : p_R → Prop} : ∀ (n : Nat) (v1 : Int32) (μ : p_M) (r : Int32 × p_M), ShM μ → F_X13_asAtFirst_c2 n v1 μ = some r → Q ((0, none), r.2) → p_Ev X (d + 0) M_X13_asAtFirst 2 [.ref tM, .int v1] [] μ Q := by
  intro n
  induction n with
  | zero => intro v1 μ r hs h hQ; rw [F_X13_asAtFirst_c2] at h; cases h
  | succ n ih =>
    intro v1 μ r hs h hQ
    rw [F_X13_asAtFirst_c2] at h
    refine e_iload_n dX13_asAtFirst_2 rfl ?_
    refine e_iconst (v := (4 : Int32)) dX13_asAtFirst_3 rfl ?_
    refine e_ic_ge dX13_asAtFirst_4 33 (by decide) (fun hc => ?_) (fun hc => ?_)
    · rw [if_pos hc] at h
      refine e_aload_n dX13_asAtFirst_33 rfl ?_
      refine e_getR dX13_asAtFirst_34 rfl rfl hs.1 hs.2.1 (hs.2.2.2 40 (by decide) rfl).1 ?_
      refine e_bipush (v := (26 : Int32)) dX13_asAtFirst_37 rfl ?_
      refine e_iconst (v := (5 : Int32)) dX13_asAtFirst_39 rfl ?_
      obtain ⟨hc, h⟩ := p_ok_some h
      refine e_iast dX13_asAtFirst_40 (hs.2.2.2 40 (by decide) rfl).2.1 (hs.2.2.2 40 (by decide) rfl).2.2.1 (hs.2.2.2 40 (by decide) rfl).2.2.2 hc ?_
      refine e_aload_n dX13_asAtFirst_41 rfl ?_
      refine e_getR dX13_asAtFirst_42 rfl rfl hs.1 hs.2.1 (hs.2.2.2 40 (by decide) rfl).1 ?_
      refine e_bipush (v := (27 : Int32)) dX13_asAtFirst_45 rfl ?_
      refine e_iconst (v := (3 : Int32)) dX13_asAtFirst_47 rfl ?_
      obtain ⟨hc, h⟩ := p_ok_some h
      refine e_iast dX13_asAtFirst_48 (hs.2.2.2 40 (by decide) rfl).2.1 (hs.2.2.2 40 (by decide) rfl).2.2.1 (hs.2.2.2 40 (by decide) rfl).2.2.2 hc ?_
      refine e_aload_n dX13_asAtFirst_49 rfl ?_
      refine e_getR dX13_asAtFirst_50 rfl rfl hs.1 hs.2.1 (hs.2.2.2 40 (by decide) rfl).1 ?_
      refine e_bipush (v := (28 : Int32)) dX13_asAtFirst_53 rfl ?_
      refine e_iconst (v := (4 : Int32)) dX13_asAtFirst_55 rfl ?_
      obtain ⟨hc, h⟩ := p_ok_some h
      refine e_iast dX13_asAtFirst_56 (hs.2.2.2 40 (by decide) rfl).2.1 (hs.2.2.2 40 (by decide) rfl).2.2.1 (hs.2.2.2 40 (by decide) rfl).2.2.2 hc ?_
      refine e_aload_n dX13_asAtFirst_57 rfl ?_
      refine e_getR dX13_asAtFirst_58 rfl rfl hs.1 hs.2.1 (hs.2.2.2 40 (by decide) rfl).1 ?_
      refine e_bipush (v := (29 : Int32)) dX13_asAtFirst_61 rfl ?_
      refine e_iconst (v := (5 : Int32)) dX13_asAtFirst_63 rfl ?_
      obtain ⟨hc, h⟩ := p_ok_some h
      refine e_iast dX13_asAtFirst_64 (hs.2.2.2 40 (by decide) rfl).2.1 (hs.2.2.2 40 (by decide) rfl).2.2.1 (hs.2.2.2 40 (by decide) rfl).2.2.2 hc ?_
      refine e_aload_n dX13_asAtFirst_65 rfl ?_
      refine e_getR dX13_asAtFirst_66 rfl rfl hs.1 hs.2.1 (hs.2.2.2 40 (by decide) rfl).1 ?_
      refine e_bipush (v := (30 : Int32)) dX13_asAtFirst_69 rfl ?_
      refine e_iconst (v := (4 : Int32)) dX13_asAtFirst_71 rfl ?_
      obtain ⟨hc, h⟩ := p_ok_some h
      refine e_iast dX13_asAtFirst_72 (hs.2.2.2 40 (by decide) rfl).2.1 (hs.2.2.2 40 (by decide) rfl).2.2.1 (hs.2.2.2 40 (by decide) rfl).2.2.2 hc ?_
      refine e_aload_n dX13_asAtFirst_73 rfl ?_
      refine e_getR dX13_asAtFirst_74 rfl rfl hs.1 hs.2.1 (hs.2.2.2 40 (by decide) rfl).1 ?_
      refine e_bipush (v := (31 : Int32)) dX13_asAtFirst_77 rfl ?_
      refine e_iconst (v := (0 : Int32)) dX13_asAtFirst_79 rfl ?_
      obtain ⟨hc, h⟩ := p_ok_some h
      refine e_iast dX13_asAtFirst_80 (hs.2.2.2 40 (by decide) rfl).2.1 (hs.2.2.2 40 (by decide) rfl).2.2.1 (hs.2.2.2 40 (by decide) rfl).2.2.2 hc ?_
      refine e_aload_n dX13_asAtFirst_81 rfl ?_
      refine e_getR dX13_asAtFirst_82 rfl rfl hs.1 hs.2.1 (hs.2.2.2 40 (by decide) rfl).1 ?_
      refine e_bipush (v := (32 : Int32)) dX13_asAtFirst_85 rfl ?_
      refine e_iconst (v := (0 : Int32)) dX13_asAtFirst_87 rfl ?_
      obtain ⟨hc, h⟩ := p_ok_some h
      refine e_iast dX13_asAtFirst_88 (hs.2.2.2 40 (by decide) rfl).2.1 (hs.2.2.2 40 (by decide) rfl).2.2.1 (hs.2.2.2 40 (by decide) rfl).2.2.2 hc ?_
      refine e_aload_n dX13_asAtFirst_89 rfl ?_
      refine e_getR dX13_asAtFirst_90 rfl rfl hs.1 hs.2.1 (hs.2.2.2 40 (by decide) rfl).1 ?_
      refine e_bipush (v := (33 : Int32)) dX13_asAtFirst_93 rfl ?_
      refine e_iconst (v := (1 : Int32)) dX13_asAtFirst_95 rfl ?_
      obtain ⟨hc, h⟩ := p_ok_some h
      refine e_iast dX13_asAtFirst_96 (hs.2.2.2 40 (by decide) rfl).2.1 (hs.2.2.2 40 (by decide) rfl).2.2.1 (hs.2.2.2 40 (by decide) rfl).2.2.2 hc ?_
      refine e_aload_n dX13_asAtFirst_97 rfl ?_
      refine e_getR dX13_asAtFirst_98 rfl rfl hs.1 hs.2.1 (hs.2.2.2 40 (by decide) rfl).1 ?_
      refine e_bipush (v := (34 : Int32)) dX13_asAtFirst_101 rfl ?_
      refine e_iconst (v := (5 : Int32)) dX13_asAtFirst_103 rfl ?_
      obtain ⟨hc, h⟩ := p_ok_some h
      refine e_iast dX13_asAtFirst_104 (hs.2.2.2 40 (by decide) rfl).2.1 (hs.2.2.2 40 (by decide) rfl).2.2.1 (hs.2.2.2 40 (by decide) rfl).2.2.2 hc ?_
      refine e_aload_n dX13_asAtFirst_105 rfl ?_
      refine e_getR dX13_asAtFirst_106 rfl rfl hs.1 hs.2.1 (hs.2.2.2 40 (by decide) rfl).1 ?_
      refine e_bipush (v := (35 : Int32)) dX13_asAtFirst_109 rfl ?_
      refine e_iconst (v := (4 : Int32)) dX13_asAtFirst_111 rfl ?_
      obtain ⟨hc, h⟩ := p_ok_some h
      refine e_iast dX13_asAtFirst_112 (hs.2.2.2 40 (by decide) rfl).2.1 (hs.2.2.2 40 (by decide) rfl).2.2.1 (hs.2.2.2 40 (by decide) rfl).2.2.2 hc ?_
      cases h
      exact e_vret dX13_asAtFirst_113 rfl hQ
    · rw [if_neg hc] at h
      refine e_aload_n dX13_asAtFirst_7 rfl ?_
      refine e_getR dX13_asAtFirst_8 rfl rfl hs.1 hs.2.1 (hs.2.2.2 40 (by decide) rfl).1 ?_
      refine e_bipush (v := (18 : Int32)) dX13_asAtFirst_11 rfl ?_
      refine e_iload_n dX13_asAtFirst_13 rfl ?_
      refine e_iadd dX13_asAtFirst_14 ?_
      refine e_iconst (v := (0 : Int32)) dX13_asAtFirst_15 rfl ?_
      obtain ⟨hc, h⟩ := p_ok_some h
      refine e_iast dX13_asAtFirst_16 (hs.2.2.2 40 (by decide) rfl).2.1 (hs.2.2.2 40 (by decide) rfl).2.2.1 (hs.2.2.2 40 (by decide) rfl).2.2.2 hc ?_
      refine e_aload_n dX13_asAtFirst_17 rfl ?_
      refine e_getR dX13_asAtFirst_18 rfl rfl hs.1 hs.2.1 (hs.2.2.2 40 (by decide) rfl).1 ?_
      refine e_bipush (v := (22 : Int32)) dX13_asAtFirst_21 rfl ?_
      refine e_iload_n dX13_asAtFirst_23 rfl ?_
      refine e_iadd dX13_asAtFirst_24 ?_
      refine e_iconst (v := (-1)) dX13_asAtFirst_25 rfl ?_
      obtain ⟨hc, h⟩ := p_ok_some h
      refine e_iast dX13_asAtFirst_26 (hs.2.2.2 40 (by decide) rfl).2.1 (hs.2.2.2 40 (by decide) rfl).2.2.1 (hs.2.2.2 40 (by decide) rfl).2.2.2 hc ?_
      refine e_iinc (v := (1 : Int32)) dX13_asAtFirst_27 rfl rfl rfl ?_
      refine e_goto dX13_asAtFirst_30 2 (by decide) ?_
      exact ih _ _ _ hs h hQ
def F_X13_asAtFirst (μ : p_M) : Option (Int32 × p_M) :=
  F_X13_asAtFirst_c2 p_fu (0 : Int32) μ
theorem P_X13_asAtFirst {μ : p_M} {r : Int32 × p_M} (h : F_X13_asAtFirst μ = some r) : Sm μ r.2 := by
  unfold F_X13_asAtFirst at h
  exact Sm_trans (Sm_refl μ) (P_X13_asAtFirst_c2 p_fu _ _ _ h)
theorem E_X13_asAtFirst {X : p_X} {d : Nat} {Q : p_R → Prop} {μ : p_M} {r : Int32 × p_M} (hs : ShM μ) (h : F_X13_asAtFirst μ = some r) (hQ : Q ((0, none), r.2)) : p_Ev X (d + 0) M_X13_asAtFirst 0 [.ref tM, .double 0] [] μ Q := by
  unfold F_X13_asAtFirst at h
  refine e_iconst (v := (0 : Int32)) dX13_asAtFirst_0 rfl ?_
  refine e_istore_n dX13_asAtFirst_1 (Nat.le_of_ble_eq_true rfl) rfl ?_
  exact E_X13_asAtFirst_c2 p_fu _ _ _ hs h hQ
/-! X13_noKind -/
def F_X13_noKind_c14 (s0 : Int32) (μ : p_M) : Option (Int32 × p_M) :=
  p_ok (s0 = 0 ∨ s0 = 1) (some (s0, μ))
theorem P_X13_noKind_c14 {s0 : Int32} {μ : p_M} {r : Int32 × p_M} (h : F_X13_noKind_c14 s0 μ = some r) : Sm μ r.2 := by
  unfold F_X13_noKind_c14 at h
  obtain ⟨hc, h⟩ := p_ok_some h
  cases h
  exact (Sm_refl μ)
theorem E_X13_noKind_c14 {X : p_X} {d : Nat} {Q : p_R → Prop} {s0 : Int32} {w0 : Value} {μ : p_M} {r : Int32 × p_M} (hs : ShM μ) (h : F_X13_noKind_c14 s0 μ = some r) (hQ : Q ((0, some (.int r.1)), r.2)) : p_Ev X (d + 1) M_X13_noKind 14 [w0] [.int s0] μ Q := by
  unfold F_X13_noKind_c14 at h
  obtain ⟨hc, h⟩ := p_ok_some h
  cases h
  exact e_iretz dX13_noKind_14 rfl hc hQ
def F_X13_noKind (v0 : Int32) (μ : p_M) : Option (Int32 × p_M) :=
  (F_X13_in v0 (0 : Int32) (5 : Int32) μ).bind fun q1 =>
  if ¬ q1.1 = 0
  then (F_X13_noKind_c14 (0 : Int32) q1.2)
  else (F_X13_noKind_c14 (1 : Int32) q1.2)
theorem P_X13_noKind {v0 : Int32} {μ : p_M} {r : Int32 × p_M} (h : F_X13_noKind v0 μ = some r) : Sm μ r.2 := by
  unfold F_X13_noKind at h
  obtain ⟨q1, hq1, h⟩ := p_bd h
  by_cases hc : ¬ q1.1 = 0
  · rw [if_pos hc] at h
    exact Sm_trans (Sm_trans (Sm_refl μ) (P_X13_in (r := q1) hq1)) (P_X13_noKind_c14 h)
  · rw [if_neg hc] at h
    exact Sm_trans (Sm_trans (Sm_refl μ) (P_X13_in (r := q1) hq1)) (P_X13_noKind_c14 h)
theorem E_X13_noKind {X : p_X} {d : Nat} {Q : p_R → Prop} {v0 : Int32} {μ : p_M} {r : Int32 × p_M} (hs : ShM μ) (h : F_X13_noKind v0 μ = some r) (hQ : Q ((0, some (.int r.1)), r.2)) : p_Ev X (d + 1) M_X13_noKind 0 [.int v0] [] μ Q := by
  unfold F_X13_noKind at h
  refine e_iload_n dX13_noKind_0 rfl ?_
  refine e_iconst (v := (0 : Int32)) dX13_noKind_1 rfl ?_
  refine e_iconst (v := (5 : Int32)) dX13_noKind_2 rfl ?_
  obtain ⟨q1, hq1, h⟩ := p_bd h
  refine e_cS dX13_noKind_3 rfl rfl rfl rfl (E_X13_in hs hq1 ⟨rfl, ?_⟩)
  have hs := ShM_of (P_X13_in hq1) hs
  show p_Ev X (d + 1) M_X13_noKind 6 [.int v0] [.int q1.1] q1.2 Q
  refine e_if_ne dX13_noKind_6 13 (by decide) (fun hc => ?_) (fun hc => ?_)
  · rw [if_pos hc] at h
    refine e_iconst (v := (0 : Int32)) dX13_noKind_13 rfl ?_
    exact E_X13_noKind_c14 hs h hQ
  · rw [if_neg hc] at h
    refine e_iconst (v := (1 : Int32)) dX13_noKind_9 rfl ?_
    refine e_goto dX13_noKind_10 14 (by decide) ?_
    exact E_X13_noKind_c14 hs h hQ
/-! X13_batch -/
def F_X13_batch (v1 : Int32) (μ : p_M) : Option (Int32 × p_M) :=
  (F_X13_noKind v1 (sI μ tM 0 (0 : Int32))).bind fun q1 =>
  (F_X13_throwsIf q1.1 (1 : Int32) q1.2).bind fun q2 =>
  if q2.1 = 0
  then (if ¬ (mI q2.2 tM 25) = (9 : Int32)
    then (p_ok (¬ (mI q2.2 tM 25) < 0 ∧ (mI q2.2 tM 25).toNatClampNeg < 9)
      (some ((mI (sI (sI q2.2 (aM 24) (mI q2.2 tM 25).toNatClampNeg v1) tM 25 ((mI (sI q2.2 (aM 24) (mI q2.2 tM 25).toNatClampNeg v1) tM 25) + (1 : Int32))) tM 25), (sI (sI q2.2 (aM 24) (mI q2.2 tM 25).toNatClampNeg v1) tM 25 ((mI (sI q2.2 (aM 24) (mI q2.2 tM 25).toNatClampNeg v1) tM 25) + (1 : Int32))))))
    else (some ((-1), q2.2)))
  else (some ((0 : Int32), q2.2))
theorem P_X13_batch {v1 : Int32} {μ : p_M} {r : Int32 × p_M} (h : F_X13_batch v1 μ = some r) : Sm μ r.2 := by
  unfold F_X13_batch at h
  obtain ⟨q1, hq1, h⟩ := p_bd h
  obtain ⟨q2, hq2, h⟩ := p_bd h
  by_cases hc : q2.1 = 0
  · rw [if_pos hc] at h
    by_cases hc : ¬ (mI q2.2 tM 25) = (9 : Int32)
    · rw [if_pos hc] at h
      obtain ⟨hc, h⟩ := p_ok_some h
      cases h
      exact (Sm_set (Sm_set (Sm_trans (Sm_trans (Sm_set (Sm_refl μ) (by decide)) (P_X13_noKind (r := q1) hq1)) (P_X13_throwsIf (r := q2) hq2)) (by decide)) (by decide))
    · rw [if_neg hc] at h
      cases h
      exact (Sm_trans (Sm_trans (Sm_set (Sm_refl μ) (by decide)) (P_X13_noKind (r := q1) hq1)) (P_X13_throwsIf (r := q2) hq2))
  · rw [if_neg hc] at h
    cases h
    exact (Sm_trans (Sm_trans (Sm_set (Sm_refl μ) (by decide)) (P_X13_noKind (r := q1) hq1)) (P_X13_throwsIf (r := q2) hq2))
theorem E_X13_batch {X : p_X} {d : Nat} {Q : p_R → Prop} {v1 : Int32} {μ : p_M} {r : Int32 × p_M} (hs : ShM μ) (h : F_X13_batch v1 μ = some r) (hQ : Q ((0, some (.int r.1)), r.2)) : p_Ev X (d + 2) M_X13_batch 0 [.ref tM, .int v1] [] μ Q := by
  unfold F_X13_batch at h
  refine e_aload_n dX13_batch_0 rfl ?_
  refine e_iconst (v := (0 : Int32)) dX13_batch_1 rfl ?_
  refine e_putI dX13_batch_2 rfl ⟨rfl, rfl, fun h => by cases h⟩ (fun h => by cases h) hs.1 hs.2.1 ?_
  refine e_aload_n dX13_batch_5 rfl ?_
  refine e_iload_n dX13_batch_6 rfl ?_
  obtain ⟨q1, hq1, h⟩ := p_bd h
  refine e_cS dX13_batch_7 rfl rfl rfl rfl (E_X13_noKind hs hq1 ⟨rfl, ?_⟩)
  have hs := ShM_of (P_X13_noKind hq1) hs
  show p_Ev X (d + 2) M_X13_batch 10 [.ref tM, .int v1] [.int q1.1, .ref tM] q1.2 Q
  refine e_iconst (v := (1 : Int32)) dX13_batch_10 rfl ?_
  obtain ⟨q2, hq2, h⟩ := p_bd h
  refine e_cV dX13_batch_11 rfl rfl ⟨rfl, rfl, by decide⟩ rfl hs.1 hs.2.1 (E_X13_throwsIf hs hq2 ⟨rfl, ?_⟩)
  have hs := ShM_of (P_X13_throwsIf hq2) hs
  show p_Ev X (d + 2) M_X13_batch 14 [.ref tM, .int v1] [.int q2.1] q2.2 Q
  refine e_if_eq dX13_batch_14 19 (by decide) (fun hc => ?_) (fun hc => ?_)
  · rw [if_pos hc] at h
    refine e_aload_n dX13_batch_19 rfl ?_
    refine e_getI dX13_batch_20 rfl rfl hs.1 hs.2.1 ?_
    refine e_bipush (v := (9 : Int32)) dX13_batch_23 rfl ?_
    refine e_ic_ne dX13_batch_25 30 (by decide) (fun hc => ?_) (fun hc => ?_)
    · rw [if_pos hc] at h
      refine e_aload_n dX13_batch_30 rfl ?_
      refine e_getR dX13_batch_31 rfl rfl hs.1 hs.2.1 (hs.2.2.2 24 (by decide) rfl).1 ?_
      refine e_aload_n dX13_batch_34 rfl ?_
      refine e_getI dX13_batch_35 rfl rfl hs.1 hs.2.1 ?_
      refine e_iload_n dX13_batch_38 rfl ?_
      obtain ⟨hc, h⟩ := p_ok_some h
      refine e_iast dX13_batch_39 (hs.2.2.2 24 (by decide) rfl).2.1 (hs.2.2.2 24 (by decide) rfl).2.2.1 (hs.2.2.2 24 (by decide) rfl).2.2.2 hc ?_
      refine e_aload_n dX13_batch_40 rfl ?_
      refine e_dupR dX13_batch_41 ?_
      refine e_getI dX13_batch_42 rfl rfl hs.1 hs.2.1 ?_
      refine e_iconst (v := (1 : Int32)) dX13_batch_45 rfl ?_
      refine e_iadd dX13_batch_46 ?_
      refine e_putI dX13_batch_47 rfl ⟨rfl, rfl, fun h => by cases h⟩ (fun h => by cases h) hs.1 hs.2.1 ?_
      refine e_aload_n dX13_batch_50 rfl ?_
      refine e_getI dX13_batch_51 rfl rfl hs.1 hs.2.1 ?_
      cases h
      exact e_ireti dX13_batch_54 rfl hQ
    · rw [if_neg hc] at h
      refine e_iconst (v := (-1)) dX13_batch_28 rfl ?_
      cases h
      exact e_ireti dX13_batch_29 rfl hQ
  · rw [if_neg hc] at h
    refine e_iconst (v := (0 : Int32)) dX13_batch_17 rfl ?_
    cases h
    exact e_ireti dX13_batch_18 rfl hQ
/-! X13_isWord -/
def F_X13_isWord_c60 (K24 : Nat → Int32 → Int32 → p_M → Option (Int32 × p_M)) (v1 : Nat) (v3 : Int32) (s0 : Int32) (μ : p_M) : Option (Int32 × p_M) :=
  K24 v1 s0 (v3 + (1 : Int32)) μ
theorem P_X13_isWord_c60 {K24 : Nat → Int32 → Int32 → p_M → Option (Int32 × p_M)} (hP24 : ∀ (v1 : Nat) (v2 : Int32) (v3 : Int32) (μ : p_M) (r : Int32 × p_M), K24 v1 v2 v3 μ = some r → Sm μ r.2) {v1 : Nat} {v3 : Int32} {s0 : Int32} {μ : p_M} {r : Int32 × p_M} (h : F_X13_isWord_c60 K24 v1 v3 s0 μ = some r) : Sm μ r.2 := by
  unfold F_X13_isWord_c60 at h
  exact Sm_trans (Sm_refl μ) (hP24 _ _ _ _ _ h)
theorem E_X13_isWord_c60 {X : p_X} {d : Nat} {Q : p_R → Prop} {K24 : Nat → Int32 → Int32 → p_M → Option (Int32 × p_M)} (hK24 : ∀ (v1 : Nat) (v2 : Int32) (v3 : Int32) (μ : p_M) (r : Int32 × p_M), ShM μ → K24 v1 v2 v3 μ = some r → Q ((0, some (.int r.1)), r.2) → p_Ev X (d + 0) M_X13_isWord 24 [.ref tM, .ref v1, .int v2, .int v3] [] μ Q) {v1 : Nat} {v3 : Int32} {s0 : Int32} {w2 : Value} {μ : p_M} {r : Int32 × p_M} (hs : ShM μ) (h : F_X13_isWord_c60 K24 v1 v3 s0 μ = some r) (hQ : Q ((0, some (.int r.1)), r.2)) : p_Ev X (d + 0) M_X13_isWord 60 [.ref tM, .ref v1, w2, .int v3] [.int s0] μ Q := by
  unfold F_X13_isWord_c60 at h
  refine e_istore_n dX13_isWord_60 (Nat.le_of_ble_eq_true rfl) rfl ?_
  refine e_iinc (v := (1 : Int32)) dX13_isWord_61 rfl rfl rfl ?_
  refine e_goto dX13_isWord_64 24 (by decide) ?_
  exact hK24 _ _ _ _ _ hs h hQ
def F_X13_isWord_c67 (v2 : Int32) (μ : p_M) : Option (Int32 × p_M) :=
  p_ok (v2 = 0 ∨ v2 = 1) (some (v2, μ))
theorem P_X13_isWord_c67 {v2 : Int32} {μ : p_M} {r : Int32 × p_M} (h : F_X13_isWord_c67 v2 μ = some r) : Sm μ r.2 := by
  unfold F_X13_isWord_c67 at h
  obtain ⟨hc, h⟩ := p_ok_some h
  cases h
  exact (Sm_refl μ)
theorem E_X13_isWord_c67 {X : p_X} {d : Nat} {Q : p_R → Prop} {v2 : Int32} {w0 : Value} {w1 : Value} {w3 : Value} {μ : p_M} {r : Int32 × p_M} (hs : ShM μ) (h : F_X13_isWord_c67 v2 μ = some r) (hQ : Q ((0, some (.int r.1)), r.2)) : p_Ev X (d + 0) M_X13_isWord 67 [w0, w1, .int v2, w3] [] μ Q := by
  unfold F_X13_isWord_c67 at h
  refine e_iload_n dX13_isWord_67 rfl ?_
  obtain ⟨hc, h⟩ := p_ok_some h
  cases h
  exact e_iretz dX13_isWord_68 rfl hc hQ
def F_X13_isWord_c24 : Nat → Nat → Int32 → Int32 → p_M → Option (Int32 × p_M)
  | 0, _, _, _, _ => none
  | n + 1, v1, v2, v3, μ =>
    if v2 = 0
    then (F_X13_isWord_c67 v2 μ)
    else ((tx_len v1).bind fun q2 =>
      if q2 ≤ v3
      then (F_X13_isWord_c67 v2 μ)
      else (p_ok (¬ ((mI μ tM 5) + v3) < 0 ∧ ((mI μ tM 5) + v3).toNatClampNeg < 400)
        ((tx_at v1 v3).bind fun q3 =>
        if ¬ (mI μ (aM 1) ((mI μ tM 5) + v3).toNatClampNeg) = q3
        then (F_X13_isWord_c60 (F_X13_isWord_c24 n) v1 v3 (0 : Int32) μ)
        else (F_X13_isWord_c60 (F_X13_isWord_c24 n) v1 v3 (1 : Int32) μ))))
theorem P_X13_isWord_c24 : ∀ (n : Nat) (v1 : Nat) (v2 : Int32) (v3 : Int32) (μ : p_M) (r : Int32 × p_M), F_X13_isWord_c24 n v1 v2 v3 μ = some r → Sm μ r.2 := by
  intro n
  induction n with
  | zero => intro v1 v2 v3 μ r h; rw [F_X13_isWord_c24] at h; cases h
  | succ n ih =>
    intro v1 v2 v3 μ r h
    rw [F_X13_isWord_c24] at h
    by_cases hc : v2 = 0
    · rw [if_pos hc] at h
      exact Sm_trans (Sm_refl μ) (P_X13_isWord_c67 h)
    · rw [if_neg hc] at h
      obtain ⟨q2, hq, h⟩ := p_bd h
      by_cases hc : q2 ≤ v3
      · rw [if_pos hc] at h
        exact Sm_trans (Sm_refl μ) (P_X13_isWord_c67 h)
      · rw [if_neg hc] at h
        obtain ⟨hc, h⟩ := p_ok_some h
        obtain ⟨q3, hq, h⟩ := p_bd h
        by_cases hc : ¬ (mI μ (aM 1) ((mI μ tM 5) + v3).toNatClampNeg) = q3
        · rw [if_pos hc] at h
          exact Sm_trans (Sm_refl μ) (P_X13_isWord_c60 ih h)
        · rw [if_neg hc] at h
          exact Sm_trans (Sm_refl μ) (P_X13_isWord_c60 ih h)
theorem E_X13_isWord_c24 {X : p_X} {d : Nat} {Q : p_R → Prop} : ∀ (n : Nat) (v1 : Nat) (v2 : Int32) (v3 : Int32) (μ : p_M) (r : Int32 × p_M), ShM μ → F_X13_isWord_c24 n v1 v2 v3 μ = some r → Q ((0, some (.int r.1)), r.2) → p_Ev X (d + 0) M_X13_isWord 24 [.ref tM, .ref v1, .int v2, .int v3] [] μ Q := by
  intro n
  induction n with
  | zero => intro v1 v2 v3 μ r hs h hQ; rw [F_X13_isWord_c24] at h; cases h
  | succ n ih =>
    intro v1 v2 v3 μ r hs h hQ
    rw [F_X13_isWord_c24] at h
    refine e_iload_n dX13_isWord_24 rfl ?_
    refine e_if_eq dX13_isWord_25 67 (by decide) (fun hc => ?_) (fun hc => ?_)
    · rw [if_pos hc] at h
      exact E_X13_isWord_c67 hs h hQ
    · rw [if_neg hc] at h
      refine e_iload_n dX13_isWord_28 rfl ?_
      refine e_aload_n dX13_isWord_29 rfl ?_
      obtain ⟨q2, hq, h⟩ := p_bd h
      refine e_txl dX13_isWord_30 rfl (Nat.le_of_ble_eq_true rfl) hq ?_
      refine e_ic_ge dX13_isWord_33 67 (by decide) (fun hc => ?_) (fun hc => ?_)
      · rw [if_pos hc] at h
        exact E_X13_isWord_c67 hs h hQ
      · rw [if_neg hc] at h
        refine e_aload_n dX13_isWord_36 rfl ?_
        refine e_getR dX13_isWord_37 rfl rfl hs.1 hs.2.1 (hs.2.2.2 1 (by decide) rfl).1 ?_
        refine e_aload_n dX13_isWord_40 rfl ?_
        refine e_getI dX13_isWord_41 rfl rfl hs.1 hs.2.1 ?_
        refine e_iload_n dX13_isWord_44 rfl ?_
        refine e_iadd dX13_isWord_45 ?_
        obtain ⟨hc, h⟩ := p_ok_some h
        refine e_bald dX13_isWord_46 (Nat.lt_trans (hs.2.2.2 1 (by decide) rfl).2.2.2 hs.2.2.1) (hs.2.2.2 1 (by decide) rfl).2.1 (hs.2.2.2 1 (by decide) rfl).2.2.1 (hs.2.2.2 1 (by decide) rfl).2.2.2 hc ?_
        refine e_aload_n dX13_isWord_47 rfl ?_
        refine e_iload_n dX13_isWord_48 rfl ?_
        obtain ⟨q3, hq, h⟩ := p_bd h
        refine e_txc dX13_isWord_49 rfl (Nat.le_of_ble_eq_true rfl) hq ?_
        refine e_ic_ne dX13_isWord_52 59 (by decide) (fun hc => ?_) (fun hc => ?_)
        · rw [if_pos hc] at h
          refine e_iconst (v := (0 : Int32)) dX13_isWord_59 rfl ?_
          exact E_X13_isWord_c60 ih hs h hQ
        · rw [if_neg hc] at h
          refine e_iconst (v := (1 : Int32)) dX13_isWord_55 rfl ?_
          refine e_goto dX13_isWord_56 60 (by decide) ?_
          exact E_X13_isWord_c60 ih hs h hQ
def F_X13_isWord_c21 (v1 : Nat) (s0 : Int32) (μ : p_M) : Option (Int32 × p_M) :=
  F_X13_isWord_c24 p_fu v1 s0 (0 : Int32) μ
theorem P_X13_isWord_c21 {v1 : Nat} {s0 : Int32} {μ : p_M} {r : Int32 × p_M} (h : F_X13_isWord_c21 v1 s0 μ = some r) : Sm μ r.2 := by
  unfold F_X13_isWord_c21 at h
  exact Sm_trans (Sm_refl μ) (P_X13_isWord_c24 p_fu _ _ _ _ _ h)
theorem E_X13_isWord_c21 {X : p_X} {d : Nat} {Q : p_R → Prop} {v1 : Nat} {s0 : Int32} {w2 : Value} {w3 : Value} {μ : p_M} {r : Int32 × p_M} (hs : ShM μ) (h : F_X13_isWord_c21 v1 s0 μ = some r) (hQ : Q ((0, some (.int r.1)), r.2)) : p_Ev X (d + 0) M_X13_isWord 21 [.ref tM, .ref v1, w2, w3] [.int s0] μ Q := by
  unfold F_X13_isWord_c21 at h
  refine e_istore_n dX13_isWord_21 (Nat.le_of_ble_eq_true rfl) rfl ?_
  refine e_iconst (v := (0 : Int32)) dX13_isWord_22 rfl ?_
  refine e_istore_n dX13_isWord_23 (Nat.le_of_ble_eq_true rfl) rfl ?_
  exact E_X13_isWord_c24 p_fu _ _ _ _ _ hs h hQ
def F_X13_isWord (v1 : Nat) (μ : p_M) : Option (Int32 × p_M) :=
  (tx_len v1).bind fun q1 =>
  if ¬ ((mI μ tM 3) - (mI μ tM 5)) = q1
  then (F_X13_isWord_c21 v1 (0 : Int32) μ)
  else (F_X13_isWord_c21 v1 (1 : Int32) μ)
theorem P_X13_isWord {v1 : Nat} {μ : p_M} {r : Int32 × p_M} (h : F_X13_isWord v1 μ = some r) : Sm μ r.2 := by
  unfold F_X13_isWord at h
  obtain ⟨q1, hq, h⟩ := p_bd h
  by_cases hc : ¬ ((mI μ tM 3) - (mI μ tM 5)) = q1
  · rw [if_pos hc] at h
    exact Sm_trans (Sm_refl μ) (P_X13_isWord_c21 h)
  · rw [if_neg hc] at h
    exact Sm_trans (Sm_refl μ) (P_X13_isWord_c21 h)
theorem E_X13_isWord {X : p_X} {d : Nat} {Q : p_R → Prop} {v1 : Nat} {μ : p_M} {r : Int32 × p_M} (hs : ShM μ) (h : F_X13_isWord v1 μ = some r) (hQ : Q ((0, some (.int r.1)), r.2)) : p_Ev X (d + 0) M_X13_isWord 0 [.ref tM, .ref v1, .double 0, .double 0] [] μ Q := by
  unfold F_X13_isWord at h
  refine e_aload_n dX13_isWord_0 rfl ?_
  refine e_getI dX13_isWord_1 rfl rfl hs.1 hs.2.1 ?_
  refine e_aload_n dX13_isWord_4 rfl ?_
  refine e_getI dX13_isWord_5 rfl rfl hs.1 hs.2.1 ?_
  refine e_isub dX13_isWord_8 ?_
  refine e_aload_n dX13_isWord_9 rfl ?_
  obtain ⟨q1, hq, h⟩ := p_bd h
  refine e_txl dX13_isWord_10 rfl (Nat.le_of_ble_eq_true rfl) hq ?_
  refine e_ic_ne dX13_isWord_13 20 (by decide) (fun hc => ?_) (fun hc => ?_)
  · rw [if_pos hc] at h
    refine e_iconst (v := (0 : Int32)) dX13_isWord_20 rfl ?_
    exact E_X13_isWord_c21 hs h hQ
  · rw [if_neg hc] at h
    refine e_iconst (v := (1 : Int32)) dX13_isWord_16 rfl ?_
    refine e_goto dX13_isWord_17 21 (by decide) ?_
    exact E_X13_isWord_c21 hs h hQ
/-! X13_bathOf -/
def F_X13_bathOf_c53 (s0 : Int32) (μ : p_M) : Option (Int32 × p_M) :=
  some (s0, μ)
theorem P_X13_bathOf_c53 {s0 : Int32} {μ : p_M} {r : Int32 × p_M} (h : F_X13_bathOf_c53 s0 μ = some r) : Sm μ r.2 := by
  unfold F_X13_bathOf_c53 at h
  cases h
  exact (Sm_refl μ)
theorem E_X13_bathOf_c53 {X : p_X} {d : Nat} {Q : p_R → Prop} {s0 : Int32} {w0 : Value} {μ : p_M} {r : Int32 × p_M} (hs : ShM μ) (h : F_X13_bathOf_c53 s0 μ = some r) (hQ : Q ((0, some (.int r.1)), r.2)) : p_Ev X (d + 1) M_X13_bathOf 53 [w0] [.int s0] μ Q := by
  unfold F_X13_bathOf_c53 at h
  cases h
  exact e_ireti dX13_bathOf_53 rfl hQ
def F_X13_bathOf (μ : p_M) : Option (Int32 × p_M) :=
  (F_X13_isWord (p_E + 10 + 20) μ).bind fun q1 =>
  if q1.1 = 0
  then ((F_X13_isWord (p_E + 10 + 12) q1.2).bind fun q2 =>
    if q2.1 = 0
    then ((F_X13_isWord (p_E + 10 + 6) q2.2).bind fun q3 =>
      if q3.1 = 0
      then ((F_X13_isWord (p_E + 10 + 11) q3.2).bind fun q4 =>
        if q4.1 = 0
        then (F_X13_bathOf_c53 (-1) q4.2)
        else (F_X13_bathOf_c53 (3 : Int32) q4.2))
      else (F_X13_bathOf_c53 (2 : Int32) q3.2))
    else (F_X13_bathOf_c53 (1 : Int32) q2.2))
  else (F_X13_bathOf_c53 (0 : Int32) q1.2)
theorem P_X13_bathOf {μ : p_M} {r : Int32 × p_M} (h : F_X13_bathOf μ = some r) : Sm μ r.2 := by
  unfold F_X13_bathOf at h
  obtain ⟨q1, hq1, h⟩ := p_bd h
  by_cases hc : q1.1 = 0
  · rw [if_pos hc] at h
    obtain ⟨q2, hq2, h⟩ := p_bd h
    by_cases hc : q2.1 = 0
    · rw [if_pos hc] at h
      obtain ⟨q3, hq3, h⟩ := p_bd h
      by_cases hc : q3.1 = 0
      · rw [if_pos hc] at h
        obtain ⟨q4, hq4, h⟩ := p_bd h
        by_cases hc : q4.1 = 0
        · rw [if_pos hc] at h
          exact Sm_trans (Sm_trans (Sm_trans (Sm_trans (Sm_trans (Sm_refl μ) (P_X13_isWord (r := q1) hq1)) (P_X13_isWord (r := q2) hq2)) (P_X13_isWord (r := q3) hq3)) (P_X13_isWord (r := q4) hq4)) (P_X13_bathOf_c53 h)
        · rw [if_neg hc] at h
          exact Sm_trans (Sm_trans (Sm_trans (Sm_trans (Sm_trans (Sm_refl μ) (P_X13_isWord (r := q1) hq1)) (P_X13_isWord (r := q2) hq2)) (P_X13_isWord (r := q3) hq3)) (P_X13_isWord (r := q4) hq4)) (P_X13_bathOf_c53 h)
      · rw [if_neg hc] at h
        exact Sm_trans (Sm_trans (Sm_trans (Sm_trans (Sm_refl μ) (P_X13_isWord (r := q1) hq1)) (P_X13_isWord (r := q2) hq2)) (P_X13_isWord (r := q3) hq3)) (P_X13_bathOf_c53 h)
    · rw [if_neg hc] at h
      exact Sm_trans (Sm_trans (Sm_trans (Sm_refl μ) (P_X13_isWord (r := q1) hq1)) (P_X13_isWord (r := q2) hq2)) (P_X13_bathOf_c53 h)
  · rw [if_neg hc] at h
    exact Sm_trans (Sm_trans (Sm_refl μ) (P_X13_isWord (r := q1) hq1)) (P_X13_bathOf_c53 h)
theorem E_X13_bathOf {X : p_X} {d : Nat} {Q : p_R → Prop} {μ : p_M} {r : Int32 × p_M} (hs : ShM μ) (h : F_X13_bathOf μ = some r) (hQ : Q ((0, some (.int r.1)), r.2)) : p_Ev X (d + 1) M_X13_bathOf 0 [.ref tM] [] μ Q := by
  unfold F_X13_bathOf at h
  refine e_aload_n dX13_bathOf_0 rfl ?_
  refine e_ldcS dX13_bathOf_1 rfl rfl ?_
  obtain ⟨q1, hq1, h⟩ := p_bd h
  refine e_cV dX13_bathOf_3 rfl rfl ⟨rfl, rfl, by decide⟩ rfl hs.1 hs.2.1 (E_X13_isWord hs hq1 ⟨rfl, ?_⟩)
  have hs := ShM_of (P_X13_isWord hq1) hs
  show p_Ev X (d + 1) M_X13_bathOf 6 [.ref tM] [.int q1.1] q1.2 Q
  refine e_if_eq dX13_bathOf_6 13 (by decide) (fun hc => ?_) (fun hc => ?_)
  · rw [if_pos hc] at h
    refine e_aload_n dX13_bathOf_13 rfl ?_
    refine e_ldcS dX13_bathOf_14 rfl rfl ?_
    obtain ⟨q2, hq2, h⟩ := p_bd h
    refine e_cV dX13_bathOf_16 rfl rfl ⟨rfl, rfl, by decide⟩ rfl hs.1 hs.2.1 (E_X13_isWord hs hq2 ⟨rfl, ?_⟩)
    have hs := ShM_of (P_X13_isWord hq2) hs
    show p_Ev X (d + 1) M_X13_bathOf 19 [.ref tM] [.int q2.1] q2.2 Q
    refine e_if_eq dX13_bathOf_19 26 (by decide) (fun hc => ?_) (fun hc => ?_)
    · rw [if_pos hc] at h
      refine e_aload_n dX13_bathOf_26 rfl ?_
      refine e_ldcS dX13_bathOf_27 rfl rfl ?_
      obtain ⟨q3, hq3, h⟩ := p_bd h
      refine e_cV dX13_bathOf_29 rfl rfl ⟨rfl, rfl, by decide⟩ rfl hs.1 hs.2.1 (E_X13_isWord hs hq3 ⟨rfl, ?_⟩)
      have hs := ShM_of (P_X13_isWord hq3) hs
      show p_Ev X (d + 1) M_X13_bathOf 32 [.ref tM] [.int q3.1] q3.2 Q
      refine e_if_eq dX13_bathOf_32 39 (by decide) (fun hc => ?_) (fun hc => ?_)
      · rw [if_pos hc] at h
        refine e_aload_n dX13_bathOf_39 rfl ?_
        refine e_ldcS dX13_bathOf_40 rfl rfl ?_
        obtain ⟨q4, hq4, h⟩ := p_bd h
        refine e_cV dX13_bathOf_42 rfl rfl ⟨rfl, rfl, by decide⟩ rfl hs.1 hs.2.1 (E_X13_isWord hs hq4 ⟨rfl, ?_⟩)
        have hs := ShM_of (P_X13_isWord hq4) hs
        show p_Ev X (d + 1) M_X13_bathOf 45 [.ref tM] [.int q4.1] q4.2 Q
        refine e_if_eq dX13_bathOf_45 52 (by decide) (fun hc => ?_) (fun hc => ?_)
        · rw [if_pos hc] at h
          refine e_iconst (v := (-1)) dX13_bathOf_52 rfl ?_
          exact E_X13_bathOf_c53 hs h hQ
        · rw [if_neg hc] at h
          refine e_iconst (v := (3 : Int32)) dX13_bathOf_48 rfl ?_
          refine e_goto dX13_bathOf_49 53 (by decide) ?_
          exact E_X13_bathOf_c53 hs h hQ
      · rw [if_neg hc] at h
        refine e_iconst (v := (2 : Int32)) dX13_bathOf_35 rfl ?_
        refine e_goto dX13_bathOf_36 53 (by decide) ?_
        exact E_X13_bathOf_c53 hs h hQ
    · rw [if_neg hc] at h
      refine e_iconst (v := (1 : Int32)) dX13_bathOf_22 rfl ?_
      refine e_goto dX13_bathOf_23 53 (by decide) ?_
      exact E_X13_bathOf_c53 hs h hQ
  · rw [if_neg hc] at h
    refine e_iconst (v := (0 : Int32)) dX13_bathOf_9 rfl ?_
    refine e_goto dX13_bathOf_10 53 (by decide) ?_
    exact E_X13_bathOf_c53 hs h hQ
/-! X13_less -/
def F_X13_less (v1 : Int32) (v2 : Int32) (v3 : Int32) (μ : p_M) : Option (Int32 × p_M) :=
  p_ok (¬ v1 < 0 ∧ v1.toNatClampNeg < 240)
  (p_ok (¬ v1 < 0 ∧ v1.toNatClampNeg < 240)
  (p_ok (¬ (v1 + (1 : Int32)) < 0 ∧ (v1 + (1 : Int32)).toNatClampNeg < 240)
  (p_ok (¬ (v1 + (1 : Int32)) < 0 ∧ (v1 + (1 : Int32)).toNatClampNeg < 240)
  (some (0, (sI (sI μ (aM 15) v1.toNatClampNeg (if (0 : Int32) < ((mI μ (aM 15) v1.toNatClampNeg) - v3) then ((mI μ (aM 15) v1.toNatClampNeg) - v3) else (0 : Int32))) (aM 15) (v1 + (1 : Int32)).toNatClampNeg (if (0 : Int32) < ((mI (sI μ (aM 15) v1.toNatClampNeg (if (0 : Int32) < ((mI μ (aM 15) v1.toNatClampNeg) - v3) then ((mI μ (aM 15) v1.toNatClampNeg) - v3) else (0 : Int32))) (aM 15) (v1 + (1 : Int32)).toNatClampNeg) - v2) then ((mI (sI μ (aM 15) v1.toNatClampNeg (if (0 : Int32) < ((mI μ (aM 15) v1.toNatClampNeg) - v3) then ((mI μ (aM 15) v1.toNatClampNeg) - v3) else (0 : Int32))) (aM 15) (v1 + (1 : Int32)).toNatClampNeg) - v2) else (0 : Int32))))))))
theorem P_X13_less {v1 : Int32} {v2 : Int32} {v3 : Int32} {μ : p_M} {r : Int32 × p_M} (h : F_X13_less v1 v2 v3 μ = some r) : Sm μ r.2 := by
  unfold F_X13_less at h
  obtain ⟨hc, h⟩ := p_ok_some h
  obtain ⟨hc, h⟩ := p_ok_some h
  obtain ⟨hc, h⟩ := p_ok_some h
  obtain ⟨hc, h⟩ := p_ok_some h
  cases h
  exact (Sm_set (Sm_set (Sm_refl μ) (by decide)) (by decide))
theorem E_X13_less {X : p_X} {d : Nat} {Q : p_R → Prop} {v1 : Int32} {v2 : Int32} {v3 : Int32} {μ : p_M} {r : Int32 × p_M} (hs : ShM μ) (h : F_X13_less v1 v2 v3 μ = some r) (hQ : Q ((0, none), r.2)) : p_Ev X (d + 0) M_X13_less 0 [.ref tM, .int v1, .int v2, .int v3] [] μ Q := by
  unfold F_X13_less at h
  refine e_aload_n dX13_less_0 rfl ?_
  refine e_getR dX13_less_1 rfl rfl hs.1 hs.2.1 (hs.2.2.2 15 (by decide) rfl).1 ?_
  refine e_iload_n dX13_less_4 rfl ?_
  refine e_iconst (v := (0 : Int32)) dX13_less_5 rfl ?_
  refine e_aload_n dX13_less_6 rfl ?_
  refine e_getR dX13_less_7 rfl rfl hs.1 hs.2.1 (hs.2.2.2 15 (by decide) rfl).1 ?_
  refine e_iload_n dX13_less_10 rfl ?_
  obtain ⟨hc, h⟩ := p_ok_some h
  refine e_iald dX13_less_11 (Nat.lt_trans (hs.2.2.2 15 (by decide) rfl).2.2.2 hs.2.2.1) (hs.2.2.2 15 (by decide) rfl).2.1 (hs.2.2.2 15 (by decide) rfl).2.2.1 (hs.2.2.2 15 (by decide) rfl).2.2.2 hc ?_
  refine e_iload_n dX13_less_12 rfl ?_
  refine e_isub dX13_less_13 ?_
  refine e_max dX13_less_14 rfl (Nat.le_of_ble_eq_true rfl) ?_
  obtain ⟨hc, h⟩ := p_ok_some h
  refine e_iast dX13_less_17 (hs.2.2.2 15 (by decide) rfl).2.1 (hs.2.2.2 15 (by decide) rfl).2.2.1 (hs.2.2.2 15 (by decide) rfl).2.2.2 hc ?_
  refine e_aload_n dX13_less_18 rfl ?_
  refine e_getR dX13_less_19 rfl rfl hs.1 hs.2.1 (hs.2.2.2 15 (by decide) rfl).1 ?_
  refine e_iload_n dX13_less_22 rfl ?_
  refine e_iconst (v := (1 : Int32)) dX13_less_23 rfl ?_
  refine e_iadd dX13_less_24 ?_
  refine e_iconst (v := (0 : Int32)) dX13_less_25 rfl ?_
  refine e_aload_n dX13_less_26 rfl ?_
  refine e_getR dX13_less_27 rfl rfl hs.1 hs.2.1 (hs.2.2.2 15 (by decide) rfl).1 ?_
  refine e_iload_n dX13_less_30 rfl ?_
  refine e_iconst (v := (1 : Int32)) dX13_less_31 rfl ?_
  refine e_iadd dX13_less_32 ?_
  obtain ⟨hc, h⟩ := p_ok_some h
  refine e_iald dX13_less_33 (Nat.lt_trans (hs.2.2.2 15 (by decide) rfl).2.2.2 hs.2.2.1) (hs.2.2.2 15 (by decide) rfl).2.1 (hs.2.2.2 15 (by decide) rfl).2.2.1 (hs.2.2.2 15 (by decide) rfl).2.2.2 hc ?_
  refine e_iload_n dX13_less_34 rfl ?_
  refine e_isub dX13_less_35 ?_
  refine e_max dX13_less_36 rfl (Nat.le_of_ble_eq_true rfl) ?_
  obtain ⟨hc, h⟩ := p_ok_some h
  refine e_iast dX13_less_39 (hs.2.2.2 15 (by decide) rfl).2.1 (hs.2.2.2 15 (by decide) rfl).2.2.1 (hs.2.2.2 15 (by decide) rfl).2.2.2 hc ?_
  cases h
  exact e_vret dX13_less_40 rfl hQ
/-! X13_does -/
def F_X13_does_c164 (μ : p_M) : Option (Int32 × p_M) :=
  some (0, μ)
theorem P_X13_does_c164 {μ : p_M} {r : Int32 × p_M} (h : F_X13_does_c164 μ = some r) : Sm μ r.2 := by
  unfold F_X13_does_c164 at h
  cases h
  exact (Sm_refl μ)
theorem E_X13_does_c164 {X : p_X} {d : Nat} {Q : p_R → Prop} {w0 : Value} {w1 : Value} {w2 : Value} {w3 : Value} {w4 : Value} {w5 : Value} {w6 : Value} {μ : p_M} {r : Int32 × p_M} (hs : ShM μ) (h : F_X13_does_c164 μ = some r) (hQ : Q ((0, none), r.2)) : p_Ev X (d + 1) M_X13_does 164 [w0, w1, w2, w3, w4, w5, w6] [] μ Q := by
  unfold F_X13_does_c164 at h
  cases h
  exact e_vret dX13_does_164 rfl hQ
def F_X13_does (v1 : Int32) (v2 : Int32) (v3 : Int32) (v4 : Int32) (μ : p_M) : Option (Int32 × p_M) :=
  p_ok (¬ (((5 : Int32) * v1) + (4 : Int32)) < 0 ∧ (((5 : Int32) * v1) + (4 : Int32)).toNatClampNeg < 240)
  (if v3.toInt < 0 ∨ 2 < v3.toInt then (p_ok (¬ (((5 : Int32) * v1) + (4 : Int32)) < 0 ∧ (((5 : Int32) * v1) + (4 : Int32)).toNatClampNeg < 240)
    (F_X13_does_c164 (sI μ (aM 15) (((5 : Int32) * v1) + (4 : Int32)).toNatClampNeg (0 : Int32))))
  else if v3 = 0 then (p_ok (¬ (2 : Int32) = 0)
    ((F_X13_less ((5 : Int32) * v1) (v4 / (2 : Int32)) v4 μ).bind fun q1 =>
    F_X13_does_c164 q1.2))
  else if v3 = 1 then ((F_X13_less ((5 : Int32) * v1) v4 (v4 + (3 : Int32)) μ).bind fun q2 =>
    (F_X13_less (((5 : Int32) * v1) + (2 : Int32)) (v4 + ((mI μ (aM 15) (((5 : Int32) * v1) + (4 : Int32)).toNatClampNeg) * (5 : Int32))) ((v4 + (2 : Int32)) + ((mI μ (aM 15) (((5 : Int32) * v1) + (4 : Int32)).toNatClampNeg) * (5 : Int32))) q2.2).bind fun q3 =>
    F_X13_does_c164 q3.2)
  else if v3 = 2 then (p_ok (¬ v2 < 0 ∧ v2.toNatClampNeg < 6)
    (p_ok (¬ v2 < 0 ∧ v2.toNatClampNeg < 6)
    ((F_X13_less ((5 : Int32) * v1) (if (0 : Int32) < (((2 : Int32) * v4) - (mI μ (aM 13) v2.toNatClampNeg)) then (((2 : Int32) * v4) - (mI μ (aM 13) v2.toNatClampNeg)) else (0 : Int32)) (if (0 : Int32) < (((3 : Int32) * v4) - (mI μ (aM 13) v2.toNatClampNeg)) then (((3 : Int32) * v4) - (mI μ (aM 13) v2.toNatClampNeg)) else (0 : Int32)) μ).bind fun q4 =>
    (F_X13_less (((5 : Int32) * v1) + (2 : Int32)) (0 : Int32) v4 q4.2).bind fun q5 =>
    p_ok (¬ (((5 : Int32) * v1) + (4 : Int32)) < 0 ∧ (((5 : Int32) * v1) + (4 : Int32)).toNatClampNeg < 240)
    (F_X13_does_c164 (sI q5.2 (aM 15) (((5 : Int32) * v1) + (4 : Int32)).toNatClampNeg (1 : Int32))))))
  else none)
theorem P_X13_does {v1 : Int32} {v2 : Int32} {v3 : Int32} {v4 : Int32} {μ : p_M} {r : Int32 × p_M} (h : F_X13_does v1 v2 v3 v4 μ = some r) : Sm μ r.2 := by
  unfold F_X13_does at h
  obtain ⟨hc, h⟩ := p_ok_some h
  by_cases hc : v3.toInt < 0 ∨ 2 < v3.toInt
  · rw [if_pos hc] at h
    obtain ⟨hc, h⟩ := p_ok_some h
    exact Sm_trans (Sm_set (Sm_refl μ) (by decide)) (P_X13_does_c164 h)
  rw [if_neg hc] at h
  by_cases hc : v3 = 0
  · rw [if_pos hc] at h
    obtain ⟨hc, h⟩ := p_ok_some h
    obtain ⟨q1, hq1, h⟩ := p_bd h
    exact Sm_trans (Sm_trans (Sm_refl μ) (P_X13_less (r := q1) hq1)) (P_X13_does_c164 h)
  rw [if_neg hc] at h
  by_cases hc : v3 = 1
  · rw [if_pos hc] at h
    obtain ⟨q2, hq2, h⟩ := p_bd h
    obtain ⟨q3, hq3, h⟩ := p_bd h
    exact Sm_trans (Sm_trans (Sm_trans (Sm_refl μ) (P_X13_less (r := q2) hq2)) (P_X13_less (r := q3) hq3)) (P_X13_does_c164 h)
  rw [if_neg hc] at h
  by_cases hc : v3 = 2
  · rw [if_pos hc] at h
    obtain ⟨hc, h⟩ := p_ok_some h
    obtain ⟨hc, h⟩ := p_ok_some h
    obtain ⟨q4, hq4, h⟩ := p_bd h
    obtain ⟨q5, hq5, h⟩ := p_bd h
    obtain ⟨hc, h⟩ := p_ok_some h
    exact Sm_trans (Sm_set (Sm_trans (Sm_trans (Sm_refl μ) (P_X13_less (r := q4) hq4)) (P_X13_less (r := q5) hq5)) (by decide)) (P_X13_does_c164 h)
  rw [if_neg hc] at h
  cases h
theorem E_X13_does {X : p_X} {d : Nat} {Q : p_R → Prop} {v1 : Int32} {v2 : Int32} {v3 : Int32} {v4 : Int32} {μ : p_M} {r : Int32 × p_M} (hs : ShM μ) (h : F_X13_does v1 v2 v3 v4 μ = some r) (hQ : Q ((0, none), r.2)) : p_Ev X (d + 1) M_X13_does 0 [.ref tM, .int v1, .int v2, .int v3, .int v4, .double 0, .double 0] [] μ Q := by
  unfold F_X13_does at h
  refine e_iconst (v := (5 : Int32)) dX13_does_0 rfl ?_
  refine e_iload_n dX13_does_1 rfl ?_
  refine e_imul dX13_does_2 ?_
  refine e_istore dX13_does_3 (Nat.le_of_ble_eq_true rfl) rfl ?_
  refine e_aload_n dX13_does_5 rfl ?_
  refine e_getR dX13_does_6 rfl rfl hs.1 hs.2.1 (hs.2.2.2 15 (by decide) rfl).1 ?_
  refine e_iload dX13_does_9 rfl ?_
  refine e_iconst (v := (4 : Int32)) dX13_does_11 rfl ?_
  refine e_iadd dX13_does_12 ?_
  obtain ⟨hc, h⟩ := p_ok_some h
  refine e_iald dX13_does_13 (Nat.lt_trans (hs.2.2.2 15 (by decide) rfl).2.2.2 hs.2.2.1) (hs.2.2.2 15 (by decide) rfl).2.1 (hs.2.2.2 15 (by decide) rfl).2.2.1 (hs.2.2.2 15 (by decide) rfl).2.2.2 hc ?_
  refine e_iconst (v := (5 : Int32)) dX13_does_14 rfl ?_
  refine e_imul dX13_does_15 ?_
  refine e_istore dX13_does_16 (Nat.le_of_ble_eq_true rfl) rfl ?_
  refine e_iload_n dX13_does_18 rfl ?_
  by_cases hc : v3.toInt < 0 ∨ 2 < v3.toInt
  · rw [if_pos hc] at h
    refine e_swD dX13_does_19 hc 154 (by decide) ?_
    refine e_aload_n dX13_does_154 rfl ?_
    refine e_getR dX13_does_155 rfl rfl hs.1 hs.2.1 (hs.2.2.2 15 (by decide) rfl).1 ?_
    refine e_iload dX13_does_158 rfl ?_
    refine e_iconst (v := (4 : Int32)) dX13_does_160 rfl ?_
    refine e_iadd dX13_does_161 ?_
    refine e_iconst (v := (0 : Int32)) dX13_does_162 rfl ?_
    obtain ⟨hc, h⟩ := p_ok_some h
    refine e_iast dX13_does_163 (hs.2.2.2 15 (by decide) rfl).2.1 (hs.2.2.2 15 (by decide) rfl).2.2.1 (hs.2.2.2 15 (by decide) rfl).2.2.2 hc ?_
    exact E_X13_does_c164 hs h hQ
  rw [if_neg hc] at h
  by_cases hc : v3 = 0
  · rw [if_pos hc] at h
    refine e_swK (v := 0) dX13_does_19 hc (by decide) rfl 44 (by decide) ?_
    refine e_aload_n dX13_does_44 rfl ?_
    refine e_iload dX13_does_45 rfl ?_
    refine e_iload dX13_does_47 rfl ?_
    refine e_iconst (v := (2 : Int32)) dX13_does_49 rfl ?_
    obtain ⟨hc, h⟩ := p_ok_some h
    refine e_idiv dX13_does_50 hc ?_
    refine e_iload dX13_does_51 rfl ?_
    obtain ⟨q1, hq1, h⟩ := p_bd h
    refine e_cV dX13_does_53 rfl rfl ⟨rfl, rfl, by decide⟩ rfl hs.1 hs.2.1 (E_X13_less hs hq1 ⟨rfl, ?_⟩)
    have hs := ShM_of (P_X13_less hq1) hs
    show p_Ev X (d + 1) M_X13_does 56 [.ref tM, .int v1, .int v2, .int v3, .int v4, .int ((5 : Int32) * v1), .int ((mI μ (aM 15) (((5 : Int32) * v1) + (4 : Int32)).toNatClampNeg) * (5 : Int32))] [] q1.2 Q
    refine e_goto dX13_does_56 164 (by decide) ?_
    exact E_X13_does_c164 hs h hQ
  rw [if_neg hc] at h
  by_cases hc : v3 = 1
  · rw [if_pos hc] at h
    refine e_swK (v := 1) dX13_does_19 hc (by decide) rfl 59 (by decide) ?_
    refine e_aload_n dX13_does_59 rfl ?_
    refine e_iload dX13_does_60 rfl ?_
    refine e_iload dX13_does_62 rfl ?_
    refine e_iload dX13_does_64 rfl ?_
    refine e_iconst (v := (3 : Int32)) dX13_does_66 rfl ?_
    refine e_iadd dX13_does_67 ?_
    obtain ⟨q2, hq2, h⟩ := p_bd h
    refine e_cV dX13_does_68 rfl rfl ⟨rfl, rfl, by decide⟩ rfl hs.1 hs.2.1 (E_X13_less hs hq2 ⟨rfl, ?_⟩)
    have hs := ShM_of (P_X13_less hq2) hs
    show p_Ev X (d + 1) M_X13_does 71 [.ref tM, .int v1, .int v2, .int v3, .int v4, .int ((5 : Int32) * v1), .int ((mI μ (aM 15) (((5 : Int32) * v1) + (4 : Int32)).toNatClampNeg) * (5 : Int32))] [] q2.2 Q
    refine e_aload_n dX13_does_71 rfl ?_
    refine e_iload dX13_does_72 rfl ?_
    refine e_iconst (v := (2 : Int32)) dX13_does_74 rfl ?_
    refine e_iadd dX13_does_75 ?_
    refine e_iload dX13_does_76 rfl ?_
    refine e_iload dX13_does_78 rfl ?_
    refine e_iadd dX13_does_80 ?_
    refine e_iload dX13_does_81 rfl ?_
    refine e_iconst (v := (2 : Int32)) dX13_does_83 rfl ?_
    refine e_iadd dX13_does_84 ?_
    refine e_iload dX13_does_85 rfl ?_
    refine e_iadd dX13_does_87 ?_
    obtain ⟨q3, hq3, h⟩ := p_bd h
    refine e_cV dX13_does_88 rfl rfl ⟨rfl, rfl, by decide⟩ rfl hs.1 hs.2.1 (E_X13_less hs hq3 ⟨rfl, ?_⟩)
    have hs := ShM_of (P_X13_less hq3) hs
    show p_Ev X (d + 1) M_X13_does 91 [.ref tM, .int v1, .int v2, .int v3, .int v4, .int ((5 : Int32) * v1), .int ((mI μ (aM 15) (((5 : Int32) * v1) + (4 : Int32)).toNatClampNeg) * (5 : Int32))] [] q3.2 Q
    refine e_goto dX13_does_91 164 (by decide) ?_
    exact E_X13_does_c164 hs h hQ
  rw [if_neg hc] at h
  by_cases hc : v3 = 2
  · rw [if_pos hc] at h
    refine e_swK (v := 2) dX13_does_19 hc (by decide) rfl 94 (by decide) ?_
    refine e_aload_n dX13_does_94 rfl ?_
    refine e_iload dX13_does_95 rfl ?_
    refine e_iconst (v := (0 : Int32)) dX13_does_97 rfl ?_
    refine e_iconst (v := (2 : Int32)) dX13_does_98 rfl ?_
    refine e_iload dX13_does_99 rfl ?_
    refine e_imul dX13_does_101 ?_
    refine e_aload_n dX13_does_102 rfl ?_
    refine e_getR dX13_does_103 rfl rfl hs.1 hs.2.1 (hs.2.2.2 13 (by decide) rfl).1 ?_
    refine e_iload_n dX13_does_106 rfl ?_
    obtain ⟨hc, h⟩ := p_ok_some h
    refine e_iald dX13_does_107 (Nat.lt_trans (hs.2.2.2 13 (by decide) rfl).2.2.2 hs.2.2.1) (hs.2.2.2 13 (by decide) rfl).2.1 (hs.2.2.2 13 (by decide) rfl).2.2.1 (hs.2.2.2 13 (by decide) rfl).2.2.2 hc ?_
    refine e_isub dX13_does_108 ?_
    refine e_max dX13_does_109 rfl (Nat.le_of_ble_eq_true rfl) ?_
    refine e_iconst (v := (0 : Int32)) dX13_does_112 rfl ?_
    refine e_iconst (v := (3 : Int32)) dX13_does_113 rfl ?_
    refine e_iload dX13_does_114 rfl ?_
    refine e_imul dX13_does_116 ?_
    refine e_aload_n dX13_does_117 rfl ?_
    refine e_getR dX13_does_118 rfl rfl hs.1 hs.2.1 (hs.2.2.2 13 (by decide) rfl).1 ?_
    refine e_iload_n dX13_does_121 rfl ?_
    obtain ⟨hc, h⟩ := p_ok_some h
    refine e_iald dX13_does_122 (Nat.lt_trans (hs.2.2.2 13 (by decide) rfl).2.2.2 hs.2.2.1) (hs.2.2.2 13 (by decide) rfl).2.1 (hs.2.2.2 13 (by decide) rfl).2.2.1 (hs.2.2.2 13 (by decide) rfl).2.2.2 hc ?_
    refine e_isub dX13_does_123 ?_
    refine e_max dX13_does_124 rfl (Nat.le_of_ble_eq_true rfl) ?_
    obtain ⟨q4, hq4, h⟩ := p_bd h
    refine e_cV dX13_does_127 rfl rfl ⟨rfl, rfl, by decide⟩ rfl hs.1 hs.2.1 (E_X13_less hs hq4 ⟨rfl, ?_⟩)
    have hs := ShM_of (P_X13_less hq4) hs
    show p_Ev X (d + 1) M_X13_does 130 [.ref tM, .int v1, .int v2, .int v3, .int v4, .int ((5 : Int32) * v1), .int ((mI μ (aM 15) (((5 : Int32) * v1) + (4 : Int32)).toNatClampNeg) * (5 : Int32))] [] q4.2 Q
    refine e_aload_n dX13_does_130 rfl ?_
    refine e_iload dX13_does_131 rfl ?_
    refine e_iconst (v := (2 : Int32)) dX13_does_133 rfl ?_
    refine e_iadd dX13_does_134 ?_
    refine e_iconst (v := (0 : Int32)) dX13_does_135 rfl ?_
    refine e_iload dX13_does_136 rfl ?_
    obtain ⟨q5, hq5, h⟩ := p_bd h
    refine e_cV dX13_does_138 rfl rfl ⟨rfl, rfl, by decide⟩ rfl hs.1 hs.2.1 (E_X13_less hs hq5 ⟨rfl, ?_⟩)
    have hs := ShM_of (P_X13_less hq5) hs
    show p_Ev X (d + 1) M_X13_does 141 [.ref tM, .int v1, .int v2, .int v3, .int v4, .int ((5 : Int32) * v1), .int ((mI μ (aM 15) (((5 : Int32) * v1) + (4 : Int32)).toNatClampNeg) * (5 : Int32))] [] q5.2 Q
    refine e_aload_n dX13_does_141 rfl ?_
    refine e_getR dX13_does_142 rfl rfl hs.1 hs.2.1 (hs.2.2.2 15 (by decide) rfl).1 ?_
    refine e_iload dX13_does_145 rfl ?_
    refine e_iconst (v := (4 : Int32)) dX13_does_147 rfl ?_
    refine e_iadd dX13_does_148 ?_
    refine e_iconst (v := (1 : Int32)) dX13_does_149 rfl ?_
    obtain ⟨hc, h⟩ := p_ok_some h
    refine e_iast dX13_does_150 (hs.2.2.2 15 (by decide) rfl).2.1 (hs.2.2.2 15 (by decide) rfl).2.2.1 (hs.2.2.2 15 (by decide) rfl).2.2.2 hc ?_
    refine e_goto dX13_does_151 164 (by decide) ?_
    exact E_X13_does_c164 hs h hQ
  rw [if_neg hc] at h
  cases h
/-! X13_dirtiest -/
def F_X13_dirtiest_c89 (K4 : Int32 → Int32 → Int32 → p_M → Option (Int32 × p_M)) (v1 : Int32) (v2 : Int32) (v3 : Int32) (μ : p_M) : Option (Int32 × p_M) :=
  K4 v1 v2 (v3 + (1 : Int32)) μ
theorem P_X13_dirtiest_c89 {K4 : Int32 → Int32 → Int32 → p_M → Option (Int32 × p_M)} (hP4 : ∀ (v1 : Int32) (v2 : Int32) (v3 : Int32) (μ : p_M) (r : Int32 × p_M), K4 v1 v2 v3 μ = some r → Sm μ r.2) {v1 : Int32} {v2 : Int32} {v3 : Int32} {μ : p_M} {r : Int32 × p_M} (h : F_X13_dirtiest_c89 K4 v1 v2 v3 μ = some r) : Sm μ r.2 := by
  unfold F_X13_dirtiest_c89 at h
  exact Sm_trans (Sm_refl μ) (hP4 _ _ _ _ _ h)
theorem E_X13_dirtiest_c89 {X : p_X} {d : Nat} {Q : p_R → Prop} {K4 : Int32 → Int32 → Int32 → p_M → Option (Int32 × p_M)} (hK4 : ∀ (v1 : Int32) (v2 : Int32) (v3 : Int32) (μ : p_M) (r : Int32 × p_M), ShM μ → K4 v1 v2 v3 μ = some r → Q ((0, some (.int r.1)), r.2) → p_Ev X (d + 0) M_X13_dirtiest 4 [.ref tM, .int v1, .int v2, .int v3] [] μ Q) {v1 : Int32} {v2 : Int32} {v3 : Int32} {μ : p_M} {r : Int32 × p_M} (hs : ShM μ) (h : F_X13_dirtiest_c89 K4 v1 v2 v3 μ = some r) (hQ : Q ((0, some (.int r.1)), r.2)) : p_Ev X (d + 0) M_X13_dirtiest 89 [.ref tM, .int v1, .int v2, .int v3] [] μ Q := by
  unfold F_X13_dirtiest_c89 at h
  refine e_iinc (v := (1 : Int32)) dX13_dirtiest_89 rfl rfl rfl ?_
  refine e_goto dX13_dirtiest_92 4 (by decide) ?_
  exact hK4 _ _ _ _ _ hs h hQ
def F_X13_dirtiest_c87 (K4 : Int32 → Int32 → Int32 → p_M → Option (Int32 × p_M)) (v1 : Int32) (v3 : Int32) (μ : p_M) : Option (Int32 × p_M) :=
  F_X13_dirtiest_c89 K4 v1 v3 v3 μ
theorem P_X13_dirtiest_c87 {K4 : Int32 → Int32 → Int32 → p_M → Option (Int32 × p_M)} (hP4 : ∀ (v1 : Int32) (v2 : Int32) (v3 : Int32) (μ : p_M) (r : Int32 × p_M), K4 v1 v2 v3 μ = some r → Sm μ r.2) {v1 : Int32} {v3 : Int32} {μ : p_M} {r : Int32 × p_M} (h : F_X13_dirtiest_c87 K4 v1 v3 μ = some r) : Sm μ r.2 := by
  unfold F_X13_dirtiest_c87 at h
  exact Sm_trans (Sm_refl μ) (P_X13_dirtiest_c89 hP4 h)
theorem E_X13_dirtiest_c87 {X : p_X} {d : Nat} {Q : p_R → Prop} {K4 : Int32 → Int32 → Int32 → p_M → Option (Int32 × p_M)} (hK4 : ∀ (v1 : Int32) (v2 : Int32) (v3 : Int32) (μ : p_M) (r : Int32 × p_M), ShM μ → K4 v1 v2 v3 μ = some r → Q ((0, some (.int r.1)), r.2) → p_Ev X (d + 0) M_X13_dirtiest 4 [.ref tM, .int v1, .int v2, .int v3] [] μ Q) {v1 : Int32} {v3 : Int32} {w2 : Value} {μ : p_M} {r : Int32 × p_M} (hs : ShM μ) (h : F_X13_dirtiest_c87 K4 v1 v3 μ = some r) (hQ : Q ((0, some (.int r.1)), r.2)) : p_Ev X (d + 0) M_X13_dirtiest 87 [.ref tM, .int v1, w2, .int v3] [] μ Q := by
  unfold F_X13_dirtiest_c87 at h
  refine e_iload_n dX13_dirtiest_87 rfl ?_
  refine e_istore_n dX13_dirtiest_88 (Nat.le_of_ble_eq_true rfl) rfl ?_
  exact E_X13_dirtiest_c89 hK4 hs h hQ
def F_X13_dirtiest_c4 : Nat → Int32 → Int32 → Int32 → p_M → Option (Int32 × p_M)
  | 0, _, _, _, _ => none
  | n + 1, v1, v2, v3, μ =>
    if (mI μ tM 30) ≤ v3
    then (some (v2, μ))
    else (p_ok (¬ v3 < 0 ∧ v3.toNatClampNeg < 5)
      (if (mI μ (aM 28) v3.toNatClampNeg) = 0
      then (F_X13_dirtiest_c89 (F_X13_dirtiest_c4 n) v1 v2 v3 μ)
      else (p_ok (¬ v3 < 0 ∧ v3.toNatClampNeg < 5)
        (p_ok (¬ v3 < 0 ∧ v3.toNatClampNeg < 5)
        (if (lg_cmp ((mI μ (aM 29) v3.toNatClampNeg).toInt64 * (100 : Int64)) (v1.toInt64 * (mI μ (aM 28) v3.toNatClampNeg).toInt64)) ≤ 0
        then (if v2 < 0
          then (F_X13_dirtiest_c87 (F_X13_dirtiest_c4 n) v1 v3 μ)
          else (p_ok (¬ v3 < 0 ∧ v3.toNatClampNeg < 5)
            (p_ok (¬ v2 < 0 ∧ v2.toNatClampNeg < 5)
            (p_ok (¬ v2 < 0 ∧ v2.toNatClampNeg < 5)
            (p_ok (¬ v3 < 0 ∧ v3.toNatClampNeg < 5)
            (if (lg_cmp ((mI μ (aM 29) v3.toNatClampNeg).toInt64 * (mI μ (aM 28) v2.toNatClampNeg).toInt64) ((mI μ (aM 29) v2.toNatClampNeg).toInt64 * (mI μ (aM 28) v3.toNatClampNeg).toInt64)) ≤ 0
            then (F_X13_dirtiest_c89 (F_X13_dirtiest_c4 n) v1 v2 v3 μ)
            else (F_X13_dirtiest_c87 (F_X13_dirtiest_c4 n) v1 v3 μ)))))))
        else (F_X13_dirtiest_c89 (F_X13_dirtiest_c4 n) v1 v2 v3 μ))))))
theorem P_X13_dirtiest_c4 : ∀ (n : Nat) (v1 : Int32) (v2 : Int32) (v3 : Int32) (μ : p_M) (r : Int32 × p_M), F_X13_dirtiest_c4 n v1 v2 v3 μ = some r → Sm μ r.2 := by
  intro n
  induction n with
  | zero => intro v1 v2 v3 μ r h; rw [F_X13_dirtiest_c4] at h; cases h
  | succ n ih =>
    intro v1 v2 v3 μ r h
    rw [F_X13_dirtiest_c4] at h
    by_cases hc : (mI μ tM 30) ≤ v3
    · rw [if_pos hc] at h
      cases h
      exact (Sm_refl μ)
    · rw [if_neg hc] at h
      obtain ⟨hc, h⟩ := p_ok_some h
      by_cases hc : (mI μ (aM 28) v3.toNatClampNeg) = 0
      · rw [if_pos hc] at h
        exact Sm_trans (Sm_refl μ) (P_X13_dirtiest_c89 ih h)
      · rw [if_neg hc] at h
        obtain ⟨hc, h⟩ := p_ok_some h
        obtain ⟨hc, h⟩ := p_ok_some h
        by_cases hc : (lg_cmp ((mI μ (aM 29) v3.toNatClampNeg).toInt64 * (100 : Int64)) (v1.toInt64 * (mI μ (aM 28) v3.toNatClampNeg).toInt64)) ≤ 0
        · rw [if_pos hc] at h
          by_cases hc : v2 < 0
          · rw [if_pos hc] at h
            exact Sm_trans (Sm_refl μ) (P_X13_dirtiest_c87 ih h)
          · rw [if_neg hc] at h
            obtain ⟨hc, h⟩ := p_ok_some h
            obtain ⟨hc, h⟩ := p_ok_some h
            obtain ⟨hc, h⟩ := p_ok_some h
            obtain ⟨hc, h⟩ := p_ok_some h
            by_cases hc : (lg_cmp ((mI μ (aM 29) v3.toNatClampNeg).toInt64 * (mI μ (aM 28) v2.toNatClampNeg).toInt64) ((mI μ (aM 29) v2.toNatClampNeg).toInt64 * (mI μ (aM 28) v3.toNatClampNeg).toInt64)) ≤ 0
            · rw [if_pos hc] at h
              exact Sm_trans (Sm_refl μ) (P_X13_dirtiest_c89 ih h)
            · rw [if_neg hc] at h
              exact Sm_trans (Sm_refl μ) (P_X13_dirtiest_c87 ih h)
        · rw [if_neg hc] at h
          exact Sm_trans (Sm_refl μ) (P_X13_dirtiest_c89 ih h)
theorem E_X13_dirtiest_c4 {X : p_X} {d : Nat} {Q : p_R → Prop} : ∀ (n : Nat) (v1 : Int32) (v2 : Int32) (v3 : Int32) (μ : p_M) (r : Int32 × p_M), ShM μ → F_X13_dirtiest_c4 n v1 v2 v3 μ = some r → Q ((0, some (.int r.1)), r.2) → p_Ev X (d + 0) M_X13_dirtiest 4 [.ref tM, .int v1, .int v2, .int v3] [] μ Q := by
  intro n
  induction n with
  | zero => intro v1 v2 v3 μ r hs h hQ; rw [F_X13_dirtiest_c4] at h; cases h
  | succ n ih =>
    intro v1 v2 v3 μ r hs h hQ
    rw [F_X13_dirtiest_c4] at h
    refine e_iload_n dX13_dirtiest_4 rfl ?_
    refine e_aload_n dX13_dirtiest_5 rfl ?_
    refine e_getI dX13_dirtiest_6 rfl rfl hs.1 hs.2.1 ?_
    refine e_ic_ge dX13_dirtiest_9 95 (by decide) (fun hc => ?_) (fun hc => ?_)
    · rw [if_pos hc] at h
      refine e_iload_n dX13_dirtiest_95 rfl ?_
      cases h
      exact e_ireti dX13_dirtiest_96 rfl hQ
    · rw [if_neg hc] at h
      refine e_aload_n dX13_dirtiest_12 rfl ?_
      refine e_getR dX13_dirtiest_13 rfl rfl hs.1 hs.2.1 (hs.2.2.2 28 (by decide) rfl).1 ?_
      refine e_iload_n dX13_dirtiest_16 rfl ?_
      obtain ⟨hc, h⟩ := p_ok_some h
      refine e_iald dX13_dirtiest_17 (Nat.lt_trans (hs.2.2.2 28 (by decide) rfl).2.2.2 hs.2.2.1) (hs.2.2.2 28 (by decide) rfl).2.1 (hs.2.2.2 28 (by decide) rfl).2.2.1 (hs.2.2.2 28 (by decide) rfl).2.2.2 hc ?_
      refine e_if_eq dX13_dirtiest_18 89 (by decide) (fun hc => ?_) (fun hc => ?_)
      · rw [if_pos hc] at h
        exact E_X13_dirtiest_c89 ih hs h hQ
      · rw [if_neg hc] at h
        refine e_aload_n dX13_dirtiest_21 rfl ?_
        refine e_getR dX13_dirtiest_22 rfl rfl hs.1 hs.2.1 (hs.2.2.2 29 (by decide) rfl).1 ?_
        refine e_iload_n dX13_dirtiest_25 rfl ?_
        obtain ⟨hc, h⟩ := p_ok_some h
        refine e_iald dX13_dirtiest_26 (Nat.lt_trans (hs.2.2.2 29 (by decide) rfl).2.2.2 hs.2.2.1) (hs.2.2.2 29 (by decide) rfl).2.1 (hs.2.2.2 29 (by decide) rfl).2.2.1 (hs.2.2.2 29 (by decide) rfl).2.2.2 hc ?_
        refine e_i2l dX13_dirtiest_27 ?_
        refine e_ldc2 (v := 100) dX13_dirtiest_28 rfl ?_
        refine e_lmul dX13_dirtiest_31 ?_
        refine e_iload_n dX13_dirtiest_32 rfl ?_
        refine e_i2l dX13_dirtiest_33 ?_
        refine e_aload_n dX13_dirtiest_34 rfl ?_
        refine e_getR dX13_dirtiest_35 rfl rfl hs.1 hs.2.1 (hs.2.2.2 28 (by decide) rfl).1 ?_
        refine e_iload_n dX13_dirtiest_38 rfl ?_
        obtain ⟨hc, h⟩ := p_ok_some h
        refine e_iald dX13_dirtiest_39 (Nat.lt_trans (hs.2.2.2 28 (by decide) rfl).2.2.2 hs.2.2.1) (hs.2.2.2 28 (by decide) rfl).2.1 (hs.2.2.2 28 (by decide) rfl).2.2.1 (hs.2.2.2 28 (by decide) rfl).2.2.2 hc ?_
        refine e_i2l dX13_dirtiest_40 ?_
        refine e_lmul dX13_dirtiest_41 ?_
        refine e_lcmp dX13_dirtiest_42 ?_
        refine e_if_le dX13_dirtiest_43 49 (by decide) (fun hc => ?_) (fun hc => ?_)
        · rw [if_pos hc] at h
          refine e_iload_n dX13_dirtiest_49 rfl ?_
          refine e_if_lt dX13_dirtiest_50 87 (by decide) (fun hc => ?_) (fun hc => ?_)
          · rw [if_pos hc] at h
            exact E_X13_dirtiest_c87 ih hs h hQ
          · rw [if_neg hc] at h
            refine e_aload_n dX13_dirtiest_53 rfl ?_
            refine e_getR dX13_dirtiest_54 rfl rfl hs.1 hs.2.1 (hs.2.2.2 29 (by decide) rfl).1 ?_
            refine e_iload_n dX13_dirtiest_57 rfl ?_
            obtain ⟨hc, h⟩ := p_ok_some h
            refine e_iald dX13_dirtiest_58 (Nat.lt_trans (hs.2.2.2 29 (by decide) rfl).2.2.2 hs.2.2.1) (hs.2.2.2 29 (by decide) rfl).2.1 (hs.2.2.2 29 (by decide) rfl).2.2.1 (hs.2.2.2 29 (by decide) rfl).2.2.2 hc ?_
            refine e_i2l dX13_dirtiest_59 ?_
            refine e_aload_n dX13_dirtiest_60 rfl ?_
            refine e_getR dX13_dirtiest_61 rfl rfl hs.1 hs.2.1 (hs.2.2.2 28 (by decide) rfl).1 ?_
            refine e_iload_n dX13_dirtiest_64 rfl ?_
            obtain ⟨hc, h⟩ := p_ok_some h
            refine e_iald dX13_dirtiest_65 (Nat.lt_trans (hs.2.2.2 28 (by decide) rfl).2.2.2 hs.2.2.1) (hs.2.2.2 28 (by decide) rfl).2.1 (hs.2.2.2 28 (by decide) rfl).2.2.1 (hs.2.2.2 28 (by decide) rfl).2.2.2 hc ?_
            refine e_i2l dX13_dirtiest_66 ?_
            refine e_lmul dX13_dirtiest_67 ?_
            refine e_aload_n dX13_dirtiest_68 rfl ?_
            refine e_getR dX13_dirtiest_69 rfl rfl hs.1 hs.2.1 (hs.2.2.2 29 (by decide) rfl).1 ?_
            refine e_iload_n dX13_dirtiest_72 rfl ?_
            obtain ⟨hc, h⟩ := p_ok_some h
            refine e_iald dX13_dirtiest_73 (Nat.lt_trans (hs.2.2.2 29 (by decide) rfl).2.2.2 hs.2.2.1) (hs.2.2.2 29 (by decide) rfl).2.1 (hs.2.2.2 29 (by decide) rfl).2.2.1 (hs.2.2.2 29 (by decide) rfl).2.2.2 hc ?_
            refine e_i2l dX13_dirtiest_74 ?_
            refine e_aload_n dX13_dirtiest_75 rfl ?_
            refine e_getR dX13_dirtiest_76 rfl rfl hs.1 hs.2.1 (hs.2.2.2 28 (by decide) rfl).1 ?_
            refine e_iload_n dX13_dirtiest_79 rfl ?_
            obtain ⟨hc, h⟩ := p_ok_some h
            refine e_iald dX13_dirtiest_80 (Nat.lt_trans (hs.2.2.2 28 (by decide) rfl).2.2.2 hs.2.2.1) (hs.2.2.2 28 (by decide) rfl).2.1 (hs.2.2.2 28 (by decide) rfl).2.2.1 (hs.2.2.2 28 (by decide) rfl).2.2.2 hc ?_
            refine e_i2l dX13_dirtiest_81 ?_
            refine e_lmul dX13_dirtiest_82 ?_
            refine e_lcmp dX13_dirtiest_83 ?_
            refine e_if_le dX13_dirtiest_84 89 (by decide) (fun hc => ?_) (fun hc => ?_)
            · rw [if_pos hc] at h
              exact E_X13_dirtiest_c89 ih hs h hQ
            · rw [if_neg hc] at h
              exact E_X13_dirtiest_c87 ih hs h hQ
        · rw [if_neg hc] at h
          refine e_goto dX13_dirtiest_46 89 (by decide) ?_
          exact E_X13_dirtiest_c89 ih hs h hQ
def F_X13_dirtiest (v1 : Int32) (μ : p_M) : Option (Int32 × p_M) :=
  F_X13_dirtiest_c4 p_fu v1 (-1) (0 : Int32) μ
theorem P_X13_dirtiest {v1 : Int32} {μ : p_M} {r : Int32 × p_M} (h : F_X13_dirtiest v1 μ = some r) : Sm μ r.2 := by
  unfold F_X13_dirtiest at h
  exact Sm_trans (Sm_refl μ) (P_X13_dirtiest_c4 p_fu _ _ _ _ _ h)
theorem E_X13_dirtiest {X : p_X} {d : Nat} {Q : p_R → Prop} {v1 : Int32} {μ : p_M} {r : Int32 × p_M} (hs : ShM μ) (h : F_X13_dirtiest v1 μ = some r) (hQ : Q ((0, some (.int r.1)), r.2)) : p_Ev X (d + 0) M_X13_dirtiest 0 [.ref tM, .int v1, .double 0, .double 0] [] μ Q := by
  unfold F_X13_dirtiest at h
  refine e_iconst (v := (-1)) dX13_dirtiest_0 rfl ?_
  refine e_istore_n dX13_dirtiest_1 (Nat.le_of_ble_eq_true rfl) rfl ?_
  refine e_iconst (v := (0 : Int32)) dX13_dirtiest_2 rfl ?_
  refine e_istore_n dX13_dirtiest_3 (Nat.le_of_ble_eq_true rfl) rfl ?_
  exact E_X13_dirtiest_c4 p_fu _ _ _ _ _ hs h hQ
/-! X13_draws -/
def F_X13_draws_c139 (μ : p_M) : Option (Int32 × p_M) :=
  some (0, (sI μ tM 31 ((mI μ tM 31) + (mI μ tM 35))))
theorem P_X13_draws_c139 {μ : p_M} {r : Int32 × p_M} (h : F_X13_draws_c139 μ = some r) : Sm μ r.2 := by
  unfold F_X13_draws_c139 at h
  cases h
  exact (Sm_set (Sm_refl μ) (by decide))
theorem E_X13_draws_c139 {X : p_X} {d : Nat} {Q : p_R → Prop} {w1 : Value} {w2 : Value} {w3 : Value} {w4 : Value} {w5 : Value} {μ : p_M} {r : Int32 × p_M} (hs : ShM μ) (h : F_X13_draws_c139 μ = some r) (hQ : Q ((0, none), r.2)) : p_Ev X (d + 1) M_X13_draws 139 [.ref tM, w1, w2, w3, w4, w5] [] μ Q := by
  unfold F_X13_draws_c139 at h
  refine e_aload_n dX13_draws_139 rfl ?_
  refine e_dupR dX13_draws_140 ?_
  refine e_getI dX13_draws_141 rfl rfl hs.1 hs.2.1 ?_
  refine e_aload_n dX13_draws_144 rfl ?_
  refine e_getI dX13_draws_145 rfl rfl hs.1 hs.2.1 ?_
  refine e_iadd dX13_draws_148 ?_
  refine e_putI dX13_draws_149 rfl ⟨rfl, rfl, fun h => by cases h⟩ (fun h => by cases h) hs.1 hs.2.1 ?_
  cases h
  exact e_vret dX13_draws_152 rfl hQ
def F_X13_draws_c16 : Nat → Int32 → Int32 → p_M → Option (Int32 × p_M)
  | 0, _, _, _ => none
  | n + 1, v2, v3, μ =>
    if v3 < 0
    then (F_X13_draws_c139 μ)
    else (if (mI μ tM 35) ≤ 0
      then (F_X13_draws_c139 μ)
      else (p_ok (¬ v3 < 0 ∧ v3.toNatClampNeg < 5)
        (p_ok (¬ v3 < 0 ∧ v3.toNatClampNeg < 5)
        (p_ok (¬ v3 < 0 ∧ v3.toNatClampNeg < 5)
        (p_ok (¬ v3 < 0 ∧ v3.toNatClampNeg < 5)
        (p_ok (¬ (mI μ (aM 28) v3.toNatClampNeg).toInt64 = 0)
        (p_ok (¬ v3 < 0 ∧ v3.toNatClampNeg < 5)
        (p_ok (¬ v3 < 0 ∧ v3.toNatClampNeg < 5)
        (p_ok (¬ v3 < 0 ∧ v3.toNatClampNeg < 5)
        (p_ok (¬ v3 < 0 ∧ v3.toNatClampNeg < 5)
        (p_ok (¬ v3 < 0 ∧ v3.toNatClampNeg < 5)
        (if (mI (sI (sI (sI (sI μ (aM 28) v3.toNatClampNeg ((mI μ (aM 28) v3.toNatClampNeg) - (if (mI μ (aM 28) v3.toNatClampNeg) < (mI μ tM 35) then (mI μ (aM 28) v3.toNatClampNeg) else (mI μ tM 35)))) (aM 29) v3.toNatClampNeg ((mI (sI μ (aM 28) v3.toNatClampNeg ((mI μ (aM 28) v3.toNatClampNeg) - (if (mI μ (aM 28) v3.toNatClampNeg) < (mI μ tM 35) then (mI μ (aM 28) v3.toNatClampNeg) else (mI μ tM 35)))) (aM 29) v3.toNatClampNeg) - (((((mI μ (aM 29) v3.toNatClampNeg).toInt64 * (if (mI μ (aM 28) v3.toNatClampNeg) < (mI μ tM 35) then (mI μ (aM 28) v3.toNatClampNeg) else (mI μ tM 35)).toInt64) + (mI μ (aM 28) v3.toNatClampNeg).toInt64) - (1 : Int64)) / (mI μ (aM 28) v3.toNatClampNeg).toInt64).toInt32)) tM 35 ((mI (sI (sI μ (aM 28) v3.toNatClampNeg ((mI μ (aM 28) v3.toNatClampNeg) - (if (mI μ (aM 28) v3.toNatClampNeg) < (mI μ tM 35) then (mI μ (aM 28) v3.toNatClampNeg) else (mI μ tM 35)))) (aM 29) v3.toNatClampNeg ((mI (sI μ (aM 28) v3.toNatClampNeg ((mI μ (aM 28) v3.toNatClampNeg) - (if (mI μ (aM 28) v3.toNatClampNeg) < (mI μ tM 35) then (mI μ (aM 28) v3.toNatClampNeg) else (mI μ tM 35)))) (aM 29) v3.toNatClampNeg) - (((((mI μ (aM 29) v3.toNatClampNeg).toInt64 * (if (mI μ (aM 28) v3.toNatClampNeg) < (mI μ tM 35) then (mI μ (aM 28) v3.toNatClampNeg) else (mI μ tM 35)).toInt64) + (mI μ (aM 28) v3.toNatClampNeg).toInt64) - (1 : Int64)) / (mI μ (aM 28) v3.toNatClampNeg).toInt64).toInt32)) tM 35) - (if (mI μ (aM 28) v3.toNatClampNeg) < (mI μ tM 35) then (mI μ (aM 28) v3.toNatClampNeg) else (mI μ tM 35)))) tM 36 ((mI (sI (sI (sI μ (aM 28) v3.toNatClampNeg ((mI μ (aM 28) v3.toNatClampNeg) - (if (mI μ (aM 28) v3.toNatClampNeg) < (mI μ tM 35) then (mI μ (aM 28) v3.toNatClampNeg) else (mI μ tM 35)))) (aM 29) v3.toNatClampNeg ((mI (sI μ (aM 28) v3.toNatClampNeg ((mI μ (aM 28) v3.toNatClampNeg) - (if (mI μ (aM 28) v3.toNatClampNeg) < (mI μ tM 35) then (mI μ (aM 28) v3.toNatClampNeg) else (mI μ tM 35)))) (aM 29) v3.toNatClampNeg) - (((((mI μ (aM 29) v3.toNatClampNeg).toInt64 * (if (mI μ (aM 28) v3.toNatClampNeg) < (mI μ tM 35) then (mI μ (aM 28) v3.toNatClampNeg) else (mI μ tM 35)).toInt64) + (mI μ (aM 28) v3.toNatClampNeg).toInt64) - (1 : Int64)) / (mI μ (aM 28) v3.toNatClampNeg).toInt64).toInt32)) tM 35 ((mI (sI (sI μ (aM 28) v3.toNatClampNeg ((mI μ (aM 28) v3.toNatClampNeg) - (if (mI μ (aM 28) v3.toNatClampNeg) < (mI μ tM 35) then (mI μ (aM 28) v3.toNatClampNeg) else (mI μ tM 35)))) (aM 29) v3.toNatClampNeg ((mI (sI μ (aM 28) v3.toNatClampNeg ((mI μ (aM 28) v3.toNatClampNeg) - (if (mI μ (aM 28) v3.toNatClampNeg) < (mI μ tM 35) then (mI μ (aM 28) v3.toNatClampNeg) else (mI μ tM 35)))) (aM 29) v3.toNatClampNeg) - (((((mI μ (aM 29) v3.toNatClampNeg).toInt64 * (if (mI μ (aM 28) v3.toNatClampNeg) < (mI μ tM 35) then (mI μ (aM 28) v3.toNatClampNeg) else (mI μ tM 35)).toInt64) + (mI μ (aM 28) v3.toNatClampNeg).toInt64) - (1 : Int64)) / (mI μ (aM 28) v3.toNatClampNeg).toInt64).toInt32)) tM 35) - (if (mI μ (aM 28) v3.toNatClampNeg) < (mI μ tM 35) then (mI μ (aM 28) v3.toNatClampNeg) else (mI μ tM 35)))) tM 36) + (((((mI μ (aM 29) v3.toNatClampNeg).toInt64 * (if (mI μ (aM 28) v3.toNatClampNeg) < (mI μ tM 35) then (mI μ (aM 28) v3.toNatClampNeg) else (mI μ tM 35)).toInt64) + (mI μ (aM 28) v3.toNatClampNeg).toInt64) - (1 : Int64)) / (mI μ (aM 28) v3.toNatClampNeg).toInt64).toInt32)) (aM 28) v3.toNatClampNeg) ≤ 0
        then ((F_X13_dirtiest v2 (sI (sI (sI (sI μ (aM 28) v3.toNatClampNeg ((mI μ (aM 28) v3.toNatClampNeg) - (if (mI μ (aM 28) v3.toNatClampNeg) < (mI μ tM 35) then (mI μ (aM 28) v3.toNatClampNeg) else (mI μ tM 35)))) (aM 29) v3.toNatClampNeg ((mI (sI μ (aM 28) v3.toNatClampNeg ((mI μ (aM 28) v3.toNatClampNeg) - (if (mI μ (aM 28) v3.toNatClampNeg) < (mI μ tM 35) then (mI μ (aM 28) v3.toNatClampNeg) else (mI μ tM 35)))) (aM 29) v3.toNatClampNeg) - (((((mI μ (aM 29) v3.toNatClampNeg).toInt64 * (if (mI μ (aM 28) v3.toNatClampNeg) < (mI μ tM 35) then (mI μ (aM 28) v3.toNatClampNeg) else (mI μ tM 35)).toInt64) + (mI μ (aM 28) v3.toNatClampNeg).toInt64) - (1 : Int64)) / (mI μ (aM 28) v3.toNatClampNeg).toInt64).toInt32)) tM 35 ((mI (sI (sI μ (aM 28) v3.toNatClampNeg ((mI μ (aM 28) v3.toNatClampNeg) - (if (mI μ (aM 28) v3.toNatClampNeg) < (mI μ tM 35) then (mI μ (aM 28) v3.toNatClampNeg) else (mI μ tM 35)))) (aM 29) v3.toNatClampNeg ((mI (sI μ (aM 28) v3.toNatClampNeg ((mI μ (aM 28) v3.toNatClampNeg) - (if (mI μ (aM 28) v3.toNatClampNeg) < (mI μ tM 35) then (mI μ (aM 28) v3.toNatClampNeg) else (mI μ tM 35)))) (aM 29) v3.toNatClampNeg) - (((((mI μ (aM 29) v3.toNatClampNeg).toInt64 * (if (mI μ (aM 28) v3.toNatClampNeg) < (mI μ tM 35) then (mI μ (aM 28) v3.toNatClampNeg) else (mI μ tM 35)).toInt64) + (mI μ (aM 28) v3.toNatClampNeg).toInt64) - (1 : Int64)) / (mI μ (aM 28) v3.toNatClampNeg).toInt64).toInt32)) tM 35) - (if (mI μ (aM 28) v3.toNatClampNeg) < (mI μ tM 35) then (mI μ (aM 28) v3.toNatClampNeg) else (mI μ tM 35)))) tM 36 ((mI (sI (sI (sI μ (aM 28) v3.toNatClampNeg ((mI μ (aM 28) v3.toNatClampNeg) - (if (mI μ (aM 28) v3.toNatClampNeg) < (mI μ tM 35) then (mI μ (aM 28) v3.toNatClampNeg) else (mI μ tM 35)))) (aM 29) v3.toNatClampNeg ((mI (sI μ (aM 28) v3.toNatClampNeg ((mI μ (aM 28) v3.toNatClampNeg) - (if (mI μ (aM 28) v3.toNatClampNeg) < (mI μ tM 35) then (mI μ (aM 28) v3.toNatClampNeg) else (mI μ tM 35)))) (aM 29) v3.toNatClampNeg) - (((((mI μ (aM 29) v3.toNatClampNeg).toInt64 * (if (mI μ (aM 28) v3.toNatClampNeg) < (mI μ tM 35) then (mI μ (aM 28) v3.toNatClampNeg) else (mI μ tM 35)).toInt64) + (mI μ (aM 28) v3.toNatClampNeg).toInt64) - (1 : Int64)) / (mI μ (aM 28) v3.toNatClampNeg).toInt64).toInt32)) tM 35 ((mI (sI (sI μ (aM 28) v3.toNatClampNeg ((mI μ (aM 28) v3.toNatClampNeg) - (if (mI μ (aM 28) v3.toNatClampNeg) < (mI μ tM 35) then (mI μ (aM 28) v3.toNatClampNeg) else (mI μ tM 35)))) (aM 29) v3.toNatClampNeg ((mI (sI μ (aM 28) v3.toNatClampNeg ((mI μ (aM 28) v3.toNatClampNeg) - (if (mI μ (aM 28) v3.toNatClampNeg) < (mI μ tM 35) then (mI μ (aM 28) v3.toNatClampNeg) else (mI μ tM 35)))) (aM 29) v3.toNatClampNeg) - (((((mI μ (aM 29) v3.toNatClampNeg).toInt64 * (if (mI μ (aM 28) v3.toNatClampNeg) < (mI μ tM 35) then (mI μ (aM 28) v3.toNatClampNeg) else (mI μ tM 35)).toInt64) + (mI μ (aM 28) v3.toNatClampNeg).toInt64) - (1 : Int64)) / (mI μ (aM 28) v3.toNatClampNeg).toInt64).toInt32)) tM 35) - (if (mI μ (aM 28) v3.toNatClampNeg) < (mI μ tM 35) then (mI μ (aM 28) v3.toNatClampNeg) else (mI μ tM 35)))) tM 36) + (((((mI μ (aM 29) v3.toNatClampNeg).toInt64 * (if (mI μ (aM 28) v3.toNatClampNeg) < (mI μ tM 35) then (mI μ (aM 28) v3.toNatClampNeg) else (mI μ tM 35)).toInt64) + (mI μ (aM 28) v3.toNatClampNeg).toInt64) - (1 : Int64)) / (mI μ (aM 28) v3.toNatClampNeg).toInt64).toInt32))).bind fun q2 =>
          F_X13_draws_c16 n v2 q2.1 q2.2)
        else (F_X13_draws_c139 (sI (sI (sI (sI μ (aM 28) v3.toNatClampNeg ((mI μ (aM 28) v3.toNatClampNeg) - (if (mI μ (aM 28) v3.toNatClampNeg) < (mI μ tM 35) then (mI μ (aM 28) v3.toNatClampNeg) else (mI μ tM 35)))) (aM 29) v3.toNatClampNeg ((mI (sI μ (aM 28) v3.toNatClampNeg ((mI μ (aM 28) v3.toNatClampNeg) - (if (mI μ (aM 28) v3.toNatClampNeg) < (mI μ tM 35) then (mI μ (aM 28) v3.toNatClampNeg) else (mI μ tM 35)))) (aM 29) v3.toNatClampNeg) - (((((mI μ (aM 29) v3.toNatClampNeg).toInt64 * (if (mI μ (aM 28) v3.toNatClampNeg) < (mI μ tM 35) then (mI μ (aM 28) v3.toNatClampNeg) else (mI μ tM 35)).toInt64) + (mI μ (aM 28) v3.toNatClampNeg).toInt64) - (1 : Int64)) / (mI μ (aM 28) v3.toNatClampNeg).toInt64).toInt32)) tM 35 ((mI (sI (sI μ (aM 28) v3.toNatClampNeg ((mI μ (aM 28) v3.toNatClampNeg) - (if (mI μ (aM 28) v3.toNatClampNeg) < (mI μ tM 35) then (mI μ (aM 28) v3.toNatClampNeg) else (mI μ tM 35)))) (aM 29) v3.toNatClampNeg ((mI (sI μ (aM 28) v3.toNatClampNeg ((mI μ (aM 28) v3.toNatClampNeg) - (if (mI μ (aM 28) v3.toNatClampNeg) < (mI μ tM 35) then (mI μ (aM 28) v3.toNatClampNeg) else (mI μ tM 35)))) (aM 29) v3.toNatClampNeg) - (((((mI μ (aM 29) v3.toNatClampNeg).toInt64 * (if (mI μ (aM 28) v3.toNatClampNeg) < (mI μ tM 35) then (mI μ (aM 28) v3.toNatClampNeg) else (mI μ tM 35)).toInt64) + (mI μ (aM 28) v3.toNatClampNeg).toInt64) - (1 : Int64)) / (mI μ (aM 28) v3.toNatClampNeg).toInt64).toInt32)) tM 35) - (if (mI μ (aM 28) v3.toNatClampNeg) < (mI μ tM 35) then (mI μ (aM 28) v3.toNatClampNeg) else (mI μ tM 35)))) tM 36 ((mI (sI (sI (sI μ (aM 28) v3.toNatClampNeg ((mI μ (aM 28) v3.toNatClampNeg) - (if (mI μ (aM 28) v3.toNatClampNeg) < (mI μ tM 35) then (mI μ (aM 28) v3.toNatClampNeg) else (mI μ tM 35)))) (aM 29) v3.toNatClampNeg ((mI (sI μ (aM 28) v3.toNatClampNeg ((mI μ (aM 28) v3.toNatClampNeg) - (if (mI μ (aM 28) v3.toNatClampNeg) < (mI μ tM 35) then (mI μ (aM 28) v3.toNatClampNeg) else (mI μ tM 35)))) (aM 29) v3.toNatClampNeg) - (((((mI μ (aM 29) v3.toNatClampNeg).toInt64 * (if (mI μ (aM 28) v3.toNatClampNeg) < (mI μ tM 35) then (mI μ (aM 28) v3.toNatClampNeg) else (mI μ tM 35)).toInt64) + (mI μ (aM 28) v3.toNatClampNeg).toInt64) - (1 : Int64)) / (mI μ (aM 28) v3.toNatClampNeg).toInt64).toInt32)) tM 35 ((mI (sI (sI μ (aM 28) v3.toNatClampNeg ((mI μ (aM 28) v3.toNatClampNeg) - (if (mI μ (aM 28) v3.toNatClampNeg) < (mI μ tM 35) then (mI μ (aM 28) v3.toNatClampNeg) else (mI μ tM 35)))) (aM 29) v3.toNatClampNeg ((mI (sI μ (aM 28) v3.toNatClampNeg ((mI μ (aM 28) v3.toNatClampNeg) - (if (mI μ (aM 28) v3.toNatClampNeg) < (mI μ tM 35) then (mI μ (aM 28) v3.toNatClampNeg) else (mI μ tM 35)))) (aM 29) v3.toNatClampNeg) - (((((mI μ (aM 29) v3.toNatClampNeg).toInt64 * (if (mI μ (aM 28) v3.toNatClampNeg) < (mI μ tM 35) then (mI μ (aM 28) v3.toNatClampNeg) else (mI μ tM 35)).toInt64) + (mI μ (aM 28) v3.toNatClampNeg).toInt64) - (1 : Int64)) / (mI μ (aM 28) v3.toNatClampNeg).toInt64).toInt32)) tM 35) - (if (mI μ (aM 28) v3.toNatClampNeg) < (mI μ tM 35) then (mI μ (aM 28) v3.toNatClampNeg) else (mI μ tM 35)))) tM 36) + (((((mI μ (aM 29) v3.toNatClampNeg).toInt64 * (if (mI μ (aM 28) v3.toNatClampNeg) < (mI μ tM 35) then (mI μ (aM 28) v3.toNatClampNeg) else (mI μ tM 35)).toInt64) + (mI μ (aM 28) v3.toNatClampNeg).toInt64) - (1 : Int64)) / (mI μ (aM 28) v3.toNatClampNeg).toInt64).toInt32)))))))))))))))
theorem P_X13_draws_c16 : ∀ (n : Nat) (v2 : Int32) (v3 : Int32) (μ : p_M) (r : Int32 × p_M), F_X13_draws_c16 n v2 v3 μ = some r → Sm μ r.2 := by
  intro n
  induction n with
  | zero => intro v2 v3 μ r h; rw [F_X13_draws_c16] at h; cases h
  | succ n ih =>
    intro v2 v3 μ r h
    rw [F_X13_draws_c16] at h
    by_cases hc : v3 < 0
    · rw [if_pos hc] at h
      exact Sm_trans (Sm_refl μ) (P_X13_draws_c139 h)
    · rw [if_neg hc] at h
      by_cases hc : (mI μ tM 35) ≤ 0
      · rw [if_pos hc] at h
        exact Sm_trans (Sm_refl μ) (P_X13_draws_c139 h)
      · rw [if_neg hc] at h
        obtain ⟨hc, h⟩ := p_ok_some h
        obtain ⟨hc, h⟩ := p_ok_some h
        obtain ⟨hc, h⟩ := p_ok_some h
        obtain ⟨hc, h⟩ := p_ok_some h
        obtain ⟨hc, h⟩ := p_ok_some h
        obtain ⟨hc, h⟩ := p_ok_some h
        obtain ⟨hc, h⟩ := p_ok_some h
        obtain ⟨hc, h⟩ := p_ok_some h
        obtain ⟨hc, h⟩ := p_ok_some h
        obtain ⟨hc, h⟩ := p_ok_some h
        by_cases hc : (mI (sI (sI (sI (sI μ (aM 28) v3.toNatClampNeg ((mI μ (aM 28) v3.toNatClampNeg) - (if (mI μ (aM 28) v3.toNatClampNeg) < (mI μ tM 35) then (mI μ (aM 28) v3.toNatClampNeg) else (mI μ tM 35)))) (aM 29) v3.toNatClampNeg ((mI (sI μ (aM 28) v3.toNatClampNeg ((mI μ (aM 28) v3.toNatClampNeg) - (if (mI μ (aM 28) v3.toNatClampNeg) < (mI μ tM 35) then (mI μ (aM 28) v3.toNatClampNeg) else (mI μ tM 35)))) (aM 29) v3.toNatClampNeg) - (((((mI μ (aM 29) v3.toNatClampNeg).toInt64 * (if (mI μ (aM 28) v3.toNatClampNeg) < (mI μ tM 35) then (mI μ (aM 28) v3.toNatClampNeg) else (mI μ tM 35)).toInt64) + (mI μ (aM 28) v3.toNatClampNeg).toInt64) - (1 : Int64)) / (mI μ (aM 28) v3.toNatClampNeg).toInt64).toInt32)) tM 35 ((mI (sI (sI μ (aM 28) v3.toNatClampNeg ((mI μ (aM 28) v3.toNatClampNeg) - (if (mI μ (aM 28) v3.toNatClampNeg) < (mI μ tM 35) then (mI μ (aM 28) v3.toNatClampNeg) else (mI μ tM 35)))) (aM 29) v3.toNatClampNeg ((mI (sI μ (aM 28) v3.toNatClampNeg ((mI μ (aM 28) v3.toNatClampNeg) - (if (mI μ (aM 28) v3.toNatClampNeg) < (mI μ tM 35) then (mI μ (aM 28) v3.toNatClampNeg) else (mI μ tM 35)))) (aM 29) v3.toNatClampNeg) - (((((mI μ (aM 29) v3.toNatClampNeg).toInt64 * (if (mI μ (aM 28) v3.toNatClampNeg) < (mI μ tM 35) then (mI μ (aM 28) v3.toNatClampNeg) else (mI μ tM 35)).toInt64) + (mI μ (aM 28) v3.toNatClampNeg).toInt64) - (1 : Int64)) / (mI μ (aM 28) v3.toNatClampNeg).toInt64).toInt32)) tM 35) - (if (mI μ (aM 28) v3.toNatClampNeg) < (mI μ tM 35) then (mI μ (aM 28) v3.toNatClampNeg) else (mI μ tM 35)))) tM 36 ((mI (sI (sI (sI μ (aM 28) v3.toNatClampNeg ((mI μ (aM 28) v3.toNatClampNeg) - (if (mI μ (aM 28) v3.toNatClampNeg) < (mI μ tM 35) then (mI μ (aM 28) v3.toNatClampNeg) else (mI μ tM 35)))) (aM 29) v3.toNatClampNeg ((mI (sI μ (aM 28) v3.toNatClampNeg ((mI μ (aM 28) v3.toNatClampNeg) - (if (mI μ (aM 28) v3.toNatClampNeg) < (mI μ tM 35) then (mI μ (aM 28) v3.toNatClampNeg) else (mI μ tM 35)))) (aM 29) v3.toNatClampNeg) - (((((mI μ (aM 29) v3.toNatClampNeg).toInt64 * (if (mI μ (aM 28) v3.toNatClampNeg) < (mI μ tM 35) then (mI μ (aM 28) v3.toNatClampNeg) else (mI μ tM 35)).toInt64) + (mI μ (aM 28) v3.toNatClampNeg).toInt64) - (1 : Int64)) / (mI μ (aM 28) v3.toNatClampNeg).toInt64).toInt32)) tM 35 ((mI (sI (sI μ (aM 28) v3.toNatClampNeg ((mI μ (aM 28) v3.toNatClampNeg) - (if (mI μ (aM 28) v3.toNatClampNeg) < (mI μ tM 35) then (mI μ (aM 28) v3.toNatClampNeg) else (mI μ tM 35)))) (aM 29) v3.toNatClampNeg ((mI (sI μ (aM 28) v3.toNatClampNeg ((mI μ (aM 28) v3.toNatClampNeg) - (if (mI μ (aM 28) v3.toNatClampNeg) < (mI μ tM 35) then (mI μ (aM 28) v3.toNatClampNeg) else (mI μ tM 35)))) (aM 29) v3.toNatClampNeg) - (((((mI μ (aM 29) v3.toNatClampNeg).toInt64 * (if (mI μ (aM 28) v3.toNatClampNeg) < (mI μ tM 35) then (mI μ (aM 28) v3.toNatClampNeg) else (mI μ tM 35)).toInt64) + (mI μ (aM 28) v3.toNatClampNeg).toInt64) - (1 : Int64)) / (mI μ (aM 28) v3.toNatClampNeg).toInt64).toInt32)) tM 35) - (if (mI μ (aM 28) v3.toNatClampNeg) < (mI μ tM 35) then (mI μ (aM 28) v3.toNatClampNeg) else (mI μ tM 35)))) tM 36) + (((((mI μ (aM 29) v3.toNatClampNeg).toInt64 * (if (mI μ (aM 28) v3.toNatClampNeg) < (mI μ tM 35) then (mI μ (aM 28) v3.toNatClampNeg) else (mI μ tM 35)).toInt64) + (mI μ (aM 28) v3.toNatClampNeg).toInt64) - (1 : Int64)) / (mI μ (aM 28) v3.toNatClampNeg).toInt64).toInt32)) (aM 28) v3.toNatClampNeg) ≤ 0
        · rw [if_pos hc] at h
          obtain ⟨q2, hq2, h⟩ := p_bd h
          exact Sm_trans (Sm_trans (Sm_set (Sm_set (Sm_set (Sm_set (Sm_refl μ) (by decide)) (by decide)) (by decide)) (by decide)) (P_X13_dirtiest (r := q2) hq2)) (ih _ _ _ _ h)
        · rw [if_neg hc] at h
          exact Sm_trans (Sm_set (Sm_set (Sm_set (Sm_set (Sm_refl μ) (by decide)) (by decide)) (by decide)) (by decide)) (P_X13_draws_c139 h)
theorem E_X13_draws_c16 {X : p_X} {d : Nat} {Q : p_R → Prop} : ∀ (n : Nat) (v2 : Int32) (v3 : Int32) (μ : p_M) (r : Int32 × p_M) (w1 : Value) (w4 : Value) (w5 : Value), ShM μ → F_X13_draws_c16 n v2 v3 μ = some r → Q ((0, none), r.2) → p_Ev X (d + 1) M_X13_draws 16 [.ref tM, w1, .int v2, .int v3, w4, w5] [] μ Q := by
  intro n
  induction n with
  | zero => intro v2 v3 μ r w1 w4 w5 hs h hQ; rw [F_X13_draws_c16] at h; cases h
  | succ n ih =>
    intro v2 v3 μ r w1 w4 w5 hs h hQ
    rw [F_X13_draws_c16] at h
    refine e_iload_n dX13_draws_16 rfl ?_
    refine e_if_lt dX13_draws_17 139 (by decide) (fun hc => ?_) (fun hc => ?_)
    · rw [if_pos hc] at h
      exact E_X13_draws_c139 hs h hQ
    · rw [if_neg hc] at h
      refine e_aload_n dX13_draws_20 rfl ?_
      refine e_getI dX13_draws_21 rfl rfl hs.1 hs.2.1 ?_
      refine e_if_le dX13_draws_24 139 (by decide) (fun hc => ?_) (fun hc => ?_)
      · rw [if_pos hc] at h
        exact E_X13_draws_c139 hs h hQ
      · rw [if_neg hc] at h
        refine e_aload_n dX13_draws_27 rfl ?_
        refine e_getI dX13_draws_28 rfl rfl hs.1 hs.2.1 ?_
        refine e_aload_n dX13_draws_31 rfl ?_
        refine e_getR dX13_draws_32 rfl rfl hs.1 hs.2.1 (hs.2.2.2 28 (by decide) rfl).1 ?_
        refine e_iload_n dX13_draws_35 rfl ?_
        obtain ⟨hc, h⟩ := p_ok_some h
        refine e_iald dX13_draws_36 (Nat.lt_trans (hs.2.2.2 28 (by decide) rfl).2.2.2 hs.2.2.1) (hs.2.2.2 28 (by decide) rfl).2.1 (hs.2.2.2 28 (by decide) rfl).2.2.1 (hs.2.2.2 28 (by decide) rfl).2.2.2 hc ?_
        refine e_min dX13_draws_37 rfl (Nat.le_of_ble_eq_true rfl) ?_
        refine e_istore dX13_draws_40 (Nat.le_of_ble_eq_true rfl) rfl ?_
        refine e_aload_n dX13_draws_42 rfl ?_
        refine e_getR dX13_draws_43 rfl rfl hs.1 hs.2.1 (hs.2.2.2 29 (by decide) rfl).1 ?_
        refine e_iload_n dX13_draws_46 rfl ?_
        obtain ⟨hc, h⟩ := p_ok_some h
        refine e_iald dX13_draws_47 (Nat.lt_trans (hs.2.2.2 29 (by decide) rfl).2.2.2 hs.2.2.1) (hs.2.2.2 29 (by decide) rfl).2.1 (hs.2.2.2 29 (by decide) rfl).2.2.1 (hs.2.2.2 29 (by decide) rfl).2.2.2 hc ?_
        refine e_i2l dX13_draws_48 ?_
        refine e_iload dX13_draws_49 rfl ?_
        refine e_i2l dX13_draws_51 ?_
        refine e_lmul dX13_draws_52 ?_
        refine e_aload_n dX13_draws_53 rfl ?_
        refine e_getR dX13_draws_54 rfl rfl hs.1 hs.2.1 (hs.2.2.2 28 (by decide) rfl).1 ?_
        refine e_iload_n dX13_draws_57 rfl ?_
        obtain ⟨hc, h⟩ := p_ok_some h
        refine e_iald dX13_draws_58 (Nat.lt_trans (hs.2.2.2 28 (by decide) rfl).2.2.2 hs.2.2.1) (hs.2.2.2 28 (by decide) rfl).2.1 (hs.2.2.2 28 (by decide) rfl).2.2.1 (hs.2.2.2 28 (by decide) rfl).2.2.2 hc ?_
        refine e_i2l dX13_draws_59 ?_
        refine e_ladd dX13_draws_60 ?_
        refine e_lconst (v := 1) dX13_draws_61 rfl ?_
        refine e_lsub dX13_draws_62 ?_
        refine e_aload_n dX13_draws_63 rfl ?_
        refine e_getR dX13_draws_64 rfl rfl hs.1 hs.2.1 (hs.2.2.2 28 (by decide) rfl).1 ?_
        refine e_iload_n dX13_draws_67 rfl ?_
        obtain ⟨hc, h⟩ := p_ok_some h
        refine e_iald dX13_draws_68 (Nat.lt_trans (hs.2.2.2 28 (by decide) rfl).2.2.2 hs.2.2.1) (hs.2.2.2 28 (by decide) rfl).2.1 (hs.2.2.2 28 (by decide) rfl).2.2.1 (hs.2.2.2 28 (by decide) rfl).2.2.2 hc ?_
        refine e_i2l dX13_draws_69 ?_
        obtain ⟨hc, h⟩ := p_ok_some h
        refine e_ldiv dX13_draws_70 hc ?_
        refine e_l2i dX13_draws_71 ?_
        refine e_istore dX13_draws_72 (Nat.le_of_ble_eq_true rfl) rfl ?_
        refine e_aload_n dX13_draws_74 rfl ?_
        refine e_getR dX13_draws_75 rfl rfl hs.1 hs.2.1 (hs.2.2.2 28 (by decide) rfl).1 ?_
        refine e_iload_n dX13_draws_78 rfl ?_
        refine e_dup2 dX13_draws_79 ?_
        obtain ⟨hc, h⟩ := p_ok_some h
        refine e_iald dX13_draws_80 (Nat.lt_trans (hs.2.2.2 28 (by decide) rfl).2.2.2 hs.2.2.1) (hs.2.2.2 28 (by decide) rfl).2.1 (hs.2.2.2 28 (by decide) rfl).2.2.1 (hs.2.2.2 28 (by decide) rfl).2.2.2 hc ?_
        refine e_iload dX13_draws_81 rfl ?_
        refine e_isub dX13_draws_83 ?_
        obtain ⟨hc, h⟩ := p_ok_some h
        refine e_iast dX13_draws_84 (hs.2.2.2 28 (by decide) rfl).2.1 (hs.2.2.2 28 (by decide) rfl).2.2.1 (hs.2.2.2 28 (by decide) rfl).2.2.2 hc ?_
        refine e_aload_n dX13_draws_85 rfl ?_
        refine e_getR dX13_draws_86 rfl rfl hs.1 hs.2.1 (hs.2.2.2 29 (by decide) rfl).1 ?_
        refine e_iload_n dX13_draws_89 rfl ?_
        refine e_dup2 dX13_draws_90 ?_
        obtain ⟨hc, h⟩ := p_ok_some h
        refine e_iald dX13_draws_91 (Nat.lt_trans (hs.2.2.2 29 (by decide) rfl).2.2.2 hs.2.2.1) (hs.2.2.2 29 (by decide) rfl).2.1 (hs.2.2.2 29 (by decide) rfl).2.2.1 (hs.2.2.2 29 (by decide) rfl).2.2.2 hc ?_
        refine e_iload dX13_draws_92 rfl ?_
        refine e_isub dX13_draws_94 ?_
        obtain ⟨hc, h⟩ := p_ok_some h
        refine e_iast dX13_draws_95 (hs.2.2.2 29 (by decide) rfl).2.1 (hs.2.2.2 29 (by decide) rfl).2.2.1 (hs.2.2.2 29 (by decide) rfl).2.2.2 hc ?_
        refine e_aload_n dX13_draws_96 rfl ?_
        refine e_dupR dX13_draws_97 ?_
        refine e_getI dX13_draws_98 rfl rfl hs.1 hs.2.1 ?_
        refine e_iload dX13_draws_101 rfl ?_
        refine e_isub dX13_draws_103 ?_
        refine e_putI dX13_draws_104 rfl ⟨rfl, rfl, fun h => by cases h⟩ (fun h => by cases h) hs.1 hs.2.1 ?_
        refine e_aload_n dX13_draws_107 rfl ?_
        refine e_dupR dX13_draws_108 ?_
        refine e_getI dX13_draws_109 rfl rfl hs.1 hs.2.1 ?_
        refine e_iload dX13_draws_112 rfl ?_
        refine e_iadd dX13_draws_114 ?_
        refine e_putI dX13_draws_115 rfl ⟨rfl, rfl, fun h => by cases h⟩ (fun h => by cases h) hs.1 hs.2.1 ?_
        refine e_aload_n dX13_draws_118 rfl ?_
        refine e_getR dX13_draws_119 rfl rfl hs.1 hs.2.1 (hs.2.2.2 28 (by decide) rfl).1 ?_
        refine e_iload_n dX13_draws_122 rfl ?_
        obtain ⟨hc, h⟩ := p_ok_some h
        refine e_iald dX13_draws_123 (Nat.lt_trans (hs.2.2.2 28 (by decide) rfl).2.2.2 hs.2.2.1) (hs.2.2.2 28 (by decide) rfl).2.1 (hs.2.2.2 28 (by decide) rfl).2.2.1 (hs.2.2.2 28 (by decide) rfl).2.2.2 hc ?_
        refine e_if_le dX13_draws_124 130 (by decide) (fun hc => ?_) (fun hc => ?_)
        · rw [if_pos hc] at h
          refine e_aload_n dX13_draws_130 rfl ?_
          refine e_iload_n dX13_draws_131 rfl ?_
          obtain ⟨q2, hq2, h⟩ := p_bd h
          refine e_cV dX13_draws_132 rfl rfl ⟨rfl, rfl, by decide⟩ rfl hs.1 hs.2.1 (E_X13_dirtiest hs hq2 ⟨rfl, ?_⟩)
          have hs := ShM_of (P_X13_dirtiest hq2) hs
          show p_Ev X (d + 1) M_X13_draws 135 [.ref tM, w1, .int v2, .int v3, .int (if (mI μ (aM 28) v3.toNatClampNeg) < (mI μ tM 35) then (mI μ (aM 28) v3.toNatClampNeg) else (mI μ tM 35)), .int (((((mI μ (aM 29) v3.toNatClampNeg).toInt64 * (if (mI μ (aM 28) v3.toNatClampNeg) < (mI μ tM 35) then (mI μ (aM 28) v3.toNatClampNeg) else (mI μ tM 35)).toInt64) + (mI μ (aM 28) v3.toNatClampNeg).toInt64) - (1 : Int64)) / (mI μ (aM 28) v3.toNatClampNeg).toInt64).toInt32] [.int q2.1] q2.2 Q
          refine e_istore_n dX13_draws_135 (Nat.le_of_ble_eq_true rfl) rfl ?_
          refine e_goto dX13_draws_136 16 (by decide) ?_
          exact ih _ _ _ _ _ _ _ hs h hQ
        · rw [if_neg hc] at h
          refine e_goto dX13_draws_127 139 (by decide) ?_
          exact E_X13_draws_c139 hs h hQ
def F_X13_draws (v1 : Int32) (v2 : Int32) (μ : p_M) : Option (Int32 × p_M) :=
  (F_X13_dirtiest v2 (sI (sI μ tM 35 v1) tM 36 (0 : Int32))).bind fun q1 =>
  F_X13_draws_c16 p_fu v2 q1.1 q1.2
theorem P_X13_draws {v1 : Int32} {v2 : Int32} {μ : p_M} {r : Int32 × p_M} (h : F_X13_draws v1 v2 μ = some r) : Sm μ r.2 := by
  unfold F_X13_draws at h
  obtain ⟨q1, hq1, h⟩ := p_bd h
  exact Sm_trans (Sm_trans (Sm_set (Sm_set (Sm_refl μ) (by decide)) (by decide)) (P_X13_dirtiest (r := q1) hq1)) (P_X13_draws_c16 p_fu _ _ _ _ h)
theorem E_X13_draws {X : p_X} {d : Nat} {Q : p_R → Prop} {v1 : Int32} {v2 : Int32} {μ : p_M} {r : Int32 × p_M} (hs : ShM μ) (h : F_X13_draws v1 v2 μ = some r) (hQ : Q ((0, none), r.2)) : p_Ev X (d + 1) M_X13_draws 0 [.ref tM, .int v1, .int v2, .double 0, .double 0, .double 0] [] μ Q := by
  unfold F_X13_draws at h
  refine e_aload_n dX13_draws_0 rfl ?_
  refine e_iload_n dX13_draws_1 rfl ?_
  refine e_putI dX13_draws_2 rfl ⟨rfl, rfl, fun h => by cases h⟩ (fun h => by cases h) hs.1 hs.2.1 ?_
  refine e_aload_n dX13_draws_5 rfl ?_
  refine e_iconst (v := (0 : Int32)) dX13_draws_6 rfl ?_
  refine e_putI dX13_draws_7 rfl ⟨rfl, rfl, fun h => by cases h⟩ (fun h => by cases h) hs.1 hs.2.1 ?_
  refine e_aload_n dX13_draws_10 rfl ?_
  refine e_iload_n dX13_draws_11 rfl ?_
  obtain ⟨q1, hq1, h⟩ := p_bd h
  refine e_cV dX13_draws_12 rfl rfl ⟨rfl, rfl, by decide⟩ rfl hs.1 hs.2.1 (E_X13_dirtiest hs hq1 ⟨rfl, ?_⟩)
  have hs := ShM_of (P_X13_dirtiest hq1) hs
  show p_Ev X (d + 1) M_X13_draws 15 [.ref tM, .int v1, .int v2, .double 0, .double 0, .double 0] [.int q1.1] q1.2 Q
  refine e_istore_n dX13_draws_15 (Nat.le_of_ble_eq_true rfl) rfl ?_
  exact E_X13_draws_c16 p_fu _ _ _ _ _ _ _ hs h hQ
