/-! X13_heat -/
def F_X13_heat_c78 (v1 : Int32) (v2 : Int32) (v3 : Int32) (s0 : Int32) (μ : p_M) : Option (Int32 × p_M) :=
  p_ok (¬ (((6 : Int32) * v2) + v1) < 0 ∧ (((6 : Int32) * v2) + v1).toNatClampNeg < 24)
  (p_ok (s0 = 0 ∨ s0 = 1) (some (s0, (sI μ (aM 78) (((6 : Int32) * v2) + v1).toNatClampNeg v3))))
theorem P_X13_heat_c78 {v1 : Int32} {v2 : Int32} {v3 : Int32} {s0 : Int32} {μ : p_M} {r : Int32 × p_M} (h : F_X13_heat_c78 v1 v2 v3 s0 μ = some r) : Sm μ r.2 := by
  unfold F_X13_heat_c78 at h
  obtain ⟨hc, h⟩ := p_ok_some h
  obtain ⟨hc, h⟩ := p_ok_some h
  cases h
  exact (Sm_set (Sm_refl μ) (by decide))
theorem E_X13_heat_c78 {X : p_X} {d : Nat} {Q : p_R → Prop} {v1 : Int32} {v2 : Int32} {v3 : Int32} {s0 : Int32} {w4 : Value} {μ : p_M} {r : Int32 × p_M} (hs : ShM μ) (h : F_X13_heat_c78 v1 v2 v3 s0 μ = some r) (hQ : Q ((0, some (.int r.1)), r.2)) : p_Ev X (d + 1) M_X13_heat 78 [.ref tM, .int v1, .int v2, .int v3, w4] [.int s0] μ Q := by
  unfold F_X13_heat_c78 at h
  refine e_istore dX13_heat_78 (Nat.le_of_ble_eq_true rfl) rfl ?_
  refine e_aload_n dX13_heat_80 rfl ?_
  refine e_getR dX13_heat_81 rfl rfl hs.1 hs.2.1 (hs.2.2.2 78 (by decide) rfl).1 ?_
  refine e_bipush (v := (6 : Int32)) dX13_heat_84 rfl ?_
  refine e_iload_n dX13_heat_86 rfl ?_
  refine e_imul dX13_heat_87 ?_
  refine e_iload_n dX13_heat_88 rfl ?_
  refine e_iadd dX13_heat_89 ?_
  refine e_iload_n dX13_heat_90 rfl ?_
  obtain ⟨hc, h⟩ := p_ok_some h
  refine e_iast dX13_heat_91 (hs.2.2.2 78 (by decide) rfl).2.1 (hs.2.2.2 78 (by decide) rfl).2.2.1 (hs.2.2.2 78 (by decide) rfl).2.2.2 hc ?_
  refine e_iload dX13_heat_92 rfl ?_
  obtain ⟨hc, h⟩ := p_ok_some h
  cases h
  exact e_iretz dX13_heat_94 rfl hc hQ
def F_X13_heat_c49 (v1 : Int32) (v2 : Int32) (v3 : Int32) (s0 : Int32) (μ : p_M) : Option (Int32 × p_M) :=
  (F_X13_throwsIf s0 (1 : Int32) μ).bind fun q4 =>
  if q4.1 = 0
  then (p_ok (¬ (((6 : Int32) * v2) + v1) < 0 ∧ (((6 : Int32) * v2) + v1).toNatClampNeg < 24)
    (if (mI q4.2 (aM 78) (((6 : Int32) * v2) + v1).toNatClampNeg) = v3
    then (F_X13_heat_c78 v1 v2 v3 (0 : Int32) q4.2)
    else (F_X13_heat_c78 v1 v2 v3 (1 : Int32) q4.2)))
  else (some ((0 : Int32), q4.2))
theorem P_X13_heat_c49 {v1 : Int32} {v2 : Int32} {v3 : Int32} {s0 : Int32} {μ : p_M} {r : Int32 × p_M} (h : F_X13_heat_c49 v1 v2 v3 s0 μ = some r) : Sm μ r.2 := by
  unfold F_X13_heat_c49 at h
  obtain ⟨q4, hq4, h⟩ := p_bd h
  by_cases hc : q4.1 = 0
  · rw [if_pos hc] at h
    obtain ⟨hc, h⟩ := p_ok_some h
    by_cases hc : (mI q4.2 (aM 78) (((6 : Int32) * v2) + v1).toNatClampNeg) = v3
    · rw [if_pos hc] at h
      exact Sm_trans (Sm_trans (Sm_refl μ) (P_X13_throwsIf (r := q4) hq4)) (P_X13_heat_c78 h)
    · rw [if_neg hc] at h
      exact Sm_trans (Sm_trans (Sm_refl μ) (P_X13_throwsIf (r := q4) hq4)) (P_X13_heat_c78 h)
  · rw [if_neg hc] at h
    cases h
    exact (Sm_trans (Sm_refl μ) (P_X13_throwsIf (r := q4) hq4))
theorem E_X13_heat_c49 {X : p_X} {d : Nat} {Q : p_R → Prop} {v1 : Int32} {v2 : Int32} {v3 : Int32} {s0 : Int32} {w4 : Value} {μ : p_M} {r : Int32 × p_M} (hs : ShM μ) (h : F_X13_heat_c49 v1 v2 v3 s0 μ = some r) (hQ : Q ((0, some (.int r.1)), r.2)) : p_Ev X (d + 1) M_X13_heat 49 [.ref tM, .int v1, .int v2, .int v3, w4] [.int s0, .ref tM] μ Q := by
  unfold F_X13_heat_c49 at h
  refine e_iconst (v := (1 : Int32)) dX13_heat_49 rfl ?_
  obtain ⟨q4, hq4, h⟩ := p_bd h
  refine e_cV dX13_heat_50 rfl rfl ⟨rfl, rfl, by decide⟩ rfl hs.1 hs.2.1 (E_X13_throwsIf hs hq4 ⟨rfl, ?_⟩)
  have hs := ShM_of (P_X13_throwsIf hq4) hs
  show p_Ev X (d + 1) M_X13_heat 53 [.ref tM, .int v1, .int v2, .int v3, w4] [.int q4.1] q4.2 Q
  refine e_if_eq dX13_heat_53 58 (by decide) (fun hc => ?_) (fun hc => ?_)
  · rw [if_pos hc] at h
    refine e_aload_n dX13_heat_58 rfl ?_
    refine e_getR dX13_heat_59 rfl rfl hs.1 hs.2.1 (hs.2.2.2 78 (by decide) rfl).1 ?_
    refine e_bipush (v := (6 : Int32)) dX13_heat_62 rfl ?_
    refine e_iload_n dX13_heat_64 rfl ?_
    refine e_imul dX13_heat_65 ?_
    refine e_iload_n dX13_heat_66 rfl ?_
    refine e_iadd dX13_heat_67 ?_
    obtain ⟨hc, h⟩ := p_ok_some h
    refine e_iald dX13_heat_68 (Nat.lt_trans (hs.2.2.2 78 (by decide) rfl).2.2.2 hs.2.2.1) (hs.2.2.2 78 (by decide) rfl).2.1 (hs.2.2.2 78 (by decide) rfl).2.2.1 (hs.2.2.2 78 (by decide) rfl).2.2.2 hc ?_
    refine e_iload_n dX13_heat_69 rfl ?_
    refine e_ic_eq dX13_heat_70 77 (by decide) (fun hc => ?_) (fun hc => ?_)
    · rw [if_pos hc] at h
      refine e_iconst (v := (0 : Int32)) dX13_heat_77 rfl ?_
      exact E_X13_heat_c78 hs h hQ
    · rw [if_neg hc] at h
      refine e_iconst (v := (1 : Int32)) dX13_heat_73 rfl ?_
      refine e_goto dX13_heat_74 78 (by decide) ?_
      exact E_X13_heat_c78 hs h hQ
  · rw [if_neg hc] at h
    refine e_iconst (v := (0 : Int32)) dX13_heat_56 rfl ?_
    cases h
    exact e_iretz dX13_heat_57 rfl (by decide) hQ
def F_X13_heat_c44 (v1 : Int32) (v2 : Int32) (v3 : Int32) (μ : p_M) : Option (Int32 × p_M) :=
  F_X13_heat_c49 v1 v2 v3 (1 : Int32) μ
theorem P_X13_heat_c44 {v1 : Int32} {v2 : Int32} {v3 : Int32} {μ : p_M} {r : Int32 × p_M} (h : F_X13_heat_c44 v1 v2 v3 μ = some r) : Sm μ r.2 := by
  unfold F_X13_heat_c44 at h
  exact Sm_trans (Sm_refl μ) (P_X13_heat_c49 h)
theorem E_X13_heat_c44 {X : p_X} {d : Nat} {Q : p_R → Prop} {v1 : Int32} {v2 : Int32} {v3 : Int32} {w4 : Value} {μ : p_M} {r : Int32 × p_M} (hs : ShM μ) (h : F_X13_heat_c44 v1 v2 v3 μ = some r) (hQ : Q ((0, some (.int r.1)), r.2)) : p_Ev X (d + 1) M_X13_heat 44 [.ref tM, .int v1, .int v2, .int v3, w4] [.ref tM] μ Q := by
  unfold F_X13_heat_c44 at h
  refine e_iconst (v := (1 : Int32)) dX13_heat_44 rfl ?_
  refine e_goto dX13_heat_45 49 (by decide) ?_
  exact E_X13_heat_c49 hs h hQ
def F_X13_heat (v1 : Int32) (v2 : Int32) (v3 : Int32) (μ : p_M) : Option (Int32 × p_M) :=
  (F_X13_in v1 (0 : Int32) ((mI (sI μ tM 0 (0 : Int32)) tM 76) - (1 : Int32)) (sI μ tM 0 (0 : Int32))).bind fun q1 =>
  if q1.1 = 0
  then (F_X13_heat_c44 v1 v2 v3 q1.2)
  else ((F_X13_in v2 (0 : Int32) ((mI q1.2 tM 77) - (1 : Int32)) q1.2).bind fun q2 =>
    if q2.1 = 0
    then (F_X13_heat_c44 v1 v2 v3 q2.2)
    else ((F_X13_in v3 (0 : Int32) (9 : Int32) q2.2).bind fun q3 =>
      if ¬ q3.1 = 0
      then (F_X13_heat_c49 v1 v2 v3 (0 : Int32) q3.2)
      else (F_X13_heat_c44 v1 v2 v3 q3.2)))
theorem P_X13_heat {v1 : Int32} {v2 : Int32} {v3 : Int32} {μ : p_M} {r : Int32 × p_M} (h : F_X13_heat v1 v2 v3 μ = some r) : Sm μ r.2 := by
  unfold F_X13_heat at h
  obtain ⟨q1, hq1, h⟩ := p_bd h
  by_cases hc : q1.1 = 0
  · rw [if_pos hc] at h
    exact Sm_trans (Sm_trans (Sm_set (Sm_refl μ) (by decide)) (P_X13_in (r := q1) hq1)) (P_X13_heat_c44 h)
  · rw [if_neg hc] at h
    obtain ⟨q2, hq2, h⟩ := p_bd h
    by_cases hc : q2.1 = 0
    · rw [if_pos hc] at h
      exact Sm_trans (Sm_trans (Sm_trans (Sm_set (Sm_refl μ) (by decide)) (P_X13_in (r := q1) hq1)) (P_X13_in (r := q2) hq2)) (P_X13_heat_c44 h)
    · rw [if_neg hc] at h
      obtain ⟨q3, hq3, h⟩ := p_bd h
      by_cases hc : ¬ q3.1 = 0
      · rw [if_pos hc] at h
        exact Sm_trans (Sm_trans (Sm_trans (Sm_trans (Sm_set (Sm_refl μ) (by decide)) (P_X13_in (r := q1) hq1)) (P_X13_in (r := q2) hq2)) (P_X13_in (r := q3) hq3)) (P_X13_heat_c49 h)
      · rw [if_neg hc] at h
        exact Sm_trans (Sm_trans (Sm_trans (Sm_trans (Sm_set (Sm_refl μ) (by decide)) (P_X13_in (r := q1) hq1)) (P_X13_in (r := q2) hq2)) (P_X13_in (r := q3) hq3)) (P_X13_heat_c44 h)
theorem E_X13_heat {X : p_X} {d : Nat} {Q : p_R → Prop} {v1 : Int32} {v2 : Int32} {v3 : Int32} {μ : p_M} {r : Int32 × p_M} (hs : ShM μ) (h : F_X13_heat v1 v2 v3 μ = some r) (hQ : Q ((0, some (.int r.1)), r.2)) : p_Ev X (d + 1) M_X13_heat 0 [.ref tM, .int v1, .int v2, .int v3, .double 0] [] μ Q := by
  unfold F_X13_heat at h
  refine e_aload_n dX13_heat_0 rfl ?_
  refine e_iconst (v := (0 : Int32)) dX13_heat_1 rfl ?_
  refine e_putI dX13_heat_2 rfl ⟨rfl, rfl, fun h => by cases h⟩ (fun h => by cases h) hs.1 hs.2.1 ?_
  refine e_aload_n dX13_heat_5 rfl ?_
  refine e_iload_n dX13_heat_6 rfl ?_
  refine e_iconst (v := (0 : Int32)) dX13_heat_7 rfl ?_
  refine e_aload_n dX13_heat_8 rfl ?_
  refine e_getI dX13_heat_9 rfl rfl hs.1 hs.2.1 ?_
  refine e_iconst (v := (1 : Int32)) dX13_heat_12 rfl ?_
  refine e_isub dX13_heat_13 ?_
  obtain ⟨q1, hq1, h⟩ := p_bd h
  refine e_cS dX13_heat_14 rfl rfl rfl rfl (E_X13_in hs hq1 ⟨rfl, ?_⟩)
  have hs := ShM_of (P_X13_in hq1) hs
  show p_Ev X (d + 1) M_X13_heat 17 [.ref tM, .int v1, .int v2, .int v3, .double 0] [.int q1.1, .ref tM] q1.2 Q
  refine e_if_eq dX13_heat_17 44 (by decide) (fun hc => ?_) (fun hc => ?_)
  · rw [if_pos hc] at h
    exact E_X13_heat_c44 hs h hQ
  · rw [if_neg hc] at h
    refine e_iload_n dX13_heat_20 rfl ?_
    refine e_iconst (v := (0 : Int32)) dX13_heat_21 rfl ?_
    refine e_aload_n dX13_heat_22 rfl ?_
    refine e_getI dX13_heat_23 rfl rfl hs.1 hs.2.1 ?_
    refine e_iconst (v := (1 : Int32)) dX13_heat_26 rfl ?_
    refine e_isub dX13_heat_27 ?_
    obtain ⟨q2, hq2, h⟩ := p_bd h
    refine e_cS dX13_heat_28 rfl rfl rfl rfl (E_X13_in hs hq2 ⟨rfl, ?_⟩)
    have hs := ShM_of (P_X13_in hq2) hs
    show p_Ev X (d + 1) M_X13_heat 31 [.ref tM, .int v1, .int v2, .int v3, .double 0] [.int q2.1, .ref tM] q2.2 Q
    refine e_if_eq dX13_heat_31 44 (by decide) (fun hc => ?_) (fun hc => ?_)
    · rw [if_pos hc] at h
      exact E_X13_heat_c44 hs h hQ
    · rw [if_neg hc] at h
      refine e_iload_n dX13_heat_34 rfl ?_
      refine e_iconst (v := (0 : Int32)) dX13_heat_35 rfl ?_
      refine e_bipush (v := (9 : Int32)) dX13_heat_36 rfl ?_
      obtain ⟨q3, hq3, h⟩ := p_bd h
      refine e_cS dX13_heat_38 rfl rfl rfl rfl (E_X13_in hs hq3 ⟨rfl, ?_⟩)
      have hs := ShM_of (P_X13_in hq3) hs
      show p_Ev X (d + 1) M_X13_heat 41 [.ref tM, .int v1, .int v2, .int v3, .double 0] [.int q3.1, .ref tM] q3.2 Q
      refine e_if_ne dX13_heat_41 48 (by decide) (fun hc => ?_) (fun hc => ?_)
      · rw [if_pos hc] at h
        refine e_iconst (v := (0 : Int32)) dX13_heat_48 rfl ?_
        exact E_X13_heat_c49 hs h hQ
      · rw [if_neg hc] at h
        exact E_X13_heat_c44 hs h hQ
/-! X13_word -/
def F_X13_word_c4 : Nat → p_M → Option (Int32 × p_M)
  | 0, _ => none
  | n + 1, μ =>
    (F_X13_isAt (97 : Int32) (122 : Int32) μ).bind fun q2 =>
    if q2.1 = 0
    then (some (0, q2.2))
    else (F_X13_word_c4 n (sI q2.2 tM 3 ((mI q2.2 tM 3) + (1 : Int32))))
theorem P_X13_word_c4 : ∀ (n : Nat) (μ : p_M) (r : Int32 × p_M), F_X13_word_c4 n μ = some r → Sm μ r.2 := by
  intro n
  induction n with
  | zero => intro μ r h; rw [F_X13_word_c4] at h; cases h
  | succ n ih =>
    intro μ r h
    rw [F_X13_word_c4] at h
    obtain ⟨q2, hq2, h⟩ := p_bd h
    by_cases hc : q2.1 = 0
    · rw [if_pos hc] at h
      cases h
      exact (Sm_trans (Sm_refl μ) (P_X13_isAt (r := q2) hq2))
    · rw [if_neg hc] at h
      exact Sm_trans (Sm_set (Sm_trans (Sm_refl μ) (P_X13_isAt (r := q2) hq2)) (by decide)) (ih _ _ h)
theorem E_X13_word_c4 {X : p_X} {d : Nat} {Q : p_R → Prop} : ∀ (n : Nat) (μ : p_M) (r : Int32 × p_M), ShM μ → F_X13_word_c4 n μ = some r → Q ((0, none), r.2) → p_Ev X (d + 2) M_X13_word 4 [.ref tM] [] μ Q := by
  intro n
  induction n with
  | zero => intro μ r hs h hQ; rw [F_X13_word_c4] at h; cases h
  | succ n ih =>
    intro μ r hs h hQ
    rw [F_X13_word_c4] at h
    refine e_aload_n dX13_word_4 rfl ?_
    refine e_bipush (v := (97 : Int32)) dX13_word_5 rfl ?_
    refine e_bipush (v := (122 : Int32)) dX13_word_7 rfl ?_
    obtain ⟨q2, hq2, h⟩ := p_bd h
    refine e_cV dX13_word_9 rfl rfl ⟨rfl, rfl, by decide⟩ rfl hs.1 hs.2.1 (E_X13_isAt hs hq2 ⟨rfl, ?_⟩)
    have hs := ShM_of (P_X13_isAt hq2) hs
    show p_Ev X (d + 2) M_X13_word 12 [.ref tM] [.int q2.1] q2.2 Q
    refine e_if_eq dX13_word_12 28 (by decide) (fun hc => ?_) (fun hc => ?_)
    · rw [if_pos hc] at h
      cases h
      exact e_vret dX13_word_28 rfl hQ
    · rw [if_neg hc] at h
      refine e_aload_n dX13_word_15 rfl ?_
      refine e_dupR dX13_word_16 ?_
      refine e_getI dX13_word_17 rfl rfl hs.1 hs.2.1 ?_
      refine e_iconst (v := (1 : Int32)) dX13_word_20 rfl ?_
      refine e_iadd dX13_word_21 ?_
      refine e_putI dX13_word_22 rfl ⟨rfl, rfl, fun h => by cases h⟩ (fun h => by cases h) hs.1 hs.2.1 ?_
      refine e_goto dX13_word_25 4 (by decide) ?_
      exact ih _ _ hs h hQ
def F_X13_word (μ : p_M) : Option (Int32 × p_M) :=
  (F_X13_blanks μ).bind fun q1 =>
  F_X13_word_c4 p_fu q1.2
theorem P_X13_word {μ : p_M} {r : Int32 × p_M} (h : F_X13_word μ = some r) : Sm μ r.2 := by
  unfold F_X13_word at h
  obtain ⟨q1, hq1, h⟩ := p_bd h
  exact Sm_trans (Sm_trans (Sm_refl μ) (P_X13_blanks (r := q1) hq1)) (P_X13_word_c4 p_fu _ _ h)
theorem E_X13_word {X : p_X} {d : Nat} {Q : p_R → Prop} {μ : p_M} {r : Int32 × p_M} (hs : ShM μ) (h : F_X13_word μ = some r) (hQ : Q ((0, none), r.2)) : p_Ev X (d + 2) M_X13_word 0 [.ref tM] [] μ Q := by
  unfold F_X13_word at h
  refine e_aload_n dX13_word_0 rfl ?_
  obtain ⟨q1, hq1, h⟩ := p_bd h
  refine e_cV dX13_word_1 rfl rfl ⟨rfl, rfl, by decide⟩ rfl hs.1 hs.2.1 (E_X13_blanks hs hq1 ⟨rfl, ?_⟩)
  have hs := ShM_of (P_X13_blanks hq1) hs
  show p_Ev X (d + 2) M_X13_word 4 [.ref tM] [] q1.2 Q
  exact E_X13_word_c4 p_fu _ _ hs h hQ
/-! X13_readBath -/
def F_X13_readBath (μ : p_M) : Option (Int32 × p_M) :=
  (F_X13_word μ).bind fun q1 =>
  (F_X13_bathOf q1.2).bind fun q2 =>
  some (q2.1, q2.2)
theorem P_X13_readBath {μ : p_M} {r : Int32 × p_M} (h : F_X13_readBath μ = some r) : Sm μ r.2 := by
  unfold F_X13_readBath at h
  obtain ⟨q1, hq1, h⟩ := p_bd h
  obtain ⟨q2, hq2, h⟩ := p_bd h
  cases h
  exact (Sm_trans (Sm_trans (Sm_refl μ) (P_X13_word (r := q1) hq1)) (P_X13_bathOf (r := q2) hq2))
theorem E_X13_readBath {X : p_X} {d : Nat} {Q : p_R → Prop} {μ : p_M} {r : Int32 × p_M} (hs : ShM μ) (h : F_X13_readBath μ = some r) (hQ : Q ((0, some (.int r.1)), r.2)) : p_Ev X (d + 3) M_X13_readBath 0 [.ref tM] [] μ Q := by
  unfold F_X13_readBath at h
  refine e_aload_n dX13_readBath_0 rfl ?_
  obtain ⟨q1, hq1, h⟩ := p_bd h
  refine e_cV dX13_readBath_1 rfl rfl ⟨rfl, rfl, by decide⟩ rfl hs.1 hs.2.1 (E_X13_word hs hq1 ⟨rfl, ?_⟩)
  have hs := ShM_of (P_X13_word hq1) hs
  show p_Ev X (d + 3) M_X13_readBath 4 [.ref tM] [] q1.2 Q
  refine e_aload_n dX13_readBath_4 rfl ?_
  obtain ⟨q2, hq2, h⟩ := p_bd h
  refine e_cV dX13_readBath_5 rfl rfl ⟨rfl, rfl, by decide⟩ rfl hs.1 hs.2.1 (E_X13_bathOf hs hq2 ⟨rfl, ?_⟩)
  have hs := ShM_of (P_X13_bathOf hq2) hs
  show p_Ev X (d + 3) M_X13_readBath 8 [.ref tM] [.int q2.1] q2.2 Q
  cases h
  exact e_ireti dX13_readBath_8 rfl hQ
/-! X13_number -/
def F_X13_number_c54 (K7 : Int32 → Int32 → Int32 → Int32 → p_M → Option (Int32 × p_M)) (v1 : Int32) (v2 : Int32) (v3 : Int32) (s0 : Int32) (μ : p_M) : Option (Int32 × p_M) :=
  K7 v1 v2 v3 s0 (sI μ tM 3 ((mI μ tM 3) + (1 : Int32)))
theorem P_X13_number_c54 {K7 : Int32 → Int32 → Int32 → Int32 → p_M → Option (Int32 × p_M)} (hP7 : ∀ (v1 : Int32) (v2 : Int32) (v3 : Int32) (v4 : Int32) (μ : p_M) (r : Int32 × p_M), K7 v1 v2 v3 v4 μ = some r → Sm μ r.2) {v1 : Int32} {v2 : Int32} {v3 : Int32} {s0 : Int32} {μ : p_M} {r : Int32 × p_M} (h : F_X13_number_c54 K7 v1 v2 v3 s0 μ = some r) : Sm μ r.2 := by
  unfold F_X13_number_c54 at h
  exact Sm_trans (Sm_set (Sm_refl μ) (by decide)) (hP7 _ _ _ _ _ _ h)
theorem E_X13_number_c54 {X : p_X} {d : Nat} {Q : p_R → Prop} {K7 : Int32 → Int32 → Int32 → Int32 → p_M → Option (Int32 × p_M)} (hK7 : ∀ (v1 : Int32) (v2 : Int32) (v3 : Int32) (v4 : Int32) (μ : p_M) (r : Int32 × p_M), ShM μ → K7 v1 v2 v3 v4 μ = some r → Q ((0, some (.int r.1)), r.2) → p_Ev X (d + 2) M_X13_number 7 [.ref tM, .int v1, .int v2, .int v3, .int v4] [] μ Q) {v1 : Int32} {v2 : Int32} {v3 : Int32} {s0 : Int32} {w4 : Value} {μ : p_M} {r : Int32 × p_M} (hs : ShM μ) (h : F_X13_number_c54 K7 v1 v2 v3 s0 μ = some r) (hQ : Q ((0, some (.int r.1)), r.2)) : p_Ev X (d + 2) M_X13_number 54 [.ref tM, .int v1, .int v2, .int v3, w4] [.int s0] μ Q := by
  unfold F_X13_number_c54 at h
  refine e_istore dX13_number_54 (Nat.le_of_ble_eq_true rfl) rfl ?_
  refine e_aload_n dX13_number_56 rfl ?_
  refine e_dupR dX13_number_57 ?_
  refine e_getI dX13_number_58 rfl rfl hs.1 hs.2.1 ?_
  refine e_iconst (v := (1 : Int32)) dX13_number_61 rfl ?_
  refine e_iadd dX13_number_62 ?_
  refine e_putI dX13_number_63 rfl ⟨rfl, rfl, fun h => by cases h⟩ (fun h => by cases h) hs.1 hs.2.1 ?_
  refine e_goto dX13_number_66 7 (by decide) ?_
  exact hK7 _ _ _ _ _ _ hs h hQ
def F_X13_number_c111 (s0 : Int32) (μ : p_M) : Option (Int32 × p_M) :=
  some (s0, μ)
theorem P_X13_number_c111 {s0 : Int32} {μ : p_M} {r : Int32 × p_M} (h : F_X13_number_c111 s0 μ = some r) : Sm μ r.2 := by
  unfold F_X13_number_c111 at h
  cases h
  exact (Sm_refl μ)
theorem E_X13_number_c111 {X : p_X} {d : Nat} {Q : p_R → Prop} {s0 : Int32} {w0 : Value} {w1 : Value} {w2 : Value} {w3 : Value} {w4 : Value} {μ : p_M} {r : Int32 × p_M} (hs : ShM μ) (h : F_X13_number_c111 s0 μ = some r) (hQ : Q ((0, some (.int r.1)), r.2)) : p_Ev X (d + 2) M_X13_number 111 [w0, w1, w2, w3, w4] [.int s0] μ Q := by
  unfold F_X13_number_c111 at h
  cases h
  exact e_ireti dX13_number_111 rfl hQ
def F_X13_number_c105 (μ : p_M) : Option (Int32 × p_M) :=
  F_X13_number_c111 (-1) μ
theorem P_X13_number_c105 {μ : p_M} {r : Int32 × p_M} (h : F_X13_number_c105 μ = some r) : Sm μ r.2 := by
  unfold F_X13_number_c105 at h
  exact Sm_trans (Sm_refl μ) (P_X13_number_c111 h)
theorem E_X13_number_c105 {X : p_X} {d : Nat} {Q : p_R → Prop} {w0 : Value} {w1 : Value} {w2 : Value} {w3 : Value} {w4 : Value} {μ : p_M} {r : Int32 × p_M} (hs : ShM μ) (h : F_X13_number_c105 μ = some r) (hQ : Q ((0, some (.int r.1)), r.2)) : p_Ev X (d + 2) M_X13_number 105 [w0, w1, w2, w3, w4] [] μ Q := by
  unfold F_X13_number_c105 at h
  refine e_iconst (v := (-1)) dX13_number_105 rfl ?_
  refine e_goto dX13_number_106 111 (by decide) ?_
  exact E_X13_number_c111 hs h hQ
def F_X13_number_c7 : Nat → Int32 → Int32 → Int32 → Int32 → p_M → Option (Int32 × p_M)
  | 0, _, _, _, _, _ => none
  | n + 1, v1, v2, v3, v4, μ =>
    (F_X13_isAt (48 : Int32) (57 : Int32) μ).bind fun q2 =>
    if q2.1 = 0
    then (if (mI q2.2 tM 3) = (mI q2.2 tM 5)
      then (F_X13_number_c105 q2.2)
      else (if v1 < ((mI q2.2 tM 3) - (mI q2.2 tM 5))
        then (F_X13_number_c105 q2.2)
        else (if v4 < v2
          then (F_X13_number_c105 q2.2)
          else (if v4 ≤ v3
            then (F_X13_number_c111 v4 q2.2)
            else (F_X13_number_c105 q2.2)))))
    else (if v1 ≤ ((mI q2.2 tM 3) - (mI q2.2 tM 5))
      then (F_X13_number_c54 (F_X13_number_c7 n) v1 v2 v3 v4 q2.2)
      else (p_ok (¬ (mI q2.2 tM 3) < 0 ∧ (mI q2.2 tM 3).toNatClampNeg < 400)
        (F_X13_number_c54 (F_X13_number_c7 n) v1 v2 v3 ((((10 : Int32) * v4) + (mI q2.2 (aM 1) (mI q2.2 tM 3).toNatClampNeg)) - (48 : Int32)) q2.2)))
theorem P_X13_number_c7 : ∀ (n : Nat) (v1 : Int32) (v2 : Int32) (v3 : Int32) (v4 : Int32) (μ : p_M) (r : Int32 × p_M), F_X13_number_c7 n v1 v2 v3 v4 μ = some r → Sm μ r.2 := by
  intro n
  induction n with
  | zero => intro v1 v2 v3 v4 μ r h; rw [F_X13_number_c7] at h; cases h
  | succ n ih =>
    intro v1 v2 v3 v4 μ r h
    rw [F_X13_number_c7] at h
    obtain ⟨q2, hq2, h⟩ := p_bd h
    by_cases hc : q2.1 = 0
    · rw [if_pos hc] at h
      by_cases hc : (mI q2.2 tM 3) = (mI q2.2 tM 5)
      · rw [if_pos hc] at h
        exact Sm_trans (Sm_trans (Sm_refl μ) (P_X13_isAt (r := q2) hq2)) (P_X13_number_c105 h)
      · rw [if_neg hc] at h
        by_cases hc : v1 < ((mI q2.2 tM 3) - (mI q2.2 tM 5))
        · rw [if_pos hc] at h
          exact Sm_trans (Sm_trans (Sm_refl μ) (P_X13_isAt (r := q2) hq2)) (P_X13_number_c105 h)
        · rw [if_neg hc] at h
          by_cases hc : v4 < v2
          · rw [if_pos hc] at h
            exact Sm_trans (Sm_trans (Sm_refl μ) (P_X13_isAt (r := q2) hq2)) (P_X13_number_c105 h)
          · rw [if_neg hc] at h
            by_cases hc : v4 ≤ v3
            · rw [if_pos hc] at h
              exact Sm_trans (Sm_trans (Sm_refl μ) (P_X13_isAt (r := q2) hq2)) (P_X13_number_c111 h)
            · rw [if_neg hc] at h
              exact Sm_trans (Sm_trans (Sm_refl μ) (P_X13_isAt (r := q2) hq2)) (P_X13_number_c105 h)
    · rw [if_neg hc] at h
      by_cases hc : v1 ≤ ((mI q2.2 tM 3) - (mI q2.2 tM 5))
      · rw [if_pos hc] at h
        exact Sm_trans (Sm_trans (Sm_refl μ) (P_X13_isAt (r := q2) hq2)) (P_X13_number_c54 ih h)
      · rw [if_neg hc] at h
        obtain ⟨hc, h⟩ := p_ok_some h
        exact Sm_trans (Sm_trans (Sm_refl μ) (P_X13_isAt (r := q2) hq2)) (P_X13_number_c54 ih h)
theorem E_X13_number_c7 {X : p_X} {d : Nat} {Q : p_R → Prop} : ∀ (n : Nat) (v1 : Int32) (v2 : Int32) (v3 : Int32) (v4 : Int32) (μ : p_M) (r : Int32 × p_M), ShM μ → F_X13_number_c7 n v1 v2 v3 v4 μ = some r → Q ((0, some (.int r.1)), r.2) → p_Ev X (d + 2) M_X13_number 7 [.ref tM, .int v1, .int v2, .int v3, .int v4] [] μ Q := by
  intro n
  induction n with
  | zero => intro v1 v2 v3 v4 μ r hs h hQ; rw [F_X13_number_c7] at h; cases h
  | succ n ih =>
    intro v1 v2 v3 v4 μ r hs h hQ
    rw [F_X13_number_c7] at h
    refine e_aload_n dX13_number_7 rfl ?_
    refine e_bipush (v := (48 : Int32)) dX13_number_8 rfl ?_
    refine e_bipush (v := (57 : Int32)) dX13_number_10 rfl ?_
    obtain ⟨q2, hq2, h⟩ := p_bd h
    refine e_cV dX13_number_12 rfl rfl ⟨rfl, rfl, by decide⟩ rfl hs.1 hs.2.1 (E_X13_isAt hs hq2 ⟨rfl, ?_⟩)
    have hs := ShM_of (P_X13_isAt hq2) hs
    show p_Ev X (d + 2) M_X13_number 15 [.ref tM, .int v1, .int v2, .int v3, .int v4] [.int q2.1] q2.2 Q
    refine e_if_eq dX13_number_15 69 (by decide) (fun hc => ?_) (fun hc => ?_)
    · rw [if_pos hc] at h
      refine e_aload_n dX13_number_69 rfl ?_
      refine e_getI dX13_number_70 rfl rfl hs.1 hs.2.1 ?_
      refine e_aload_n dX13_number_73 rfl ?_
      refine e_getI dX13_number_74 rfl rfl hs.1 hs.2.1 ?_
      refine e_ic_eq dX13_number_77 105 (by decide) (fun hc => ?_) (fun hc => ?_)
      · rw [if_pos hc] at h
        exact E_X13_number_c105 hs h hQ
      · rw [if_neg hc] at h
        refine e_aload_n dX13_number_80 rfl ?_
        refine e_getI dX13_number_81 rfl rfl hs.1 hs.2.1 ?_
        refine e_aload_n dX13_number_84 rfl ?_
        refine e_getI dX13_number_85 rfl rfl hs.1 hs.2.1 ?_
        refine e_isub dX13_number_88 ?_
        refine e_iload_n dX13_number_89 rfl ?_
        refine e_ic_gt dX13_number_90 105 (by decide) (fun hc => ?_) (fun hc => ?_)
        · rw [if_pos hc] at h
          exact E_X13_number_c105 hs h hQ
        · rw [if_neg hc] at h
          refine e_iload dX13_number_93 rfl ?_
          refine e_iload_n dX13_number_95 rfl ?_
          refine e_ic_lt dX13_number_96 105 (by decide) (fun hc => ?_) (fun hc => ?_)
          · rw [if_pos hc] at h
            exact E_X13_number_c105 hs h hQ
          · rw [if_neg hc] at h
            refine e_iload dX13_number_99 rfl ?_
            refine e_iload_n dX13_number_101 rfl ?_
            refine e_ic_le dX13_number_102 109 (by decide) (fun hc => ?_) (fun hc => ?_)
            · rw [if_pos hc] at h
              refine e_iload dX13_number_109 rfl ?_
              exact E_X13_number_c111 hs h hQ
            · rw [if_neg hc] at h
              exact E_X13_number_c105 hs h hQ
    · rw [if_neg hc] at h
      refine e_aload_n dX13_number_18 rfl ?_
      refine e_getI dX13_number_19 rfl rfl hs.1 hs.2.1 ?_
      refine e_aload_n dX13_number_22 rfl ?_
      refine e_getI dX13_number_23 rfl rfl hs.1 hs.2.1 ?_
      refine e_isub dX13_number_26 ?_
      refine e_iload_n dX13_number_27 rfl ?_
      refine e_ic_ge dX13_number_28 52 (by decide) (fun hc => ?_) (fun hc => ?_)
      · rw [if_pos hc] at h
        refine e_iload dX13_number_52 rfl ?_
        exact E_X13_number_c54 ih hs h hQ
      · rw [if_neg hc] at h
        refine e_bipush (v := (10 : Int32)) dX13_number_31 rfl ?_
        refine e_iload dX13_number_33 rfl ?_
        refine e_imul dX13_number_35 ?_
        refine e_aload_n dX13_number_36 rfl ?_
        refine e_getR dX13_number_37 rfl rfl hs.1 hs.2.1 (hs.2.2.2 1 (by decide) rfl).1 ?_
        refine e_aload_n dX13_number_40 rfl ?_
        refine e_getI dX13_number_41 rfl rfl hs.1 hs.2.1 ?_
        obtain ⟨hc, h⟩ := p_ok_some h
        refine e_bald dX13_number_44 (Nat.lt_trans (hs.2.2.2 1 (by decide) rfl).2.2.2 hs.2.2.1) (hs.2.2.2 1 (by decide) rfl).2.1 (hs.2.2.2 1 (by decide) rfl).2.2.1 (hs.2.2.2 1 (by decide) rfl).2.2.2 hc ?_
        refine e_iadd dX13_number_45 ?_
        refine e_bipush (v := (48 : Int32)) dX13_number_46 rfl ?_
        refine e_isub dX13_number_48 ?_
        refine e_goto dX13_number_49 54 (by decide) ?_
        exact E_X13_number_c54 ih hs h hQ
def F_X13_number (v1 : Int32) (v2 : Int32) (v3 : Int32) (μ : p_M) : Option (Int32 × p_M) :=
  (F_X13_blanks μ).bind fun q1 =>
  F_X13_number_c7 p_fu v1 v2 v3 (0 : Int32) q1.2
theorem P_X13_number {v1 : Int32} {v2 : Int32} {v3 : Int32} {μ : p_M} {r : Int32 × p_M} (h : F_X13_number v1 v2 v3 μ = some r) : Sm μ r.2 := by
  unfold F_X13_number at h
  obtain ⟨q1, hq1, h⟩ := p_bd h
  exact Sm_trans (Sm_trans (Sm_refl μ) (P_X13_blanks (r := q1) hq1)) (P_X13_number_c7 p_fu _ _ _ _ _ _ h)
theorem E_X13_number {X : p_X} {d : Nat} {Q : p_R → Prop} {v1 : Int32} {v2 : Int32} {v3 : Int32} {μ : p_M} {r : Int32 × p_M} (hs : ShM μ) (h : F_X13_number v1 v2 v3 μ = some r) (hQ : Q ((0, some (.int r.1)), r.2)) : p_Ev X (d + 2) M_X13_number 0 [.ref tM, .int v1, .int v2, .int v3, .double 0] [] μ Q := by
  unfold F_X13_number at h
  refine e_aload_n dX13_number_0 rfl ?_
  obtain ⟨q1, hq1, h⟩ := p_bd h
  refine e_cV dX13_number_1 rfl rfl ⟨rfl, rfl, by decide⟩ rfl hs.1 hs.2.1 (E_X13_blanks hs hq1 ⟨rfl, ?_⟩)
  have hs := ShM_of (P_X13_blanks hq1) hs
  show p_Ev X (d + 2) M_X13_number 4 [.ref tM, .int v1, .int v2, .int v3, .double 0] [] q1.2 Q
  refine e_iconst (v := (0 : Int32)) dX13_number_4 rfl ?_
  refine e_istore dX13_number_5 (Nat.le_of_ble_eq_true rfl) rfl ?_
  exact E_X13_number_c7 p_fu _ _ _ _ _ _ hs h hQ
/-! X13_sets -/
def F_X13_sets (v1 : Int32) (v2 : Int32) (v3 : Int32) (μ : p_M) : Option (Int32 × p_M) :=
  (F_X13_number (3 : Int32) v2 v3 μ).bind fun q1 =>
  if 0 ≤ q1.1
  then (p_ok (¬ ((18 : Int32) + v1) < 0 ∧ ((18 : Int32) + v1).toNatClampNeg < 36)
    (some ((1 : Int32), (sI q1.2 (aM 40) ((18 : Int32) + v1).toNatClampNeg q1.1))))
  else (some ((0 : Int32), q1.2))
theorem P_X13_sets {v1 : Int32} {v2 : Int32} {v3 : Int32} {μ : p_M} {r : Int32 × p_M} (h : F_X13_sets v1 v2 v3 μ = some r) : Sm μ r.2 := by
  unfold F_X13_sets at h
  obtain ⟨q1, hq1, h⟩ := p_bd h
  by_cases hc : 0 ≤ q1.1
  · rw [if_pos hc] at h
    obtain ⟨hc, h⟩ := p_ok_some h
    cases h
    exact (Sm_set (Sm_trans (Sm_refl μ) (P_X13_number (r := q1) hq1)) (by decide))
  · rw [if_neg hc] at h
    cases h
    exact (Sm_trans (Sm_refl μ) (P_X13_number (r := q1) hq1))
theorem E_X13_sets {X : p_X} {d : Nat} {Q : p_R → Prop} {v1 : Int32} {v2 : Int32} {v3 : Int32} {μ : p_M} {r : Int32 × p_M} (hs : ShM μ) (h : F_X13_sets v1 v2 v3 μ = some r) (hQ : Q ((0, some (.int r.1)), r.2)) : p_Ev X (d + 3) M_X13_sets 0 [.ref tM, .int v1, .int v2, .int v3, .double 0] [] μ Q := by
  unfold F_X13_sets at h
  refine e_aload_n dX13_sets_0 rfl ?_
  refine e_iconst (v := (3 : Int32)) dX13_sets_1 rfl ?_
  refine e_iload_n dX13_sets_2 rfl ?_
  refine e_iload_n dX13_sets_3 rfl ?_
  obtain ⟨q1, hq1, h⟩ := p_bd h
  refine e_cV dX13_sets_4 rfl rfl ⟨rfl, rfl, by decide⟩ rfl hs.1 hs.2.1 (E_X13_number hs hq1 ⟨rfl, ?_⟩)
  have hs := ShM_of (P_X13_number hq1) hs
  show p_Ev X (d + 3) M_X13_sets 7 [.ref tM, .int v1, .int v2, .int v3, .double 0] [.int q1.1] q1.2 Q
  refine e_istore dX13_sets_7 (Nat.le_of_ble_eq_true rfl) rfl ?_
  refine e_iload dX13_sets_9 rfl ?_
  refine e_if_ge dX13_sets_11 16 (by decide) (fun hc => ?_) (fun hc => ?_)
  · rw [if_pos hc] at h
    refine e_aload_n dX13_sets_16 rfl ?_
    refine e_getR dX13_sets_17 rfl rfl hs.1 hs.2.1 (hs.2.2.2 40 (by decide) rfl).1 ?_
    refine e_bipush (v := (18 : Int32)) dX13_sets_20 rfl ?_
    refine e_iload_n dX13_sets_22 rfl ?_
    refine e_iadd dX13_sets_23 ?_
    refine e_iload dX13_sets_24 rfl ?_
    obtain ⟨hc, h⟩ := p_ok_some h
    refine e_iast dX13_sets_26 (hs.2.2.2 40 (by decide) rfl).2.1 (hs.2.2.2 40 (by decide) rfl).2.2.1 (hs.2.2.2 40 (by decide) rfl).2.2.2 hc ?_
    refine e_iconst (v := (1 : Int32)) dX13_sets_27 rfl ?_
    cases h
    exact e_iretz dX13_sets_28 rfl (by decide) hQ
  · rw [if_neg hc] at h
    refine e_iconst (v := (0 : Int32)) dX13_sets_14 rfl ?_
    cases h
    exact e_iretz dX13_sets_15 rfl (by decide) hQ
/-! X13_readAgain -/
def F_X13_readAgain (μ : p_M) : Option (Int32 × p_M) :=
  (F_X13_sets (13 : Int32) (0 : Int32) (5 : Int32) μ).bind fun q1 =>
  if ¬ q1.1 = 0
  then ((F_X13_word q1.2).bind fun q2 =>
    (F_X13_isWord (p_E + 10 + 17) q2.2).bind fun q3 =>
    if ¬ q3.1 = 0
    then ((F_X13_word q3.2).bind fun q4 =>
      (F_X13_isWord (p_E + 10 + 23) q4.2).bind fun q5 =>
      if ¬ q5.1 = 0
      then ((F_X13_readBath q5.2).bind fun q6 =>
        (F_X13_in q6.1 (0 : Int32) (2 : Int32) q6.2).bind fun q7 =>
        if ¬ q7.1 = 0
        then (p_ok (¬ (32 : Int32) < 0 ∧ (32 : Int32).toNatClampNeg < 36)
          ((F_X13_sets (15 : Int32) (1 : Int32) (20 : Int32) (sI q7.2 (aM 40) (32 : Int32).toNatClampNeg q6.1)).bind fun q8 =>
          p_ok (q8.1 = 0 ∨ q8.1 = 1) (some (q8.1, q8.2))))
        else (some ((0 : Int32), q7.2)))
      else (some ((0 : Int32), q5.2)))
    else (some ((0 : Int32), q3.2)))
  else (some ((0 : Int32), q1.2))
theorem P_X13_readAgain {μ : p_M} {r : Int32 × p_M} (h : F_X13_readAgain μ = some r) : Sm μ r.2 := by
  unfold F_X13_readAgain at h
  obtain ⟨q1, hq1, h⟩ := p_bd h
  by_cases hc : ¬ q1.1 = 0
  · rw [if_pos hc] at h
    obtain ⟨q2, hq2, h⟩ := p_bd h
    obtain ⟨q3, hq3, h⟩ := p_bd h
    by_cases hc : ¬ q3.1 = 0
    · rw [if_pos hc] at h
      obtain ⟨q4, hq4, h⟩ := p_bd h
      obtain ⟨q5, hq5, h⟩ := p_bd h
      by_cases hc : ¬ q5.1 = 0
      · rw [if_pos hc] at h
        obtain ⟨q6, hq6, h⟩ := p_bd h
        obtain ⟨q7, hq7, h⟩ := p_bd h
        by_cases hc : ¬ q7.1 = 0
        · rw [if_pos hc] at h
          obtain ⟨hc, h⟩ := p_ok_some h
          obtain ⟨q8, hq8, h⟩ := p_bd h
          obtain ⟨hc, h⟩ := p_ok_some h
          cases h
          exact (Sm_trans (Sm_set (Sm_trans (Sm_trans (Sm_trans (Sm_trans (Sm_trans (Sm_trans (Sm_trans (Sm_refl μ) (P_X13_sets (r := q1) hq1)) (P_X13_word (r := q2) hq2)) (P_X13_isWord (r := q3) hq3)) (P_X13_word (r := q4) hq4)) (P_X13_isWord (r := q5) hq5)) (P_X13_readBath (r := q6) hq6)) (P_X13_in (r := q7) hq7)) (by decide)) (P_X13_sets (r := q8) hq8))
        · rw [if_neg hc] at h
          cases h
          exact (Sm_trans (Sm_trans (Sm_trans (Sm_trans (Sm_trans (Sm_trans (Sm_trans (Sm_refl μ) (P_X13_sets (r := q1) hq1)) (P_X13_word (r := q2) hq2)) (P_X13_isWord (r := q3) hq3)) (P_X13_word (r := q4) hq4)) (P_X13_isWord (r := q5) hq5)) (P_X13_readBath (r := q6) hq6)) (P_X13_in (r := q7) hq7))
      · rw [if_neg hc] at h
        cases h
        exact (Sm_trans (Sm_trans (Sm_trans (Sm_trans (Sm_trans (Sm_refl μ) (P_X13_sets (r := q1) hq1)) (P_X13_word (r := q2) hq2)) (P_X13_isWord (r := q3) hq3)) (P_X13_word (r := q4) hq4)) (P_X13_isWord (r := q5) hq5))
    · rw [if_neg hc] at h
      cases h
      exact (Sm_trans (Sm_trans (Sm_trans (Sm_refl μ) (P_X13_sets (r := q1) hq1)) (P_X13_word (r := q2) hq2)) (P_X13_isWord (r := q3) hq3))
  · rw [if_neg hc] at h
    cases h
    exact (Sm_trans (Sm_refl μ) (P_X13_sets (r := q1) hq1))
theorem E_X13_readAgain {X : p_X} {d : Nat} {Q : p_R → Prop} {μ : p_M} {r : Int32 × p_M} (hs : ShM μ) (h : F_X13_readAgain μ = some r) (hQ : Q ((0, some (.int r.1)), r.2)) : p_Ev X (d + 4) M_X13_readAgain 0 [.ref tM, .double 0] [] μ Q := by
  unfold F_X13_readAgain at h
  refine e_aload_n dX13_readAgain_0 rfl ?_
  refine e_bipush (v := (13 : Int32)) dX13_readAgain_1 rfl ?_
  refine e_iconst (v := (0 : Int32)) dX13_readAgain_3 rfl ?_
  refine e_iconst (v := (5 : Int32)) dX13_readAgain_4 rfl ?_
  obtain ⟨q1, hq1, h⟩ := p_bd h
  refine e_cV dX13_readAgain_5 rfl rfl ⟨rfl, rfl, by decide⟩ rfl hs.1 hs.2.1 (E_X13_sets hs hq1 ⟨rfl, ?_⟩)
  have hs := ShM_of (P_X13_sets hq1) hs
  show p_Ev X (d + 4) M_X13_readAgain 8 [.ref tM, .double 0] [.int q1.1] q1.2 Q
  refine e_if_ne dX13_readAgain_8 13 (by decide) (fun hc => ?_) (fun hc => ?_)
  · rw [if_pos hc] at h
    refine e_aload_n dX13_readAgain_13 rfl ?_
    obtain ⟨q2, hq2, h⟩ := p_bd h
    refine e_cV dX13_readAgain_14 rfl rfl ⟨rfl, rfl, by decide⟩ rfl hs.1 hs.2.1 (E_X13_word hs hq2 ⟨rfl, ?_⟩)
    have hs := ShM_of (P_X13_word hq2) hs
    show p_Ev X (d + 4) M_X13_readAgain 17 [.ref tM, .double 0] [] q2.2 Q
    refine e_aload_n dX13_readAgain_17 rfl ?_
    refine e_ldc_wS dX13_readAgain_18 rfl rfl ?_
    obtain ⟨q3, hq3, h⟩ := p_bd h
    refine e_cV dX13_readAgain_21 rfl rfl ⟨rfl, rfl, by decide⟩ rfl hs.1 hs.2.1 (E_X13_isWord hs hq3 ⟨rfl, ?_⟩)
    have hs := ShM_of (P_X13_isWord hq3) hs
    show p_Ev X (d + 4) M_X13_readAgain 24 [.ref tM, .double 0] [.int q3.1] q3.2 Q
    refine e_if_ne dX13_readAgain_24 29 (by decide) (fun hc => ?_) (fun hc => ?_)
    · rw [if_pos hc] at h
      refine e_aload_n dX13_readAgain_29 rfl ?_
      obtain ⟨q4, hq4, h⟩ := p_bd h
      refine e_cV dX13_readAgain_30 rfl rfl ⟨rfl, rfl, by decide⟩ rfl hs.1 hs.2.1 (E_X13_word hs hq4 ⟨rfl, ?_⟩)
      have hs := ShM_of (P_X13_word hq4) hs
      show p_Ev X (d + 4) M_X13_readAgain 33 [.ref tM, .double 0] [] q4.2 Q
      refine e_aload_n dX13_readAgain_33 rfl ?_
      refine e_ldc_wS dX13_readAgain_34 rfl rfl ?_
      obtain ⟨q5, hq5, h⟩ := p_bd h
      refine e_cV dX13_readAgain_37 rfl rfl ⟨rfl, rfl, by decide⟩ rfl hs.1 hs.2.1 (E_X13_isWord hs hq5 ⟨rfl, ?_⟩)
      have hs := ShM_of (P_X13_isWord hq5) hs
      show p_Ev X (d + 4) M_X13_readAgain 40 [.ref tM, .double 0] [.int q5.1] q5.2 Q
      refine e_if_ne dX13_readAgain_40 45 (by decide) (fun hc => ?_) (fun hc => ?_)
      · rw [if_pos hc] at h
        refine e_aload_n dX13_readAgain_45 rfl ?_
        obtain ⟨q6, hq6, h⟩ := p_bd h
        refine e_cV dX13_readAgain_46 rfl rfl ⟨rfl, rfl, by decide⟩ rfl hs.1 hs.2.1 (E_X13_readBath hs hq6 ⟨rfl, ?_⟩)
        have hs := ShM_of (P_X13_readBath hq6) hs
        show p_Ev X (d + 4) M_X13_readAgain 49 [.ref tM, .double 0] [.int q6.1] q6.2 Q
        refine e_istore_n dX13_readAgain_49 (Nat.le_of_ble_eq_true rfl) rfl ?_
        refine e_iload_n dX13_readAgain_50 rfl ?_
        refine e_iconst (v := (0 : Int32)) dX13_readAgain_51 rfl ?_
        refine e_iconst (v := (2 : Int32)) dX13_readAgain_52 rfl ?_
        obtain ⟨q7, hq7, h⟩ := p_bd h
        refine e_cS dX13_readAgain_53 rfl rfl rfl rfl (E_X13_in hs hq7 ⟨rfl, ?_⟩)
        have hs := ShM_of (P_X13_in hq7) hs
        show p_Ev X (d + 4) M_X13_readAgain 56 [.ref tM, .int q6.1] [.int q7.1] q7.2 Q
        refine e_if_ne dX13_readAgain_56 61 (by decide) (fun hc => ?_) (fun hc => ?_)
        · rw [if_pos hc] at h
          refine e_aload_n dX13_readAgain_61 rfl ?_
          refine e_getR dX13_readAgain_62 rfl rfl hs.1 hs.2.1 (hs.2.2.2 40 (by decide) rfl).1 ?_
          refine e_bipush (v := (32 : Int32)) dX13_readAgain_65 rfl ?_
          refine e_iload_n dX13_readAgain_67 rfl ?_
          obtain ⟨hc, h⟩ := p_ok_some h
          refine e_iast dX13_readAgain_68 (hs.2.2.2 40 (by decide) rfl).2.1 (hs.2.2.2 40 (by decide) rfl).2.2.1 (hs.2.2.2 40 (by decide) rfl).2.2.2 hc ?_
          refine e_aload_n dX13_readAgain_69 rfl ?_
          refine e_bipush (v := (15 : Int32)) dX13_readAgain_70 rfl ?_
          refine e_iconst (v := (1 : Int32)) dX13_readAgain_72 rfl ?_
          refine e_bipush (v := (20 : Int32)) dX13_readAgain_73 rfl ?_
          obtain ⟨q8, hq8, h⟩ := p_bd h
          refine e_cV dX13_readAgain_75 rfl rfl ⟨rfl, rfl, by decide⟩ rfl hs.1 hs.2.1 (E_X13_sets hs hq8 ⟨rfl, ?_⟩)
          have hs := ShM_of (P_X13_sets hq8) hs
          show p_Ev X (d + 4) M_X13_readAgain 78 [.ref tM, .int q6.1] [.int q8.1] q8.2 Q
          obtain ⟨hc, h⟩ := p_ok_some h
          cases h
          exact e_iretz dX13_readAgain_78 rfl hc hQ
        · rw [if_neg hc] at h
          refine e_iconst (v := (0 : Int32)) dX13_readAgain_59 rfl ?_
          cases h
          exact e_iretz dX13_readAgain_60 rfl (by decide) hQ
      · rw [if_neg hc] at h
        refine e_iconst (v := (0 : Int32)) dX13_readAgain_43 rfl ?_
        cases h
        exact e_iretz dX13_readAgain_44 rfl (by decide) hQ
    · rw [if_neg hc] at h
      refine e_iconst (v := (0 : Int32)) dX13_readAgain_27 rfl ?_
      cases h
      exact e_iretz dX13_readAgain_28 rfl (by decide) hQ
  · rw [if_neg hc] at h
    refine e_iconst (v := (0 : Int32)) dX13_readAgain_11 rfl ?_
    cases h
    exact e_iretz dX13_readAgain_12 rfl (by decide) hQ
/-! X13_readPours -/
def F_X13_readPours_c64 (s0 : Int32) (μ : p_M) : Option (Int32 × p_M) :=
  p_ok (s0 = 0 ∨ s0 = 1) (some (s0, μ))
theorem P_X13_readPours_c64 {s0 : Int32} {μ : p_M} {r : Int32 × p_M} (h : F_X13_readPours_c64 s0 μ = some r) : Sm μ r.2 := by
  unfold F_X13_readPours_c64 at h
  obtain ⟨hc, h⟩ := p_ok_some h
  cases h
  exact (Sm_refl μ)
theorem E_X13_readPours_c64 {X : p_X} {d : Nat} {Q : p_R → Prop} {s0 : Int32} {w0 : Value} {w1 : Value} {μ : p_M} {r : Int32 × p_M} (hs : ShM μ) (h : F_X13_readPours_c64 s0 μ = some r) (hQ : Q ((0, some (.int r.1)), r.2)) : p_Ev X (d + 4) M_X13_readPours 64 [w0, w1] [.int s0] μ Q := by
  unfold F_X13_readPours_c64 at h
  obtain ⟨hc, h⟩ := p_ok_some h
  cases h
  exact e_iretz dX13_readPours_64 rfl hc hQ
def F_X13_readPours_c63 (μ : p_M) : Option (Int32 × p_M) :=
  F_X13_readPours_c64 (0 : Int32) μ
theorem P_X13_readPours_c63 {μ : p_M} {r : Int32 × p_M} (h : F_X13_readPours_c63 μ = some r) : Sm μ r.2 := by
  unfold F_X13_readPours_c63 at h
  exact Sm_trans (Sm_refl μ) (P_X13_readPours_c64 h)
theorem E_X13_readPours_c63 {X : p_X} {d : Nat} {Q : p_R → Prop} {w0 : Value} {w1 : Value} {μ : p_M} {r : Int32 × p_M} (hs : ShM μ) (h : F_X13_readPours_c63 μ = some r) (hQ : Q ((0, some (.int r.1)), r.2)) : p_Ev X (d + 4) M_X13_readPours 63 [w0, w1] [] μ Q := by
  unfold F_X13_readPours_c63 at h
  refine e_iconst (v := (0 : Int32)) dX13_readPours_63 rfl ?_
  exact E_X13_readPours_c64 hs h hQ
def F_X13_readPours (μ : p_M) : Option (Int32 × p_M) :=
  (F_X13_readBath μ).bind fun q1 =>
  if 0 ≤ q1.1
  then ((F_X13_word q1.2).bind fun q2 =>
    (F_X13_isWord (p_E + 10 + 2) q2.2).bind fun q3 =>
    if q3.1 = 0
    then ((F_X13_isWord (p_E + 10 + 18) q3.2).bind fun q4 =>
      if q4.1 = 0
      then (F_X13_readPours_c63 q4.2)
      else ((F_X13_sets ((4 : Int32) + q1.1) (0 : Int32) (4 : Int32) q4.2).bind fun q5 =>
        if q5.1 = 0
        then (F_X13_readPours_c63 q5.2)
        else (F_X13_readPours_c64 (1 : Int32) q5.2)))
    else (p_ok (¬ ((22 : Int32) + q1.1) < 0 ∧ ((22 : Int32) + q1.1).toNatClampNeg < 36)
      (some ((1 : Int32), (sI q3.2 (aM 40) ((22 : Int32) + q1.1).toNatClampNeg (-1))))))
  else (some ((0 : Int32), q1.2))
theorem P_X13_readPours {μ : p_M} {r : Int32 × p_M} (h : F_X13_readPours μ = some r) : Sm μ r.2 := by
  unfold F_X13_readPours at h
  obtain ⟨q1, hq1, h⟩ := p_bd h
  by_cases hc : 0 ≤ q1.1
  · rw [if_pos hc] at h
    obtain ⟨q2, hq2, h⟩ := p_bd h
    obtain ⟨q3, hq3, h⟩ := p_bd h
    by_cases hc : q3.1 = 0
    · rw [if_pos hc] at h
      obtain ⟨q4, hq4, h⟩ := p_bd h
      by_cases hc : q4.1 = 0
      · rw [if_pos hc] at h
        exact Sm_trans (Sm_trans (Sm_trans (Sm_trans (Sm_trans (Sm_refl μ) (P_X13_readBath (r := q1) hq1)) (P_X13_word (r := q2) hq2)) (P_X13_isWord (r := q3) hq3)) (P_X13_isWord (r := q4) hq4)) (P_X13_readPours_c63 h)
      · rw [if_neg hc] at h
        obtain ⟨q5, hq5, h⟩ := p_bd h
        by_cases hc : q5.1 = 0
        · rw [if_pos hc] at h
          exact Sm_trans (Sm_trans (Sm_trans (Sm_trans (Sm_trans (Sm_trans (Sm_refl μ) (P_X13_readBath (r := q1) hq1)) (P_X13_word (r := q2) hq2)) (P_X13_isWord (r := q3) hq3)) (P_X13_isWord (r := q4) hq4)) (P_X13_sets (r := q5) hq5)) (P_X13_readPours_c63 h)
        · rw [if_neg hc] at h
          exact Sm_trans (Sm_trans (Sm_trans (Sm_trans (Sm_trans (Sm_trans (Sm_refl μ) (P_X13_readBath (r := q1) hq1)) (P_X13_word (r := q2) hq2)) (P_X13_isWord (r := q3) hq3)) (P_X13_isWord (r := q4) hq4)) (P_X13_sets (r := q5) hq5)) (P_X13_readPours_c64 h)
    · rw [if_neg hc] at h
      obtain ⟨hc, h⟩ := p_ok_some h
      cases h
      exact (Sm_set (Sm_trans (Sm_trans (Sm_trans (Sm_refl μ) (P_X13_readBath (r := q1) hq1)) (P_X13_word (r := q2) hq2)) (P_X13_isWord (r := q3) hq3)) (by decide))
  · rw [if_neg hc] at h
    cases h
    exact (Sm_trans (Sm_refl μ) (P_X13_readBath (r := q1) hq1))
theorem E_X13_readPours {X : p_X} {d : Nat} {Q : p_R → Prop} {μ : p_M} {r : Int32 × p_M} (hs : ShM μ) (h : F_X13_readPours μ = some r) (hQ : Q ((0, some (.int r.1)), r.2)) : p_Ev X (d + 4) M_X13_readPours 0 [.ref tM, .double 0] [] μ Q := by
  unfold F_X13_readPours at h
  refine e_aload_n dX13_readPours_0 rfl ?_
  obtain ⟨q1, hq1, h⟩ := p_bd h
  refine e_cV dX13_readPours_1 rfl rfl ⟨rfl, rfl, by decide⟩ rfl hs.1 hs.2.1 (E_X13_readBath hs hq1 ⟨rfl, ?_⟩)
  have hs := ShM_of (P_X13_readBath hq1) hs
  show p_Ev X (d + 4) M_X13_readPours 4 [.ref tM, .double 0] [.int q1.1] q1.2 Q
  refine e_istore_n dX13_readPours_4 (Nat.le_of_ble_eq_true rfl) rfl ?_
  refine e_iload_n dX13_readPours_5 rfl ?_
  refine e_if_ge dX13_readPours_6 11 (by decide) (fun hc => ?_) (fun hc => ?_)
  · rw [if_pos hc] at h
    refine e_aload_n dX13_readPours_11 rfl ?_
    obtain ⟨q2, hq2, h⟩ := p_bd h
    refine e_cV dX13_readPours_12 rfl rfl ⟨rfl, rfl, by decide⟩ rfl hs.1 hs.2.1 (E_X13_word hs hq2 ⟨rfl, ?_⟩)
    have hs := ShM_of (P_X13_word hq2) hs
    show p_Ev X (d + 4) M_X13_readPours 15 [.ref tM, .int q1.1] [] q2.2 Q
    refine e_aload_n dX13_readPours_15 rfl ?_
    refine e_ldc_wS dX13_readPours_16 rfl rfl ?_
    obtain ⟨q3, hq3, h⟩ := p_bd h
    refine e_cV dX13_readPours_19 rfl rfl ⟨rfl, rfl, by decide⟩ rfl hs.1 hs.2.1 (E_X13_isWord hs hq3 ⟨rfl, ?_⟩)
    have hs := ShM_of (P_X13_isWord hq3) hs
    show p_Ev X (d + 4) M_X13_readPours 22 [.ref tM, .int q1.1] [.int q3.1] q3.2 Q
    refine e_if_eq dX13_readPours_22 37 (by decide) (fun hc => ?_) (fun hc => ?_)
    · rw [if_pos hc] at h
      refine e_aload_n dX13_readPours_37 rfl ?_
      refine e_ldc_wS dX13_readPours_38 rfl rfl ?_
      obtain ⟨q4, hq4, h⟩ := p_bd h
      refine e_cV dX13_readPours_41 rfl rfl ⟨rfl, rfl, by decide⟩ rfl hs.1 hs.2.1 (E_X13_isWord hs hq4 ⟨rfl, ?_⟩)
      have hs := ShM_of (P_X13_isWord hq4) hs
      show p_Ev X (d + 4) M_X13_readPours 44 [.ref tM, .int q1.1] [.int q4.1] q4.2 Q
      refine e_if_eq dX13_readPours_44 63 (by decide) (fun hc => ?_) (fun hc => ?_)
      · rw [if_pos hc] at h
        exact E_X13_readPours_c63 hs h hQ
      · rw [if_neg hc] at h
        refine e_aload_n dX13_readPours_47 rfl ?_
        refine e_iconst (v := (4 : Int32)) dX13_readPours_48 rfl ?_
        refine e_iload_n dX13_readPours_49 rfl ?_
        refine e_iadd dX13_readPours_50 ?_
        refine e_iconst (v := (0 : Int32)) dX13_readPours_51 rfl ?_
        refine e_iconst (v := (4 : Int32)) dX13_readPours_52 rfl ?_
        obtain ⟨q5, hq5, h⟩ := p_bd h
        refine e_cV dX13_readPours_53 rfl rfl ⟨rfl, rfl, by decide⟩ rfl hs.1 hs.2.1 (E_X13_sets hs hq5 ⟨rfl, ?_⟩)
        have hs := ShM_of (P_X13_sets hq5) hs
        show p_Ev X (d + 4) M_X13_readPours 56 [.ref tM, .int q1.1] [.int q5.1] q5.2 Q
        refine e_if_eq dX13_readPours_56 63 (by decide) (fun hc => ?_) (fun hc => ?_)
        · rw [if_pos hc] at h
          exact E_X13_readPours_c63 hs h hQ
        · rw [if_neg hc] at h
          refine e_iconst (v := (1 : Int32)) dX13_readPours_59 rfl ?_
          refine e_goto dX13_readPours_60 64 (by decide) ?_
          exact E_X13_readPours_c64 hs h hQ
    · rw [if_neg hc] at h
      refine e_aload_n dX13_readPours_25 rfl ?_
      refine e_getR dX13_readPours_26 rfl rfl hs.1 hs.2.1 (hs.2.2.2 40 (by decide) rfl).1 ?_
      refine e_bipush (v := (22 : Int32)) dX13_readPours_29 rfl ?_
      refine e_iload_n dX13_readPours_31 rfl ?_
      refine e_iadd dX13_readPours_32 ?_
      refine e_iconst (v := (-1)) dX13_readPours_33 rfl ?_
      obtain ⟨hc, h⟩ := p_ok_some h
      refine e_iast dX13_readPours_34 (hs.2.2.2 40 (by decide) rfl).2.1 (hs.2.2.2 40 (by decide) rfl).2.2.1 (hs.2.2.2 40 (by decide) rfl).2.2.2 hc ?_
      refine e_iconst (v := (1 : Int32)) dX13_readPours_35 rfl ?_
      cases h
      exact e_iretz dX13_readPours_36 rfl (by decide) hQ
  · rw [if_neg hc] at h
    refine e_iconst (v := (0 : Int32)) dX13_readPours_9 rfl ?_
    cases h
    exact e_iretz dX13_readPours_10 rfl (by decide) hQ
/-! X13_readRule -/
def F_X13_readRule_c47 (s0 : Int32) (μ : p_M) : Option (Int32 × p_M) :=
  p_ok (s0 = 0 ∨ s0 = 1) (some (s0, μ))
theorem P_X13_readRule_c47 {s0 : Int32} {μ : p_M} {r : Int32 × p_M} (h : F_X13_readRule_c47 s0 μ = some r) : Sm μ r.2 := by
  unfold F_X13_readRule_c47 at h
  obtain ⟨hc, h⟩ := p_ok_some h
  cases h
  exact (Sm_refl μ)
theorem E_X13_readRule_c47 {X : p_X} {d : Nat} {Q : p_R → Prop} {s0 : Int32} {w0 : Value} {w1 : Value} {w2 : Value} {μ : p_M} {r : Int32 × p_M} (hs : ShM μ) (h : F_X13_readRule_c47 s0 μ = some r) (hQ : Q ((0, some (.int r.1)), r.2)) : p_Ev X (d + 5) M_X13_readRule 47 [w0, w1, w2] [.int s0] μ Q := by
  unfold F_X13_readRule_c47 at h
  obtain ⟨hc, h⟩ := p_ok_some h
  cases h
  exact e_iretz dX13_readRule_47 rfl hc hQ
def F_X13_readRule_c46 (μ : p_M) : Option (Int32 × p_M) :=
  F_X13_readRule_c47 (0 : Int32) μ
theorem P_X13_readRule_c46 {μ : p_M} {r : Int32 × p_M} (h : F_X13_readRule_c46 μ = some r) : Sm μ r.2 := by
  unfold F_X13_readRule_c46 at h
  exact Sm_trans (Sm_refl μ) (P_X13_readRule_c47 h)
theorem E_X13_readRule_c46 {X : p_X} {d : Nat} {Q : p_R → Prop} {w0 : Value} {w1 : Value} {w2 : Value} {μ : p_M} {r : Int32 × p_M} (hs : ShM μ) (h : F_X13_readRule_c46 μ = some r) (hQ : Q ((0, some (.int r.1)), r.2)) : p_Ev X (d + 5) M_X13_readRule 46 [w0, w1, w2] [] μ Q := by
  unfold F_X13_readRule_c46 at h
  refine e_iconst (v := (0 : Int32)) dX13_readRule_46 rfl ?_
  exact E_X13_readRule_c47 hs h hQ
def F_X13_readRule_c86 (s0 : Int32) (μ : p_M) : Option (Int32 × p_M) :=
  p_ok (s0 = 0 ∨ s0 = 1) (some (s0, μ))
theorem P_X13_readRule_c86 {s0 : Int32} {μ : p_M} {r : Int32 × p_M} (h : F_X13_readRule_c86 s0 μ = some r) : Sm μ r.2 := by
  unfold F_X13_readRule_c86 at h
  obtain ⟨hc, h⟩ := p_ok_some h
  cases h
  exact (Sm_refl μ)
theorem E_X13_readRule_c86 {X : p_X} {d : Nat} {Q : p_R → Prop} {s0 : Int32} {w0 : Value} {w1 : Value} {w2 : Value} {μ : p_M} {r : Int32 × p_M} (hs : ShM μ) (h : F_X13_readRule_c86 s0 μ = some r) (hQ : Q ((0, some (.int r.1)), r.2)) : p_Ev X (d + 5) M_X13_readRule 86 [w0, w1, w2] [.int s0] μ Q := by
  unfold F_X13_readRule_c86 at h
  obtain ⟨hc, h⟩ := p_ok_some h
  cases h
  exact e_iretz dX13_readRule_86 rfl hc hQ
def F_X13_readRule_c85 (μ : p_M) : Option (Int32 × p_M) :=
  F_X13_readRule_c86 (0 : Int32) μ
theorem P_X13_readRule_c85 {μ : p_M} {r : Int32 × p_M} (h : F_X13_readRule_c85 μ = some r) : Sm μ r.2 := by
  unfold F_X13_readRule_c85 at h
  exact Sm_trans (Sm_refl μ) (P_X13_readRule_c86 h)
theorem E_X13_readRule_c85 {X : p_X} {d : Nat} {Q : p_R → Prop} {w0 : Value} {w1 : Value} {w2 : Value} {μ : p_M} {r : Int32 × p_M} (hs : ShM μ) (h : F_X13_readRule_c85 μ = some r) (hQ : Q ((0, some (.int r.1)), r.2)) : p_Ev X (d + 5) M_X13_readRule 85 [w0, w1, w2] [] μ Q := by
  unfold F_X13_readRule_c85 at h
  refine e_iconst (v := (0 : Int32)) dX13_readRule_85 rfl ?_
  exact E_X13_readRule_c86 hs h hQ
def F_X13_readRule_c184 (s0 : Int32) (μ : p_M) : Option (Int32 × p_M) :=
  p_ok (s0 = 0 ∨ s0 = 1) (some (s0, μ))
theorem P_X13_readRule_c184 {s0 : Int32} {μ : p_M} {r : Int32 × p_M} (h : F_X13_readRule_c184 s0 μ = some r) : Sm μ r.2 := by
  unfold F_X13_readRule_c184 at h
  obtain ⟨hc, h⟩ := p_ok_some h
  cases h
  exact (Sm_refl μ)
theorem E_X13_readRule_c184 {X : p_X} {d : Nat} {Q : p_R → Prop} {s0 : Int32} {w0 : Value} {w1 : Value} {w2 : Value} {μ : p_M} {r : Int32 × p_M} (hs : ShM μ) (h : F_X13_readRule_c184 s0 μ = some r) (hQ : Q ((0, some (.int r.1)), r.2)) : p_Ev X (d + 5) M_X13_readRule 184 [w0, w1, w2] [.int s0] μ Q := by
  unfold F_X13_readRule_c184 at h
  obtain ⟨hc, h⟩ := p_ok_some h
  cases h
  exact e_iretz dX13_readRule_184 rfl hc hQ
def F_X13_readRule_c183 (μ : p_M) : Option (Int32 × p_M) :=
  F_X13_readRule_c184 (0 : Int32) μ
theorem P_X13_readRule_c183 {μ : p_M} {r : Int32 × p_M} (h : F_X13_readRule_c183 μ = some r) : Sm μ r.2 := by
  unfold F_X13_readRule_c183 at h
  exact Sm_trans (Sm_refl μ) (P_X13_readRule_c184 h)
theorem E_X13_readRule_c183 {X : p_X} {d : Nat} {Q : p_R → Prop} {w0 : Value} {w1 : Value} {w2 : Value} {μ : p_M} {r : Int32 × p_M} (hs : ShM μ) (h : F_X13_readRule_c183 μ = some r) (hQ : Q ((0, some (.int r.1)), r.2)) : p_Ev X (d + 5) M_X13_readRule 183 [w0, w1, w2] [] μ Q := by
  unfold F_X13_readRule_c183 at h
  refine e_iconst (v := (0 : Int32)) dX13_readRule_183 rfl ?_
  exact E_X13_readRule_c184 hs h hQ
def F_X13_readRule (v1 : Int32) (μ : p_M) : Option (Int32 × p_M) :=
  (F_X13_word μ).bind fun q1 =>
  if ¬ v1 = (24 : Int32)
  then ((F_X13_isWord (p_E + 10 + 4) q1.2).bind fun q2 =>
    if q2.1 = 0
    then ((F_X13_isWord (p_E + 10 + 8) q2.2).bind fun q3 =>
      if q3.1 = 0
      then ((F_X13_isWord (p_E + 10 + 10) q3.2).bind fun q4 =>
        if q4.1 = 0
        then ((F_X13_isWord (p_E + 10 + 7) q4.2).bind fun q5 =>
          if q5.1 = 0
          then ((F_X13_isWord (p_E + 10 + 1) q5.2).bind fun q6 =>
            if q6.1 = 0
            then ((F_X13_isWord (p_E + 10 + 9) q6.2).bind fun q7 =>
              if q7.1 = 0
              then ((F_X13_isWord (p_E + 10 + 3) q7.2).bind fun q8 =>
                if q8.1 = 0
                then (F_X13_readRule_c183 q8.2)
                else ((F_X13_sets (17 : Int32) (0 : Int32) (50 : Int32) q8.2).bind fun q9 =>
                  if q9.1 = 0
                  then (F_X13_readRule_c183 q9.2)
                  else (F_X13_readRule_c184 (1 : Int32) q9.2)))
              else ((F_X13_sets (16 : Int32) (1 : Int32) (20 : Int32) q7.2).bind fun q10 =>
                p_ok (q10.1 = 0 ∨ q10.1 = 1) (some (q10.1, q10.2))))
            else ((F_X13_readAgain q6.2).bind fun q11 =>
              p_ok (q11.1 = 0 ∨ q11.1 = 1) (some (q11.1, q11.2))))
          else ((F_X13_sets (8 : Int32) (1 : Int32) (20 : Int32) q5.2).bind fun q12 =>
            p_ok (q12.1 = 0 ∨ q12.1 = 1) (some (q12.1, q12.2))))
        else ((F_X13_readPours q4.2).bind fun q13 =>
          p_ok (q13.1 = 0 ∨ q13.1 = 1) (some (q13.1, q13.2))))
      else ((F_X13_readBath q3.2).bind fun q14 =>
        if q14.1 < 0
        then (F_X13_readRule_c85 q14.2)
        else ((F_X13_sets ((9 : Int32) + q14.1) (1 : Int32) (60 : Int32) q14.2).bind fun q15 =>
          if q15.1 = 0
          then (F_X13_readRule_c85 q15.2)
          else (F_X13_readRule_c86 (1 : Int32) q15.2))))
    else ((F_X13_readBath q2.2).bind fun q16 =>
      if q16.1 < 0
      then (F_X13_readRule_c46 q16.2)
      else ((F_X13_sets q16.1 (0 : Int32) (100 : Int32) q16.2).bind fun q17 =>
        if q17.1 = 0
        then (F_X13_readRule_c46 q17.2)
        else (F_X13_readRule_c47 (1 : Int32) q17.2))))
  else (some ((0 : Int32), q1.2))
theorem P_X13_readRule {v1 : Int32} {μ : p_M} {r : Int32 × p_M} (h : F_X13_readRule v1 μ = some r) : Sm μ r.2 := by
  unfold F_X13_readRule at h
  obtain ⟨q1, hq1, h⟩ := p_bd h
  by_cases hc : ¬ v1 = (24 : Int32)
  · rw [if_pos hc] at h
    obtain ⟨q2, hq2, h⟩ := p_bd h
    by_cases hc : q2.1 = 0
    · rw [if_pos hc] at h
      obtain ⟨q3, hq3, h⟩ := p_bd h
      by_cases hc : q3.1 = 0
      · rw [if_pos hc] at h
        obtain ⟨q4, hq4, h⟩ := p_bd h
        by_cases hc : q4.1 = 0
        · rw [if_pos hc] at h
          obtain ⟨q5, hq5, h⟩ := p_bd h
          by_cases hc : q5.1 = 0
          · rw [if_pos hc] at h
            obtain ⟨q6, hq6, h⟩ := p_bd h
            by_cases hc : q6.1 = 0
            · rw [if_pos hc] at h
              obtain ⟨q7, hq7, h⟩ := p_bd h
              by_cases hc : q7.1 = 0
              · rw [if_pos hc] at h
                obtain ⟨q8, hq8, h⟩ := p_bd h
                by_cases hc : q8.1 = 0
                · rw [if_pos hc] at h
                  exact Sm_trans (Sm_trans (Sm_trans (Sm_trans (Sm_trans (Sm_trans (Sm_trans (Sm_trans (Sm_trans (Sm_refl μ) (P_X13_word (r := q1) hq1)) (P_X13_isWord (r := q2) hq2)) (P_X13_isWord (r := q3) hq3)) (P_X13_isWord (r := q4) hq4)) (P_X13_isWord (r := q5) hq5)) (P_X13_isWord (r := q6) hq6)) (P_X13_isWord (r := q7) hq7)) (P_X13_isWord (r := q8) hq8)) (P_X13_readRule_c183 h)
                · rw [if_neg hc] at h
                  obtain ⟨q9, hq9, h⟩ := p_bd h
                  by_cases hc : q9.1 = 0
                  · rw [if_pos hc] at h
                    exact Sm_trans (Sm_trans (Sm_trans (Sm_trans (Sm_trans (Sm_trans (Sm_trans (Sm_trans (Sm_trans (Sm_trans (Sm_refl μ) (P_X13_word (r := q1) hq1)) (P_X13_isWord (r := q2) hq2)) (P_X13_isWord (r := q3) hq3)) (P_X13_isWord (r := q4) hq4)) (P_X13_isWord (r := q5) hq5)) (P_X13_isWord (r := q6) hq6)) (P_X13_isWord (r := q7) hq7)) (P_X13_isWord (r := q8) hq8)) (P_X13_sets (r := q9) hq9)) (P_X13_readRule_c183 h)
                  · rw [if_neg hc] at h
                    exact Sm_trans (Sm_trans (Sm_trans (Sm_trans (Sm_trans (Sm_trans (Sm_trans (Sm_trans (Sm_trans (Sm_trans (Sm_refl μ) (P_X13_word (r := q1) hq1)) (P_X13_isWord (r := q2) hq2)) (P_X13_isWord (r := q3) hq3)) (P_X13_isWord (r := q4) hq4)) (P_X13_isWord (r := q5) hq5)) (P_X13_isWord (r := q6) hq6)) (P_X13_isWord (r := q7) hq7)) (P_X13_isWord (r := q8) hq8)) (P_X13_sets (r := q9) hq9)) (P_X13_readRule_c184 h)
              · rw [if_neg hc] at h
                obtain ⟨q10, hq10, h⟩ := p_bd h
                obtain ⟨hc, h⟩ := p_ok_some h
                cases h
                exact (Sm_trans (Sm_trans (Sm_trans (Sm_trans (Sm_trans (Sm_trans (Sm_trans (Sm_trans (Sm_refl μ) (P_X13_word (r := q1) hq1)) (P_X13_isWord (r := q2) hq2)) (P_X13_isWord (r := q3) hq3)) (P_X13_isWord (r := q4) hq4)) (P_X13_isWord (r := q5) hq5)) (P_X13_isWord (r := q6) hq6)) (P_X13_isWord (r := q7) hq7)) (P_X13_sets (r := q10) hq10))
            · rw [if_neg hc] at h
              obtain ⟨q11, hq11, h⟩ := p_bd h
              obtain ⟨hc, h⟩ := p_ok_some h
              cases h
              exact (Sm_trans (Sm_trans (Sm_trans (Sm_trans (Sm_trans (Sm_trans (Sm_trans (Sm_refl μ) (P_X13_word (r := q1) hq1)) (P_X13_isWord (r := q2) hq2)) (P_X13_isWord (r := q3) hq3)) (P_X13_isWord (r := q4) hq4)) (P_X13_isWord (r := q5) hq5)) (P_X13_isWord (r := q6) hq6)) (P_X13_readAgain (r := q11) hq11))
          · rw [if_neg hc] at h
            obtain ⟨q12, hq12, h⟩ := p_bd h
            obtain ⟨hc, h⟩ := p_ok_some h
            cases h
            exact (Sm_trans (Sm_trans (Sm_trans (Sm_trans (Sm_trans (Sm_trans (Sm_refl μ) (P_X13_word (r := q1) hq1)) (P_X13_isWord (r := q2) hq2)) (P_X13_isWord (r := q3) hq3)) (P_X13_isWord (r := q4) hq4)) (P_X13_isWord (r := q5) hq5)) (P_X13_sets (r := q12) hq12))
        · rw [if_neg hc] at h
          obtain ⟨q13, hq13, h⟩ := p_bd h
          obtain ⟨hc, h⟩ := p_ok_some h
          cases h
          exact (Sm_trans (Sm_trans (Sm_trans (Sm_trans (Sm_trans (Sm_refl μ) (P_X13_word (r := q1) hq1)) (P_X13_isWord (r := q2) hq2)) (P_X13_isWord (r := q3) hq3)) (P_X13_isWord (r := q4) hq4)) (P_X13_readPours (r := q13) hq13))
      · rw [if_neg hc] at h
        obtain ⟨q14, hq14, h⟩ := p_bd h
        by_cases hc : q14.1 < 0
        · rw [if_pos hc] at h
          exact Sm_trans (Sm_trans (Sm_trans (Sm_trans (Sm_trans (Sm_refl μ) (P_X13_word (r := q1) hq1)) (P_X13_isWord (r := q2) hq2)) (P_X13_isWord (r := q3) hq3)) (P_X13_readBath (r := q14) hq14)) (P_X13_readRule_c85 h)
        · rw [if_neg hc] at h
          obtain ⟨q15, hq15, h⟩ := p_bd h
          by_cases hc : q15.1 = 0
          · rw [if_pos hc] at h
            exact Sm_trans (Sm_trans (Sm_trans (Sm_trans (Sm_trans (Sm_trans (Sm_refl μ) (P_X13_word (r := q1) hq1)) (P_X13_isWord (r := q2) hq2)) (P_X13_isWord (r := q3) hq3)) (P_X13_readBath (r := q14) hq14)) (P_X13_sets (r := q15) hq15)) (P_X13_readRule_c85 h)
          · rw [if_neg hc] at h
            exact Sm_trans (Sm_trans (Sm_trans (Sm_trans (Sm_trans (Sm_trans (Sm_refl μ) (P_X13_word (r := q1) hq1)) (P_X13_isWord (r := q2) hq2)) (P_X13_isWord (r := q3) hq3)) (P_X13_readBath (r := q14) hq14)) (P_X13_sets (r := q15) hq15)) (P_X13_readRule_c86 h)
    · rw [if_neg hc] at h
      obtain ⟨q16, hq16, h⟩ := p_bd h
      by_cases hc : q16.1 < 0
      · rw [if_pos hc] at h
        exact Sm_trans (Sm_trans (Sm_trans (Sm_trans (Sm_refl μ) (P_X13_word (r := q1) hq1)) (P_X13_isWord (r := q2) hq2)) (P_X13_readBath (r := q16) hq16)) (P_X13_readRule_c46 h)
      · rw [if_neg hc] at h
        obtain ⟨q17, hq17, h⟩ := p_bd h
        by_cases hc : q17.1 = 0
        · rw [if_pos hc] at h
          exact Sm_trans (Sm_trans (Sm_trans (Sm_trans (Sm_trans (Sm_refl μ) (P_X13_word (r := q1) hq1)) (P_X13_isWord (r := q2) hq2)) (P_X13_readBath (r := q16) hq16)) (P_X13_sets (r := q17) hq17)) (P_X13_readRule_c46 h)
        · rw [if_neg hc] at h
          exact Sm_trans (Sm_trans (Sm_trans (Sm_trans (Sm_trans (Sm_refl μ) (P_X13_word (r := q1) hq1)) (P_X13_isWord (r := q2) hq2)) (P_X13_readBath (r := q16) hq16)) (P_X13_sets (r := q17) hq17)) (P_X13_readRule_c47 h)
  · rw [if_neg hc] at h
    cases h
    exact (Sm_trans (Sm_refl μ) (P_X13_word (r := q1) hq1))
theorem E_X13_readRule {X : p_X} {d : Nat} {Q : p_R → Prop} {v1 : Int32} {μ : p_M} {r : Int32 × p_M} (hs : ShM μ) (h : F_X13_readRule v1 μ = some r) (hQ : Q ((0, some (.int r.1)), r.2)) : p_Ev X (d + 5) M_X13_readRule 0 [.ref tM, .int v1, .double 0] [] μ Q := by
  unfold F_X13_readRule at h
  refine e_aload_n dX13_readRule_0 rfl ?_
  obtain ⟨q1, hq1, h⟩ := p_bd h
  refine e_cV dX13_readRule_1 rfl rfl ⟨rfl, rfl, by decide⟩ rfl hs.1 hs.2.1 (E_X13_word hs hq1 ⟨rfl, ?_⟩)
  have hs := ShM_of (P_X13_word hq1) hs
  show p_Ev X (d + 5) M_X13_readRule 4 [.ref tM, .int v1, .double 0] [] q1.2 Q
  refine e_iload_n dX13_readRule_4 rfl ?_
  refine e_bipush (v := (24 : Int32)) dX13_readRule_5 rfl ?_
  refine e_ic_ne dX13_readRule_7 12 (by decide) (fun hc => ?_) (fun hc => ?_)
  · rw [if_pos hc] at h
    refine e_aload_n dX13_readRule_12 rfl ?_
    refine e_ldc_wS dX13_readRule_13 rfl rfl ?_
    obtain ⟨q2, hq2, h⟩ := p_bd h
    refine e_cV dX13_readRule_16 rfl rfl ⟨rfl, rfl, by decide⟩ rfl hs.1 hs.2.1 (E_X13_isWord hs hq2 ⟨rfl, ?_⟩)
    have hs := ShM_of (P_X13_isWord hq2) hs
    show p_Ev X (d + 5) M_X13_readRule 19 [.ref tM, .int v1, .double 0] [.int q2.1] q2.2 Q
    refine e_if_eq dX13_readRule_19 48 (by decide) (fun hc => ?_) (fun hc => ?_)
    · rw [if_pos hc] at h
      refine e_aload_n dX13_readRule_48 rfl ?_
      refine e_ldc_wS dX13_readRule_49 rfl rfl ?_
      obtain ⟨q3, hq3, h⟩ := p_bd h
      refine e_cV dX13_readRule_52 rfl rfl ⟨rfl, rfl, by decide⟩ rfl hs.1 hs.2.1 (E_X13_isWord hs hq3 ⟨rfl, ?_⟩)
      have hs := ShM_of (P_X13_isWord hq3) hs
      show p_Ev X (d + 5) M_X13_readRule 55 [.ref tM, .int v1, .double 0] [.int q3.1] q3.2 Q
      refine e_if_eq dX13_readRule_55 87 (by decide) (fun hc => ?_) (fun hc => ?_)
      · rw [if_pos hc] at h
        refine e_aload_n dX13_readRule_87 rfl ?_
        refine e_ldc_wS dX13_readRule_88 rfl rfl ?_
        obtain ⟨q4, hq4, h⟩ := p_bd h
        refine e_cV dX13_readRule_91 rfl rfl ⟨rfl, rfl, by decide⟩ rfl hs.1 hs.2.1 (E_X13_isWord hs hq4 ⟨rfl, ?_⟩)
        have hs := ShM_of (P_X13_isWord hq4) hs
        show p_Ev X (d + 5) M_X13_readRule 94 [.ref tM, .int v1, .double 0] [.int q4.1] q4.2 Q
        refine e_if_eq dX13_readRule_94 102 (by decide) (fun hc => ?_) (fun hc => ?_)
        · rw [if_pos hc] at h
          refine e_aload_n dX13_readRule_102 rfl ?_
          refine e_ldc_wS dX13_readRule_103 rfl rfl ?_
          obtain ⟨q5, hq5, h⟩ := p_bd h
          refine e_cV dX13_readRule_106 rfl rfl ⟨rfl, rfl, by decide⟩ rfl hs.1 hs.2.1 (E_X13_isWord hs hq5 ⟨rfl, ?_⟩)
          have hs := ShM_of (P_X13_isWord hq5) hs
          show p_Ev X (d + 5) M_X13_readRule 109 [.ref tM, .int v1, .double 0] [.int q5.1] q5.2 Q
          refine e_if_eq dX13_readRule_109 122 (by decide) (fun hc => ?_) (fun hc => ?_)
          · rw [if_pos hc] at h
            refine e_aload_n dX13_readRule_122 rfl ?_
            refine e_ldc_wS dX13_readRule_123 rfl rfl ?_
            obtain ⟨q6, hq6, h⟩ := p_bd h
            refine e_cV dX13_readRule_126 rfl rfl ⟨rfl, rfl, by decide⟩ rfl hs.1 hs.2.1 (E_X13_isWord hs hq6 ⟨rfl, ?_⟩)
            have hs := ShM_of (P_X13_isWord hq6) hs
            show p_Ev X (d + 5) M_X13_readRule 129 [.ref tM, .int v1, .double 0] [.int q6.1] q6.2 Q
            refine e_if_eq dX13_readRule_129 137 (by decide) (fun hc => ?_) (fun hc => ?_)
            · rw [if_pos hc] at h
              refine e_aload_n dX13_readRule_137 rfl ?_
              refine e_ldc_wS dX13_readRule_138 rfl rfl ?_
              obtain ⟨q7, hq7, h⟩ := p_bd h
              refine e_cV dX13_readRule_141 rfl rfl ⟨rfl, rfl, by decide⟩ rfl hs.1 hs.2.1 (E_X13_isWord hs hq7 ⟨rfl, ?_⟩)
              have hs := ShM_of (P_X13_isWord hq7) hs
              show p_Ev X (d + 5) M_X13_readRule 144 [.ref tM, .int v1, .double 0] [.int q7.1] q7.2 Q
              refine e_if_eq dX13_readRule_144 157 (by decide) (fun hc => ?_) (fun hc => ?_)
              · rw [if_pos hc] at h
                refine e_aload_n dX13_readRule_157 rfl ?_
                refine e_ldc_wS dX13_readRule_158 rfl rfl ?_
                obtain ⟨q8, hq8, h⟩ := p_bd h
                refine e_cV dX13_readRule_161 rfl rfl ⟨rfl, rfl, by decide⟩ rfl hs.1 hs.2.1 (E_X13_isWord hs hq8 ⟨rfl, ?_⟩)
                have hs := ShM_of (P_X13_isWord hq8) hs
                show p_Ev X (d + 5) M_X13_readRule 164 [.ref tM, .int v1, .double 0] [.int q8.1] q8.2 Q
                refine e_if_eq dX13_readRule_164 183 (by decide) (fun hc => ?_) (fun hc => ?_)
                · rw [if_pos hc] at h
                  exact E_X13_readRule_c183 hs h hQ
                · rw [if_neg hc] at h
                  refine e_aload_n dX13_readRule_167 rfl ?_
                  refine e_bipush (v := (17 : Int32)) dX13_readRule_168 rfl ?_
                  refine e_iconst (v := (0 : Int32)) dX13_readRule_170 rfl ?_
                  refine e_bipush (v := (50 : Int32)) dX13_readRule_171 rfl ?_
                  obtain ⟨q9, hq9, h⟩ := p_bd h
                  refine e_cV dX13_readRule_173 rfl rfl ⟨rfl, rfl, by decide⟩ rfl hs.1 hs.2.1 (E_X13_sets hs hq9 ⟨rfl, ?_⟩)
                  have hs := ShM_of (P_X13_sets hq9) hs
                  show p_Ev X (d + 5) M_X13_readRule 176 [.ref tM, .int v1, .double 0] [.int q9.1] q9.2 Q
                  refine e_if_eq dX13_readRule_176 183 (by decide) (fun hc => ?_) (fun hc => ?_)
                  · rw [if_pos hc] at h
                    exact E_X13_readRule_c183 hs h hQ
                  · rw [if_neg hc] at h
                    refine e_iconst (v := (1 : Int32)) dX13_readRule_179 rfl ?_
                    refine e_goto dX13_readRule_180 184 (by decide) ?_
                    exact E_X13_readRule_c184 hs h hQ
              · rw [if_neg hc] at h
                refine e_aload_n dX13_readRule_147 rfl ?_
                refine e_bipush (v := (16 : Int32)) dX13_readRule_148 rfl ?_
                refine e_iconst (v := (1 : Int32)) dX13_readRule_150 rfl ?_
                refine e_bipush (v := (20 : Int32)) dX13_readRule_151 rfl ?_
                obtain ⟨q10, hq10, h⟩ := p_bd h
                refine e_cV dX13_readRule_153 rfl rfl ⟨rfl, rfl, by decide⟩ rfl hs.1 hs.2.1 (E_X13_sets hs hq10 ⟨rfl, ?_⟩)
                have hs := ShM_of (P_X13_sets hq10) hs
                show p_Ev X (d + 5) M_X13_readRule 156 [.ref tM, .int v1, .double 0] [.int q10.1] q10.2 Q
                obtain ⟨hc, h⟩ := p_ok_some h
                cases h
                exact e_iretz dX13_readRule_156 rfl hc hQ
            · rw [if_neg hc] at h
              refine e_aload_n dX13_readRule_132 rfl ?_
              obtain ⟨q11, hq11, h⟩ := p_bd h
              refine e_cV dX13_readRule_133 rfl rfl ⟨rfl, rfl, by decide⟩ rfl hs.1 hs.2.1 (E_X13_readAgain hs hq11 ⟨rfl, ?_⟩)
              have hs := ShM_of (P_X13_readAgain hq11) hs
              show p_Ev X (d + 5) M_X13_readRule 136 [.ref tM, .int v1, .double 0] [.int q11.1] q11.2 Q
              obtain ⟨hc, h⟩ := p_ok_some h
              cases h
              exact e_iretz dX13_readRule_136 rfl hc hQ
          · rw [if_neg hc] at h
            refine e_aload_n dX13_readRule_112 rfl ?_
            refine e_bipush (v := (8 : Int32)) dX13_readRule_113 rfl ?_
            refine e_iconst (v := (1 : Int32)) dX13_readRule_115 rfl ?_
            refine e_bipush (v := (20 : Int32)) dX13_readRule_116 rfl ?_
            obtain ⟨q12, hq12, h⟩ := p_bd h
            refine e_cV dX13_readRule_118 rfl rfl ⟨rfl, rfl, by decide⟩ rfl hs.1 hs.2.1 (E_X13_sets hs hq12 ⟨rfl, ?_⟩)
            have hs := ShM_of (P_X13_sets hq12) hs
            show p_Ev X (d + 5) M_X13_readRule 121 [.ref tM, .int v1, .double 0] [.int q12.1] q12.2 Q
            obtain ⟨hc, h⟩ := p_ok_some h
            cases h
            exact e_iretz dX13_readRule_121 rfl hc hQ
        · rw [if_neg hc] at h
          refine e_aload_n dX13_readRule_97 rfl ?_
          obtain ⟨q13, hq13, h⟩ := p_bd h
          refine e_cV dX13_readRule_98 rfl rfl ⟨rfl, rfl, by decide⟩ rfl hs.1 hs.2.1 (E_X13_readPours hs hq13 ⟨rfl, ?_⟩)
          have hs := ShM_of (P_X13_readPours hq13) hs
          show p_Ev X (d + 5) M_X13_readRule 101 [.ref tM, .int v1, .double 0] [.int q13.1] q13.2 Q
          obtain ⟨hc, h⟩ := p_ok_some h
          cases h
          exact e_iretz dX13_readRule_101 rfl hc hQ
      · rw [if_neg hc] at h
        refine e_aload_n dX13_readRule_58 rfl ?_
        obtain ⟨q14, hq14, h⟩ := p_bd h
        refine e_cV dX13_readRule_59 rfl rfl ⟨rfl, rfl, by decide⟩ rfl hs.1 hs.2.1 (E_X13_readBath hs hq14 ⟨rfl, ?_⟩)
        have hs := ShM_of (P_X13_readBath hq14) hs
        show p_Ev X (d + 5) M_X13_readRule 62 [.ref tM, .int v1, .double 0] [.int q14.1] q14.2 Q
        refine e_istore_n dX13_readRule_62 (Nat.le_of_ble_eq_true rfl) rfl ?_
        refine e_iload_n dX13_readRule_63 rfl ?_
        refine e_if_lt dX13_readRule_64 85 (by decide) (fun hc => ?_) (fun hc => ?_)
        · rw [if_pos hc] at h
          exact E_X13_readRule_c85 hs h hQ
        · rw [if_neg hc] at h
          refine e_aload_n dX13_readRule_67 rfl ?_
          refine e_bipush (v := (9 : Int32)) dX13_readRule_68 rfl ?_
          refine e_iload_n dX13_readRule_70 rfl ?_
          refine e_iadd dX13_readRule_71 ?_
          refine e_iconst (v := (1 : Int32)) dX13_readRule_72 rfl ?_
          refine e_bipush (v := (60 : Int32)) dX13_readRule_73 rfl ?_
          obtain ⟨q15, hq15, h⟩ := p_bd h
          refine e_cV dX13_readRule_75 rfl rfl ⟨rfl, rfl, by decide⟩ rfl hs.1 hs.2.1 (E_X13_sets hs hq15 ⟨rfl, ?_⟩)
          have hs := ShM_of (P_X13_sets hq15) hs
          show p_Ev X (d + 5) M_X13_readRule 78 [.ref tM, .int v1, .int q14.1] [.int q15.1] q15.2 Q
          refine e_if_eq dX13_readRule_78 85 (by decide) (fun hc => ?_) (fun hc => ?_)
          · rw [if_pos hc] at h
            exact E_X13_readRule_c85 hs h hQ
          · rw [if_neg hc] at h
            refine e_iconst (v := (1 : Int32)) dX13_readRule_81 rfl ?_
            refine e_goto dX13_readRule_82 86 (by decide) ?_
            exact E_X13_readRule_c86 hs h hQ
    · rw [if_neg hc] at h
      refine e_aload_n dX13_readRule_22 rfl ?_
      obtain ⟨q16, hq16, h⟩ := p_bd h
      refine e_cV dX13_readRule_23 rfl rfl ⟨rfl, rfl, by decide⟩ rfl hs.1 hs.2.1 (E_X13_readBath hs hq16 ⟨rfl, ?_⟩)
      have hs := ShM_of (P_X13_readBath hq16) hs
      show p_Ev X (d + 5) M_X13_readRule 26 [.ref tM, .int v1, .double 0] [.int q16.1] q16.2 Q
      refine e_istore_n dX13_readRule_26 (Nat.le_of_ble_eq_true rfl) rfl ?_
      refine e_iload_n dX13_readRule_27 rfl ?_
      refine e_if_lt dX13_readRule_28 46 (by decide) (fun hc => ?_) (fun hc => ?_)
      · rw [if_pos hc] at h
        exact E_X13_readRule_c46 hs h hQ
      · rw [if_neg hc] at h
        refine e_aload_n dX13_readRule_31 rfl ?_
        refine e_iload_n dX13_readRule_32 rfl ?_
        refine e_iconst (v := (0 : Int32)) dX13_readRule_33 rfl ?_
        refine e_bipush (v := (100 : Int32)) dX13_readRule_34 rfl ?_
        obtain ⟨q17, hq17, h⟩ := p_bd h
        refine e_cV dX13_readRule_36 rfl rfl ⟨rfl, rfl, by decide⟩ rfl hs.1 hs.2.1 (E_X13_sets hs hq17 ⟨rfl, ?_⟩)
        have hs := ShM_of (P_X13_sets hq17) hs
        show p_Ev X (d + 5) M_X13_readRule 39 [.ref tM, .int v1, .int q16.1] [.int q17.1] q17.2 Q
        refine e_if_eq dX13_readRule_39 46 (by decide) (fun hc => ?_) (fun hc => ?_)
        · rw [if_pos hc] at h
          exact E_X13_readRule_c46 hs h hQ
        · rw [if_neg hc] at h
          refine e_iconst (v := (1 : Int32)) dX13_readRule_42 rfl ?_
          refine e_goto dX13_readRule_43 47 (by decide) ?_
          exact E_X13_readRule_c47 hs h hQ
  · rw [if_neg hc] at h
    refine e_iconst (v := (0 : Int32)) dX13_readRule_10 rfl ?_
    cases h
    exact e_iretz dX13_readRule_11 rfl (by decide) hQ
