/-! X13_readHouse -/
def F_X13_readHouse_c23 : Nat → Int32 → p_M → Option (Int32 × p_M)
  | 0, _, _ => none
  | n + 1, v1, μ =>
    (F_X13_readRule v1 μ).bind fun q3 =>
    if ¬ q3.1 = 0
    then ((F_X13_blanks q3.2).bind fun q4 =>
      if ¬ (mI q4.2 tM 3) = (mI q4.2 tM 4)
      then ((F_X13_isAt (59 : Int32) (59 : Int32) q4.2).bind fun q5 =>
        if ¬ q5.1 = 0
        then (F_X13_readHouse_c23 n (v1 + (1 : Int32)) (sI q5.2 tM 3 ((mI q5.2 tM 3) + (1 : Int32))))
        else (some ((-1), q5.2)))
      else (some ((v1 + (1 : Int32)), q4.2)))
    else (some ((-1), q3.2))
theorem P_X13_readHouse_c23 : ∀ (n : Nat) (v1 : Int32) (μ : p_M) (r : Int32 × p_M), F_X13_readHouse_c23 n v1 μ = some r → Sm μ r.2 := by
  intro n
  induction n with
  | zero => intro v1 μ r h; rw [F_X13_readHouse_c23] at h; cases h
  | succ n ih =>
    intro v1 μ r h
    rw [F_X13_readHouse_c23] at h
    obtain ⟨q3, hq3, h⟩ := p_bd h
    by_cases hc : ¬ q3.1 = 0
    · rw [if_pos hc] at h
      obtain ⟨q4, hq4, h⟩ := p_bd h
      by_cases hc : ¬ (mI q4.2 tM 3) = (mI q4.2 tM 4)
      · rw [if_pos hc] at h
        obtain ⟨q5, hq5, h⟩ := p_bd h
        by_cases hc : ¬ q5.1 = 0
        · rw [if_pos hc] at h
          exact Sm_trans (Sm_set (Sm_trans (Sm_trans (Sm_trans (Sm_refl μ) (P_X13_readRule (r := q3) hq3)) (P_X13_blanks (r := q4) hq4)) (P_X13_isAt (r := q5) hq5)) (by decide)) (ih _ _ _ h)
        · rw [if_neg hc] at h
          cases h
          exact (Sm_trans (Sm_trans (Sm_trans (Sm_refl μ) (P_X13_readRule (r := q3) hq3)) (P_X13_blanks (r := q4) hq4)) (P_X13_isAt (r := q5) hq5))
      · rw [if_neg hc] at h
        cases h
        exact (Sm_trans (Sm_trans (Sm_refl μ) (P_X13_readRule (r := q3) hq3)) (P_X13_blanks (r := q4) hq4))
    · rw [if_neg hc] at h
      cases h
      exact (Sm_trans (Sm_refl μ) (P_X13_readRule (r := q3) hq3))
theorem E_X13_readHouse_c23 {X : p_X} {d : Nat} {Q : p_R → Prop} : ∀ (n : Nat) (v1 : Int32) (μ : p_M) (r : Int32 × p_M), ShM μ → F_X13_readHouse_c23 n v1 μ = some r → Q ((0, some (.int r.1)), r.2) → p_Ev X (d + 6) M_X13_readHouse 23 [.ref tM, .int v1] [] μ Q := by
  intro n
  induction n with
  | zero => intro v1 μ r hs h hQ; rw [F_X13_readHouse_c23] at h; cases h
  | succ n ih =>
    intro v1 μ r hs h hQ
    rw [F_X13_readHouse_c23] at h
    refine e_aload_n dX13_readHouse_23 rfl ?_
    refine e_iload_n dX13_readHouse_24 rfl ?_
    obtain ⟨q3, hq3, h⟩ := p_bd h
    refine e_cV dX13_readHouse_25 rfl rfl ⟨rfl, rfl, by decide⟩ rfl hs.1 hs.2.1 (E_X13_readRule hs hq3 ⟨rfl, ?_⟩)
    have hs := ShM_of (P_X13_readRule hq3) hs
    show p_Ev X (d + 6) M_X13_readHouse 28 [.ref tM, .int v1] [.int q3.1] q3.2 Q
    refine e_if_ne dX13_readHouse_28 33 (by decide) (fun hc => ?_) (fun hc => ?_)
    · rw [if_pos hc] at h
      refine e_aload_n dX13_readHouse_33 rfl ?_
      obtain ⟨q4, hq4, h⟩ := p_bd h
      refine e_cV dX13_readHouse_34 rfl rfl ⟨rfl, rfl, by decide⟩ rfl hs.1 hs.2.1 (E_X13_blanks hs hq4 ⟨rfl, ?_⟩)
      have hs := ShM_of (P_X13_blanks hq4) hs
      show p_Ev X (d + 6) M_X13_readHouse 37 [.ref tM, .int v1] [] q4.2 Q
      refine e_aload_n dX13_readHouse_37 rfl ?_
      refine e_getI dX13_readHouse_38 rfl rfl hs.1 hs.2.1 ?_
      refine e_aload_n dX13_readHouse_41 rfl ?_
      refine e_getI dX13_readHouse_42 rfl rfl hs.1 hs.2.1 ?_
      refine e_ic_ne dX13_readHouse_45 52 (by decide) (fun hc => ?_) (fun hc => ?_)
      · rw [if_pos hc] at h
        refine e_aload_n dX13_readHouse_52 rfl ?_
        refine e_bipush (v := (59 : Int32)) dX13_readHouse_53 rfl ?_
        refine e_bipush (v := (59 : Int32)) dX13_readHouse_55 rfl ?_
        obtain ⟨q5, hq5, h⟩ := p_bd h
        refine e_cV dX13_readHouse_57 rfl rfl ⟨rfl, rfl, by decide⟩ rfl hs.1 hs.2.1 (E_X13_isAt hs hq5 ⟨rfl, ?_⟩)
        have hs := ShM_of (P_X13_isAt hq5) hs
        show p_Ev X (d + 6) M_X13_readHouse 60 [.ref tM, .int v1] [.int q5.1] q5.2 Q
        refine e_if_ne dX13_readHouse_60 65 (by decide) (fun hc => ?_) (fun hc => ?_)
        · rw [if_pos hc] at h
          refine e_aload_n dX13_readHouse_65 rfl ?_
          refine e_dupR dX13_readHouse_66 ?_
          refine e_getI dX13_readHouse_67 rfl rfl hs.1 hs.2.1 ?_
          refine e_iconst (v := (1 : Int32)) dX13_readHouse_70 rfl ?_
          refine e_iadd dX13_readHouse_71 ?_
          refine e_putI dX13_readHouse_72 rfl ⟨rfl, rfl, fun h => by cases h⟩ (fun h => by cases h) hs.1 hs.2.1 ?_
          refine e_iinc (v := (1 : Int32)) dX13_readHouse_75 rfl rfl rfl ?_
          refine e_goto dX13_readHouse_78 23 (by decide) ?_
          exact ih _ _ _ hs h hQ
        · rw [if_neg hc] at h
          refine e_iconst (v := (-1)) dX13_readHouse_63 rfl ?_
          cases h
          exact e_ireti dX13_readHouse_64 rfl hQ
      · rw [if_neg hc] at h
        refine e_iload_n dX13_readHouse_48 rfl ?_
        refine e_iconst (v := (1 : Int32)) dX13_readHouse_49 rfl ?_
        refine e_iadd dX13_readHouse_50 ?_
        cases h
        exact e_ireti dX13_readHouse_51 rfl hQ
    · rw [if_neg hc] at h
      refine e_iconst (v := (-1)) dX13_readHouse_31 rfl ?_
      cases h
      exact e_ireti dX13_readHouse_32 rfl hQ
def F_X13_readHouse (μ : p_M) : Option (Int32 × p_M) :=
  (F_X13_asAtFirst μ).bind fun q1 =>
  (F_X13_blanks q1.2).bind fun q2 =>
  if ¬ (mI q2.2 tM 3) = (mI q2.2 tM 4)
  then (F_X13_readHouse_c23 p_fu (0 : Int32) q2.2)
  else (some ((0 : Int32), q2.2))
theorem P_X13_readHouse {μ : p_M} {r : Int32 × p_M} (h : F_X13_readHouse μ = some r) : Sm μ r.2 := by
  unfold F_X13_readHouse at h
  obtain ⟨q1, hq1, h⟩ := p_bd h
  obtain ⟨q2, hq2, h⟩ := p_bd h
  by_cases hc : ¬ (mI q2.2 tM 3) = (mI q2.2 tM 4)
  · rw [if_pos hc] at h
    exact Sm_trans (Sm_trans (Sm_trans (Sm_refl μ) (P_X13_asAtFirst (r := q1) hq1)) (P_X13_blanks (r := q2) hq2)) (P_X13_readHouse_c23 p_fu _ _ _ h)
  · rw [if_neg hc] at h
    cases h
    exact (Sm_trans (Sm_trans (Sm_refl μ) (P_X13_asAtFirst (r := q1) hq1)) (P_X13_blanks (r := q2) hq2))
theorem E_X13_readHouse {X : p_X} {d : Nat} {Q : p_R → Prop} {μ : p_M} {r : Int32 × p_M} (hs : ShM μ) (h : F_X13_readHouse μ = some r) (hQ : Q ((0, some (.int r.1)), r.2)) : p_Ev X (d + 6) M_X13_readHouse 0 [.ref tM, .double 0] [] μ Q := by
  unfold F_X13_readHouse at h
  refine e_aload_n dX13_readHouse_0 rfl ?_
  obtain ⟨q1, hq1, h⟩ := p_bd h
  refine e_cV dX13_readHouse_1 rfl rfl ⟨rfl, rfl, by decide⟩ rfl hs.1 hs.2.1 (E_X13_asAtFirst hs hq1 ⟨rfl, ?_⟩)
  have hs := ShM_of (P_X13_asAtFirst hq1) hs
  show p_Ev X (d + 6) M_X13_readHouse 4 [.ref tM, .double 0] [] q1.2 Q
  refine e_aload_n dX13_readHouse_4 rfl ?_
  obtain ⟨q2, hq2, h⟩ := p_bd h
  refine e_cV dX13_readHouse_5 rfl rfl ⟨rfl, rfl, by decide⟩ rfl hs.1 hs.2.1 (E_X13_blanks hs hq2 ⟨rfl, ?_⟩)
  have hs := ShM_of (P_X13_blanks hq2) hs
  show p_Ev X (d + 6) M_X13_readHouse 8 [.ref tM, .double 0] [] q2.2 Q
  refine e_aload_n dX13_readHouse_8 rfl ?_
  refine e_getI dX13_readHouse_9 rfl rfl hs.1 hs.2.1 ?_
  refine e_aload_n dX13_readHouse_12 rfl ?_
  refine e_getI dX13_readHouse_13 rfl rfl hs.1 hs.2.1 ?_
  refine e_ic_ne dX13_readHouse_16 21 (by decide) (fun hc => ?_) (fun hc => ?_)
  · rw [if_pos hc] at h
    refine e_iconst (v := (0 : Int32)) dX13_readHouse_21 rfl ?_
    refine e_istore_n dX13_readHouse_22 (Nat.le_of_ble_eq_true rfl) rfl ?_
    exact E_X13_readHouse_c23 p_fu _ _ _ hs h hQ
  · rw [if_neg hc] at h
    refine e_iconst (v := (0 : Int32)) dX13_readHouse_19 rfl ?_
    cases h
    exact e_ireti dX13_readHouse_20 rfl hQ
/-! X13_uses -/
def F_X13_uses (μ : p_M) : Option (Int32 × p_M) :=
  some (0, (sI (sI (sI (sI μ tM 0 (0 : Int32)) tM 4 (mI (sI μ tM 0 (0 : Int32)) tM 2)) tM 2 (0 : Int32)) tM 3 (0 : Int32)))
theorem P_X13_uses {μ : p_M} {r : Int32 × p_M} (h : F_X13_uses μ = some r) : Sm μ r.2 := by
  unfold F_X13_uses at h
  cases h
  exact (Sm_set (Sm_set (Sm_set (Sm_set (Sm_refl μ) (by decide)) (by decide)) (by decide)) (by decide))
theorem E_X13_uses {X : p_X} {d : Nat} {Q : p_R → Prop} {μ : p_M} {r : Int32 × p_M} (hs : ShM μ) (h : F_X13_uses μ = some r) (hQ : Q ((0, none), r.2)) : p_Ev X (d + 0) M_X13_uses 0 [.ref tM] [] μ Q := by
  unfold F_X13_uses at h
  refine e_aload_n dX13_uses_0 rfl ?_
  refine e_iconst (v := (0 : Int32)) dX13_uses_1 rfl ?_
  refine e_putI dX13_uses_2 rfl ⟨rfl, rfl, fun h => by cases h⟩ (fun h => by cases h) hs.1 hs.2.1 ?_
  refine e_aload_n dX13_uses_5 rfl ?_
  refine e_aload_n dX13_uses_6 rfl ?_
  refine e_getI dX13_uses_7 rfl rfl hs.1 hs.2.1 ?_
  refine e_putI dX13_uses_10 rfl ⟨rfl, rfl, fun h => by cases h⟩ (fun h => by cases h) hs.1 hs.2.1 ?_
  refine e_aload_n dX13_uses_13 rfl ?_
  refine e_iconst (v := (0 : Int32)) dX13_uses_14 rfl ?_
  refine e_putI dX13_uses_15 rfl ⟨rfl, rfl, fun h => by cases h⟩ (fun h => by cases h) hs.1 hs.2.1 ?_
  refine e_aload_n dX13_uses_18 rfl ?_
  refine e_iconst (v := (0 : Int32)) dX13_uses_19 rfl ?_
  refine e_putI dX13_uses_20 rfl ⟨rfl, rfl, fun h => by cases h⟩ (fun h => by cases h) hs.1 hs.2.1 ?_
  cases h
  exact e_vret dX13_uses_23 rfl hQ
/-! X13_house -/
def F_X13_house_c46 : Nat → Int32 → Int32 → p_M → Option (Int32 × p_M)
  | 0, _, _, _ => none
  | n + 1, v1, v2, μ =>
    if (18 : Int32) ≤ v2
    then (some (v1, (sI μ tM 41 v1)))
    else (p_ok (¬ ((18 : Int32) + v2) < 0 ∧ ((18 : Int32) + v2).toNatClampNeg < 36)
      (p_ok (¬ v2 < 0 ∧ v2.toNatClampNeg < 36)
      (F_X13_house_c46 n v1 (v2 + (1 : Int32)) (sI μ (aM 40) v2.toNatClampNeg (mI μ (aM 40) ((18 : Int32) + v2).toNatClampNeg)))))
theorem P_X13_house_c46 : ∀ (n : Nat) (v1 : Int32) (v2 : Int32) (μ : p_M) (r : Int32 × p_M), F_X13_house_c46 n v1 v2 μ = some r → Sm μ r.2 := by
  intro n
  induction n with
  | zero => intro v1 v2 μ r h; rw [F_X13_house_c46] at h; cases h
  | succ n ih =>
    intro v1 v2 μ r h
    rw [F_X13_house_c46] at h
    by_cases hc : (18 : Int32) ≤ v2
    · rw [if_pos hc] at h
      cases h
      exact (Sm_set (Sm_refl μ) (by decide))
    · rw [if_neg hc] at h
      obtain ⟨hc, h⟩ := p_ok_some h
      obtain ⟨hc, h⟩ := p_ok_some h
      exact Sm_trans (Sm_set (Sm_refl μ) (by decide)) (ih _ _ _ _ h)
theorem E_X13_house_c46 {X : p_X} {d : Nat} {Q : p_R → Prop} : ∀ (n : Nat) (v1 : Int32) (v2 : Int32) (μ : p_M) (r : Int32 × p_M), ShM μ → F_X13_house_c46 n v1 v2 μ = some r → Q ((0, some (.int r.1)), r.2) → p_Ev X (d + 7) M_X13_house 46 [.ref tM, .int v1, .int v2] [] μ Q := by
  intro n
  induction n with
  | zero => intro v1 v2 μ r hs h hQ; rw [F_X13_house_c46] at h; cases h
  | succ n ih =>
    intro v1 v2 μ r hs h hQ
    rw [F_X13_house_c46] at h
    refine e_iload_n dX13_house_46 rfl ?_
    refine e_bipush (v := (18 : Int32)) dX13_house_47 rfl ?_
    refine e_ic_ge dX13_house_49 73 (by decide) (fun hc => ?_) (fun hc => ?_)
    · rw [if_pos hc] at h
      refine e_aload_n dX13_house_73 rfl ?_
      refine e_iload_n dX13_house_74 rfl ?_
      refine e_putI dX13_house_75 rfl ⟨rfl, rfl, fun h => by cases h⟩ (fun h => by cases h) hs.1 hs.2.1 ?_
      refine e_iload_n dX13_house_78 rfl ?_
      cases h
      exact e_ireti dX13_house_79 rfl hQ
    · rw [if_neg hc] at h
      refine e_aload_n dX13_house_52 rfl ?_
      refine e_getR dX13_house_53 rfl rfl hs.1 hs.2.1 (hs.2.2.2 40 (by decide) rfl).1 ?_
      refine e_iload_n dX13_house_56 rfl ?_
      refine e_aload_n dX13_house_57 rfl ?_
      refine e_getR dX13_house_58 rfl rfl hs.1 hs.2.1 (hs.2.2.2 40 (by decide) rfl).1 ?_
      refine e_bipush (v := (18 : Int32)) dX13_house_61 rfl ?_
      refine e_iload_n dX13_house_63 rfl ?_
      refine e_iadd dX13_house_64 ?_
      obtain ⟨hc, h⟩ := p_ok_some h
      refine e_iald dX13_house_65 (Nat.lt_trans (hs.2.2.2 40 (by decide) rfl).2.2.2 hs.2.2.1) (hs.2.2.2 40 (by decide) rfl).2.1 (hs.2.2.2 40 (by decide) rfl).2.2.1 (hs.2.2.2 40 (by decide) rfl).2.2.2 hc ?_
      obtain ⟨hc, h⟩ := p_ok_some h
      refine e_iast dX13_house_66 (hs.2.2.2 40 (by decide) rfl).2.1 (hs.2.2.2 40 (by decide) rfl).2.2.1 (hs.2.2.2 40 (by decide) rfl).2.2.2 hc ?_
      refine e_iinc (v := (1 : Int32)) dX13_house_67 rfl rfl rfl ?_
      refine e_goto dX13_house_70 46 (by decide) ?_
      exact ih _ _ _ _ hs h hQ
def F_X13_house_c35 (v1 : Int32) (s0 : Int32) (μ : p_M) : Option (Int32 × p_M) :=
  (F_X13_throwsIf s0 (1 : Int32) μ).bind fun q3 =>
  if q3.1 = 0
  then (F_X13_house_c46 p_fu v1 (0 : Int32) q3.2)
  else (some ((0 : Int32), q3.2))
theorem P_X13_house_c35 {v1 : Int32} {s0 : Int32} {μ : p_M} {r : Int32 × p_M} (h : F_X13_house_c35 v1 s0 μ = some r) : Sm μ r.2 := by
  unfold F_X13_house_c35 at h
  obtain ⟨q3, hq3, h⟩ := p_bd h
  by_cases hc : q3.1 = 0
  · rw [if_pos hc] at h
    exact Sm_trans (Sm_trans (Sm_refl μ) (P_X13_throwsIf (r := q3) hq3)) (P_X13_house_c46 p_fu _ _ _ _ h)
  · rw [if_neg hc] at h
    cases h
    exact (Sm_trans (Sm_refl μ) (P_X13_throwsIf (r := q3) hq3))
theorem E_X13_house_c35 {X : p_X} {d : Nat} {Q : p_R → Prop} {v1 : Int32} {s0 : Int32} {w2 : Value} {μ : p_M} {r : Int32 × p_M} (hs : ShM μ) (h : F_X13_house_c35 v1 s0 μ = some r) (hQ : Q ((0, some (.int r.1)), r.2)) : p_Ev X (d + 7) M_X13_house 35 [.ref tM, .int v1, w2] [.int s0, .ref tM] μ Q := by
  unfold F_X13_house_c35 at h
  refine e_iconst (v := (1 : Int32)) dX13_house_35 rfl ?_
  obtain ⟨q3, hq3, h⟩ := p_bd h
  refine e_cV dX13_house_36 rfl rfl ⟨rfl, rfl, by decide⟩ rfl hs.1 hs.2.1 (E_X13_throwsIf hs hq3 ⟨rfl, ?_⟩)
  have hs := ShM_of (P_X13_throwsIf hq3) hs
  show p_Ev X (d + 7) M_X13_house 39 [.ref tM, .int v1, w2] [.int q3.1] q3.2 Q
  refine e_if_eq dX13_house_39 44 (by decide) (fun hc => ?_) (fun hc => ?_)
  · rw [if_pos hc] at h
    refine e_iconst (v := (0 : Int32)) dX13_house_44 rfl ?_
    refine e_istore_n dX13_house_45 (Nat.le_of_ble_eq_true rfl) rfl ?_
    exact E_X13_house_c46 p_fu _ _ _ _ hs h hQ
  · rw [if_neg hc] at h
    refine e_iconst (v := (0 : Int32)) dX13_house_42 rfl ?_
    cases h
    exact e_ireti dX13_house_43 rfl hQ
def F_X13_house_c22 (v1 : Int32) (s0 : Int32) (μ : p_M) : Option (Int32 × p_M) :=
  if 0 ≤ v1
  then (F_X13_house_c35 v1 (0 : Int32) (sI μ tM 6 s0))
  else (F_X13_house_c35 v1 (1 : Int32) (sI μ tM 6 s0))
theorem P_X13_house_c22 {v1 : Int32} {s0 : Int32} {μ : p_M} {r : Int32 × p_M} (h : F_X13_house_c22 v1 s0 μ = some r) : Sm μ r.2 := by
  unfold F_X13_house_c22 at h
  by_cases hc : 0 ≤ v1
  · rw [if_pos hc] at h
    exact Sm_trans (Sm_set (Sm_refl μ) (by decide)) (P_X13_house_c35 h)
  · rw [if_neg hc] at h
    exact Sm_trans (Sm_set (Sm_refl μ) (by decide)) (P_X13_house_c35 h)
theorem E_X13_house_c22 {X : p_X} {d : Nat} {Q : p_R → Prop} {v1 : Int32} {s0 : Int32} {w2 : Value} {μ : p_M} {r : Int32 × p_M} (hs : ShM μ) (h : F_X13_house_c22 v1 s0 μ = some r) (hQ : Q ((0, some (.int r.1)), r.2)) : p_Ev X (d + 7) M_X13_house 22 [.ref tM, .int v1, w2] [.int s0, .ref tM] μ Q := by
  unfold F_X13_house_c22 at h
  refine e_putI dX13_house_22 rfl ⟨rfl, rfl, fun h => by cases h⟩ (fun h => by cases h) hs.1 hs.2.1 ?_
  refine e_aload_n dX13_house_25 rfl ?_
  refine e_iload_n dX13_house_26 rfl ?_
  refine e_if_ge dX13_house_27 34 (by decide) (fun hc => ?_) (fun hc => ?_)
  · rw [if_pos hc] at h
    refine e_iconst (v := (0 : Int32)) dX13_house_34 rfl ?_
    exact E_X13_house_c35 hs h hQ
  · rw [if_neg hc] at h
    refine e_iconst (v := (1 : Int32)) dX13_house_30 rfl ?_
    refine e_goto dX13_house_31 35 (by decide) ?_
    exact E_X13_house_c35 hs h hQ
def F_X13_house (μ : p_M) : Option (Int32 × p_M) :=
  (F_X13_uses μ).bind fun q1 =>
  (F_X13_readHouse q1.2).bind fun q2 =>
  if 0 ≤ q2.1
  then (F_X13_house_c22 q2.1 (-1) q2.2)
  else (F_X13_house_c22 q2.1 (mI q2.2 tM 5) q2.2)
theorem P_X13_house {μ : p_M} {r : Int32 × p_M} (h : F_X13_house μ = some r) : Sm μ r.2 := by
  unfold F_X13_house at h
  obtain ⟨q1, hq1, h⟩ := p_bd h
  obtain ⟨q2, hq2, h⟩ := p_bd h
  by_cases hc : 0 ≤ q2.1
  · rw [if_pos hc] at h
    exact Sm_trans (Sm_trans (Sm_trans (Sm_refl μ) (P_X13_uses (r := q1) hq1)) (P_X13_readHouse (r := q2) hq2)) (P_X13_house_c22 h)
  · rw [if_neg hc] at h
    exact Sm_trans (Sm_trans (Sm_trans (Sm_refl μ) (P_X13_uses (r := q1) hq1)) (P_X13_readHouse (r := q2) hq2)) (P_X13_house_c22 h)
theorem E_X13_house {X : p_X} {d : Nat} {Q : p_R → Prop} {μ : p_M} {r : Int32 × p_M} (hs : ShM μ) (h : F_X13_house μ = some r) (hQ : Q ((0, some (.int r.1)), r.2)) : p_Ev X (d + 7) M_X13_house 0 [.ref tM, .double 0, .double 0] [] μ Q := by
  unfold F_X13_house at h
  refine e_aload_n dX13_house_0 rfl ?_
  obtain ⟨q1, hq1, h⟩ := p_bd h
  refine e_cV dX13_house_1 rfl rfl ⟨rfl, rfl, by decide⟩ rfl hs.1 hs.2.1 (E_X13_uses hs hq1 ⟨rfl, ?_⟩)
  have hs := ShM_of (P_X13_uses hq1) hs
  show p_Ev X (d + 7) M_X13_house 4 [.ref tM, .double 0, .double 0] [] q1.2 Q
  refine e_aload_n dX13_house_4 rfl ?_
  obtain ⟨q2, hq2, h⟩ := p_bd h
  refine e_cV dX13_house_5 rfl rfl ⟨rfl, rfl, by decide⟩ rfl hs.1 hs.2.1 (E_X13_readHouse hs hq2 ⟨rfl, ?_⟩)
  have hs := ShM_of (P_X13_readHouse hq2) hs
  show p_Ev X (d + 7) M_X13_house 8 [.ref tM, .double 0, .double 0] [.int q2.1] q2.2 Q
  refine e_istore_n dX13_house_8 (Nat.le_of_ble_eq_true rfl) rfl ?_
  refine e_aload_n dX13_house_9 rfl ?_
  refine e_iload_n dX13_house_10 rfl ?_
  refine e_if_ge dX13_house_11 21 (by decide) (fun hc => ?_) (fun hc => ?_)
  · rw [if_pos hc] at h
    refine e_iconst (v := (-1)) dX13_house_21 rfl ?_
    exact E_X13_house_c22 hs h hQ
  · rw [if_neg hc] at h
    refine e_aload_n dX13_house_14 rfl ?_
    refine e_getI dX13_house_15 rfl rfl hs.1 hs.2.1 ?_
    refine e_goto dX13_house_18 22 (by decide) ?_
    exact E_X13_house_c22 hs h hQ
/-! X13_noPiece -/
def F_X13_noPiece_c29 (s0 : Int32) (μ : p_M) : Option (Int32 × p_M) :=
  p_ok (s0 = 0 ∨ s0 = 1) (some (s0, μ))
theorem P_X13_noPiece_c29 {s0 : Int32} {μ : p_M} {r : Int32 × p_M} (h : F_X13_noPiece_c29 s0 μ = some r) : Sm μ r.2 := by
  unfold F_X13_noPiece_c29 at h
  obtain ⟨hc, h⟩ := p_ok_some h
  cases h
  exact (Sm_refl μ)
theorem E_X13_noPiece_c29 {X : p_X} {d : Nat} {Q : p_R → Prop} {s0 : Int32} {w0 : Value} {w1 : Value} {w2 : Value} {μ : p_M} {r : Int32 × p_M} (hs : ShM μ) (h : F_X13_noPiece_c29 s0 μ = some r) (hQ : Q ((0, some (.int r.1)), r.2)) : p_Ev X (d + 2) M_X13_noPiece 29 [w0, w1, w2] [.int s0] μ Q := by
  unfold F_X13_noPiece_c29 at h
  obtain ⟨hc, h⟩ := p_ok_some h
  cases h
  exact e_iretz dX13_noPiece_29 rfl hc hQ
def F_X13_noPiece_c24 (μ : p_M) : Option (Int32 × p_M) :=
  F_X13_noPiece_c29 (1 : Int32) μ
theorem P_X13_noPiece_c24 {μ : p_M} {r : Int32 × p_M} (h : F_X13_noPiece_c24 μ = some r) : Sm μ r.2 := by
  unfold F_X13_noPiece_c24 at h
  exact Sm_trans (Sm_refl μ) (P_X13_noPiece_c29 h)
theorem E_X13_noPiece_c24 {X : p_X} {d : Nat} {Q : p_R → Prop} {w0 : Value} {w1 : Value} {w2 : Value} {μ : p_M} {r : Int32 × p_M} (hs : ShM μ) (h : F_X13_noPiece_c24 μ = some r) (hQ : Q ((0, some (.int r.1)), r.2)) : p_Ev X (d + 2) M_X13_noPiece 24 [w0, w1, w2] [] μ Q := by
  unfold F_X13_noPiece_c24 at h
  refine e_iconst (v := (1 : Int32)) dX13_noPiece_24 rfl ?_
  refine e_goto dX13_noPiece_25 29 (by decide) ?_
  exact E_X13_noPiece_c29 hs h hQ
def F_X13_noPiece (v1 : Int32) (v2 : Int32) (μ : p_M) : Option (Int32 × p_M) :=
  (F_X13_noLot v1 μ).bind fun q1 =>
  if ¬ q1.1 = 0
  then (F_X13_noPiece_c24 q1.2)
  else (p_ok (¬ v1 < 0 ∧ v1.toNatClampNeg < 40)
    ((F_X13_in v2 (0 : Int32) ((mI q1.2 (aM 49) v1.toNatClampNeg) - (1 : Int32)) q1.2).bind fun q2 =>
    if ¬ q2.1 = 0
    then (F_X13_noPiece_c29 (0 : Int32) q2.2)
    else (F_X13_noPiece_c24 q2.2)))
theorem P_X13_noPiece {v1 : Int32} {v2 : Int32} {μ : p_M} {r : Int32 × p_M} (h : F_X13_noPiece v1 v2 μ = some r) : Sm μ r.2 := by
  unfold F_X13_noPiece at h
  obtain ⟨q1, hq1, h⟩ := p_bd h
  by_cases hc : ¬ q1.1 = 0
  · rw [if_pos hc] at h
    exact Sm_trans (Sm_trans (Sm_refl μ) (P_X13_noLot (r := q1) hq1)) (P_X13_noPiece_c24 h)
  · rw [if_neg hc] at h
    obtain ⟨hc, h⟩ := p_ok_some h
    obtain ⟨q2, hq2, h⟩ := p_bd h
    by_cases hc : ¬ q2.1 = 0
    · rw [if_pos hc] at h
      exact Sm_trans (Sm_trans (Sm_trans (Sm_refl μ) (P_X13_noLot (r := q1) hq1)) (P_X13_in (r := q2) hq2)) (P_X13_noPiece_c29 h)
    · rw [if_neg hc] at h
      exact Sm_trans (Sm_trans (Sm_trans (Sm_refl μ) (P_X13_noLot (r := q1) hq1)) (P_X13_in (r := q2) hq2)) (P_X13_noPiece_c24 h)
theorem E_X13_noPiece {X : p_X} {d : Nat} {Q : p_R → Prop} {v1 : Int32} {v2 : Int32} {μ : p_M} {r : Int32 × p_M} (hs : ShM μ) (h : F_X13_noPiece v1 v2 μ = some r) (hQ : Q ((0, some (.int r.1)), r.2)) : p_Ev X (d + 2) M_X13_noPiece 0 [.ref tM, .int v1, .int v2] [] μ Q := by
  unfold F_X13_noPiece at h
  refine e_aload_n dX13_noPiece_0 rfl ?_
  refine e_iload_n dX13_noPiece_1 rfl ?_
  obtain ⟨q1, hq1, h⟩ := p_bd h
  refine e_cV dX13_noPiece_2 rfl rfl ⟨rfl, rfl, by decide⟩ rfl hs.1 hs.2.1 (E_X13_noLot hs hq1 ⟨rfl, ?_⟩)
  have hs := ShM_of (P_X13_noLot hq1) hs
  show p_Ev X (d + 2) M_X13_noPiece 5 [.ref tM, .int v1, .int v2] [.int q1.1] q1.2 Q
  refine e_if_ne dX13_noPiece_5 24 (by decide) (fun hc => ?_) (fun hc => ?_)
  · rw [if_pos hc] at h
    exact E_X13_noPiece_c24 hs h hQ
  · rw [if_neg hc] at h
    refine e_iload_n dX13_noPiece_8 rfl ?_
    refine e_iconst (v := (0 : Int32)) dX13_noPiece_9 rfl ?_
    refine e_aload_n dX13_noPiece_10 rfl ?_
    refine e_getR dX13_noPiece_11 rfl rfl hs.1 hs.2.1 (hs.2.2.2 49 (by decide) rfl).1 ?_
    refine e_iload_n dX13_noPiece_14 rfl ?_
    obtain ⟨hc, h⟩ := p_ok_some h
    refine e_iald dX13_noPiece_15 (Nat.lt_trans (hs.2.2.2 49 (by decide) rfl).2.2.2 hs.2.2.1) (hs.2.2.2 49 (by decide) rfl).2.1 (hs.2.2.2 49 (by decide) rfl).2.2.1 (hs.2.2.2 49 (by decide) rfl).2.2.2 hc ?_
    refine e_iconst (v := (1 : Int32)) dX13_noPiece_16 rfl ?_
    refine e_isub dX13_noPiece_17 ?_
    obtain ⟨q2, hq2, h⟩ := p_bd h
    refine e_cS dX13_noPiece_18 rfl rfl rfl rfl (E_X13_in hs hq2 ⟨rfl, ?_⟩)
    have hs := ShM_of (P_X13_in hq2) hs
    show p_Ev X (d + 2) M_X13_noPiece 21 [.ref tM, .int v1, .int v2] [.int q2.1] q2.2 Q
    refine e_if_ne dX13_noPiece_21 28 (by decide) (fun hc => ?_) (fun hc => ?_)
    · rw [if_pos hc] at h
      refine e_iconst (v := (0 : Int32)) dX13_noPiece_28 rfl ?_
      exact E_X13_noPiece_c29 hs h hQ
    · rw [if_neg hc] at h
      exact E_X13_noPiece_c24 hs h hQ
/-! X13_known -/
def F_X13_known_c30 (s0 : Int32) (μ : p_M) : Option (Int32 × p_M) :=
  some (s0, μ)
theorem P_X13_known_c30 {s0 : Int32} {μ : p_M} {r : Int32 × p_M} (h : F_X13_known_c30 s0 μ = some r) : Sm μ r.2 := by
  unfold F_X13_known_c30 at h
  cases h
  exact (Sm_refl μ)
theorem E_X13_known_c30 {X : p_X} {d : Nat} {Q : p_R → Prop} {s0 : Int32} {w0 : Value} {w1 : Value} {w2 : Value} {w3 : Value} {μ : p_M} {r : Int32 × p_M} (hs : ShM μ) (h : F_X13_known_c30 s0 μ = some r) (hQ : Q ((0, some (.int r.1)), r.2)) : p_Ev X (d + 3) M_X13_known 30 [w0, w1, w2, w3] [.int s0] μ Q := by
  unfold F_X13_known_c30 at h
  cases h
  exact e_ireti dX13_known_30 rfl hQ
def F_X13_known (v1 : Int32) (v2 : Int32) (v3 : Int32) (μ : p_M) : Option (Int32 × p_M) :=
  (F_X13_noPiece v1 v2 (sI μ tM 0 (0 : Int32))).bind fun q1 =>
  (F_X13_throwsIf q1.1 (1 : Int32) q1.2).bind fun q2 =>
  if q2.1 = 0
  then ((F_X13_knownOf v1 v2 v3 q2.2).bind fun q3 =>
    F_X13_known_c30 q3.1 q3.2)
  else (F_X13_known_c30 (0 : Int32) q2.2)
theorem P_X13_known {v1 : Int32} {v2 : Int32} {v3 : Int32} {μ : p_M} {r : Int32 × p_M} (h : F_X13_known v1 v2 v3 μ = some r) : Sm μ r.2 := by
  unfold F_X13_known at h
  obtain ⟨q1, hq1, h⟩ := p_bd h
  obtain ⟨q2, hq2, h⟩ := p_bd h
  by_cases hc : q2.1 = 0
  · rw [if_pos hc] at h
    obtain ⟨q3, hq3, h⟩ := p_bd h
    exact Sm_trans (Sm_trans (Sm_trans (Sm_trans (Sm_set (Sm_refl μ) (by decide)) (P_X13_noPiece (r := q1) hq1)) (P_X13_throwsIf (r := q2) hq2)) (P_X13_knownOf (r := q3) hq3)) (P_X13_known_c30 h)
  · rw [if_neg hc] at h
    exact Sm_trans (Sm_trans (Sm_trans (Sm_set (Sm_refl μ) (by decide)) (P_X13_noPiece (r := q1) hq1)) (P_X13_throwsIf (r := q2) hq2)) (P_X13_known_c30 h)
theorem E_X13_known {X : p_X} {d : Nat} {Q : p_R → Prop} {v1 : Int32} {v2 : Int32} {v3 : Int32} {μ : p_M} {r : Int32 × p_M} (hs : ShM μ) (h : F_X13_known v1 v2 v3 μ = some r) (hQ : Q ((0, some (.int r.1)), r.2)) : p_Ev X (d + 3) M_X13_known 0 [.ref tM, .int v1, .int v2, .int v3] [] μ Q := by
  unfold F_X13_known at h
  refine e_aload_n dX13_known_0 rfl ?_
  refine e_iconst (v := (0 : Int32)) dX13_known_1 rfl ?_
  refine e_putI dX13_known_2 rfl ⟨rfl, rfl, fun h => by cases h⟩ (fun h => by cases h) hs.1 hs.2.1 ?_
  refine e_aload_n dX13_known_5 rfl ?_
  refine e_aload_n dX13_known_6 rfl ?_
  refine e_iload_n dX13_known_7 rfl ?_
  refine e_iload_n dX13_known_8 rfl ?_
  obtain ⟨q1, hq1, h⟩ := p_bd h
  refine e_cV dX13_known_9 rfl rfl ⟨rfl, rfl, by decide⟩ rfl hs.1 hs.2.1 (E_X13_noPiece hs hq1 ⟨rfl, ?_⟩)
  have hs := ShM_of (P_X13_noPiece hq1) hs
  show p_Ev X (d + 3) M_X13_known 12 [.ref tM, .int v1, .int v2, .int v3] [.int q1.1, .ref tM] q1.2 Q
  refine e_iconst (v := (1 : Int32)) dX13_known_12 rfl ?_
  obtain ⟨q2, hq2, h⟩ := p_bd h
  refine e_cV dX13_known_13 rfl rfl ⟨rfl, rfl, by decide⟩ rfl hs.1 hs.2.1 (E_X13_throwsIf hs hq2 ⟨rfl, ?_⟩)
  have hs := ShM_of (P_X13_throwsIf hq2) hs
  show p_Ev X (d + 3) M_X13_known 16 [.ref tM, .int v1, .int v2, .int v3] [.int q2.1] q2.2 Q
  refine e_if_eq dX13_known_16 23 (by decide) (fun hc => ?_) (fun hc => ?_)
  · rw [if_pos hc] at h
    refine e_aload_n dX13_known_23 rfl ?_
    refine e_iload_n dX13_known_24 rfl ?_
    refine e_iload_n dX13_known_25 rfl ?_
    refine e_iload_n dX13_known_26 rfl ?_
    obtain ⟨q3, hq3, h⟩ := p_bd h
    refine e_cV dX13_known_27 rfl rfl ⟨rfl, rfl, by decide⟩ rfl hs.1 hs.2.1 (E_X13_knownOf hs hq3 ⟨rfl, ?_⟩)
    have hs := ShM_of (P_X13_knownOf hq3) hs
    show p_Ev X (d + 3) M_X13_known 30 [.ref tM, .int v1, .int v2, .int v3] [.int q3.1] q3.2 Q
    exact E_X13_known_c30 hs h hQ
  · rw [if_neg hc] at h
    refine e_iconst (v := (0 : Int32)) dX13_known_19 rfl ?_
    refine e_goto dX13_known_20 30 (by decide) ?_
    exact E_X13_known_c30 hs h hQ
/-! X13_meetsIt -/
def F_X13_meetsIt_c59 (s0 : Int32) (μ : p_M) : Option (Int32 × p_M) :=
  p_ok (s0 = 0 ∨ s0 = 1) (some (s0, μ))
theorem P_X13_meetsIt_c59 {s0 : Int32} {μ : p_M} {r : Int32 × p_M} (h : F_X13_meetsIt_c59 s0 μ = some r) : Sm μ r.2 := by
  unfold F_X13_meetsIt_c59 at h
  obtain ⟨hc, h⟩ := p_ok_some h
  cases h
  exact (Sm_refl μ)
theorem E_X13_meetsIt_c59 {X : p_X} {d : Nat} {Q : p_R → Prop} {s0 : Int32} {w0 : Value} {w1 : Value} {w2 : Value} {w3 : Value} {w4 : Value} {μ : p_M} {r : Int32 × p_M} (hs : ShM μ) (h : F_X13_meetsIt_c59 s0 μ = some r) (hQ : Q ((0, some (.int r.1)), r.2)) : p_Ev X (d + 0) M_X13_meetsIt 59 [w0, w1, w2, w3, w4] [.int s0] μ Q := by
  unfold F_X13_meetsIt_c59 at h
  obtain ⟨hc, h⟩ := p_ok_some h
  cases h
  exact e_iretz dX13_meetsIt_59 rfl hc hQ
def F_X13_meetsIt_c58 (μ : p_M) : Option (Int32 × p_M) :=
  F_X13_meetsIt_c59 (0 : Int32) μ
theorem P_X13_meetsIt_c58 {μ : p_M} {r : Int32 × p_M} (h : F_X13_meetsIt_c58 μ = some r) : Sm μ r.2 := by
  unfold F_X13_meetsIt_c58 at h
  exact Sm_trans (Sm_refl μ) (P_X13_meetsIt_c59 h)
theorem E_X13_meetsIt_c58 {X : p_X} {d : Nat} {Q : p_R → Prop} {w0 : Value} {w1 : Value} {w2 : Value} {w3 : Value} {w4 : Value} {μ : p_M} {r : Int32 × p_M} (hs : ShM μ) (h : F_X13_meetsIt_c58 μ = some r) (hQ : Q ((0, some (.int r.1)), r.2)) : p_Ev X (d + 0) M_X13_meetsIt 58 [w0, w1, w2, w3, w4] [] μ Q := by
  unfold F_X13_meetsIt_c58 at h
  refine e_iconst (v := (0 : Int32)) dX13_meetsIt_58 rfl ?_
  exact E_X13_meetsIt_c59 hs h hQ
def F_X13_meetsIt (v1 : Int32) (v2 : Int32) (v3 : Int32) (v4 : Int32) (μ : p_M) : Option (Int32 × p_M) :=
  p_ok (¬ ((5 : Int32) * v1) < 0 ∧ ((5 : Int32) * v1).toNatClampNeg < 240)
  (if (mI μ (aM 15) ((5 : Int32) * v1).toNatClampNeg) < v2
  then (F_X13_meetsIt_c58 μ)
  else (p_ok (¬ (((5 : Int32) * v1) + (1 : Int32)) < 0 ∧ (((5 : Int32) * v1) + (1 : Int32)).toNatClampNeg < 240)
    (if v3 < (mI μ (aM 15) (((5 : Int32) * v1) + (1 : Int32)).toNatClampNeg)
    then (F_X13_meetsIt_c58 μ)
    else (p_ok (¬ (((5 : Int32) * v1) + (2 : Int32)) < 0 ∧ (((5 : Int32) * v1) + (2 : Int32)).toNatClampNeg < 240)
      (if (mI μ (aM 15) (((5 : Int32) * v1) + (2 : Int32)).toNatClampNeg) < v4
      then (F_X13_meetsIt_c58 μ)
      else (p_ok (¬ (((5 : Int32) * v1) + (4 : Int32)) < 0 ∧ (((5 : Int32) * v1) + (4 : Int32)).toNatClampNeg < 240)
        (if ¬ (mI μ (aM 15) (((5 : Int32) * v1) + (4 : Int32)).toNatClampNeg) = 0
        then (F_X13_meetsIt_c58 μ)
        else (F_X13_meetsIt_c59 (1 : Int32) μ))))))))
theorem P_X13_meetsIt {v1 : Int32} {v2 : Int32} {v3 : Int32} {v4 : Int32} {μ : p_M} {r : Int32 × p_M} (h : F_X13_meetsIt v1 v2 v3 v4 μ = some r) : Sm μ r.2 := by
  unfold F_X13_meetsIt at h
  obtain ⟨hc, h⟩ := p_ok_some h
  by_cases hc : (mI μ (aM 15) ((5 : Int32) * v1).toNatClampNeg) < v2
  · rw [if_pos hc] at h
    exact Sm_trans (Sm_refl μ) (P_X13_meetsIt_c58 h)
  · rw [if_neg hc] at h
    obtain ⟨hc, h⟩ := p_ok_some h
    by_cases hc : v3 < (mI μ (aM 15) (((5 : Int32) * v1) + (1 : Int32)).toNatClampNeg)
    · rw [if_pos hc] at h
      exact Sm_trans (Sm_refl μ) (P_X13_meetsIt_c58 h)
    · rw [if_neg hc] at h
      obtain ⟨hc, h⟩ := p_ok_some h
      by_cases hc : (mI μ (aM 15) (((5 : Int32) * v1) + (2 : Int32)).toNatClampNeg) < v4
      · rw [if_pos hc] at h
        exact Sm_trans (Sm_refl μ) (P_X13_meetsIt_c58 h)
      · rw [if_neg hc] at h
        obtain ⟨hc, h⟩ := p_ok_some h
        by_cases hc : ¬ (mI μ (aM 15) (((5 : Int32) * v1) + (4 : Int32)).toNatClampNeg) = 0
        · rw [if_pos hc] at h
          exact Sm_trans (Sm_refl μ) (P_X13_meetsIt_c58 h)
        · rw [if_neg hc] at h
          exact Sm_trans (Sm_refl μ) (P_X13_meetsIt_c59 h)
theorem E_X13_meetsIt {X : p_X} {d : Nat} {Q : p_R → Prop} {v1 : Int32} {v2 : Int32} {v3 : Int32} {v4 : Int32} {μ : p_M} {r : Int32 × p_M} (hs : ShM μ) (h : F_X13_meetsIt v1 v2 v3 v4 μ = some r) (hQ : Q ((0, some (.int r.1)), r.2)) : p_Ev X (d + 0) M_X13_meetsIt 0 [.ref tM, .int v1, .int v2, .int v3, .int v4] [] μ Q := by
  unfold F_X13_meetsIt at h
  refine e_aload_n dX13_meetsIt_0 rfl ?_
  refine e_getR dX13_meetsIt_1 rfl rfl hs.1 hs.2.1 (hs.2.2.2 15 (by decide) rfl).1 ?_
  refine e_iconst (v := (5 : Int32)) dX13_meetsIt_4 rfl ?_
  refine e_iload_n dX13_meetsIt_5 rfl ?_
  refine e_imul dX13_meetsIt_6 ?_
  obtain ⟨hc, h⟩ := p_ok_some h
  refine e_iald dX13_meetsIt_7 (Nat.lt_trans (hs.2.2.2 15 (by decide) rfl).2.2.2 hs.2.2.1) (hs.2.2.2 15 (by decide) rfl).2.1 (hs.2.2.2 15 (by decide) rfl).2.2.1 (hs.2.2.2 15 (by decide) rfl).2.2.2 hc ?_
  refine e_iload_n dX13_meetsIt_8 rfl ?_
  refine e_ic_lt dX13_meetsIt_9 58 (by decide) (fun hc => ?_) (fun hc => ?_)
  · rw [if_pos hc] at h
    exact E_X13_meetsIt_c58 hs h hQ
  · rw [if_neg hc] at h
    refine e_aload_n dX13_meetsIt_12 rfl ?_
    refine e_getR dX13_meetsIt_13 rfl rfl hs.1 hs.2.1 (hs.2.2.2 15 (by decide) rfl).1 ?_
    refine e_iconst (v := (5 : Int32)) dX13_meetsIt_16 rfl ?_
    refine e_iload_n dX13_meetsIt_17 rfl ?_
    refine e_imul dX13_meetsIt_18 ?_
    refine e_iconst (v := (1 : Int32)) dX13_meetsIt_19 rfl ?_
    refine e_iadd dX13_meetsIt_20 ?_
    obtain ⟨hc, h⟩ := p_ok_some h
    refine e_iald dX13_meetsIt_21 (Nat.lt_trans (hs.2.2.2 15 (by decide) rfl).2.2.2 hs.2.2.1) (hs.2.2.2 15 (by decide) rfl).2.1 (hs.2.2.2 15 (by decide) rfl).2.2.1 (hs.2.2.2 15 (by decide) rfl).2.2.2 hc ?_
    refine e_iload_n dX13_meetsIt_22 rfl ?_
    refine e_ic_gt dX13_meetsIt_23 58 (by decide) (fun hc => ?_) (fun hc => ?_)
    · rw [if_pos hc] at h
      exact E_X13_meetsIt_c58 hs h hQ
    · rw [if_neg hc] at h
      refine e_aload_n dX13_meetsIt_26 rfl ?_
      refine e_getR dX13_meetsIt_27 rfl rfl hs.1 hs.2.1 (hs.2.2.2 15 (by decide) rfl).1 ?_
      refine e_iconst (v := (5 : Int32)) dX13_meetsIt_30 rfl ?_
      refine e_iload_n dX13_meetsIt_31 rfl ?_
      refine e_imul dX13_meetsIt_32 ?_
      refine e_iconst (v := (2 : Int32)) dX13_meetsIt_33 rfl ?_
      refine e_iadd dX13_meetsIt_34 ?_
      obtain ⟨hc, h⟩ := p_ok_some h
      refine e_iald dX13_meetsIt_35 (Nat.lt_trans (hs.2.2.2 15 (by decide) rfl).2.2.2 hs.2.2.1) (hs.2.2.2 15 (by decide) rfl).2.1 (hs.2.2.2 15 (by decide) rfl).2.2.1 (hs.2.2.2 15 (by decide) rfl).2.2.2 hc ?_
      refine e_iload dX13_meetsIt_36 rfl ?_
      refine e_ic_lt dX13_meetsIt_38 58 (by decide) (fun hc => ?_) (fun hc => ?_)
      · rw [if_pos hc] at h
        exact E_X13_meetsIt_c58 hs h hQ
      · rw [if_neg hc] at h
        refine e_aload_n dX13_meetsIt_41 rfl ?_
        refine e_getR dX13_meetsIt_42 rfl rfl hs.1 hs.2.1 (hs.2.2.2 15 (by decide) rfl).1 ?_
        refine e_iconst (v := (5 : Int32)) dX13_meetsIt_45 rfl ?_
        refine e_iload_n dX13_meetsIt_46 rfl ?_
        refine e_imul dX13_meetsIt_47 ?_
        refine e_iconst (v := (4 : Int32)) dX13_meetsIt_48 rfl ?_
        refine e_iadd dX13_meetsIt_49 ?_
        obtain ⟨hc, h⟩ := p_ok_some h
        refine e_iald dX13_meetsIt_50 (Nat.lt_trans (hs.2.2.2 15 (by decide) rfl).2.2.2 hs.2.2.1) (hs.2.2.2 15 (by decide) rfl).2.1 (hs.2.2.2 15 (by decide) rfl).2.2.1 (hs.2.2.2 15 (by decide) rfl).2.2.2 hc ?_
        refine e_if_ne dX13_meetsIt_51 58 (by decide) (fun hc => ?_) (fun hc => ?_)
        · rw [if_pos hc] at h
          exact E_X13_meetsIt_c58 hs h hQ
        · rw [if_neg hc] at h
          refine e_iconst (v := (1 : Int32)) dX13_meetsIt_54 rfl ?_
          refine e_goto dX13_meetsIt_55 59 (by decide) ?_
          exact E_X13_meetsIt_c59 hs h hQ
/-! X13_piecesOf -/
def F_X13_piecesOf_c38 (K5 : Int32 → Int32 → Int32 → Int32 → p_M → Option (Int32 × p_M)) (v1 : Int32) (v2 : Int32) (v4 : Int32) (s0 : Int32) (s1 : Int32) (μ : p_M) : Option (Int32 × p_M) :=
  K5 v1 v2 (s1 + s0) (v4 + (1 : Int32)) μ
theorem P_X13_piecesOf_c38 {K5 : Int32 → Int32 → Int32 → Int32 → p_M → Option (Int32 × p_M)} (hP5 : ∀ (v1 : Int32) (v2 : Int32) (v3 : Int32) (v4 : Int32) (μ : p_M) (r : Int32 × p_M), K5 v1 v2 v3 v4 μ = some r → Sm μ r.2) {v1 : Int32} {v2 : Int32} {v4 : Int32} {s0 : Int32} {s1 : Int32} {μ : p_M} {r : Int32 × p_M} (h : F_X13_piecesOf_c38 K5 v1 v2 v4 s0 s1 μ = some r) : Sm μ r.2 := by
  unfold F_X13_piecesOf_c38 at h
  exact Sm_trans (Sm_refl μ) (hP5 _ _ _ _ _ _ h)
theorem E_X13_piecesOf_c38 {X : p_X} {d : Nat} {Q : p_R → Prop} {K5 : Int32 → Int32 → Int32 → Int32 → p_M → Option (Int32 × p_M)} (hK5 : ∀ (v1 : Int32) (v2 : Int32) (v3 : Int32) (v4 : Int32) (μ : p_M) (r : Int32 × p_M), ShM μ → K5 v1 v2 v3 v4 μ = some r → Q ((0, some (.int r.1)), r.2) → p_Ev X (d + 0) M_X13_piecesOf 5 [.ref tM, .int v1, .int v2, .int v3, .int v4] [] μ Q) {v1 : Int32} {v2 : Int32} {v4 : Int32} {s0 : Int32} {s1 : Int32} {w3 : Value} {μ : p_M} {r : Int32 × p_M} (hs : ShM μ) (h : F_X13_piecesOf_c38 K5 v1 v2 v4 s0 s1 μ = some r) (hQ : Q ((0, some (.int r.1)), r.2)) : p_Ev X (d + 0) M_X13_piecesOf 38 [.ref tM, .int v1, .int v2, w3, .int v4] [.int s0, .int s1] μ Q := by
  unfold F_X13_piecesOf_c38 at h
  refine e_iadd dX13_piecesOf_38 ?_
  refine e_istore_n dX13_piecesOf_39 (Nat.le_of_ble_eq_true rfl) rfl ?_
  refine e_iinc (v := (1 : Int32)) dX13_piecesOf_40 rfl rfl rfl ?_
  refine e_goto dX13_piecesOf_43 5 (by decide) ?_
  exact hK5 _ _ _ _ _ _ hs h hQ
def F_X13_piecesOf_c5 : Nat → Int32 → Int32 → Int32 → Int32 → p_M → Option (Int32 × p_M)
  | 0, _, _, _, _, _ => none
  | n + 1, v1, v2, v3, v4, μ =>
    p_ok (¬ v1 < 0 ∧ v1.toNatClampNeg < 40)
    (if (mI μ (aM 49) v1.toNatClampNeg) ≤ v4
    then (some (v3, μ))
    else (p_ok (¬ (((60 : Int32) * v1) + v4) < 0 ∧ (((60 : Int32) * v1) + v4).toNatClampNeg < 2400)
      (if ¬ (mI μ (aM 64) (((60 : Int32) * v1) + v4).toNatClampNeg) = v2
      then (F_X13_piecesOf_c38 (F_X13_piecesOf_c5 n) v1 v2 v4 (0 : Int32) v3 μ)
      else (F_X13_piecesOf_c38 (F_X13_piecesOf_c5 n) v1 v2 v4 (1 : Int32) v3 μ))))
theorem P_X13_piecesOf_c5 : ∀ (n : Nat) (v1 : Int32) (v2 : Int32) (v3 : Int32) (v4 : Int32) (μ : p_M) (r : Int32 × p_M), F_X13_piecesOf_c5 n v1 v2 v3 v4 μ = some r → Sm μ r.2 := by
  intro n
  induction n with
  | zero => intro v1 v2 v3 v4 μ r h; rw [F_X13_piecesOf_c5] at h; cases h
  | succ n ih =>
    intro v1 v2 v3 v4 μ r h
    rw [F_X13_piecesOf_c5] at h
    obtain ⟨hc, h⟩ := p_ok_some h
    by_cases hc : (mI μ (aM 49) v1.toNatClampNeg) ≤ v4
    · rw [if_pos hc] at h
      cases h
      exact (Sm_refl μ)
    · rw [if_neg hc] at h
      obtain ⟨hc, h⟩ := p_ok_some h
      by_cases hc : ¬ (mI μ (aM 64) (((60 : Int32) * v1) + v4).toNatClampNeg) = v2
      · rw [if_pos hc] at h
        exact Sm_trans (Sm_refl μ) (P_X13_piecesOf_c38 ih h)
      · rw [if_neg hc] at h
        exact Sm_trans (Sm_refl μ) (P_X13_piecesOf_c38 ih h)
theorem E_X13_piecesOf_c5 {X : p_X} {d : Nat} {Q : p_R → Prop} : ∀ (n : Nat) (v1 : Int32) (v2 : Int32) (v3 : Int32) (v4 : Int32) (μ : p_M) (r : Int32 × p_M), ShM μ → F_X13_piecesOf_c5 n v1 v2 v3 v4 μ = some r → Q ((0, some (.int r.1)), r.2) → p_Ev X (d + 0) M_X13_piecesOf 5 [.ref tM, .int v1, .int v2, .int v3, .int v4] [] μ Q := by
  intro n
  induction n with
  | zero => intro v1 v2 v3 v4 μ r hs h hQ; rw [F_X13_piecesOf_c5] at h; cases h
  | succ n ih =>
    intro v1 v2 v3 v4 μ r hs h hQ
    rw [F_X13_piecesOf_c5] at h
    refine e_iload dX13_piecesOf_5 rfl ?_
    refine e_aload_n dX13_piecesOf_7 rfl ?_
    refine e_getR dX13_piecesOf_8 rfl rfl hs.1 hs.2.1 (hs.2.2.2 49 (by decide) rfl).1 ?_
    refine e_iload_n dX13_piecesOf_11 rfl ?_
    obtain ⟨hc, h⟩ := p_ok_some h
    refine e_iald dX13_piecesOf_12 (Nat.lt_trans (hs.2.2.2 49 (by decide) rfl).2.2.2 hs.2.2.1) (hs.2.2.2 49 (by decide) rfl).2.1 (hs.2.2.2 49 (by decide) rfl).2.2.1 (hs.2.2.2 49 (by decide) rfl).2.2.2 hc ?_
    refine e_ic_ge dX13_piecesOf_13 46 (by decide) (fun hc => ?_) (fun hc => ?_)
    · rw [if_pos hc] at h
      refine e_iload_n dX13_piecesOf_46 rfl ?_
      cases h
      exact e_ireti dX13_piecesOf_47 rfl hQ
    · rw [if_neg hc] at h
      refine e_iload_n dX13_piecesOf_16 rfl ?_
      refine e_aload_n dX13_piecesOf_17 rfl ?_
      refine e_getR dX13_piecesOf_18 rfl rfl hs.1 hs.2.1 (hs.2.2.2 64 (by decide) rfl).1 ?_
      refine e_bipush (v := (60 : Int32)) dX13_piecesOf_21 rfl ?_
      refine e_iload_n dX13_piecesOf_23 rfl ?_
      refine e_imul dX13_piecesOf_24 ?_
      refine e_iload dX13_piecesOf_25 rfl ?_
      refine e_iadd dX13_piecesOf_27 ?_
      obtain ⟨hc, h⟩ := p_ok_some h
      refine e_iald dX13_piecesOf_28 (Nat.lt_trans (hs.2.2.2 64 (by decide) rfl).2.2.2 hs.2.2.1) (hs.2.2.2 64 (by decide) rfl).2.1 (hs.2.2.2 64 (by decide) rfl).2.2.1 (hs.2.2.2 64 (by decide) rfl).2.2.2 hc ?_
      refine e_iload_n dX13_piecesOf_29 rfl ?_
      refine e_ic_ne dX13_piecesOf_30 37 (by decide) (fun hc => ?_) (fun hc => ?_)
      · rw [if_pos hc] at h
        refine e_iconst (v := (0 : Int32)) dX13_piecesOf_37 rfl ?_
        exact E_X13_piecesOf_c38 ih hs h hQ
      · rw [if_neg hc] at h
        refine e_iconst (v := (1 : Int32)) dX13_piecesOf_33 rfl ?_
        refine e_goto dX13_piecesOf_34 38 (by decide) ?_
        exact E_X13_piecesOf_c38 ih hs h hQ
def F_X13_piecesOf (v1 : Int32) (v2 : Int32) (μ : p_M) : Option (Int32 × p_M) :=
  F_X13_piecesOf_c5 p_fu v1 v2 (0 : Int32) (0 : Int32) μ
theorem P_X13_piecesOf {v1 : Int32} {v2 : Int32} {μ : p_M} {r : Int32 × p_M} (h : F_X13_piecesOf v1 v2 μ = some r) : Sm μ r.2 := by
  unfold F_X13_piecesOf at h
  exact Sm_trans (Sm_refl μ) (P_X13_piecesOf_c5 p_fu _ _ _ _ _ _ h)
theorem E_X13_piecesOf {X : p_X} {d : Nat} {Q : p_R → Prop} {v1 : Int32} {v2 : Int32} {μ : p_M} {r : Int32 × p_M} (hs : ShM μ) (h : F_X13_piecesOf v1 v2 μ = some r) (hQ : Q ((0, some (.int r.1)), r.2)) : p_Ev X (d + 0) M_X13_piecesOf 0 [.ref tM, .int v1, .int v2, .double 0, .double 0] [] μ Q := by
  unfold F_X13_piecesOf at h
  refine e_iconst (v := (0 : Int32)) dX13_piecesOf_0 rfl ?_
  refine e_istore_n dX13_piecesOf_1 (Nat.le_of_ble_eq_true rfl) rfl ?_
  refine e_iconst (v := (0 : Int32)) dX13_piecesOf_2 rfl ?_
  refine e_istore dX13_piecesOf_3 (Nat.le_of_ble_eq_true rfl) rfl ?_
  exact E_X13_piecesOf_c5 p_fu _ _ _ _ _ _ hs h hQ
/-! X13_led -/
def F_X13_led_c207 (s0 : Int32) (μ : p_M) : Option (Int32 × p_M) :=
  some (s0, μ)
theorem P_X13_led_c207 {s0 : Int32} {μ : p_M} {r : Int32 × p_M} (h : F_X13_led_c207 s0 μ = some r) : Sm μ r.2 := by
  unfold F_X13_led_c207 at h
  cases h
  exact (Sm_refl μ)
theorem E_X13_led_c207 {X : p_X} {d : Nat} {Q : p_R → Prop} {s0 : Int32} {w0 : Value} {w1 : Value} {w2 : Value} {μ : p_M} {r : Int32 × p_M} (hs : ShM μ) (h : F_X13_led_c207 s0 μ = some r) (hQ : Q ((0, some (.int r.1)), r.2)) : p_Ev X (d + 2) M_X13_led 207 [w0, w1, w2] [.int s0] μ Q := by
  unfold F_X13_led_c207 at h
  cases h
  exact e_ireti dX13_led_207 rfl hQ
def F_X13_led (v1 : Int32) (v2 : Int32) (μ : p_M) : Option (Int32 × p_M) :=
  (F_X13_noLot v1 (sI μ tM 0 (0 : Int32))).bind fun q1 =>
  (F_X13_throwsIf q1.1 (1 : Int32) q1.2).bind fun q2 =>
  if q2.1 = 0
  then (if v2.toInt < 0 ∨ 15 < v2.toInt then (some ((0 : Int32), (sI q2.2 tM 0 (2 : Int32))))
    else if v2 = 0 then (p_ok (¬ v1 < 0 ∧ v1.toNatClampNeg < 40)
      (some ((mI q2.2 (aM 55) v1.toNatClampNeg), q2.2)))
    else if v2 = 1 then (p_ok (¬ v1 < 0 ∧ v1.toNatClampNeg < 40)
      (some ((mI q2.2 (aM 56) v1.toNatClampNeg), q2.2)))
    else if v2 = 2 then (p_ok (¬ v1 < 0 ∧ v1.toNatClampNeg < 40)
      (some ((mI q2.2 (aM 57) v1.toNatClampNeg), q2.2)))
    else if v2 = 3 then (p_ok (¬ v1 < 0 ∧ v1.toNatClampNeg < 42)
      (some ((mI q2.2 (aM 8) v1.toNatClampNeg), q2.2)))
    else if v2 = 4 then (p_ok (¬ v1 < 0 ∧ v1.toNatClampNeg < 40)
      (some ((mI q2.2 (aM 58) v1.toNatClampNeg), q2.2)))
    else if v2 = 5 then (p_ok (¬ ((((5 : Int32) * v1) + v2) - (5 : Int32)) < 0 ∧ ((((5 : Int32) * v1) + v2) - (5 : Int32)).toNatClampNeg < 240)
      (some ((mI q2.2 (aM 15) ((((5 : Int32) * v1) + v2) - (5 : Int32)).toNatClampNeg), q2.2)))
    else if v2 = 6 then (p_ok (¬ ((((5 : Int32) * v1) + v2) - (5 : Int32)) < 0 ∧ ((((5 : Int32) * v1) + v2) - (5 : Int32)).toNatClampNeg < 240)
      (some ((mI q2.2 (aM 15) ((((5 : Int32) * v1) + v2) - (5 : Int32)).toNatClampNeg), q2.2)))
    else if v2 = 7 then (p_ok (¬ ((((5 : Int32) * v1) + v2) - (5 : Int32)) < 0 ∧ ((((5 : Int32) * v1) + v2) - (5 : Int32)).toNatClampNeg < 240)
      (some ((mI q2.2 (aM 15) ((((5 : Int32) * v1) + v2) - (5 : Int32)).toNatClampNeg), q2.2)))
    else if v2 = 8 then (p_ok (¬ ((((5 : Int32) * v1) + v2) - (5 : Int32)) < 0 ∧ ((((5 : Int32) * v1) + v2) - (5 : Int32)).toNatClampNeg < 240)
      (some ((mI q2.2 (aM 15) ((((5 : Int32) * v1) + v2) - (5 : Int32)).toNatClampNeg), q2.2)))
    else if v2 = 9 then (p_ok (¬ ((((5 : Int32) * v1) + v2) - (5 : Int32)) < 0 ∧ ((((5 : Int32) * v1) + v2) - (5 : Int32)).toNatClampNeg < 240)
      (some ((mI q2.2 (aM 15) ((((5 : Int32) * v1) + v2) - (5 : Int32)).toNatClampNeg), q2.2)))
    else if v2 = 10 then (p_ok (¬ v1 < 0 ∧ v1.toNatClampNeg < 40)
      (some ((mI q2.2 (aM 59) v1.toNatClampNeg), q2.2)))
    else if v2 = 11 then (p_ok (¬ v1 < 0 ∧ v1.toNatClampNeg < 40)
      (some ((mI q2.2 (aM 49) v1.toNatClampNeg), q2.2)))
    else if v2 = 12 then ((F_X13_piecesOf v1 (0 : Int32) q2.2).bind fun q3 =>
      some (q3.1, q3.2))
    else if v2 = 13 then ((F_X13_piecesOf v1 (2 : Int32) q2.2).bind fun q4 =>
      some (q4.1, q4.2))
    else if v2 = 14 then (p_ok (¬ v1 < 0 ∧ v1.toNatClampNeg < 40)
      (p_ok (¬ v1 < 0 ∧ v1.toNatClampNeg < 40)
      (p_ok (¬ v1 < 0 ∧ v1.toNatClampNeg < 40)
      ((F_X13_meetsIt v1 (mI q2.2 (aM 51) v1.toNatClampNeg) (mI q2.2 (aM 52) v1.toNatClampNeg) (mI q2.2 (aM 53) v1.toNatClampNeg) q2.2).bind fun q5 =>
      if q5.1 = 0
      then (F_X13_led_c207 (0 : Int32) q5.2)
      else (F_X13_led_c207 (1 : Int32) q5.2)))))
    else if v2 = 15 then (p_ok (¬ v1 < 0 ∧ v1.toNatClampNeg < 40)
      (some ((mI q2.2 (aM 48) v1.toNatClampNeg), q2.2)))
    else none)
  else (some ((0 : Int32), q2.2))
theorem P_X13_led {v1 : Int32} {v2 : Int32} {μ : p_M} {r : Int32 × p_M} (h : F_X13_led v1 v2 μ = some r) : Sm μ r.2 := by
  unfold F_X13_led at h
  obtain ⟨q1, hq1, h⟩ := p_bd h
  obtain ⟨q2, hq2, h⟩ := p_bd h
  by_cases hc : q2.1 = 0
  · rw [if_pos hc] at h
    by_cases hc : v2.toInt < 0 ∨ 15 < v2.toInt
    · rw [if_pos hc] at h
      cases h
      exact (Sm_set (Sm_trans (Sm_trans (Sm_set (Sm_refl μ) (by decide)) (P_X13_noLot (r := q1) hq1)) (P_X13_throwsIf (r := q2) hq2)) (by decide))
    rw [if_neg hc] at h
    by_cases hc : v2 = 0
    · rw [if_pos hc] at h
      obtain ⟨hc, h⟩ := p_ok_some h
      cases h
      exact (Sm_trans (Sm_trans (Sm_set (Sm_refl μ) (by decide)) (P_X13_noLot (r := q1) hq1)) (P_X13_throwsIf (r := q2) hq2))
    rw [if_neg hc] at h
    by_cases hc : v2 = 1
    · rw [if_pos hc] at h
      obtain ⟨hc, h⟩ := p_ok_some h
      cases h
      exact (Sm_trans (Sm_trans (Sm_set (Sm_refl μ) (by decide)) (P_X13_noLot (r := q1) hq1)) (P_X13_throwsIf (r := q2) hq2))
    rw [if_neg hc] at h
    by_cases hc : v2 = 2
    · rw [if_pos hc] at h
      obtain ⟨hc, h⟩ := p_ok_some h
      cases h
      exact (Sm_trans (Sm_trans (Sm_set (Sm_refl μ) (by decide)) (P_X13_noLot (r := q1) hq1)) (P_X13_throwsIf (r := q2) hq2))
    rw [if_neg hc] at h
    by_cases hc : v2 = 3
    · rw [if_pos hc] at h
      obtain ⟨hc, h⟩ := p_ok_some h
      cases h
      exact (Sm_trans (Sm_trans (Sm_set (Sm_refl μ) (by decide)) (P_X13_noLot (r := q1) hq1)) (P_X13_throwsIf (r := q2) hq2))
    rw [if_neg hc] at h
    by_cases hc : v2 = 4
    · rw [if_pos hc] at h
      obtain ⟨hc, h⟩ := p_ok_some h
      cases h
      exact (Sm_trans (Sm_trans (Sm_set (Sm_refl μ) (by decide)) (P_X13_noLot (r := q1) hq1)) (P_X13_throwsIf (r := q2) hq2))
    rw [if_neg hc] at h
    by_cases hc : v2 = 5
    · rw [if_pos hc] at h
      obtain ⟨hc, h⟩ := p_ok_some h
      cases h
      exact (Sm_trans (Sm_trans (Sm_set (Sm_refl μ) (by decide)) (P_X13_noLot (r := q1) hq1)) (P_X13_throwsIf (r := q2) hq2))
    rw [if_neg hc] at h
    by_cases hc : v2 = 6
    · rw [if_pos hc] at h
      obtain ⟨hc, h⟩ := p_ok_some h
      cases h
      exact (Sm_trans (Sm_trans (Sm_set (Sm_refl μ) (by decide)) (P_X13_noLot (r := q1) hq1)) (P_X13_throwsIf (r := q2) hq2))
    rw [if_neg hc] at h
    by_cases hc : v2 = 7
    · rw [if_pos hc] at h
      obtain ⟨hc, h⟩ := p_ok_some h
      cases h
      exact (Sm_trans (Sm_trans (Sm_set (Sm_refl μ) (by decide)) (P_X13_noLot (r := q1) hq1)) (P_X13_throwsIf (r := q2) hq2))
    rw [if_neg hc] at h
    by_cases hc : v2 = 8
    · rw [if_pos hc] at h
      obtain ⟨hc, h⟩ := p_ok_some h
      cases h
      exact (Sm_trans (Sm_trans (Sm_set (Sm_refl μ) (by decide)) (P_X13_noLot (r := q1) hq1)) (P_X13_throwsIf (r := q2) hq2))
    rw [if_neg hc] at h
    by_cases hc : v2 = 9
    · rw [if_pos hc] at h
      obtain ⟨hc, h⟩ := p_ok_some h
      cases h
      exact (Sm_trans (Sm_trans (Sm_set (Sm_refl μ) (by decide)) (P_X13_noLot (r := q1) hq1)) (P_X13_throwsIf (r := q2) hq2))
    rw [if_neg hc] at h
    by_cases hc : v2 = 10
    · rw [if_pos hc] at h
      obtain ⟨hc, h⟩ := p_ok_some h
      cases h
      exact (Sm_trans (Sm_trans (Sm_set (Sm_refl μ) (by decide)) (P_X13_noLot (r := q1) hq1)) (P_X13_throwsIf (r := q2) hq2))
    rw [if_neg hc] at h
    by_cases hc : v2 = 11
    · rw [if_pos hc] at h
      obtain ⟨hc, h⟩ := p_ok_some h
      cases h
      exact (Sm_trans (Sm_trans (Sm_set (Sm_refl μ) (by decide)) (P_X13_noLot (r := q1) hq1)) (P_X13_throwsIf (r := q2) hq2))
    rw [if_neg hc] at h
    by_cases hc : v2 = 12
    · rw [if_pos hc] at h
      obtain ⟨q3, hq3, h⟩ := p_bd h
      cases h
      exact (Sm_trans (Sm_trans (Sm_trans (Sm_set (Sm_refl μ) (by decide)) (P_X13_noLot (r := q1) hq1)) (P_X13_throwsIf (r := q2) hq2)) (P_X13_piecesOf (r := q3) hq3))
    rw [if_neg hc] at h
    by_cases hc : v2 = 13
    · rw [if_pos hc] at h
      obtain ⟨q4, hq4, h⟩ := p_bd h
      cases h
      exact (Sm_trans (Sm_trans (Sm_trans (Sm_set (Sm_refl μ) (by decide)) (P_X13_noLot (r := q1) hq1)) (P_X13_throwsIf (r := q2) hq2)) (P_X13_piecesOf (r := q4) hq4))
    rw [if_neg hc] at h
    by_cases hc : v2 = 14
    · rw [if_pos hc] at h
      obtain ⟨hc, h⟩ := p_ok_some h
      obtain ⟨hc, h⟩ := p_ok_some h
      obtain ⟨hc, h⟩ := p_ok_some h
      obtain ⟨q5, hq5, h⟩ := p_bd h
      by_cases hc : q5.1 = 0
      · rw [if_pos hc] at h
        exact Sm_trans (Sm_trans (Sm_trans (Sm_trans (Sm_set (Sm_refl μ) (by decide)) (P_X13_noLot (r := q1) hq1)) (P_X13_throwsIf (r := q2) hq2)) (P_X13_meetsIt (r := q5) hq5)) (P_X13_led_c207 h)
      · rw [if_neg hc] at h
        exact Sm_trans (Sm_trans (Sm_trans (Sm_trans (Sm_set (Sm_refl μ) (by decide)) (P_X13_noLot (r := q1) hq1)) (P_X13_throwsIf (r := q2) hq2)) (P_X13_meetsIt (r := q5) hq5)) (P_X13_led_c207 h)
    rw [if_neg hc] at h
    by_cases hc : v2 = 15
    · rw [if_pos hc] at h
      obtain ⟨hc, h⟩ := p_ok_some h
      cases h
      exact (Sm_trans (Sm_trans (Sm_set (Sm_refl μ) (by decide)) (P_X13_noLot (r := q1) hq1)) (P_X13_throwsIf (r := q2) hq2))
    rw [if_neg hc] at h
    cases h
  · rw [if_neg hc] at h
    cases h
    exact (Sm_trans (Sm_trans (Sm_set (Sm_refl μ) (by decide)) (P_X13_noLot (r := q1) hq1)) (P_X13_throwsIf (r := q2) hq2))
theorem E_X13_led {X : p_X} {d : Nat} {Q : p_R → Prop} {v1 : Int32} {v2 : Int32} {μ : p_M} {r : Int32 × p_M} (hs : ShM μ) (h : F_X13_led v1 v2 μ = some r) (hQ : Q ((0, some (.int r.1)), r.2)) : p_Ev X (d + 2) M_X13_led 0 [.ref tM, .int v1, .int v2] [] μ Q := by
  unfold F_X13_led at h
  refine e_aload_n dX13_led_0 rfl ?_
  refine e_iconst (v := (0 : Int32)) dX13_led_1 rfl ?_
  refine e_putI dX13_led_2 rfl ⟨rfl, rfl, fun h => by cases h⟩ (fun h => by cases h) hs.1 hs.2.1 ?_
  refine e_aload_n dX13_led_5 rfl ?_
  refine e_aload_n dX13_led_6 rfl ?_
  refine e_iload_n dX13_led_7 rfl ?_
  obtain ⟨q1, hq1, h⟩ := p_bd h
  refine e_cV dX13_led_8 rfl rfl ⟨rfl, rfl, by decide⟩ rfl hs.1 hs.2.1 (E_X13_noLot hs hq1 ⟨rfl, ?_⟩)
  have hs := ShM_of (P_X13_noLot hq1) hs
  show p_Ev X (d + 2) M_X13_led 11 [.ref tM, .int v1, .int v2] [.int q1.1, .ref tM] q1.2 Q
  refine e_iconst (v := (1 : Int32)) dX13_led_11 rfl ?_
  obtain ⟨q2, hq2, h⟩ := p_bd h
  refine e_cV dX13_led_12 rfl rfl ⟨rfl, rfl, by decide⟩ rfl hs.1 hs.2.1 (E_X13_throwsIf hs hq2 ⟨rfl, ?_⟩)
  have hs := ShM_of (P_X13_throwsIf hq2) hs
  show p_Ev X (d + 2) M_X13_led 15 [.ref tM, .int v1, .int v2] [.int q2.1] q2.2 Q
  refine e_if_eq dX13_led_15 20 (by decide) (fun hc => ?_) (fun hc => ?_)
  · rw [if_pos hc] at h
    refine e_iload_n dX13_led_20 rfl ?_
    by_cases hc : v2.toInt < 0 ∨ 15 < v2.toInt
    · rw [if_pos hc] at h
      refine e_swD dX13_led_21 hc 215 (by decide) ?_
      refine e_aload_n dX13_led_215 rfl ?_
      refine e_iconst (v := (2 : Int32)) dX13_led_216 rfl ?_
      refine e_putI dX13_led_217 rfl ⟨rfl, rfl, fun h => by cases h⟩ (fun h => by cases h) hs.1 hs.2.1 ?_
      refine e_iconst (v := (0 : Int32)) dX13_led_220 rfl ?_
      cases h
      exact e_ireti dX13_led_221 rfl hQ
    rw [if_neg hc] at h
    by_cases hc : v2 = 0
    · rw [if_pos hc] at h
      refine e_swK (v := 0) dX13_led_21 hc (by decide) rfl 100 (by decide) ?_
      refine e_aload_n dX13_led_100 rfl ?_
      refine e_getR dX13_led_101 rfl rfl hs.1 hs.2.1 (hs.2.2.2 55 (by decide) rfl).1 ?_
      refine e_iload_n dX13_led_104 rfl ?_
      obtain ⟨hc, h⟩ := p_ok_some h
      refine e_iald dX13_led_105 (Nat.lt_trans (hs.2.2.2 55 (by decide) rfl).2.2.2 hs.2.2.1) (hs.2.2.2 55 (by decide) rfl).2.1 (hs.2.2.2 55 (by decide) rfl).2.2.1 (hs.2.2.2 55 (by decide) rfl).2.2.2 hc ?_
      cases h
      exact e_ireti dX13_led_106 rfl hQ
    rw [if_neg hc] at h
    by_cases hc : v2 = 1
    · rw [if_pos hc] at h
      refine e_swK (v := 1) dX13_led_21 hc (by decide) rfl 107 (by decide) ?_
      refine e_aload_n dX13_led_107 rfl ?_
      refine e_getR dX13_led_108 rfl rfl hs.1 hs.2.1 (hs.2.2.2 56 (by decide) rfl).1 ?_
      refine e_iload_n dX13_led_111 rfl ?_
      obtain ⟨hc, h⟩ := p_ok_some h
      refine e_iald dX13_led_112 (Nat.lt_trans (hs.2.2.2 56 (by decide) rfl).2.2.2 hs.2.2.1) (hs.2.2.2 56 (by decide) rfl).2.1 (hs.2.2.2 56 (by decide) rfl).2.2.1 (hs.2.2.2 56 (by decide) rfl).2.2.2 hc ?_
      cases h
      exact e_ireti dX13_led_113 rfl hQ
    rw [if_neg hc] at h
    by_cases hc : v2 = 2
    · rw [if_pos hc] at h
      refine e_swK (v := 2) dX13_led_21 hc (by decide) rfl 114 (by decide) ?_
      refine e_aload_n dX13_led_114 rfl ?_
      refine e_getR dX13_led_115 rfl rfl hs.1 hs.2.1 (hs.2.2.2 57 (by decide) rfl).1 ?_
      refine e_iload_n dX13_led_118 rfl ?_
      obtain ⟨hc, h⟩ := p_ok_some h
      refine e_iald dX13_led_119 (Nat.lt_trans (hs.2.2.2 57 (by decide) rfl).2.2.2 hs.2.2.1) (hs.2.2.2 57 (by decide) rfl).2.1 (hs.2.2.2 57 (by decide) rfl).2.2.1 (hs.2.2.2 57 (by decide) rfl).2.2.2 hc ?_
      cases h
      exact e_ireti dX13_led_120 rfl hQ
    rw [if_neg hc] at h
    by_cases hc : v2 = 3
    · rw [if_pos hc] at h
      refine e_swK (v := 3) dX13_led_21 hc (by decide) rfl 121 (by decide) ?_
      refine e_aload_n dX13_led_121 rfl ?_
      refine e_getR dX13_led_122 rfl rfl hs.1 hs.2.1 (hs.2.2.2 8 (by decide) rfl).1 ?_
      refine e_iload_n dX13_led_125 rfl ?_
      obtain ⟨hc, h⟩ := p_ok_some h
      refine e_iald dX13_led_126 (Nat.lt_trans (hs.2.2.2 8 (by decide) rfl).2.2.2 hs.2.2.1) (hs.2.2.2 8 (by decide) rfl).2.1 (hs.2.2.2 8 (by decide) rfl).2.2.1 (hs.2.2.2 8 (by decide) rfl).2.2.2 hc ?_
      cases h
      exact e_ireti dX13_led_127 rfl hQ
    rw [if_neg hc] at h
    by_cases hc : v2 = 4
    · rw [if_pos hc] at h
      refine e_swK (v := 4) dX13_led_21 hc (by decide) rfl 128 (by decide) ?_
      refine e_aload_n dX13_led_128 rfl ?_
      refine e_getR dX13_led_129 rfl rfl hs.1 hs.2.1 (hs.2.2.2 58 (by decide) rfl).1 ?_
      refine e_iload_n dX13_led_132 rfl ?_
      obtain ⟨hc, h⟩ := p_ok_some h
      refine e_iald dX13_led_133 (Nat.lt_trans (hs.2.2.2 58 (by decide) rfl).2.2.2 hs.2.2.1) (hs.2.2.2 58 (by decide) rfl).2.1 (hs.2.2.2 58 (by decide) rfl).2.2.1 (hs.2.2.2 58 (by decide) rfl).2.2.2 hc ?_
      cases h
      exact e_ireti dX13_led_134 rfl hQ
    rw [if_neg hc] at h
    by_cases hc : v2 = 5
    · rw [if_pos hc] at h
      refine e_swK (v := 5) dX13_led_21 hc (by decide) rfl 135 (by decide) ?_
      refine e_aload_n dX13_led_135 rfl ?_
      refine e_getR dX13_led_136 rfl rfl hs.1 hs.2.1 (hs.2.2.2 15 (by decide) rfl).1 ?_
      refine e_iconst (v := (5 : Int32)) dX13_led_139 rfl ?_
      refine e_iload_n dX13_led_140 rfl ?_
      refine e_imul dX13_led_141 ?_
      refine e_iload_n dX13_led_142 rfl ?_
      refine e_iadd dX13_led_143 ?_
      refine e_iconst (v := (5 : Int32)) dX13_led_144 rfl ?_
      refine e_isub dX13_led_145 ?_
      obtain ⟨hc, h⟩ := p_ok_some h
      refine e_iald dX13_led_146 (Nat.lt_trans (hs.2.2.2 15 (by decide) rfl).2.2.2 hs.2.2.1) (hs.2.2.2 15 (by decide) rfl).2.1 (hs.2.2.2 15 (by decide) rfl).2.2.1 (hs.2.2.2 15 (by decide) rfl).2.2.2 hc ?_
      cases h
      exact e_ireti dX13_led_147 rfl hQ
    rw [if_neg hc] at h
    by_cases hc : v2 = 6
    · rw [if_pos hc] at h
      refine e_swK (v := 6) dX13_led_21 hc (by decide) rfl 135 (by decide) ?_
      refine e_aload_n dX13_led_135 rfl ?_
      refine e_getR dX13_led_136 rfl rfl hs.1 hs.2.1 (hs.2.2.2 15 (by decide) rfl).1 ?_
      refine e_iconst (v := (5 : Int32)) dX13_led_139 rfl ?_
      refine e_iload_n dX13_led_140 rfl ?_
      refine e_imul dX13_led_141 ?_
      refine e_iload_n dX13_led_142 rfl ?_
      refine e_iadd dX13_led_143 ?_
      refine e_iconst (v := (5 : Int32)) dX13_led_144 rfl ?_
      refine e_isub dX13_led_145 ?_
      obtain ⟨hc, h⟩ := p_ok_some h
      refine e_iald dX13_led_146 (Nat.lt_trans (hs.2.2.2 15 (by decide) rfl).2.2.2 hs.2.2.1) (hs.2.2.2 15 (by decide) rfl).2.1 (hs.2.2.2 15 (by decide) rfl).2.2.1 (hs.2.2.2 15 (by decide) rfl).2.2.2 hc ?_
      cases h
      exact e_ireti dX13_led_147 rfl hQ
    rw [if_neg hc] at h
    by_cases hc : v2 = 7
    · rw [if_pos hc] at h
      refine e_swK (v := 7) dX13_led_21 hc (by decide) rfl 135 (by decide) ?_
      refine e_aload_n dX13_led_135 rfl ?_
      refine e_getR dX13_led_136 rfl rfl hs.1 hs.2.1 (hs.2.2.2 15 (by decide) rfl).1 ?_
      refine e_iconst (v := (5 : Int32)) dX13_led_139 rfl ?_
      refine e_iload_n dX13_led_140 rfl ?_
      refine e_imul dX13_led_141 ?_
      refine e_iload_n dX13_led_142 rfl ?_
      refine e_iadd dX13_led_143 ?_
      refine e_iconst (v := (5 : Int32)) dX13_led_144 rfl ?_
      refine e_isub dX13_led_145 ?_
      obtain ⟨hc, h⟩ := p_ok_some h
      refine e_iald dX13_led_146 (Nat.lt_trans (hs.2.2.2 15 (by decide) rfl).2.2.2 hs.2.2.1) (hs.2.2.2 15 (by decide) rfl).2.1 (hs.2.2.2 15 (by decide) rfl).2.2.1 (hs.2.2.2 15 (by decide) rfl).2.2.2 hc ?_
      cases h
      exact e_ireti dX13_led_147 rfl hQ
    rw [if_neg hc] at h
    by_cases hc : v2 = 8
    · rw [if_pos hc] at h
      refine e_swK (v := 8) dX13_led_21 hc (by decide) rfl 135 (by decide) ?_
      refine e_aload_n dX13_led_135 rfl ?_
      refine e_getR dX13_led_136 rfl rfl hs.1 hs.2.1 (hs.2.2.2 15 (by decide) rfl).1 ?_
      refine e_iconst (v := (5 : Int32)) dX13_led_139 rfl ?_
      refine e_iload_n dX13_led_140 rfl ?_
      refine e_imul dX13_led_141 ?_
      refine e_iload_n dX13_led_142 rfl ?_
      refine e_iadd dX13_led_143 ?_
      refine e_iconst (v := (5 : Int32)) dX13_led_144 rfl ?_
      refine e_isub dX13_led_145 ?_
      obtain ⟨hc, h⟩ := p_ok_some h
      refine e_iald dX13_led_146 (Nat.lt_trans (hs.2.2.2 15 (by decide) rfl).2.2.2 hs.2.2.1) (hs.2.2.2 15 (by decide) rfl).2.1 (hs.2.2.2 15 (by decide) rfl).2.2.1 (hs.2.2.2 15 (by decide) rfl).2.2.2 hc ?_
      cases h
      exact e_ireti dX13_led_147 rfl hQ
    rw [if_neg hc] at h
    by_cases hc : v2 = 9
    · rw [if_pos hc] at h
      refine e_swK (v := 9) dX13_led_21 hc (by decide) rfl 135 (by decide) ?_
      refine e_aload_n dX13_led_135 rfl ?_
      refine e_getR dX13_led_136 rfl rfl hs.1 hs.2.1 (hs.2.2.2 15 (by decide) rfl).1 ?_
      refine e_iconst (v := (5 : Int32)) dX13_led_139 rfl ?_
      refine e_iload_n dX13_led_140 rfl ?_
      refine e_imul dX13_led_141 ?_
      refine e_iload_n dX13_led_142 rfl ?_
      refine e_iadd dX13_led_143 ?_
      refine e_iconst (v := (5 : Int32)) dX13_led_144 rfl ?_
      refine e_isub dX13_led_145 ?_
      obtain ⟨hc, h⟩ := p_ok_some h
      refine e_iald dX13_led_146 (Nat.lt_trans (hs.2.2.2 15 (by decide) rfl).2.2.2 hs.2.2.1) (hs.2.2.2 15 (by decide) rfl).2.1 (hs.2.2.2 15 (by decide) rfl).2.2.1 (hs.2.2.2 15 (by decide) rfl).2.2.2 hc ?_
      cases h
      exact e_ireti dX13_led_147 rfl hQ
    rw [if_neg hc] at h
    by_cases hc : v2 = 10
    · rw [if_pos hc] at h
      refine e_swK (v := 10) dX13_led_21 hc (by decide) rfl 148 (by decide) ?_
      refine e_aload_n dX13_led_148 rfl ?_
      refine e_getR dX13_led_149 rfl rfl hs.1 hs.2.1 (hs.2.2.2 59 (by decide) rfl).1 ?_
      refine e_iload_n dX13_led_152 rfl ?_
      obtain ⟨hc, h⟩ := p_ok_some h
      refine e_iald dX13_led_153 (Nat.lt_trans (hs.2.2.2 59 (by decide) rfl).2.2.2 hs.2.2.1) (hs.2.2.2 59 (by decide) rfl).2.1 (hs.2.2.2 59 (by decide) rfl).2.2.1 (hs.2.2.2 59 (by decide) rfl).2.2.2 hc ?_
      cases h
      exact e_ireti dX13_led_154 rfl hQ
    rw [if_neg hc] at h
    by_cases hc : v2 = 11
    · rw [if_pos hc] at h
      refine e_swK (v := 11) dX13_led_21 hc (by decide) rfl 155 (by decide) ?_
      refine e_aload_n dX13_led_155 rfl ?_
      refine e_getR dX13_led_156 rfl rfl hs.1 hs.2.1 (hs.2.2.2 49 (by decide) rfl).1 ?_
      refine e_iload_n dX13_led_159 rfl ?_
      obtain ⟨hc, h⟩ := p_ok_some h
      refine e_iald dX13_led_160 (Nat.lt_trans (hs.2.2.2 49 (by decide) rfl).2.2.2 hs.2.2.1) (hs.2.2.2 49 (by decide) rfl).2.1 (hs.2.2.2 49 (by decide) rfl).2.2.1 (hs.2.2.2 49 (by decide) rfl).2.2.2 hc ?_
      cases h
      exact e_ireti dX13_led_161 rfl hQ
    rw [if_neg hc] at h
    by_cases hc : v2 = 12
    · rw [if_pos hc] at h
      refine e_swK (v := 12) dX13_led_21 hc (by decide) rfl 162 (by decide) ?_
      refine e_aload_n dX13_led_162 rfl ?_
      refine e_iload_n dX13_led_163 rfl ?_
      refine e_iconst (v := (0 : Int32)) dX13_led_164 rfl ?_
      obtain ⟨q3, hq3, h⟩ := p_bd h
      refine e_cV dX13_led_165 rfl rfl ⟨rfl, rfl, by decide⟩ rfl hs.1 hs.2.1 (E_X13_piecesOf hs hq3 ⟨rfl, ?_⟩)
      have hs := ShM_of (P_X13_piecesOf hq3) hs
      show p_Ev X (d + 2) M_X13_led 168 [.ref tM, .int v1, .int v2] [.int q3.1] q3.2 Q
      cases h
      exact e_ireti dX13_led_168 rfl hQ
    rw [if_neg hc] at h
    by_cases hc : v2 = 13
    · rw [if_pos hc] at h
      refine e_swK (v := 13) dX13_led_21 hc (by decide) rfl 169 (by decide) ?_
      refine e_aload_n dX13_led_169 rfl ?_
      refine e_iload_n dX13_led_170 rfl ?_
      refine e_iconst (v := (2 : Int32)) dX13_led_171 rfl ?_
      obtain ⟨q4, hq4, h⟩ := p_bd h
      refine e_cV dX13_led_172 rfl rfl ⟨rfl, rfl, by decide⟩ rfl hs.1 hs.2.1 (E_X13_piecesOf hs hq4 ⟨rfl, ?_⟩)
      have hs := ShM_of (P_X13_piecesOf hq4) hs
      show p_Ev X (d + 2) M_X13_led 175 [.ref tM, .int v1, .int v2] [.int q4.1] q4.2 Q
      cases h
      exact e_ireti dX13_led_175 rfl hQ
    rw [if_neg hc] at h
    by_cases hc : v2 = 14
    · rw [if_pos hc] at h
      refine e_swK (v := 14) dX13_led_21 hc (by decide) rfl 176 (by decide) ?_
      refine e_aload_n dX13_led_176 rfl ?_
      refine e_iload_n dX13_led_177 rfl ?_
      refine e_aload_n dX13_led_178 rfl ?_
      refine e_getR dX13_led_179 rfl rfl hs.1 hs.2.1 (hs.2.2.2 51 (by decide) rfl).1 ?_
      refine e_iload_n dX13_led_182 rfl ?_
      obtain ⟨hc, h⟩ := p_ok_some h
      refine e_iald dX13_led_183 (Nat.lt_trans (hs.2.2.2 51 (by decide) rfl).2.2.2 hs.2.2.1) (hs.2.2.2 51 (by decide) rfl).2.1 (hs.2.2.2 51 (by decide) rfl).2.2.1 (hs.2.2.2 51 (by decide) rfl).2.2.2 hc ?_
      refine e_aload_n dX13_led_184 rfl ?_
      refine e_getR dX13_led_185 rfl rfl hs.1 hs.2.1 (hs.2.2.2 52 (by decide) rfl).1 ?_
      refine e_iload_n dX13_led_188 rfl ?_
      obtain ⟨hc, h⟩ := p_ok_some h
      refine e_iald dX13_led_189 (Nat.lt_trans (hs.2.2.2 52 (by decide) rfl).2.2.2 hs.2.2.1) (hs.2.2.2 52 (by decide) rfl).2.1 (hs.2.2.2 52 (by decide) rfl).2.2.1 (hs.2.2.2 52 (by decide) rfl).2.2.2 hc ?_
      refine e_aload_n dX13_led_190 rfl ?_
      refine e_getR dX13_led_191 rfl rfl hs.1 hs.2.1 (hs.2.2.2 53 (by decide) rfl).1 ?_
      refine e_iload_n dX13_led_194 rfl ?_
      obtain ⟨hc, h⟩ := p_ok_some h
      refine e_iald dX13_led_195 (Nat.lt_trans (hs.2.2.2 53 (by decide) rfl).2.2.2 hs.2.2.1) (hs.2.2.2 53 (by decide) rfl).2.1 (hs.2.2.2 53 (by decide) rfl).2.2.1 (hs.2.2.2 53 (by decide) rfl).2.2.2 hc ?_
      obtain ⟨q5, hq5, h⟩ := p_bd h
      refine e_cV dX13_led_196 rfl rfl ⟨rfl, rfl, by decide⟩ rfl hs.1 hs.2.1 (E_X13_meetsIt hs hq5 ⟨rfl, ?_⟩)
      have hs := ShM_of (P_X13_meetsIt hq5) hs
      show p_Ev X (d + 2) M_X13_led 199 [.ref tM, .int v1, .int v2] [.int q5.1] q5.2 Q
      refine e_if_eq dX13_led_199 206 (by decide) (fun hc => ?_) (fun hc => ?_)
      · rw [if_pos hc] at h
        refine e_iconst (v := (0 : Int32)) dX13_led_206 rfl ?_
        exact E_X13_led_c207 hs h hQ
      · rw [if_neg hc] at h
        refine e_iconst (v := (1 : Int32)) dX13_led_202 rfl ?_
        refine e_goto dX13_led_203 207 (by decide) ?_
        exact E_X13_led_c207 hs h hQ
    rw [if_neg hc] at h
    by_cases hc : v2 = 15
    · rw [if_pos hc] at h
      refine e_swK (v := 15) dX13_led_21 hc (by decide) rfl 208 (by decide) ?_
      refine e_aload_n dX13_led_208 rfl ?_
      refine e_getR dX13_led_209 rfl rfl hs.1 hs.2.1 (hs.2.2.2 48 (by decide) rfl).1 ?_
      refine e_iload_n dX13_led_212 rfl ?_
      obtain ⟨hc, h⟩ := p_ok_some h
      refine e_iald dX13_led_213 (Nat.lt_trans (hs.2.2.2 48 (by decide) rfl).2.2.2 hs.2.2.1) (hs.2.2.2 48 (by decide) rfl).2.1 (hs.2.2.2 48 (by decide) rfl).2.2.1 (hs.2.2.2 48 (by decide) rfl).2.2.2 hc ?_
      cases h
      exact e_ireti dX13_led_214 rfl hQ
    rw [if_neg hc] at h
    cases h
  · rw [if_neg hc] at h
    refine e_iconst (v := (0 : Int32)) dX13_led_18 rfl ?_
    cases h
    exact e_ireti dX13_led_19 rfl hQ
