/-! X13_begins -/
def F_X13_begins (v1 : Int32) (v2 : Int32) (μ : p_M) : Option (Int32 × p_M) :=
  p_ok (¬ v2 < 0 ∧ v2.toNatClampNeg < 6)
  (p_ok (¬ ((5 : Int32) * v1) < 0 ∧ ((5 : Int32) * v1).toNatClampNeg < 240)
  (p_ok (¬ v2 < 0 ∧ v2.toNatClampNeg < 6)
  (p_ok (¬ (((5 : Int32) * v1) + (1 : Int32)) < 0 ∧ (((5 : Int32) * v1) + (1 : Int32)).toNatClampNeg < 240)
  (p_ok (¬ v2 < 0 ∧ v2.toNatClampNeg < 6)
  (p_ok (¬ (((5 : Int32) * v1) + (2 : Int32)) < 0 ∧ (((5 : Int32) * v1) + (2 : Int32)).toNatClampNeg < 240)
  (p_ok (¬ v2 < 0 ∧ v2.toNatClampNeg < 6)
  (p_ok (¬ (((5 : Int32) * v1) + (3 : Int32)) < 0 ∧ (((5 : Int32) * v1) + (3 : Int32)).toNatClampNeg < 240)
  (p_ok (¬ (((5 : Int32) * v1) + (4 : Int32)) < 0 ∧ (((5 : Int32) * v1) + (4 : Int32)).toNatClampNeg < 240)
  (some (0, (sI (sI (sI (sI (sI μ (aM 15) ((5 : Int32) * v1).toNatClampNeg (mI μ (aM 11) v2.toNatClampNeg)) (aM 15) (((5 : Int32) * v1) + (1 : Int32)).toNatClampNeg (mI (sI μ (aM 15) ((5 : Int32) * v1).toNatClampNeg (mI μ (aM 11) v2.toNatClampNeg)) (aM 11) v2.toNatClampNeg)) (aM 15) (((5 : Int32) * v1) + (2 : Int32)).toNatClampNeg (mI (sI (sI μ (aM 15) ((5 : Int32) * v1).toNatClampNeg (mI μ (aM 11) v2.toNatClampNeg)) (aM 15) (((5 : Int32) * v1) + (1 : Int32)).toNatClampNeg (mI (sI μ (aM 15) ((5 : Int32) * v1).toNatClampNeg (mI μ (aM 11) v2.toNatClampNeg)) (aM 11) v2.toNatClampNeg)) (aM 12) v2.toNatClampNeg)) (aM 15) (((5 : Int32) * v1) + (3 : Int32)).toNatClampNeg (mI (sI (sI (sI μ (aM 15) ((5 : Int32) * v1).toNatClampNeg (mI μ (aM 11) v2.toNatClampNeg)) (aM 15) (((5 : Int32) * v1) + (1 : Int32)).toNatClampNeg (mI (sI μ (aM 15) ((5 : Int32) * v1).toNatClampNeg (mI μ (aM 11) v2.toNatClampNeg)) (aM 11) v2.toNatClampNeg)) (aM 15) (((5 : Int32) * v1) + (2 : Int32)).toNatClampNeg (mI (sI (sI μ (aM 15) ((5 : Int32) * v1).toNatClampNeg (mI μ (aM 11) v2.toNatClampNeg)) (aM 15) (((5 : Int32) * v1) + (1 : Int32)).toNatClampNeg (mI (sI μ (aM 15) ((5 : Int32) * v1).toNatClampNeg (mI μ (aM 11) v2.toNatClampNeg)) (aM 11) v2.toNatClampNeg)) (aM 12) v2.toNatClampNeg)) (aM 12) v2.toNatClampNeg)) (aM 15) (((5 : Int32) * v1) + (4 : Int32)).toNatClampNeg (0 : Int32))))))))))))
theorem P_X13_begins {v1 : Int32} {v2 : Int32} {μ : p_M} {r : Int32 × p_M} (h : F_X13_begins v1 v2 μ = some r) : Sm μ r.2 := by
  unfold F_X13_begins at h
  obtain ⟨hc, h⟩ := p_ok_some h
  obtain ⟨hc, h⟩ := p_ok_some h
  obtain ⟨hc, h⟩ := p_ok_some h
  obtain ⟨hc, h⟩ := p_ok_some h
  obtain ⟨hc, h⟩ := p_ok_some h
  obtain ⟨hc, h⟩ := p_ok_some h
  obtain ⟨hc, h⟩ := p_ok_some h
  obtain ⟨hc, h⟩ := p_ok_some h
  obtain ⟨hc, h⟩ := p_ok_some h
  cases h
  exact (Sm_set (Sm_set (Sm_set (Sm_set (Sm_set (Sm_refl μ) (by decide)) (by decide)) (by decide)) (by decide)) (by decide))
theorem E_X13_begins {X : p_X} {d : Nat} {Q : p_R → Prop} {v1 : Int32} {v2 : Int32} {μ : p_M} {r : Int32 × p_M} (hs : ShM μ) (h : F_X13_begins v1 v2 μ = some r) (hQ : Q ((0, none), r.2)) : p_Ev X (d + 0) M_X13_begins 0 [.ref tM, .int v1, .int v2] [] μ Q := by
  unfold F_X13_begins at h
  refine e_aload_n dX13_begins_0 rfl ?_
  refine e_getR dX13_begins_1 rfl rfl hs.1 hs.2.1 (hs.2.2.2 15 (by decide) rfl).1 ?_
  refine e_iconst (v := (5 : Int32)) dX13_begins_4 rfl ?_
  refine e_iload_n dX13_begins_5 rfl ?_
  refine e_imul dX13_begins_6 ?_
  refine e_aload_n dX13_begins_7 rfl ?_
  refine e_getR dX13_begins_8 rfl rfl hs.1 hs.2.1 (hs.2.2.2 11 (by decide) rfl).1 ?_
  refine e_iload_n dX13_begins_11 rfl ?_
  obtain ⟨hc, h⟩ := p_ok_some h
  refine e_iald dX13_begins_12 (Nat.lt_trans (hs.2.2.2 11 (by decide) rfl).2.2.2 hs.2.2.1) (hs.2.2.2 11 (by decide) rfl).2.1 (hs.2.2.2 11 (by decide) rfl).2.2.1 (hs.2.2.2 11 (by decide) rfl).2.2.2 hc ?_
  obtain ⟨hc, h⟩ := p_ok_some h
  refine e_iast dX13_begins_13 (hs.2.2.2 15 (by decide) rfl).2.1 (hs.2.2.2 15 (by decide) rfl).2.2.1 (hs.2.2.2 15 (by decide) rfl).2.2.2 hc ?_
  refine e_aload_n dX13_begins_14 rfl ?_
  refine e_getR dX13_begins_15 rfl rfl hs.1 hs.2.1 (hs.2.2.2 15 (by decide) rfl).1 ?_
  refine e_iconst (v := (5 : Int32)) dX13_begins_18 rfl ?_
  refine e_iload_n dX13_begins_19 rfl ?_
  refine e_imul dX13_begins_20 ?_
  refine e_iconst (v := (1 : Int32)) dX13_begins_21 rfl ?_
  refine e_iadd dX13_begins_22 ?_
  refine e_aload_n dX13_begins_23 rfl ?_
  refine e_getR dX13_begins_24 rfl rfl hs.1 hs.2.1 (hs.2.2.2 11 (by decide) rfl).1 ?_
  refine e_iload_n dX13_begins_27 rfl ?_
  obtain ⟨hc, h⟩ := p_ok_some h
  refine e_iald dX13_begins_28 (Nat.lt_trans (hs.2.2.2 11 (by decide) rfl).2.2.2 hs.2.2.1) (hs.2.2.2 11 (by decide) rfl).2.1 (hs.2.2.2 11 (by decide) rfl).2.2.1 (hs.2.2.2 11 (by decide) rfl).2.2.2 hc ?_
  obtain ⟨hc, h⟩ := p_ok_some h
  refine e_iast dX13_begins_29 (hs.2.2.2 15 (by decide) rfl).2.1 (hs.2.2.2 15 (by decide) rfl).2.2.1 (hs.2.2.2 15 (by decide) rfl).2.2.2 hc ?_
  refine e_aload_n dX13_begins_30 rfl ?_
  refine e_getR dX13_begins_31 rfl rfl hs.1 hs.2.1 (hs.2.2.2 15 (by decide) rfl).1 ?_
  refine e_iconst (v := (5 : Int32)) dX13_begins_34 rfl ?_
  refine e_iload_n dX13_begins_35 rfl ?_
  refine e_imul dX13_begins_36 ?_
  refine e_iconst (v := (2 : Int32)) dX13_begins_37 rfl ?_
  refine e_iadd dX13_begins_38 ?_
  refine e_aload_n dX13_begins_39 rfl ?_
  refine e_getR dX13_begins_40 rfl rfl hs.1 hs.2.1 (hs.2.2.2 12 (by decide) rfl).1 ?_
  refine e_iload_n dX13_begins_43 rfl ?_
  obtain ⟨hc, h⟩ := p_ok_some h
  refine e_iald dX13_begins_44 (Nat.lt_trans (hs.2.2.2 12 (by decide) rfl).2.2.2 hs.2.2.1) (hs.2.2.2 12 (by decide) rfl).2.1 (hs.2.2.2 12 (by decide) rfl).2.2.1 (hs.2.2.2 12 (by decide) rfl).2.2.2 hc ?_
  obtain ⟨hc, h⟩ := p_ok_some h
  refine e_iast dX13_begins_45 (hs.2.2.2 15 (by decide) rfl).2.1 (hs.2.2.2 15 (by decide) rfl).2.2.1 (hs.2.2.2 15 (by decide) rfl).2.2.2 hc ?_
  refine e_aload_n dX13_begins_46 rfl ?_
  refine e_getR dX13_begins_47 rfl rfl hs.1 hs.2.1 (hs.2.2.2 15 (by decide) rfl).1 ?_
  refine e_iconst (v := (5 : Int32)) dX13_begins_50 rfl ?_
  refine e_iload_n dX13_begins_51 rfl ?_
  refine e_imul dX13_begins_52 ?_
  refine e_iconst (v := (3 : Int32)) dX13_begins_53 rfl ?_
  refine e_iadd dX13_begins_54 ?_
  refine e_aload_n dX13_begins_55 rfl ?_
  refine e_getR dX13_begins_56 rfl rfl hs.1 hs.2.1 (hs.2.2.2 12 (by decide) rfl).1 ?_
  refine e_iload_n dX13_begins_59 rfl ?_
  obtain ⟨hc, h⟩ := p_ok_some h
  refine e_iald dX13_begins_60 (Nat.lt_trans (hs.2.2.2 12 (by decide) rfl).2.2.2 hs.2.2.1) (hs.2.2.2 12 (by decide) rfl).2.1 (hs.2.2.2 12 (by decide) rfl).2.2.1 (hs.2.2.2 12 (by decide) rfl).2.2.2 hc ?_
  obtain ⟨hc, h⟩ := p_ok_some h
  refine e_iast dX13_begins_61 (hs.2.2.2 15 (by decide) rfl).2.1 (hs.2.2.2 15 (by decide) rfl).2.2.1 (hs.2.2.2 15 (by decide) rfl).2.2.2 hc ?_
  refine e_aload_n dX13_begins_62 rfl ?_
  refine e_getR dX13_begins_63 rfl rfl hs.1 hs.2.1 (hs.2.2.2 15 (by decide) rfl).1 ?_
  refine e_iconst (v := (5 : Int32)) dX13_begins_66 rfl ?_
  refine e_iload_n dX13_begins_67 rfl ?_
  refine e_imul dX13_begins_68 ?_
  refine e_iconst (v := (4 : Int32)) dX13_begins_69 rfl ?_
  refine e_iadd dX13_begins_70 ?_
  refine e_iconst (v := (0 : Int32)) dX13_begins_71 rfl ?_
  obtain ⟨hc, h⟩ := p_ok_some h
  refine e_iast dX13_begins_72 (hs.2.2.2 15 (by decide) rfl).2.1 (hs.2.2.2 15 (by decide) rfl).2.2.1 (hs.2.2.2 15 (by decide) rfl).2.2.2 hc ?_
  cases h
  exact e_vret dX13_begins_73 rfl hQ
/-! X13_copies -/
def F_X13_copies_c14 : Nat → Int32 → Int32 → Int32 → p_M → Option (Int32 × p_M)
  | 0, _, _, _, _ => none
  | n + 1, v1, v2, v3, μ =>
    p_ok (¬ v1 < 0 ∧ v1.toNatClampNeg < 42)
    (if (mI μ (aM 8) v1.toNatClampNeg) ≤ v3
    then (some (0, μ))
    else (p_ok (¬ (((20 : Int32) * v1) + v3) < 0 ∧ (((20 : Int32) * v1) + v3).toNatClampNeg < 840)
      (p_ok (¬ (((20 : Int32) * v2) + v3) < 0 ∧ (((20 : Int32) * v2) + v3).toNatClampNeg < 840)
      (p_ok (¬ (((20 : Int32) * v1) + v3) < 0 ∧ (((20 : Int32) * v1) + v3).toNatClampNeg < 840)
      (p_ok (¬ (((20 : Int32) * v2) + v3) < 0 ∧ (((20 : Int32) * v2) + v3).toNatClampNeg < 840)
      (F_X13_copies_c14 n v1 v2 (v3 + (1 : Int32)) (sI (sI μ (aM 9) (((20 : Int32) * v2) + v3).toNatClampNeg (mI μ (aM 9) (((20 : Int32) * v1) + v3).toNatClampNeg)) (aM 10) (((20 : Int32) * v2) + v3).toNatClampNeg (mI (sI μ (aM 9) (((20 : Int32) * v2) + v3).toNatClampNeg (mI μ (aM 9) (((20 : Int32) * v1) + v3).toNatClampNeg)) (aM 10) (((20 : Int32) * v1) + v3).toNatClampNeg))))))))
theorem P_X13_copies_c14 : ∀ (n : Nat) (v1 : Int32) (v2 : Int32) (v3 : Int32) (μ : p_M) (r : Int32 × p_M), F_X13_copies_c14 n v1 v2 v3 μ = some r → Sm μ r.2 := by
  intro n
  induction n with
  | zero => intro v1 v2 v3 μ r h; rw [F_X13_copies_c14] at h; cases h
  | succ n ih =>
    intro v1 v2 v3 μ r h
    rw [F_X13_copies_c14] at h
    obtain ⟨hc, h⟩ := p_ok_some h
    by_cases hc : (mI μ (aM 8) v1.toNatClampNeg) ≤ v3
    · rw [if_pos hc] at h
      cases h
      exact (Sm_refl μ)
    · rw [if_neg hc] at h
      obtain ⟨hc, h⟩ := p_ok_some h
      obtain ⟨hc, h⟩ := p_ok_some h
      obtain ⟨hc, h⟩ := p_ok_some h
      obtain ⟨hc, h⟩ := p_ok_some h
      exact Sm_trans (Sm_set (Sm_set (Sm_refl μ) (by decide)) (by decide)) (ih _ _ _ _ _ h)
theorem E_X13_copies_c14 {X : p_X} {d : Nat} {Q : p_R → Prop} : ∀ (n : Nat) (v1 : Int32) (v2 : Int32) (v3 : Int32) (μ : p_M) (r : Int32 × p_M), ShM μ → F_X13_copies_c14 n v1 v2 v3 μ = some r → Q ((0, none), r.2) → p_Ev X (d + 0) M_X13_copies 14 [.ref tM, .int v1, .int v2, .int v3] [] μ Q := by
  intro n
  induction n with
  | zero => intro v1 v2 v3 μ r hs h hQ; rw [F_X13_copies_c14] at h; cases h
  | succ n ih =>
    intro v1 v2 v3 μ r hs h hQ
    rw [F_X13_copies_c14] at h
    refine e_iload_n dX13_copies_14 rfl ?_
    refine e_aload_n dX13_copies_15 rfl ?_
    refine e_getR dX13_copies_16 rfl rfl hs.1 hs.2.1 (hs.2.2.2 8 (by decide) rfl).1 ?_
    refine e_iload_n dX13_copies_19 rfl ?_
    obtain ⟨hc, h⟩ := p_ok_some h
    refine e_iald dX13_copies_20 (Nat.lt_trans (hs.2.2.2 8 (by decide) rfl).2.2.2 hs.2.2.1) (hs.2.2.2 8 (by decide) rfl).2.1 (hs.2.2.2 8 (by decide) rfl).2.2.1 (hs.2.2.2 8 (by decide) rfl).2.2.2 hc ?_
    refine e_ic_ge dX13_copies_21 74 (by decide) (fun hc => ?_) (fun hc => ?_)
    · rw [if_pos hc] at h
      cases h
      exact e_vret dX13_copies_74 rfl hQ
    · rw [if_neg hc] at h
      refine e_aload_n dX13_copies_24 rfl ?_
      refine e_getR dX13_copies_25 rfl rfl hs.1 hs.2.1 (hs.2.2.2 9 (by decide) rfl).1 ?_
      refine e_bipush (v := (20 : Int32)) dX13_copies_28 rfl ?_
      refine e_iload_n dX13_copies_30 rfl ?_
      refine e_imul dX13_copies_31 ?_
      refine e_iload_n dX13_copies_32 rfl ?_
      refine e_iadd dX13_copies_33 ?_
      refine e_aload_n dX13_copies_34 rfl ?_
      refine e_getR dX13_copies_35 rfl rfl hs.1 hs.2.1 (hs.2.2.2 9 (by decide) rfl).1 ?_
      refine e_bipush (v := (20 : Int32)) dX13_copies_38 rfl ?_
      refine e_iload_n dX13_copies_40 rfl ?_
      refine e_imul dX13_copies_41 ?_
      refine e_iload_n dX13_copies_42 rfl ?_
      refine e_iadd dX13_copies_43 ?_
      obtain ⟨hc, h⟩ := p_ok_some h
      refine e_iald dX13_copies_44 (Nat.lt_trans (hs.2.2.2 9 (by decide) rfl).2.2.2 hs.2.2.1) (hs.2.2.2 9 (by decide) rfl).2.1 (hs.2.2.2 9 (by decide) rfl).2.2.1 (hs.2.2.2 9 (by decide) rfl).2.2.2 hc ?_
      obtain ⟨hc, h⟩ := p_ok_some h
      refine e_iast dX13_copies_45 (hs.2.2.2 9 (by decide) rfl).2.1 (hs.2.2.2 9 (by decide) rfl).2.2.1 (hs.2.2.2 9 (by decide) rfl).2.2.2 hc ?_
      refine e_aload_n dX13_copies_46 rfl ?_
      refine e_getR dX13_copies_47 rfl rfl hs.1 hs.2.1 (hs.2.2.2 10 (by decide) rfl).1 ?_
      refine e_bipush (v := (20 : Int32)) dX13_copies_50 rfl ?_
      refine e_iload_n dX13_copies_52 rfl ?_
      refine e_imul dX13_copies_53 ?_
      refine e_iload_n dX13_copies_54 rfl ?_
      refine e_iadd dX13_copies_55 ?_
      refine e_aload_n dX13_copies_56 rfl ?_
      refine e_getR dX13_copies_57 rfl rfl hs.1 hs.2.1 (hs.2.2.2 10 (by decide) rfl).1 ?_
      refine e_bipush (v := (20 : Int32)) dX13_copies_60 rfl ?_
      refine e_iload_n dX13_copies_62 rfl ?_
      refine e_imul dX13_copies_63 ?_
      refine e_iload_n dX13_copies_64 rfl ?_
      refine e_iadd dX13_copies_65 ?_
      obtain ⟨hc, h⟩ := p_ok_some h
      refine e_iald dX13_copies_66 (Nat.lt_trans (hs.2.2.2 10 (by decide) rfl).2.2.2 hs.2.2.1) (hs.2.2.2 10 (by decide) rfl).2.1 (hs.2.2.2 10 (by decide) rfl).2.2.1 (hs.2.2.2 10 (by decide) rfl).2.2.2 hc ?_
      obtain ⟨hc, h⟩ := p_ok_some h
      refine e_iast dX13_copies_67 (hs.2.2.2 10 (by decide) rfl).2.1 (hs.2.2.2 10 (by decide) rfl).2.2.1 (hs.2.2.2 10 (by decide) rfl).2.2.2 hc ?_
      refine e_iinc (v := (1 : Int32)) dX13_copies_68 rfl rfl rfl ?_
      refine e_goto dX13_copies_71 14 (by decide) ?_
      exact ih _ _ _ _ _ hs h hQ
def F_X13_copies (v1 : Int32) (v2 : Int32) (μ : p_M) : Option (Int32 × p_M) :=
  p_ok (¬ v1 < 0 ∧ v1.toNatClampNeg < 42)
  (p_ok (¬ v2 < 0 ∧ v2.toNatClampNeg < 42)
  (F_X13_copies_c14 p_fu v1 v2 (0 : Int32) (sI μ (aM 8) v2.toNatClampNeg (mI μ (aM 8) v1.toNatClampNeg))))
theorem P_X13_copies {v1 : Int32} {v2 : Int32} {μ : p_M} {r : Int32 × p_M} (h : F_X13_copies v1 v2 μ = some r) : Sm μ r.2 := by
  unfold F_X13_copies at h
  obtain ⟨hc, h⟩ := p_ok_some h
  obtain ⟨hc, h⟩ := p_ok_some h
  exact Sm_trans (Sm_set (Sm_refl μ) (by decide)) (P_X13_copies_c14 p_fu _ _ _ _ _ h)
theorem E_X13_copies {X : p_X} {d : Nat} {Q : p_R → Prop} {v1 : Int32} {v2 : Int32} {μ : p_M} {r : Int32 × p_M} (hs : ShM μ) (h : F_X13_copies v1 v2 μ = some r) (hQ : Q ((0, none), r.2)) : p_Ev X (d + 0) M_X13_copies 0 [.ref tM, .int v1, .int v2, .double 0] [] μ Q := by
  unfold F_X13_copies at h
  refine e_aload_n dX13_copies_0 rfl ?_
  refine e_getR dX13_copies_1 rfl rfl hs.1 hs.2.1 (hs.2.2.2 8 (by decide) rfl).1 ?_
  refine e_iload_n dX13_copies_4 rfl ?_
  refine e_aload_n dX13_copies_5 rfl ?_
  refine e_getR dX13_copies_6 rfl rfl hs.1 hs.2.1 (hs.2.2.2 8 (by decide) rfl).1 ?_
  refine e_iload_n dX13_copies_9 rfl ?_
  obtain ⟨hc, h⟩ := p_ok_some h
  refine e_iald dX13_copies_10 (Nat.lt_trans (hs.2.2.2 8 (by decide) rfl).2.2.2 hs.2.2.1) (hs.2.2.2 8 (by decide) rfl).2.1 (hs.2.2.2 8 (by decide) rfl).2.2.1 (hs.2.2.2 8 (by decide) rfl).2.2.2 hc ?_
  obtain ⟨hc, h⟩ := p_ok_some h
  refine e_iast dX13_copies_11 (hs.2.2.2 8 (by decide) rfl).2.1 (hs.2.2.2 8 (by decide) rfl).2.2.1 (hs.2.2.2 8 (by decide) rfl).2.2.2 hc ?_
  refine e_iconst (v := (0 : Int32)) dX13_copies_12 rfl ?_
  refine e_istore_n dX13_copies_13 (Nat.le_of_ble_eq_true rfl) rfl ?_
  exact E_X13_copies_c14 p_fu _ _ _ _ _ hs h hQ
/-! X13_adds -/
def F_X13_adds (v1 : Int32) (v2 : Int32) (v3 : Int32) (v4 : Int32) (v5 : Int32) (v6 : Int32) (v7 : Int32) (μ : p_M) : Option (Int32 × p_M) :=
  p_ok (¬ (mI μ tM 62) < 0 ∧ (mI μ tM 62).toNatClampNeg < 40)
  (p_ok (¬ (mI μ tM 62) < 0 ∧ (mI μ tM 62).toNatClampNeg < 40)
  (p_ok (¬ (mI μ tM 62) < 0 ∧ (mI μ tM 62).toNatClampNeg < 40)
  (p_ok (¬ (mI μ tM 62) < 0 ∧ (mI μ tM 62).toNatClampNeg < 40)
  (p_ok (¬ (mI μ tM 62) < 0 ∧ (mI μ tM 62).toNatClampNeg < 40)
  (p_ok (¬ (mI μ tM 62) < 0 ∧ (mI μ tM 62).toNatClampNeg < 40)
  (p_ok (¬ (mI μ tM 62) < 0 ∧ (mI μ tM 62).toNatClampNeg < 40)
  (p_ok (¬ (mI μ tM 62) < 0 ∧ (mI μ tM 62).toNatClampNeg < 40)
  (p_ok (¬ (mI μ tM 62) < 0 ∧ (mI μ tM 62).toNatClampNeg < 40)
  (p_ok (¬ (mI μ tM 62) < 0 ∧ (mI μ tM 62).toNatClampNeg < 40)
  ((F_X13_begins (mI μ tM 62) v1 (sI (sI (sI (sI (sI (sI (sI (sI (sI (sI (sI μ tM 62 ((mI μ tM 62) + (1 : Int32))) (aM 48) (mI μ tM 62).toNatClampNeg v1) (aM 49) (mI μ tM 62).toNatClampNeg v2) (aM 50) (mI μ tM 62).toNatClampNeg v3) (aM 51) (mI μ tM 62).toNatClampNeg v4) (aM 52) (mI μ tM 62).toNatClampNeg v5) (aM 53) (mI μ tM 62).toNatClampNeg v6) (aM 54) (mI μ tM 62).toNatClampNeg v7) (aM 56) (mI μ tM 62).toNatClampNeg (-1)) (aM 58) (mI μ tM 62).toNatClampNeg (-1)) (aM 59) (mI μ tM 62).toNatClampNeg (-1))).bind fun q1 =>
  (F_X13_copies (40 : Int32) (mI μ tM 62) q1.2).bind fun q2 =>
  some ((mI μ tM 62), q2.2)))))))))))
theorem P_X13_adds {v1 : Int32} {v2 : Int32} {v3 : Int32} {v4 : Int32} {v5 : Int32} {v6 : Int32} {v7 : Int32} {μ : p_M} {r : Int32 × p_M} (h : F_X13_adds v1 v2 v3 v4 v5 v6 v7 μ = some r) : Sm μ r.2 := by
  unfold F_X13_adds at h
  obtain ⟨hc, h⟩ := p_ok_some h
  obtain ⟨hc, h⟩ := p_ok_some h
  obtain ⟨hc, h⟩ := p_ok_some h
  obtain ⟨hc, h⟩ := p_ok_some h
  obtain ⟨hc, h⟩ := p_ok_some h
  obtain ⟨hc, h⟩ := p_ok_some h
  obtain ⟨hc, h⟩ := p_ok_some h
  obtain ⟨hc, h⟩ := p_ok_some h
  obtain ⟨hc, h⟩ := p_ok_some h
  obtain ⟨hc, h⟩ := p_ok_some h
  obtain ⟨q1, hq1, h⟩ := p_bd h
  obtain ⟨q2, hq2, h⟩ := p_bd h
  cases h
  exact (Sm_trans (Sm_trans (Sm_set (Sm_set (Sm_set (Sm_set (Sm_set (Sm_set (Sm_set (Sm_set (Sm_set (Sm_set (Sm_set (Sm_refl μ) (by decide)) (by decide)) (by decide)) (by decide)) (by decide)) (by decide)) (by decide)) (by decide)) (by decide)) (by decide)) (by decide)) (P_X13_begins (r := q1) hq1)) (P_X13_copies (r := q2) hq2))
theorem E_X13_adds {X : p_X} {d : Nat} {Q : p_R → Prop} {v1 : Int32} {v2 : Int32} {v3 : Int32} {v4 : Int32} {v5 : Int32} {v6 : Int32} {v7 : Int32} {μ : p_M} {r : Int32 × p_M} (hs : ShM μ) (h : F_X13_adds v1 v2 v3 v4 v5 v6 v7 μ = some r) (hQ : Q ((0, some (.int r.1)), r.2)) : p_Ev X (d + 1) M_X13_adds 0 [.ref tM, .int v1, .int v2, .int v3, .int v4, .int v5, .int v6, .int v7, .double 0] [] μ Q := by
  unfold F_X13_adds at h
  refine e_aload_n dX13_adds_0 rfl ?_
  refine e_getI dX13_adds_1 rfl rfl hs.1 hs.2.1 ?_
  refine e_istore dX13_adds_4 (Nat.le_of_ble_eq_true rfl) rfl ?_
  refine e_aload_n dX13_adds_6 rfl ?_
  refine e_dupR dX13_adds_7 ?_
  refine e_getI dX13_adds_8 rfl rfl hs.1 hs.2.1 ?_
  refine e_iconst (v := (1 : Int32)) dX13_adds_11 rfl ?_
  refine e_iadd dX13_adds_12 ?_
  refine e_putI dX13_adds_13 rfl ⟨rfl, rfl, fun h => by cases h⟩ (fun h => by cases h) hs.1 hs.2.1 ?_
  refine e_aload_n dX13_adds_16 rfl ?_
  refine e_getR dX13_adds_17 rfl rfl hs.1 hs.2.1 (hs.2.2.2 48 (by decide) rfl).1 ?_
  refine e_iload dX13_adds_20 rfl ?_
  refine e_iload_n dX13_adds_22 rfl ?_
  obtain ⟨hc, h⟩ := p_ok_some h
  refine e_iast dX13_adds_23 (hs.2.2.2 48 (by decide) rfl).2.1 (hs.2.2.2 48 (by decide) rfl).2.2.1 (hs.2.2.2 48 (by decide) rfl).2.2.2 hc ?_
  refine e_aload_n dX13_adds_24 rfl ?_
  refine e_getR dX13_adds_25 rfl rfl hs.1 hs.2.1 (hs.2.2.2 49 (by decide) rfl).1 ?_
  refine e_iload dX13_adds_28 rfl ?_
  refine e_iload_n dX13_adds_30 rfl ?_
  obtain ⟨hc, h⟩ := p_ok_some h
  refine e_iast dX13_adds_31 (hs.2.2.2 49 (by decide) rfl).2.1 (hs.2.2.2 49 (by decide) rfl).2.2.1 (hs.2.2.2 49 (by decide) rfl).2.2.2 hc ?_
  refine e_aload_n dX13_adds_32 rfl ?_
  refine e_getR dX13_adds_33 rfl rfl hs.1 hs.2.1 (hs.2.2.2 50 (by decide) rfl).1 ?_
  refine e_iload dX13_adds_36 rfl ?_
  refine e_iload_n dX13_adds_38 rfl ?_
  obtain ⟨hc, h⟩ := p_ok_some h
  refine e_iast dX13_adds_39 (hs.2.2.2 50 (by decide) rfl).2.1 (hs.2.2.2 50 (by decide) rfl).2.2.1 (hs.2.2.2 50 (by decide) rfl).2.2.2 hc ?_
  refine e_aload_n dX13_adds_40 rfl ?_
  refine e_getR dX13_adds_41 rfl rfl hs.1 hs.2.1 (hs.2.2.2 51 (by decide) rfl).1 ?_
  refine e_iload dX13_adds_44 rfl ?_
  refine e_iload dX13_adds_46 rfl ?_
  obtain ⟨hc, h⟩ := p_ok_some h
  refine e_iast dX13_adds_48 (hs.2.2.2 51 (by decide) rfl).2.1 (hs.2.2.2 51 (by decide) rfl).2.2.1 (hs.2.2.2 51 (by decide) rfl).2.2.2 hc ?_
  refine e_aload_n dX13_adds_49 rfl ?_
  refine e_getR dX13_adds_50 rfl rfl hs.1 hs.2.1 (hs.2.2.2 52 (by decide) rfl).1 ?_
  refine e_iload dX13_adds_53 rfl ?_
  refine e_iload dX13_adds_55 rfl ?_
  obtain ⟨hc, h⟩ := p_ok_some h
  refine e_iast dX13_adds_57 (hs.2.2.2 52 (by decide) rfl).2.1 (hs.2.2.2 52 (by decide) rfl).2.2.1 (hs.2.2.2 52 (by decide) rfl).2.2.2 hc ?_
  refine e_aload_n dX13_adds_58 rfl ?_
  refine e_getR dX13_adds_59 rfl rfl hs.1 hs.2.1 (hs.2.2.2 53 (by decide) rfl).1 ?_
  refine e_iload dX13_adds_62 rfl ?_
  refine e_iload dX13_adds_64 rfl ?_
  obtain ⟨hc, h⟩ := p_ok_some h
  refine e_iast dX13_adds_66 (hs.2.2.2 53 (by decide) rfl).2.1 (hs.2.2.2 53 (by decide) rfl).2.2.1 (hs.2.2.2 53 (by decide) rfl).2.2.2 hc ?_
  refine e_aload_n dX13_adds_67 rfl ?_
  refine e_getR dX13_adds_68 rfl rfl hs.1 hs.2.1 (hs.2.2.2 54 (by decide) rfl).1 ?_
  refine e_iload dX13_adds_71 rfl ?_
  refine e_iload dX13_adds_73 rfl ?_
  obtain ⟨hc, h⟩ := p_ok_some h
  refine e_iast dX13_adds_75 (hs.2.2.2 54 (by decide) rfl).2.1 (hs.2.2.2 54 (by decide) rfl).2.2.1 (hs.2.2.2 54 (by decide) rfl).2.2.2 hc ?_
  refine e_aload_n dX13_adds_76 rfl ?_
  refine e_getR dX13_adds_77 rfl rfl hs.1 hs.2.1 (hs.2.2.2 56 (by decide) rfl).1 ?_
  refine e_iload dX13_adds_80 rfl ?_
  refine e_iconst (v := (-1)) dX13_adds_82 rfl ?_
  obtain ⟨hc, h⟩ := p_ok_some h
  refine e_iast dX13_adds_83 (hs.2.2.2 56 (by decide) rfl).2.1 (hs.2.2.2 56 (by decide) rfl).2.2.1 (hs.2.2.2 56 (by decide) rfl).2.2.2 hc ?_
  refine e_aload_n dX13_adds_84 rfl ?_
  refine e_getR dX13_adds_85 rfl rfl hs.1 hs.2.1 (hs.2.2.2 58 (by decide) rfl).1 ?_
  refine e_iload dX13_adds_88 rfl ?_
  refine e_iconst (v := (-1)) dX13_adds_90 rfl ?_
  obtain ⟨hc, h⟩ := p_ok_some h
  refine e_iast dX13_adds_91 (hs.2.2.2 58 (by decide) rfl).2.1 (hs.2.2.2 58 (by decide) rfl).2.2.1 (hs.2.2.2 58 (by decide) rfl).2.2.2 hc ?_
  refine e_aload_n dX13_adds_92 rfl ?_
  refine e_getR dX13_adds_93 rfl rfl hs.1 hs.2.1 (hs.2.2.2 59 (by decide) rfl).1 ?_
  refine e_iload dX13_adds_96 rfl ?_
  refine e_iconst (v := (-1)) dX13_adds_98 rfl ?_
  obtain ⟨hc, h⟩ := p_ok_some h
  refine e_iast dX13_adds_99 (hs.2.2.2 59 (by decide) rfl).2.1 (hs.2.2.2 59 (by decide) rfl).2.2.1 (hs.2.2.2 59 (by decide) rfl).2.2.2 hc ?_
  refine e_aload_n dX13_adds_100 rfl ?_
  refine e_iload dX13_adds_101 rfl ?_
  refine e_iload_n dX13_adds_103 rfl ?_
  obtain ⟨q1, hq1, h⟩ := p_bd h
  refine e_cV dX13_adds_104 rfl rfl ⟨rfl, rfl, by decide⟩ rfl hs.1 hs.2.1 (E_X13_begins hs hq1 ⟨rfl, ?_⟩)
  have hs := ShM_of (P_X13_begins hq1) hs
  show p_Ev X (d + 1) M_X13_adds 107 [.ref tM, .int v1, .int v2, .int v3, .int v4, .int v5, .int v6, .int v7, .int (mI μ tM 62)] [] q1.2 Q
  refine e_aload_n dX13_adds_107 rfl ?_
  refine e_bipush (v := (40 : Int32)) dX13_adds_108 rfl ?_
  refine e_iload dX13_adds_110 rfl ?_
  obtain ⟨q2, hq2, h⟩ := p_bd h
  refine e_cV dX13_adds_112 rfl rfl ⟨rfl, rfl, by decide⟩ rfl hs.1 hs.2.1 (E_X13_copies hs hq2 ⟨rfl, ?_⟩)
  have hs := ShM_of (P_X13_copies hq2) hs
  show p_Ev X (d + 1) M_X13_adds 115 [.ref tM, .int v1, .int v2, .int v3, .int v4, .int v5, .int v6, .int v7, .int (mI μ tM 62)] [] q2.2 Q
  refine e_iload dX13_adds_115 rfl ?_
  cases h
  exact e_ireti dX13_adds_117 rfl hQ
/-! X13_shadeOf -/
def F_X13_shadeOf_c54 (K8 : Int32 → Int32 → Int32 → Int32 → p_M → Option (Int32 × p_M)) (v1 : Int32) (v2 : Int32) (v3 : Int32) (v4 : Int32) (μ : p_M) : Option (Int32 × p_M) :=
  K8 v1 v2 v3 (v4 + (-1)) μ
theorem P_X13_shadeOf_c54 {K8 : Int32 → Int32 → Int32 → Int32 → p_M → Option (Int32 × p_M)} (hP8 : ∀ (v1 : Int32) (v2 : Int32) (v3 : Int32) (v4 : Int32) (μ : p_M) (r : Int32 × p_M), K8 v1 v2 v3 v4 μ = some r → Sm μ r.2) {v1 : Int32} {v2 : Int32} {v3 : Int32} {v4 : Int32} {μ : p_M} {r : Int32 × p_M} (h : F_X13_shadeOf_c54 K8 v1 v2 v3 v4 μ = some r) : Sm μ r.2 := by
  unfold F_X13_shadeOf_c54 at h
  exact Sm_trans (Sm_refl μ) (hP8 _ _ _ _ _ _ h)
theorem E_X13_shadeOf_c54 {X : p_X} {d : Nat} {Q : p_R → Prop} {K8 : Int32 → Int32 → Int32 → Int32 → p_M → Option (Int32 × p_M)} (hK8 : ∀ (v1 : Int32) (v2 : Int32) (v3 : Int32) (v4 : Int32) (μ : p_M) (r : Int32 × p_M), ShM μ → K8 v1 v2 v3 v4 μ = some r → Q ((0, some (.int r.1)), r.2) → p_Ev X (d + 0) M_X13_shadeOf 8 [.ref tM, .int v1, .int v2, .int v3, .int v4] [] μ Q) {v1 : Int32} {v2 : Int32} {v3 : Int32} {v4 : Int32} {μ : p_M} {r : Int32 × p_M} (hs : ShM μ) (h : F_X13_shadeOf_c54 K8 v1 v2 v3 v4 μ = some r) (hQ : Q ((0, some (.int r.1)), r.2)) : p_Ev X (d + 0) M_X13_shadeOf 54 [.ref tM, .int v1, .int v2, .int v3, .int v4] [] μ Q := by
  unfold F_X13_shadeOf_c54 at h
  refine e_iinc (v := (-1)) dX13_shadeOf_54 rfl rfl rfl ?_
  refine e_goto dX13_shadeOf_57 8 (by decide) ?_
  exact hK8 _ _ _ _ _ _ hs h hQ
def F_X13_shadeOf_c8 : Nat → Int32 → Int32 → Int32 → Int32 → p_M → Option (Int32 × p_M)
  | 0, _, _, _, _, _ => none
  | n + 1, v1, v2, v3, v4, μ =>
    if v4 < 0
    then (some ((-1), μ))
    else (p_ok (¬ v4 < 0 ∧ v4.toNatClampNeg < 250)
      (if ¬ (mI μ (aM 65) v4.toNatClampNeg) = v1
      then (F_X13_shadeOf_c54 (F_X13_shadeOf_c8 n) v1 v2 v3 v4 μ)
      else (p_ok (¬ v4 < 0 ∧ v4.toNatClampNeg < 250)
        (if ¬ (mI μ (aM 66) v4.toNatClampNeg) = v2
        then (F_X13_shadeOf_c54 (F_X13_shadeOf_c8 n) v1 v2 v3 v4 μ)
        else (p_ok (¬ v4 < 0 ∧ v4.toNatClampNeg < 250)
          (if v3 < (mI μ (aM 68) v4.toNatClampNeg)
          then (F_X13_shadeOf_c54 (F_X13_shadeOf_c8 n) v1 v2 v3 v4 μ)
          else (p_ok (¬ v4 < 0 ∧ v4.toNatClampNeg < 250)
            (some ((mI μ (aM 67) v4.toNatClampNeg), μ)))))))))
theorem P_X13_shadeOf_c8 : ∀ (n : Nat) (v1 : Int32) (v2 : Int32) (v3 : Int32) (v4 : Int32) (μ : p_M) (r : Int32 × p_M), F_X13_shadeOf_c8 n v1 v2 v3 v4 μ = some r → Sm μ r.2 := by
  intro n
  induction n with
  | zero => intro v1 v2 v3 v4 μ r h; rw [F_X13_shadeOf_c8] at h; cases h
  | succ n ih =>
    intro v1 v2 v3 v4 μ r h
    rw [F_X13_shadeOf_c8] at h
    by_cases hc : v4 < 0
    · rw [if_pos hc] at h
      cases h
      exact (Sm_refl μ)
    · rw [if_neg hc] at h
      obtain ⟨hc, h⟩ := p_ok_some h
      by_cases hc : ¬ (mI μ (aM 65) v4.toNatClampNeg) = v1
      · rw [if_pos hc] at h
        exact Sm_trans (Sm_refl μ) (P_X13_shadeOf_c54 ih h)
      · rw [if_neg hc] at h
        obtain ⟨hc, h⟩ := p_ok_some h
        by_cases hc : ¬ (mI μ (aM 66) v4.toNatClampNeg) = v2
        · rw [if_pos hc] at h
          exact Sm_trans (Sm_refl μ) (P_X13_shadeOf_c54 ih h)
        · rw [if_neg hc] at h
          obtain ⟨hc, h⟩ := p_ok_some h
          by_cases hc : v3 < (mI μ (aM 68) v4.toNatClampNeg)
          · rw [if_pos hc] at h
            exact Sm_trans (Sm_refl μ) (P_X13_shadeOf_c54 ih h)
          · rw [if_neg hc] at h
            obtain ⟨hc, h⟩ := p_ok_some h
            cases h
            exact (Sm_refl μ)
theorem E_X13_shadeOf_c8 {X : p_X} {d : Nat} {Q : p_R → Prop} : ∀ (n : Nat) (v1 : Int32) (v2 : Int32) (v3 : Int32) (v4 : Int32) (μ : p_M) (r : Int32 × p_M), ShM μ → F_X13_shadeOf_c8 n v1 v2 v3 v4 μ = some r → Q ((0, some (.int r.1)), r.2) → p_Ev X (d + 0) M_X13_shadeOf 8 [.ref tM, .int v1, .int v2, .int v3, .int v4] [] μ Q := by
  intro n
  induction n with
  | zero => intro v1 v2 v3 v4 μ r hs h hQ; rw [F_X13_shadeOf_c8] at h; cases h
  | succ n ih =>
    intro v1 v2 v3 v4 μ r hs h hQ
    rw [F_X13_shadeOf_c8] at h
    refine e_iload dX13_shadeOf_8 rfl ?_
    refine e_if_lt dX13_shadeOf_10 60 (by decide) (fun hc => ?_) (fun hc => ?_)
    · rw [if_pos hc] at h
      refine e_iconst (v := (-1)) dX13_shadeOf_60 rfl ?_
      cases h
      exact e_ireti dX13_shadeOf_61 rfl hQ
    · rw [if_neg hc] at h
      refine e_aload_n dX13_shadeOf_13 rfl ?_
      refine e_getR dX13_shadeOf_14 rfl rfl hs.1 hs.2.1 (hs.2.2.2 65 (by decide) rfl).1 ?_
      refine e_iload dX13_shadeOf_17 rfl ?_
      obtain ⟨hc, h⟩ := p_ok_some h
      refine e_iald dX13_shadeOf_19 (Nat.lt_trans (hs.2.2.2 65 (by decide) rfl).2.2.2 hs.2.2.1) (hs.2.2.2 65 (by decide) rfl).2.1 (hs.2.2.2 65 (by decide) rfl).2.2.1 (hs.2.2.2 65 (by decide) rfl).2.2.2 hc ?_
      refine e_iload_n dX13_shadeOf_20 rfl ?_
      refine e_ic_ne dX13_shadeOf_21 54 (by decide) (fun hc => ?_) (fun hc => ?_)
      · rw [if_pos hc] at h
        exact E_X13_shadeOf_c54 ih hs h hQ
      · rw [if_neg hc] at h
        refine e_aload_n dX13_shadeOf_24 rfl ?_
        refine e_getR dX13_shadeOf_25 rfl rfl hs.1 hs.2.1 (hs.2.2.2 66 (by decide) rfl).1 ?_
        refine e_iload dX13_shadeOf_28 rfl ?_
        obtain ⟨hc, h⟩ := p_ok_some h
        refine e_iald dX13_shadeOf_30 (Nat.lt_trans (hs.2.2.2 66 (by decide) rfl).2.2.2 hs.2.2.1) (hs.2.2.2 66 (by decide) rfl).2.1 (hs.2.2.2 66 (by decide) rfl).2.2.1 (hs.2.2.2 66 (by decide) rfl).2.2.2 hc ?_
        refine e_iload_n dX13_shadeOf_31 rfl ?_
        refine e_ic_ne dX13_shadeOf_32 54 (by decide) (fun hc => ?_) (fun hc => ?_)
        · rw [if_pos hc] at h
          exact E_X13_shadeOf_c54 ih hs h hQ
        · rw [if_neg hc] at h
          refine e_aload_n dX13_shadeOf_35 rfl ?_
          refine e_getR dX13_shadeOf_36 rfl rfl hs.1 hs.2.1 (hs.2.2.2 68 (by decide) rfl).1 ?_
          refine e_iload dX13_shadeOf_39 rfl ?_
          obtain ⟨hc, h⟩ := p_ok_some h
          refine e_iald dX13_shadeOf_41 (Nat.lt_trans (hs.2.2.2 68 (by decide) rfl).2.2.2 hs.2.2.1) (hs.2.2.2 68 (by decide) rfl).2.1 (hs.2.2.2 68 (by decide) rfl).2.2.1 (hs.2.2.2 68 (by decide) rfl).2.2.2 hc ?_
          refine e_iload_n dX13_shadeOf_42 rfl ?_
          refine e_ic_gt dX13_shadeOf_43 54 (by decide) (fun hc => ?_) (fun hc => ?_)
          · rw [if_pos hc] at h
            exact E_X13_shadeOf_c54 ih hs h hQ
          · rw [if_neg hc] at h
            refine e_aload_n dX13_shadeOf_46 rfl ?_
            refine e_getR dX13_shadeOf_47 rfl rfl hs.1 hs.2.1 (hs.2.2.2 67 (by decide) rfl).1 ?_
            refine e_iload dX13_shadeOf_50 rfl ?_
            obtain ⟨hc, h⟩ := p_ok_some h
            refine e_iald dX13_shadeOf_52 (Nat.lt_trans (hs.2.2.2 67 (by decide) rfl).2.2.2 hs.2.2.1) (hs.2.2.2 67 (by decide) rfl).2.1 (hs.2.2.2 67 (by decide) rfl).2.2.1 (hs.2.2.2 67 (by decide) rfl).2.2.2 hc ?_
            cases h
            exact e_ireti dX13_shadeOf_53 rfl hQ
def F_X13_shadeOf (v1 : Int32) (v2 : Int32) (v3 : Int32) (μ : p_M) : Option (Int32 × p_M) :=
  F_X13_shadeOf_c8 p_fu v1 v2 v3 ((mI μ tM 69) - (1 : Int32)) μ
theorem P_X13_shadeOf {v1 : Int32} {v2 : Int32} {v3 : Int32} {μ : p_M} {r : Int32 × p_M} (h : F_X13_shadeOf v1 v2 v3 μ = some r) : Sm μ r.2 := by
  unfold F_X13_shadeOf at h
  exact Sm_trans (Sm_refl μ) (P_X13_shadeOf_c8 p_fu _ _ _ _ _ _ h)
theorem E_X13_shadeOf {X : p_X} {d : Nat} {Q : p_R → Prop} {v1 : Int32} {v2 : Int32} {v3 : Int32} {μ : p_M} {r : Int32 × p_M} (hs : ShM μ) (h : F_X13_shadeOf v1 v2 v3 μ = some r) (hQ : Q ((0, some (.int r.1)), r.2)) : p_Ev X (d + 0) M_X13_shadeOf 0 [.ref tM, .int v1, .int v2, .int v3, .double 0] [] μ Q := by
  unfold F_X13_shadeOf at h
  refine e_aload_n dX13_shadeOf_0 rfl ?_
  refine e_getI dX13_shadeOf_1 rfl rfl hs.1 hs.2.1 ?_
  refine e_iconst (v := (1 : Int32)) dX13_shadeOf_4 rfl ?_
  refine e_isub dX13_shadeOf_5 ?_
  refine e_istore dX13_shadeOf_6 (Nat.le_of_ble_eq_true rfl) rfl ?_
  exact E_X13_shadeOf_c8 p_fu _ _ _ _ _ _ hs h hQ
/-! X13_knownOf -/
def F_X13_knownOf_c49 (s0 : Int32) (μ : p_M) : Option (Int32 × p_M) :=
  some (s0, μ)
theorem P_X13_knownOf_c49 {s0 : Int32} {μ : p_M} {r : Int32 × p_M} (h : F_X13_knownOf_c49 s0 μ = some r) : Sm μ r.2 := by
  unfold F_X13_knownOf_c49 at h
  cases h
  exact (Sm_refl μ)
theorem E_X13_knownOf_c49 {X : p_X} {d : Nat} {Q : p_R → Prop} {s0 : Int32} {w0 : Value} {w1 : Value} {w2 : Value} {w3 : Value} {w4 : Value} {μ : p_M} {r : Int32 × p_M} (hs : ShM μ) (h : F_X13_knownOf_c49 s0 μ = some r) (hQ : Q ((0, some (.int r.1)), r.2)) : p_Ev X (d + 1) M_X13_knownOf 49 [w0, w1, w2, w3, w4] [.int s0] μ Q := by
  unfold F_X13_knownOf_c49 at h
  cases h
  exact e_ireti dX13_knownOf_49 rfl hQ
def F_X13_knownOf (v1 : Int32) (v2 : Int32) (v3 : Int32) (μ : p_M) : Option (Int32 × p_M) :=
  (F_X13_shadeOf v1 v2 v3 μ).bind fun q1 =>
  if 0 ≤ q1.1
  then (p_ok (¬ v1 < 0 ∧ v1.toNatClampNeg < 40)
    (if q1.1 ≤ (mI q1.2 (aM 52) v1.toNatClampNeg)
    then (p_ok (¬ v1 < 0 ∧ v1.toNatClampNeg < 40)
      (if (mI q1.2 (aM 51) v1.toNatClampNeg) ≤ q1.1
      then (F_X13_knownOf_c49 (2 : Int32) q1.2)
      else (F_X13_knownOf_c49 (1 : Int32) q1.2)))
    else (F_X13_knownOf_c49 (3 : Int32) q1.2)))
  else (F_X13_knownOf_c49 (0 : Int32) q1.2)
theorem P_X13_knownOf {v1 : Int32} {v2 : Int32} {v3 : Int32} {μ : p_M} {r : Int32 × p_M} (h : F_X13_knownOf v1 v2 v3 μ = some r) : Sm μ r.2 := by
  unfold F_X13_knownOf at h
  obtain ⟨q1, hq1, h⟩ := p_bd h
  by_cases hc : 0 ≤ q1.1
  · rw [if_pos hc] at h
    obtain ⟨hc, h⟩ := p_ok_some h
    by_cases hc : q1.1 ≤ (mI q1.2 (aM 52) v1.toNatClampNeg)
    · rw [if_pos hc] at h
      obtain ⟨hc, h⟩ := p_ok_some h
      by_cases hc : (mI q1.2 (aM 51) v1.toNatClampNeg) ≤ q1.1
      · rw [if_pos hc] at h
        exact Sm_trans (Sm_trans (Sm_refl μ) (P_X13_shadeOf (r := q1) hq1)) (P_X13_knownOf_c49 h)
      · rw [if_neg hc] at h
        exact Sm_trans (Sm_trans (Sm_refl μ) (P_X13_shadeOf (r := q1) hq1)) (P_X13_knownOf_c49 h)
    · rw [if_neg hc] at h
      exact Sm_trans (Sm_trans (Sm_refl μ) (P_X13_shadeOf (r := q1) hq1)) (P_X13_knownOf_c49 h)
  · rw [if_neg hc] at h
    exact Sm_trans (Sm_trans (Sm_refl μ) (P_X13_shadeOf (r := q1) hq1)) (P_X13_knownOf_c49 h)
theorem E_X13_knownOf {X : p_X} {d : Nat} {Q : p_R → Prop} {v1 : Int32} {v2 : Int32} {v3 : Int32} {μ : p_M} {r : Int32 × p_M} (hs : ShM μ) (h : F_X13_knownOf v1 v2 v3 μ = some r) (hQ : Q ((0, some (.int r.1)), r.2)) : p_Ev X (d + 1) M_X13_knownOf 0 [.ref tM, .int v1, .int v2, .int v3, .double 0] [] μ Q := by
  unfold F_X13_knownOf at h
  refine e_aload_n dX13_knownOf_0 rfl ?_
  refine e_iload_n dX13_knownOf_1 rfl ?_
  refine e_iload_n dX13_knownOf_2 rfl ?_
  refine e_iload_n dX13_knownOf_3 rfl ?_
  obtain ⟨q1, hq1, h⟩ := p_bd h
  refine e_cV dX13_knownOf_4 rfl rfl ⟨rfl, rfl, by decide⟩ rfl hs.1 hs.2.1 (E_X13_shadeOf hs hq1 ⟨rfl, ?_⟩)
  have hs := ShM_of (P_X13_shadeOf hq1) hs
  show p_Ev X (d + 1) M_X13_knownOf 7 [.ref tM, .int v1, .int v2, .int v3, .double 0] [.int q1.1] q1.2 Q
  refine e_istore dX13_knownOf_7 (Nat.le_of_ble_eq_true rfl) rfl ?_
  refine e_iload dX13_knownOf_9 rfl ?_
  refine e_if_ge dX13_knownOf_11 18 (by decide) (fun hc => ?_) (fun hc => ?_)
  · rw [if_pos hc] at h
    refine e_iload dX13_knownOf_18 rfl ?_
    refine e_aload_n dX13_knownOf_20 rfl ?_
    refine e_getR dX13_knownOf_21 rfl rfl hs.1 hs.2.1 (hs.2.2.2 52 (by decide) rfl).1 ?_
    refine e_iload_n dX13_knownOf_24 rfl ?_
    obtain ⟨hc, h⟩ := p_ok_some h
    refine e_iald dX13_knownOf_25 (Nat.lt_trans (hs.2.2.2 52 (by decide) rfl).2.2.2 hs.2.2.1) (hs.2.2.2 52 (by decide) rfl).2.1 (hs.2.2.2 52 (by decide) rfl).2.2.1 (hs.2.2.2 52 (by decide) rfl).2.2.2 hc ?_
    refine e_ic_le dX13_knownOf_26 33 (by decide) (fun hc => ?_) (fun hc => ?_)
    · rw [if_pos hc] at h
      refine e_iload dX13_knownOf_33 rfl ?_
      refine e_aload_n dX13_knownOf_35 rfl ?_
      refine e_getR dX13_knownOf_36 rfl rfl hs.1 hs.2.1 (hs.2.2.2 51 (by decide) rfl).1 ?_
      refine e_iload_n dX13_knownOf_39 rfl ?_
      obtain ⟨hc, h⟩ := p_ok_some h
      refine e_iald dX13_knownOf_40 (Nat.lt_trans (hs.2.2.2 51 (by decide) rfl).2.2.2 hs.2.2.1) (hs.2.2.2 51 (by decide) rfl).2.1 (hs.2.2.2 51 (by decide) rfl).2.2.1 (hs.2.2.2 51 (by decide) rfl).2.2.2 hc ?_
      refine e_ic_ge dX13_knownOf_41 48 (by decide) (fun hc => ?_) (fun hc => ?_)
      · rw [if_pos hc] at h
        refine e_iconst (v := (2 : Int32)) dX13_knownOf_48 rfl ?_
        exact E_X13_knownOf_c49 hs h hQ
      · rw [if_neg hc] at h
        refine e_iconst (v := (1 : Int32)) dX13_knownOf_44 rfl ?_
        refine e_goto dX13_knownOf_45 49 (by decide) ?_
        exact E_X13_knownOf_c49 hs h hQ
    · rw [if_neg hc] at h
      refine e_iconst (v := (3 : Int32)) dX13_knownOf_29 rfl ?_
      refine e_goto dX13_knownOf_30 49 (by decide) ?_
      exact E_X13_knownOf_c49 hs h hQ
  · rw [if_neg hc] at h
    refine e_iconst (v := (0 : Int32)) dX13_knownOf_14 rfl ?_
    refine e_goto dX13_knownOf_15 49 (by decide) ?_
    exact E_X13_knownOf_c49 hs h hQ
/-! X13_in -/
def F_X13_in_c15 (s0 : Int32) (μ : p_M) : Option (Int32 × p_M) :=
  p_ok (s0 = 0 ∨ s0 = 1) (some (s0, μ))
theorem P_X13_in_c15 {s0 : Int32} {μ : p_M} {r : Int32 × p_M} (h : F_X13_in_c15 s0 μ = some r) : Sm μ r.2 := by
  unfold F_X13_in_c15 at h
  obtain ⟨hc, h⟩ := p_ok_some h
  cases h
  exact (Sm_refl μ)
theorem E_X13_in_c15 {X : p_X} {d : Nat} {Q : p_R → Prop} {s0 : Int32} {w0 : Value} {w1 : Value} {w2 : Value} {μ : p_M} {r : Int32 × p_M} (hs : ShM μ) (h : F_X13_in_c15 s0 μ = some r) (hQ : Q ((0, some (.int r.1)), r.2)) : p_Ev X (d + 0) M_X13_in 15 [w0, w1, w2] [.int s0] μ Q := by
  unfold F_X13_in_c15 at h
  obtain ⟨hc, h⟩ := p_ok_some h
  cases h
  exact e_iretz dX13_in_15 rfl hc hQ
def F_X13_in_c14 (μ : p_M) : Option (Int32 × p_M) :=
  F_X13_in_c15 (0 : Int32) μ
theorem P_X13_in_c14 {μ : p_M} {r : Int32 × p_M} (h : F_X13_in_c14 μ = some r) : Sm μ r.2 := by
  unfold F_X13_in_c14 at h
  exact Sm_trans (Sm_refl μ) (P_X13_in_c15 h)
theorem E_X13_in_c14 {X : p_X} {d : Nat} {Q : p_R → Prop} {w0 : Value} {w1 : Value} {w2 : Value} {μ : p_M} {r : Int32 × p_M} (hs : ShM μ) (h : F_X13_in_c14 μ = some r) (hQ : Q ((0, some (.int r.1)), r.2)) : p_Ev X (d + 0) M_X13_in 14 [w0, w1, w2] [] μ Q := by
  unfold F_X13_in_c14 at h
  refine e_iconst (v := (0 : Int32)) dX13_in_14 rfl ?_
  exact E_X13_in_c15 hs h hQ
def F_X13_in (v0 : Int32) (v1 : Int32) (v2 : Int32) (μ : p_M) : Option (Int32 × p_M) :=
  if v0 < v1
  then (F_X13_in_c14 μ)
  else (if v2 < v0
    then (F_X13_in_c14 μ)
    else (F_X13_in_c15 (1 : Int32) μ))
theorem P_X13_in {v0 : Int32} {v1 : Int32} {v2 : Int32} {μ : p_M} {r : Int32 × p_M} (h : F_X13_in v0 v1 v2 μ = some r) : Sm μ r.2 := by
  unfold F_X13_in at h
  by_cases hc : v0 < v1
  · rw [if_pos hc] at h
    exact Sm_trans (Sm_refl μ) (P_X13_in_c14 h)
  · rw [if_neg hc] at h
    by_cases hc : v2 < v0
    · rw [if_pos hc] at h
      exact Sm_trans (Sm_refl μ) (P_X13_in_c14 h)
    · rw [if_neg hc] at h
      exact Sm_trans (Sm_refl μ) (P_X13_in_c15 h)
theorem E_X13_in {X : p_X} {d : Nat} {Q : p_R → Prop} {v0 : Int32} {v1 : Int32} {v2 : Int32} {μ : p_M} {r : Int32 × p_M} (hs : ShM μ) (h : F_X13_in v0 v1 v2 μ = some r) (hQ : Q ((0, some (.int r.1)), r.2)) : p_Ev X (d + 0) M_X13_in 0 [.int v0, .int v1, .int v2] [] μ Q := by
  unfold F_X13_in at h
  refine e_iload_n dX13_in_0 rfl ?_
  refine e_iload_n dX13_in_1 rfl ?_
  refine e_ic_lt dX13_in_2 14 (by decide) (fun hc => ?_) (fun hc => ?_)
  · rw [if_pos hc] at h
    exact E_X13_in_c14 hs h hQ
  · rw [if_neg hc] at h
    refine e_iload_n dX13_in_5 rfl ?_
    refine e_iload_n dX13_in_6 rfl ?_
    refine e_ic_gt dX13_in_7 14 (by decide) (fun hc => ?_) (fun hc => ?_)
    · rw [if_pos hc] at h
      exact E_X13_in_c14 hs h hQ
    · rw [if_neg hc] at h
      refine e_iconst (v := (1 : Int32)) dX13_in_10 rfl ?_
      refine e_goto dX13_in_11 15 (by decide) ?_
      exact E_X13_in_c15 hs h hQ
/-! X13_noLot -/
def F_X13_noLot_c19 (s0 : Int32) (μ : p_M) : Option (Int32 × p_M) :=
  p_ok (s0 = 0 ∨ s0 = 1) (some (s0, μ))
theorem P_X13_noLot_c19 {s0 : Int32} {μ : p_M} {r : Int32 × p_M} (h : F_X13_noLot_c19 s0 μ = some r) : Sm μ r.2 := by
  unfold F_X13_noLot_c19 at h
  obtain ⟨hc, h⟩ := p_ok_some h
  cases h
  exact (Sm_refl μ)
theorem E_X13_noLot_c19 {X : p_X} {d : Nat} {Q : p_R → Prop} {s0 : Int32} {w0 : Value} {w1 : Value} {μ : p_M} {r : Int32 × p_M} (hs : ShM μ) (h : F_X13_noLot_c19 s0 μ = some r) (hQ : Q ((0, some (.int r.1)), r.2)) : p_Ev X (d + 1) M_X13_noLot 19 [w0, w1] [.int s0] μ Q := by
  unfold F_X13_noLot_c19 at h
  obtain ⟨hc, h⟩ := p_ok_some h
  cases h
  exact e_iretz dX13_noLot_19 rfl hc hQ
def F_X13_noLot (v1 : Int32) (μ : p_M) : Option (Int32 × p_M) :=
  (F_X13_in v1 (0 : Int32) ((mI μ tM 62) - (1 : Int32)) μ).bind fun q1 =>
  if ¬ q1.1 = 0
  then (F_X13_noLot_c19 (0 : Int32) q1.2)
  else (F_X13_noLot_c19 (1 : Int32) q1.2)
theorem P_X13_noLot {v1 : Int32} {μ : p_M} {r : Int32 × p_M} (h : F_X13_noLot v1 μ = some r) : Sm μ r.2 := by
  unfold F_X13_noLot at h
  obtain ⟨q1, hq1, h⟩ := p_bd h
  by_cases hc : ¬ q1.1 = 0
  · rw [if_pos hc] at h
    exact Sm_trans (Sm_trans (Sm_refl μ) (P_X13_in (r := q1) hq1)) (P_X13_noLot_c19 h)
  · rw [if_neg hc] at h
    exact Sm_trans (Sm_trans (Sm_refl μ) (P_X13_in (r := q1) hq1)) (P_X13_noLot_c19 h)
theorem E_X13_noLot {X : p_X} {d : Nat} {Q : p_R → Prop} {v1 : Int32} {μ : p_M} {r : Int32 × p_M} (hs : ShM μ) (h : F_X13_noLot v1 μ = some r) (hQ : Q ((0, some (.int r.1)), r.2)) : p_Ev X (d + 1) M_X13_noLot 0 [.ref tM, .int v1] [] μ Q := by
  unfold F_X13_noLot at h
  refine e_iload_n dX13_noLot_0 rfl ?_
  refine e_iconst (v := (0 : Int32)) dX13_noLot_1 rfl ?_
  refine e_aload_n dX13_noLot_2 rfl ?_
  refine e_getI dX13_noLot_3 rfl rfl hs.1 hs.2.1 ?_
  refine e_iconst (v := (1 : Int32)) dX13_noLot_6 rfl ?_
  refine e_isub dX13_noLot_7 ?_
  obtain ⟨q1, hq1, h⟩ := p_bd h
  refine e_cS dX13_noLot_8 rfl rfl rfl rfl (E_X13_in hs hq1 ⟨rfl, ?_⟩)
  have hs := ShM_of (P_X13_in hq1) hs
  show p_Ev X (d + 1) M_X13_noLot 11 [.ref tM, .int v1] [.int q1.1] q1.2 Q
  refine e_if_ne dX13_noLot_11 18 (by decide) (fun hc => ?_) (fun hc => ?_)
  · rw [if_pos hc] at h
    refine e_iconst (v := (0 : Int32)) dX13_noLot_18 rfl ?_
    exact E_X13_noLot_c19 hs h hQ
  · rw [if_neg hc] at h
    refine e_iconst (v := (1 : Int32)) dX13_noLot_14 rfl ?_
    refine e_goto dX13_noLot_15 19 (by decide) ?_
    exact E_X13_noLot_c19 hs h hQ
/-! X13_sortedOf -/
def F_X13_sortedOf_c51 (K6 : Int32 → Int32 → Int32 → Int32 → Int32 → p_M → Option (Int32 × p_M)) (v1 : Int32) (v2 : Int32) (v3 : Int32) (v5 : Int32) (s0 : Int32) (s1 : Int32) (μ : p_M) : Option (Int32 × p_M) :=
  K6 v1 v2 v3 (s1 + s0) (v5 + (1 : Int32)) μ
theorem P_X13_sortedOf_c51 {K6 : Int32 → Int32 → Int32 → Int32 → Int32 → p_M → Option (Int32 × p_M)} (hP6 : ∀ (v1 : Int32) (v2 : Int32) (v3 : Int32) (v4 : Int32) (v5 : Int32) (μ : p_M) (r : Int32 × p_M), K6 v1 v2 v3 v4 v5 μ = some r → Sm μ r.2) {v1 : Int32} {v2 : Int32} {v3 : Int32} {v5 : Int32} {s0 : Int32} {s1 : Int32} {μ : p_M} {r : Int32 × p_M} (h : F_X13_sortedOf_c51 K6 v1 v2 v3 v5 s0 s1 μ = some r) : Sm μ r.2 := by
  unfold F_X13_sortedOf_c51 at h
  exact Sm_trans (Sm_refl μ) (hP6 _ _ _ _ _ _ _ h)
theorem E_X13_sortedOf_c51 {X : p_X} {d : Nat} {Q : p_R → Prop} {K6 : Int32 → Int32 → Int32 → Int32 → Int32 → p_M → Option (Int32 × p_M)} (hK6 : ∀ (v1 : Int32) (v2 : Int32) (v3 : Int32) (v4 : Int32) (v5 : Int32) (μ : p_M) (r : Int32 × p_M), ShM μ → K6 v1 v2 v3 v4 v5 μ = some r → Q ((0, some (.int r.1)), r.2) → p_Ev X (d + 2) M_X13_sortedOf 6 [.ref tM, .int v1, .int v2, .int v3, .int v4, .int v5] [] μ Q) {v1 : Int32} {v2 : Int32} {v3 : Int32} {v5 : Int32} {s0 : Int32} {s1 : Int32} {w4 : Value} {μ : p_M} {r : Int32 × p_M} (hs : ShM μ) (h : F_X13_sortedOf_c51 K6 v1 v2 v3 v5 s0 s1 μ = some r) (hQ : Q ((0, some (.int r.1)), r.2)) : p_Ev X (d + 2) M_X13_sortedOf 51 [.ref tM, .int v1, .int v2, .int v3, w4, .int v5] [.int s0, .int s1] μ Q := by
  unfold F_X13_sortedOf_c51 at h
  refine e_iadd dX13_sortedOf_51 ?_
  refine e_istore dX13_sortedOf_52 (Nat.le_of_ble_eq_true rfl) rfl ?_
  refine e_iinc (v := (1 : Int32)) dX13_sortedOf_54 rfl rfl rfl ?_
  refine e_goto dX13_sortedOf_57 6 (by decide) ?_
  exact hK6 _ _ _ _ _ _ _ hs h hQ
def F_X13_sortedOf_c50 (K6 : Int32 → Int32 → Int32 → Int32 → Int32 → p_M → Option (Int32 × p_M)) (v1 : Int32) (v2 : Int32) (v3 : Int32) (v5 : Int32) (s0 : Int32) (μ : p_M) : Option (Int32 × p_M) :=
  F_X13_sortedOf_c51 K6 v1 v2 v3 v5 (0 : Int32) s0 μ
theorem P_X13_sortedOf_c50 {K6 : Int32 → Int32 → Int32 → Int32 → Int32 → p_M → Option (Int32 × p_M)} (hP6 : ∀ (v1 : Int32) (v2 : Int32) (v3 : Int32) (v4 : Int32) (v5 : Int32) (μ : p_M) (r : Int32 × p_M), K6 v1 v2 v3 v4 v5 μ = some r → Sm μ r.2) {v1 : Int32} {v2 : Int32} {v3 : Int32} {v5 : Int32} {s0 : Int32} {μ : p_M} {r : Int32 × p_M} (h : F_X13_sortedOf_c50 K6 v1 v2 v3 v5 s0 μ = some r) : Sm μ r.2 := by
  unfold F_X13_sortedOf_c50 at h
  exact Sm_trans (Sm_refl μ) (P_X13_sortedOf_c51 hP6 h)
theorem E_X13_sortedOf_c50 {X : p_X} {d : Nat} {Q : p_R → Prop} {K6 : Int32 → Int32 → Int32 → Int32 → Int32 → p_M → Option (Int32 × p_M)} (hK6 : ∀ (v1 : Int32) (v2 : Int32) (v3 : Int32) (v4 : Int32) (v5 : Int32) (μ : p_M) (r : Int32 × p_M), ShM μ → K6 v1 v2 v3 v4 v5 μ = some r → Q ((0, some (.int r.1)), r.2) → p_Ev X (d + 2) M_X13_sortedOf 6 [.ref tM, .int v1, .int v2, .int v3, .int v4, .int v5] [] μ Q) {v1 : Int32} {v2 : Int32} {v3 : Int32} {v5 : Int32} {s0 : Int32} {w4 : Value} {μ : p_M} {r : Int32 × p_M} (hs : ShM μ) (h : F_X13_sortedOf_c50 K6 v1 v2 v3 v5 s0 μ = some r) (hQ : Q ((0, some (.int r.1)), r.2)) : p_Ev X (d + 2) M_X13_sortedOf 50 [.ref tM, .int v1, .int v2, .int v3, w4, .int v5] [.int s0] μ Q := by
  unfold F_X13_sortedOf_c50 at h
  refine e_iconst (v := (0 : Int32)) dX13_sortedOf_50 rfl ?_
  exact E_X13_sortedOf_c51 hK6 hs h hQ
def F_X13_sortedOf_c6 : Nat → Int32 → Int32 → Int32 → Int32 → Int32 → p_M → Option (Int32 × p_M)
  | 0, _, _, _, _, _, _ => none
  | n + 1, v1, v2, v3, v4, v5, μ =>
    p_ok (¬ v1 < 0 ∧ v1.toNatClampNeg < 40)
    (if (mI μ (aM 49) v1.toNatClampNeg) ≤ v5
    then (some (v4, μ))
    else (p_ok (¬ (((60 : Int32) * v1) + v5) < 0 ∧ (((60 : Int32) * v1) + v5).toNatClampNeg < 2400)
      (if ¬ (mI μ (aM 64) (((60 : Int32) * v1) + v5).toNatClampNeg) = 0
      then (F_X13_sortedOf_c50 (F_X13_sortedOf_c6 n) v1 v2 v3 v5 v4 μ)
      else ((F_X13_knownOf v1 v5 v2 μ).bind fun q1 =>
        if ¬ q1.1 = v3
        then (F_X13_sortedOf_c50 (F_X13_sortedOf_c6 n) v1 v2 v3 v5 v4 q1.2)
        else (F_X13_sortedOf_c51 (F_X13_sortedOf_c6 n) v1 v2 v3 v5 (1 : Int32) v4 q1.2)))))
theorem P_X13_sortedOf_c6 : ∀ (n : Nat) (v1 : Int32) (v2 : Int32) (v3 : Int32) (v4 : Int32) (v5 : Int32) (μ : p_M) (r : Int32 × p_M), F_X13_sortedOf_c6 n v1 v2 v3 v4 v5 μ = some r → Sm μ r.2 := by
  intro n
  induction n with
  | zero => intro v1 v2 v3 v4 v5 μ r h; rw [F_X13_sortedOf_c6] at h; cases h
  | succ n ih =>
    intro v1 v2 v3 v4 v5 μ r h
    rw [F_X13_sortedOf_c6] at h
    obtain ⟨hc, h⟩ := p_ok_some h
    by_cases hc : (mI μ (aM 49) v1.toNatClampNeg) ≤ v5
    · rw [if_pos hc] at h
      cases h
      exact (Sm_refl μ)
    · rw [if_neg hc] at h
      obtain ⟨hc, h⟩ := p_ok_some h
      by_cases hc : ¬ (mI μ (aM 64) (((60 : Int32) * v1) + v5).toNatClampNeg) = 0
      · rw [if_pos hc] at h
        exact Sm_trans (Sm_refl μ) (P_X13_sortedOf_c50 ih h)
      · rw [if_neg hc] at h
        obtain ⟨q1, hq1, h⟩ := p_bd h
        by_cases hc : ¬ q1.1 = v3
        · rw [if_pos hc] at h
          exact Sm_trans (Sm_trans (Sm_refl μ) (P_X13_knownOf (r := q1) hq1)) (P_X13_sortedOf_c50 ih h)
        · rw [if_neg hc] at h
          exact Sm_trans (Sm_trans (Sm_refl μ) (P_X13_knownOf (r := q1) hq1)) (P_X13_sortedOf_c51 ih h)
theorem E_X13_sortedOf_c6 {X : p_X} {d : Nat} {Q : p_R → Prop} : ∀ (n : Nat) (v1 : Int32) (v2 : Int32) (v3 : Int32) (v4 : Int32) (v5 : Int32) (μ : p_M) (r : Int32 × p_M), ShM μ → F_X13_sortedOf_c6 n v1 v2 v3 v4 v5 μ = some r → Q ((0, some (.int r.1)), r.2) → p_Ev X (d + 2) M_X13_sortedOf 6 [.ref tM, .int v1, .int v2, .int v3, .int v4, .int v5] [] μ Q := by
  intro n
  induction n with
  | zero => intro v1 v2 v3 v4 v5 μ r hs h hQ; rw [F_X13_sortedOf_c6] at h; cases h
  | succ n ih =>
    intro v1 v2 v3 v4 v5 μ r hs h hQ
    rw [F_X13_sortedOf_c6] at h
    refine e_iload dX13_sortedOf_6 rfl ?_
    refine e_aload_n dX13_sortedOf_8 rfl ?_
    refine e_getR dX13_sortedOf_9 rfl rfl hs.1 hs.2.1 (hs.2.2.2 49 (by decide) rfl).1 ?_
    refine e_iload_n dX13_sortedOf_12 rfl ?_
    obtain ⟨hc, h⟩ := p_ok_some h
    refine e_iald dX13_sortedOf_13 (Nat.lt_trans (hs.2.2.2 49 (by decide) rfl).2.2.2 hs.2.2.1) (hs.2.2.2 49 (by decide) rfl).2.1 (hs.2.2.2 49 (by decide) rfl).2.2.1 (hs.2.2.2 49 (by decide) rfl).2.2.2 hc ?_
    refine e_ic_ge dX13_sortedOf_14 60 (by decide) (fun hc => ?_) (fun hc => ?_)
    · rw [if_pos hc] at h
      refine e_iload dX13_sortedOf_60 rfl ?_
      cases h
      exact e_ireti dX13_sortedOf_62 rfl hQ
    · rw [if_neg hc] at h
      refine e_iload dX13_sortedOf_17 rfl ?_
      refine e_aload_n dX13_sortedOf_19 rfl ?_
      refine e_getR dX13_sortedOf_20 rfl rfl hs.1 hs.2.1 (hs.2.2.2 64 (by decide) rfl).1 ?_
      refine e_bipush (v := (60 : Int32)) dX13_sortedOf_23 rfl ?_
      refine e_iload_n dX13_sortedOf_25 rfl ?_
      refine e_imul dX13_sortedOf_26 ?_
      refine e_iload dX13_sortedOf_27 rfl ?_
      refine e_iadd dX13_sortedOf_29 ?_
      obtain ⟨hc, h⟩ := p_ok_some h
      refine e_iald dX13_sortedOf_30 (Nat.lt_trans (hs.2.2.2 64 (by decide) rfl).2.2.2 hs.2.2.1) (hs.2.2.2 64 (by decide) rfl).2.1 (hs.2.2.2 64 (by decide) rfl).2.2.1 (hs.2.2.2 64 (by decide) rfl).2.2.2 hc ?_
      refine e_if_ne dX13_sortedOf_31 50 (by decide) (fun hc => ?_) (fun hc => ?_)
      · rw [if_pos hc] at h
        exact E_X13_sortedOf_c50 ih hs h hQ
      · rw [if_neg hc] at h
        refine e_aload_n dX13_sortedOf_34 rfl ?_
        refine e_iload_n dX13_sortedOf_35 rfl ?_
        refine e_iload dX13_sortedOf_36 rfl ?_
        refine e_iload_n dX13_sortedOf_38 rfl ?_
        obtain ⟨q1, hq1, h⟩ := p_bd h
        refine e_cV dX13_sortedOf_39 rfl rfl ⟨rfl, rfl, by decide⟩ rfl hs.1 hs.2.1 (E_X13_knownOf hs hq1 ⟨rfl, ?_⟩)
        have hs := ShM_of (P_X13_knownOf hq1) hs
        show p_Ev X (d + 2) M_X13_sortedOf 42 [.ref tM, .int v1, .int v2, .int v3, .int v4, .int v5] [.int q1.1, .int v4] q1.2 Q
        refine e_iload_n dX13_sortedOf_42 rfl ?_
        refine e_ic_ne dX13_sortedOf_43 50 (by decide) (fun hc => ?_) (fun hc => ?_)
        · rw [if_pos hc] at h
          exact E_X13_sortedOf_c50 ih hs h hQ
        · rw [if_neg hc] at h
          refine e_iconst (v := (1 : Int32)) dX13_sortedOf_46 rfl ?_
          refine e_goto dX13_sortedOf_47 51 (by decide) ?_
          exact E_X13_sortedOf_c51 ih hs h hQ
def F_X13_sortedOf (v1 : Int32) (v2 : Int32) (v3 : Int32) (μ : p_M) : Option (Int32 × p_M) :=
  F_X13_sortedOf_c6 p_fu v1 v2 v3 (0 : Int32) (0 : Int32) μ
theorem P_X13_sortedOf {v1 : Int32} {v2 : Int32} {v3 : Int32} {μ : p_M} {r : Int32 × p_M} (h : F_X13_sortedOf v1 v2 v3 μ = some r) : Sm μ r.2 := by
  unfold F_X13_sortedOf at h
  exact Sm_trans (Sm_refl μ) (P_X13_sortedOf_c6 p_fu _ _ _ _ _ _ _ h)
theorem E_X13_sortedOf {X : p_X} {d : Nat} {Q : p_R → Prop} {v1 : Int32} {v2 : Int32} {v3 : Int32} {μ : p_M} {r : Int32 × p_M} (hs : ShM μ) (h : F_X13_sortedOf v1 v2 v3 μ = some r) (hQ : Q ((0, some (.int r.1)), r.2)) : p_Ev X (d + 2) M_X13_sortedOf 0 [.ref tM, .int v1, .int v2, .int v3, .double 0, .double 0] [] μ Q := by
  unfold F_X13_sortedOf at h
  refine e_iconst (v := (0 : Int32)) dX13_sortedOf_0 rfl ?_
  refine e_istore dX13_sortedOf_1 (Nat.le_of_ble_eq_true rfl) rfl ?_
  refine e_iconst (v := (0 : Int32)) dX13_sortedOf_3 rfl ?_
  refine e_istore dX13_sortedOf_4 (Nat.le_of_ble_eq_true rfl) rfl ?_
  exact E_X13_sortedOf_c6 p_fu _ _ _ _ _ _ _ hs h hQ
/-! X13_throwsIf -/
def F_X13_throwsIf_c9 (v1 : Int32) (μ : p_M) : Option (Int32 × p_M) :=
  p_ok (v1 = 0 ∨ v1 = 1) (some (v1, μ))
theorem P_X13_throwsIf_c9 {v1 : Int32} {μ : p_M} {r : Int32 × p_M} (h : F_X13_throwsIf_c9 v1 μ = some r) : Sm μ r.2 := by
  unfold F_X13_throwsIf_c9 at h
  obtain ⟨hc, h⟩ := p_ok_some h
  cases h
  exact (Sm_refl μ)
theorem E_X13_throwsIf_c9 {X : p_X} {d : Nat} {Q : p_R → Prop} {v1 : Int32} {w0 : Value} {w2 : Value} {μ : p_M} {r : Int32 × p_M} (hs : ShM μ) (h : F_X13_throwsIf_c9 v1 μ = some r) (hQ : Q ((0, some (.int r.1)), r.2)) : p_Ev X (d + 0) M_X13_throwsIf 9 [w0, .int v1, w2] [] μ Q := by
  unfold F_X13_throwsIf_c9 at h
  refine e_iload_n dX13_throwsIf_9 rfl ?_
  obtain ⟨hc, h⟩ := p_ok_some h
  cases h
  exact e_iretz dX13_throwsIf_10 rfl hc hQ
def F_X13_throwsIf (v1 : Int32) (v2 : Int32) (μ : p_M) : Option (Int32 × p_M) :=
  if v1 = 0
  then (F_X13_throwsIf_c9 v1 μ)
  else (F_X13_throwsIf_c9 v1 (sI μ tM 0 v2))
theorem P_X13_throwsIf {v1 : Int32} {v2 : Int32} {μ : p_M} {r : Int32 × p_M} (h : F_X13_throwsIf v1 v2 μ = some r) : Sm μ r.2 := by
  unfold F_X13_throwsIf at h
  by_cases hc : v1 = 0
  · rw [if_pos hc] at h
    exact Sm_trans (Sm_refl μ) (P_X13_throwsIf_c9 h)
  · rw [if_neg hc] at h
    exact Sm_trans (Sm_set (Sm_refl μ) (by decide)) (P_X13_throwsIf_c9 h)
theorem E_X13_throwsIf {X : p_X} {d : Nat} {Q : p_R → Prop} {v1 : Int32} {v2 : Int32} {μ : p_M} {r : Int32 × p_M} (hs : ShM μ) (h : F_X13_throwsIf v1 v2 μ = some r) (hQ : Q ((0, some (.int r.1)), r.2)) : p_Ev X (d + 0) M_X13_throwsIf 0 [.ref tM, .int v1, .int v2] [] μ Q := by
  unfold F_X13_throwsIf at h
  refine e_iload_n dX13_throwsIf_0 rfl ?_
  refine e_if_eq dX13_throwsIf_1 9 (by decide) (fun hc => ?_) (fun hc => ?_)
  · rw [if_pos hc] at h
    exact E_X13_throwsIf_c9 hs h hQ
  · rw [if_neg hc] at h
    refine e_aload_n dX13_throwsIf_4 rfl ?_
    refine e_iload_n dX13_throwsIf_5 rfl ?_
    refine e_putI dX13_throwsIf_6 rfl ⟨rfl, rfl, fun h => by cases h⟩ (fun h => by cases h) hs.1 hs.2.1 ?_
    exact E_X13_throwsIf_c9 hs h hQ
/-! X13_again -/
def F_X13_again_c41 (μ : p_M) : Option (Int32 × p_M) :=
  some ((0 : Int32), μ)
theorem P_X13_again_c41 {μ : p_M} {r : Int32 × p_M} (h : F_X13_again_c41 μ = some r) : Sm μ r.2 := by
  unfold F_X13_again_c41 at h
  cases h
  exact (Sm_refl μ)
theorem E_X13_again_c41 {X : p_X} {d : Nat} {Q : p_R → Prop} {w0 : Value} {w1 : Value} {w2 : Value} {w3 : Value} {w4 : Value} {μ : p_M} {r : Int32 × p_M} (hs : ShM μ) (h : F_X13_again_c41 μ = some r) (hQ : Q ((0, some (.int r.1)), r.2)) : p_Ev X (d + 3) M_X13_again 41 [w0, w1, w2, w3, w4] [] μ Q := by
  unfold F_X13_again_c41 at h
  refine e_iconst (v := (0 : Int32)) dX13_again_41 rfl ?_
  cases h
  exact e_ireti dX13_again_42 rfl hQ
def F_X13_again_c83 (μ : p_M) : Option (Int32 × p_M) :=
  some ((-1), μ)
theorem P_X13_again_c83 {μ : p_M} {r : Int32 × p_M} (h : F_X13_again_c83 μ = some r) : Sm μ r.2 := by
  unfold F_X13_again_c83 at h
  cases h
  exact (Sm_refl μ)
theorem E_X13_again_c83 {X : p_X} {d : Nat} {Q : p_R → Prop} {w0 : Value} {w1 : Value} {w2 : Value} {w3 : Value} {w4 : Value} {μ : p_M} {r : Int32 × p_M} (hs : ShM μ) (h : F_X13_again_c83 μ = some r) (hQ : Q ((0, some (.int r.1)), r.2)) : p_Ev X (d + 3) M_X13_again 83 [w0, w1, w2, w3, w4] [] μ Q := by
  unfold F_X13_again_c83 at h
  refine e_iconst (v := (-1)) dX13_again_83 rfl ?_
  cases h
  exact e_ireti dX13_again_84 rfl hQ
def F_X13_again_c370 (K249 : Int32 → Int32 → Int32 → p_M → Option (Int32 × p_M)) (v1 : Int32) (v3 : Int32) (v4 : Int32) (μ : p_M) : Option (Int32 × p_M) :=
  K249 v1 v3 (v4 + (1 : Int32)) μ
theorem P_X13_again_c370 {K249 : Int32 → Int32 → Int32 → p_M → Option (Int32 × p_M)} (hP249 : ∀ (v1 : Int32) (v3 : Int32) (v4 : Int32) (μ : p_M) (r : Int32 × p_M), K249 v1 v3 v4 μ = some r → Sm μ r.2) {v1 : Int32} {v3 : Int32} {v4 : Int32} {μ : p_M} {r : Int32 × p_M} (h : F_X13_again_c370 K249 v1 v3 v4 μ = some r) : Sm μ r.2 := by
  unfold F_X13_again_c370 at h
  exact Sm_trans (Sm_refl μ) (hP249 _ _ _ _ _ h)
theorem E_X13_again_c370 {X : p_X} {d : Nat} {Q : p_R → Prop} {K249 : Int32 → Int32 → Int32 → p_M → Option (Int32 × p_M)} (hK249 : ∀ (v1 : Int32) (v3 : Int32) (v4 : Int32) (μ : p_M) (r : Int32 × p_M) (w2 : Value), ShM μ → K249 v1 v3 v4 μ = some r → Q ((0, some (.int r.1)), r.2) → p_Ev X (d + 3) M_X13_again 249 [.ref tM, .int v1, w2, .int v3, .int v4] [] μ Q) {v1 : Int32} {v3 : Int32} {v4 : Int32} {w2 : Value} {μ : p_M} {r : Int32 × p_M} (hs : ShM μ) (h : F_X13_again_c370 K249 v1 v3 v4 μ = some r) (hQ : Q ((0, some (.int r.1)), r.2)) : p_Ev X (d + 3) M_X13_again 370 [.ref tM, .int v1, w2, .int v3, .int v4] [] μ Q := by
  unfold F_X13_again_c370 at h
  refine e_iinc (v := (1 : Int32)) dX13_again_370 rfl rfl rfl ?_
  refine e_goto dX13_again_373 249 (by decide) ?_
  exact hK249 _ _ _ _ _ _ hs h hQ
def F_X13_again_c249 : Nat → Int32 → Int32 → Int32 → p_M → Option (Int32 × p_M)
  | 0, _, _, _, _ => none
  | n + 1, v1, v3, v4, μ =>
    p_ok (¬ v1 < 0 ∧ v1.toNatClampNeg < 40)
    (if (mI μ (aM 49) v1.toNatClampNeg) ≤ v4
    then (some (v3, μ))
    else (p_ok (¬ (((60 : Int32) * v1) + v4) < 0 ∧ (((60 : Int32) * v1) + v4).toNatClampNeg < 2400)
      (if ¬ (mI μ (aM 64) (((60 : Int32) * v1) + v4).toNatClampNeg) = 0
      then (F_X13_again_c370 (F_X13_again_c249 n) v1 v3 v4 μ)
      else ((F_X13_knownOf v1 v4 (mI μ tM 42) μ).bind fun q6 =>
        if q6.1 = (3 : Int32)
        then (p_ok (¬ (((60 : Int32) * v1) + v4) < 0 ∧ (((60 : Int32) * v1) + v4).toNatClampNeg < 2400)
          (p_ok (¬ ((5 : Int32) * v3) < 0 ∧ ((5 : Int32) * v3).toNatClampNeg < 240)
          ((F_X13_shadeOf v1 v4 (mI (sI q6.2 (aM 64) (((60 : Int32) * v1) + v4).toNatClampNeg (1 : Int32)) tM 42) (sI q6.2 (aM 64) (((60 : Int32) * v1) + v4).toNatClampNeg (1 : Int32))).bind fun q7 =>
          p_ok (¬ ((5 : Int32) * v3) < 0 ∧ ((5 : Int32) * v3).toNatClampNeg < 240)
          (p_ok (¬ (((5 : Int32) * v3) + (1 : Int32)) < 0 ∧ (((5 : Int32) * v3) + (1 : Int32)).toNatClampNeg < 240)
          ((F_X13_shadeOf v1 v4 (mI (sI q7.2 (aM 15) ((5 : Int32) * v3).toNatClampNeg (if q7.1 < (mI (sI q6.2 (aM 64) (((60 : Int32) * v1) + v4).toNatClampNeg (1 : Int32)) (aM 15) ((5 : Int32) * v3).toNatClampNeg) then q7.1 else (mI (sI q6.2 (aM 64) (((60 : Int32) * v1) + v4).toNatClampNeg (1 : Int32)) (aM 15) ((5 : Int32) * v3).toNatClampNeg))) tM 42) (sI q7.2 (aM 15) ((5 : Int32) * v3).toNatClampNeg (if q7.1 < (mI (sI q6.2 (aM 64) (((60 : Int32) * v1) + v4).toNatClampNeg (1 : Int32)) (aM 15) ((5 : Int32) * v3).toNatClampNeg) then q7.1 else (mI (sI q6.2 (aM 64) (((60 : Int32) * v1) + v4).toNatClampNeg (1 : Int32)) (aM 15) ((5 : Int32) * v3).toNatClampNeg)))).bind fun q8 =>
          p_ok (¬ (((5 : Int32) * v3) + (1 : Int32)) < 0 ∧ (((5 : Int32) * v3) + (1 : Int32)).toNatClampNeg < 240)
          (F_X13_again_c370 (F_X13_again_c249 n) v1 v3 v4 (sI q8.2 (aM 15) (((5 : Int32) * v3) + (1 : Int32)).toNatClampNeg (if (mI (sI q7.2 (aM 15) ((5 : Int32) * v3).toNatClampNeg (if q7.1 < (mI (sI q6.2 (aM 64) (((60 : Int32) * v1) + v4).toNatClampNeg (1 : Int32)) (aM 15) ((5 : Int32) * v3).toNatClampNeg) then q7.1 else (mI (sI q6.2 (aM 64) (((60 : Int32) * v1) + v4).toNatClampNeg (1 : Int32)) (aM 15) ((5 : Int32) * v3).toNatClampNeg))) (aM 15) (((5 : Int32) * v3) + (1 : Int32)).toNatClampNeg) < q8.1 then q8.1 else (mI (sI q7.2 (aM 15) ((5 : Int32) * v3).toNatClampNeg (if q7.1 < (mI (sI q6.2 (aM 64) (((60 : Int32) * v1) + v4).toNatClampNeg (1 : Int32)) (aM 15) ((5 : Int32) * v3).toNatClampNeg) then q7.1 else (mI (sI q6.2 (aM 64) (((60 : Int32) * v1) + v4).toNatClampNeg (1 : Int32)) (aM 15) ((5 : Int32) * v3).toNatClampNeg))) (aM 15) (((5 : Int32) * v3) + (1 : Int32)).toNatClampNeg)))))))))
        else (F_X13_again_c370 (F_X13_again_c249 n) v1 v3 v4 q6.2)))))
theorem P_X13_again_c249 : ∀ (n : Nat) (v1 : Int32) (v3 : Int32) (v4 : Int32) (μ : p_M) (r : Int32 × p_M), F_X13_again_c249 n v1 v3 v4 μ = some r → Sm μ r.2 := by
  intro n
  induction n with
  | zero => intro v1 v3 v4 μ r h; rw [F_X13_again_c249] at h; cases h
  | succ n ih =>
    intro v1 v3 v4 μ r h
    rw [F_X13_again_c249] at h
    obtain ⟨hc, h⟩ := p_ok_some h
    by_cases hc : (mI μ (aM 49) v1.toNatClampNeg) ≤ v4
    · rw [if_pos hc] at h
      cases h
      exact (Sm_refl μ)
    · rw [if_neg hc] at h
      obtain ⟨hc, h⟩ := p_ok_some h
      by_cases hc : ¬ (mI μ (aM 64) (((60 : Int32) * v1) + v4).toNatClampNeg) = 0
      · rw [if_pos hc] at h
        exact Sm_trans (Sm_refl μ) (P_X13_again_c370 ih h)
      · rw [if_neg hc] at h
        obtain ⟨q6, hq6, h⟩ := p_bd h
        by_cases hc : q6.1 = (3 : Int32)
        · rw [if_pos hc] at h
          obtain ⟨hc, h⟩ := p_ok_some h
          obtain ⟨hc, h⟩ := p_ok_some h
          obtain ⟨q7, hq7, h⟩ := p_bd h
          obtain ⟨hc, h⟩ := p_ok_some h
          obtain ⟨hc, h⟩ := p_ok_some h
          obtain ⟨q8, hq8, h⟩ := p_bd h
          obtain ⟨hc, h⟩ := p_ok_some h
          exact Sm_trans (Sm_set (Sm_trans (Sm_set (Sm_trans (Sm_set (Sm_trans (Sm_refl μ) (P_X13_knownOf (r := q6) hq6)) (by decide)) (P_X13_shadeOf (r := q7) hq7)) (by decide)) (P_X13_shadeOf (r := q8) hq8)) (by decide)) (P_X13_again_c370 ih h)
        · rw [if_neg hc] at h
          exact Sm_trans (Sm_trans (Sm_refl μ) (P_X13_knownOf (r := q6) hq6)) (P_X13_again_c370 ih h)
theorem E_X13_again_c249 {X : p_X} {d : Nat} {Q : p_R → Prop} : ∀ (n : Nat) (v1 : Int32) (v3 : Int32) (v4 : Int32) (μ : p_M) (r : Int32 × p_M) (w2 : Value), ShM μ → F_X13_again_c249 n v1 v3 v4 μ = some r → Q ((0, some (.int r.1)), r.2) → p_Ev X (d + 3) M_X13_again 249 [.ref tM, .int v1, w2, .int v3, .int v4] [] μ Q := by
  intro n
  induction n with
  | zero => intro v1 v3 v4 μ r w2 hs h hQ; rw [F_X13_again_c249] at h; cases h
  | succ n ih =>
    intro v1 v3 v4 μ r w2 hs h hQ
    rw [F_X13_again_c249] at h
    refine e_iload dX13_again_249 rfl ?_
    refine e_aload_n dX13_again_251 rfl ?_
    refine e_getR dX13_again_252 rfl rfl hs.1 hs.2.1 (hs.2.2.2 49 (by decide) rfl).1 ?_
    refine e_iload_n dX13_again_255 rfl ?_
    obtain ⟨hc, h⟩ := p_ok_some h
    refine e_iald dX13_again_256 (Nat.lt_trans (hs.2.2.2 49 (by decide) rfl).2.2.2 hs.2.2.1) (hs.2.2.2 49 (by decide) rfl).2.1 (hs.2.2.2 49 (by decide) rfl).2.2.1 (hs.2.2.2 49 (by decide) rfl).2.2.2 hc ?_
    refine e_ic_ge dX13_again_257 376 (by decide) (fun hc => ?_) (fun hc => ?_)
    · rw [if_pos hc] at h
      refine e_iload_n dX13_again_376 rfl ?_
      cases h
      exact e_ireti dX13_again_377 rfl hQ
    · rw [if_neg hc] at h
      refine e_aload_n dX13_again_260 rfl ?_
      refine e_getR dX13_again_261 rfl rfl hs.1 hs.2.1 (hs.2.2.2 64 (by decide) rfl).1 ?_
      refine e_bipush (v := (60 : Int32)) dX13_again_264 rfl ?_
      refine e_iload_n dX13_again_266 rfl ?_
      refine e_imul dX13_again_267 ?_
      refine e_iload dX13_again_268 rfl ?_
      refine e_iadd dX13_again_270 ?_
      obtain ⟨hc, h⟩ := p_ok_some h
      refine e_iald dX13_again_271 (Nat.lt_trans (hs.2.2.2 64 (by decide) rfl).2.2.2 hs.2.2.1) (hs.2.2.2 64 (by decide) rfl).2.1 (hs.2.2.2 64 (by decide) rfl).2.2.1 (hs.2.2.2 64 (by decide) rfl).2.2.2 hc ?_
      refine e_if_ne dX13_again_272 370 (by decide) (fun hc => ?_) (fun hc => ?_)
      · rw [if_pos hc] at h
        exact E_X13_again_c370 ih hs h hQ
      · rw [if_neg hc] at h
        refine e_aload_n dX13_again_275 rfl ?_
        refine e_iload_n dX13_again_276 rfl ?_
        refine e_iload dX13_again_277 rfl ?_
        refine e_aload_n dX13_again_279 rfl ?_
        refine e_getI dX13_again_280 rfl rfl hs.1 hs.2.1 ?_
        obtain ⟨q6, hq6, h⟩ := p_bd h
        refine e_cV dX13_again_283 rfl rfl ⟨rfl, rfl, by decide⟩ rfl hs.1 hs.2.1 (E_X13_knownOf hs hq6 ⟨rfl, ?_⟩)
        have hs := ShM_of (P_X13_knownOf hq6) hs
        show p_Ev X (d + 3) M_X13_again 286 [.ref tM, .int v1, w2, .int v3, .int v4] [.int q6.1] q6.2 Q
        refine e_iconst (v := (3 : Int32)) dX13_again_286 rfl ?_
        refine e_ic_eq dX13_again_287 293 (by decide) (fun hc => ?_) (fun hc => ?_)
        · rw [if_pos hc] at h
          refine e_aload_n dX13_again_293 rfl ?_
          refine e_getR dX13_again_294 rfl rfl hs.1 hs.2.1 (hs.2.2.2 64 (by decide) rfl).1 ?_
          refine e_bipush (v := (60 : Int32)) dX13_again_297 rfl ?_
          refine e_iload_n dX13_again_299 rfl ?_
          refine e_imul dX13_again_300 ?_
          refine e_iload dX13_again_301 rfl ?_
          refine e_iadd dX13_again_303 ?_
          refine e_iconst (v := (1 : Int32)) dX13_again_304 rfl ?_
          obtain ⟨hc, h⟩ := p_ok_some h
          refine e_iast dX13_again_305 (hs.2.2.2 64 (by decide) rfl).2.1 (hs.2.2.2 64 (by decide) rfl).2.2.1 (hs.2.2.2 64 (by decide) rfl).2.2.2 hc ?_
          refine e_aload_n dX13_again_306 rfl ?_
          refine e_getR dX13_again_307 rfl rfl hs.1 hs.2.1 (hs.2.2.2 15 (by decide) rfl).1 ?_
          refine e_iconst (v := (5 : Int32)) dX13_again_310 rfl ?_
          refine e_iload_n dX13_again_311 rfl ?_
          refine e_imul dX13_again_312 ?_
          refine e_aload_n dX13_again_313 rfl ?_
          refine e_getR dX13_again_314 rfl rfl hs.1 hs.2.1 (hs.2.2.2 15 (by decide) rfl).1 ?_
          refine e_iconst (v := (5 : Int32)) dX13_again_317 rfl ?_
          refine e_iload_n dX13_again_318 rfl ?_
          refine e_imul dX13_again_319 ?_
          obtain ⟨hc, h⟩ := p_ok_some h
          refine e_iald dX13_again_320 (Nat.lt_trans (hs.2.2.2 15 (by decide) rfl).2.2.2 hs.2.2.1) (hs.2.2.2 15 (by decide) rfl).2.1 (hs.2.2.2 15 (by decide) rfl).2.2.1 (hs.2.2.2 15 (by decide) rfl).2.2.2 hc ?_
          refine e_aload_n dX13_again_321 rfl ?_
          refine e_iload_n dX13_again_322 rfl ?_
          refine e_iload dX13_again_323 rfl ?_
          refine e_aload_n dX13_again_325 rfl ?_
          refine e_getI dX13_again_326 rfl rfl hs.1 hs.2.1 ?_
          obtain ⟨q7, hq7, h⟩ := p_bd h
          refine e_cV dX13_again_329 rfl rfl ⟨rfl, rfl, by decide⟩ rfl hs.1 hs.2.1 (E_X13_shadeOf hs hq7 ⟨rfl, ?_⟩)
          have hs := ShM_of (P_X13_shadeOf hq7) hs
          show p_Ev X (d + 3) M_X13_again 332 [.ref tM, .int v1, w2, .int v3, .int v4] [.int q7.1, .int (mI (sI q6.2 (aM 64) (((60 : Int32) * v1) + v4).toNatClampNeg (1 : Int32)) (aM 15) ((5 : Int32) * v3).toNatClampNeg), .int ((5 : Int32) * v3), .ref (aM 15)] q7.2 Q
          refine e_min dX13_again_332 rfl (Nat.le_of_ble_eq_true rfl) ?_
          obtain ⟨hc, h⟩ := p_ok_some h
          refine e_iast dX13_again_335 (hs.2.2.2 15 (by decide) rfl).2.1 (hs.2.2.2 15 (by decide) rfl).2.2.1 (hs.2.2.2 15 (by decide) rfl).2.2.2 hc ?_
          refine e_aload_n dX13_again_336 rfl ?_
          refine e_getR dX13_again_337 rfl rfl hs.1 hs.2.1 (hs.2.2.2 15 (by decide) rfl).1 ?_
          refine e_iconst (v := (5 : Int32)) dX13_again_340 rfl ?_
          refine e_iload_n dX13_again_341 rfl ?_
          refine e_imul dX13_again_342 ?_
          refine e_iconst (v := (1 : Int32)) dX13_again_343 rfl ?_
          refine e_iadd dX13_again_344 ?_
          refine e_aload_n dX13_again_345 rfl ?_
          refine e_getR dX13_again_346 rfl rfl hs.1 hs.2.1 (hs.2.2.2 15 (by decide) rfl).1 ?_
          refine e_iconst (v := (5 : Int32)) dX13_again_349 rfl ?_
          refine e_iload_n dX13_again_350 rfl ?_
          refine e_imul dX13_again_351 ?_
          refine e_iconst (v := (1 : Int32)) dX13_again_352 rfl ?_
          refine e_iadd dX13_again_353 ?_
          obtain ⟨hc, h⟩ := p_ok_some h
          refine e_iald dX13_again_354 (Nat.lt_trans (hs.2.2.2 15 (by decide) rfl).2.2.2 hs.2.2.1) (hs.2.2.2 15 (by decide) rfl).2.1 (hs.2.2.2 15 (by decide) rfl).2.2.1 (hs.2.2.2 15 (by decide) rfl).2.2.2 hc ?_
          refine e_aload_n dX13_again_355 rfl ?_
          refine e_iload_n dX13_again_356 rfl ?_
          refine e_iload dX13_again_357 rfl ?_
          refine e_aload_n dX13_again_359 rfl ?_
          refine e_getI dX13_again_360 rfl rfl hs.1 hs.2.1 ?_
          obtain ⟨q8, hq8, h⟩ := p_bd h
          refine e_cV dX13_again_363 rfl rfl ⟨rfl, rfl, by decide⟩ rfl hs.1 hs.2.1 (E_X13_shadeOf hs hq8 ⟨rfl, ?_⟩)
          have hs := ShM_of (P_X13_shadeOf hq8) hs
          show p_Ev X (d + 3) M_X13_again 366 [.ref tM, .int v1, w2, .int v3, .int v4] [.int q8.1, .int (mI (sI q7.2 (aM 15) ((5 : Int32) * v3).toNatClampNeg (if q7.1 < (mI (sI q6.2 (aM 64) (((60 : Int32) * v1) + v4).toNatClampNeg (1 : Int32)) (aM 15) ((5 : Int32) * v3).toNatClampNeg) then q7.1 else (mI (sI q6.2 (aM 64) (((60 : Int32) * v1) + v4).toNatClampNeg (1 : Int32)) (aM 15) ((5 : Int32) * v3).toNatClampNeg))) (aM 15) (((5 : Int32) * v3) + (1 : Int32)).toNatClampNeg), .int (((5 : Int32) * v3) + (1 : Int32)), .ref (aM 15)] q8.2 Q
          refine e_max dX13_again_366 rfl (Nat.le_of_ble_eq_true rfl) ?_
          obtain ⟨hc, h⟩ := p_ok_some h
          refine e_iast dX13_again_369 (hs.2.2.2 15 (by decide) rfl).2.1 (hs.2.2.2 15 (by decide) rfl).2.2.1 (hs.2.2.2 15 (by decide) rfl).2.2.2 hc ?_
          exact E_X13_again_c370 ih hs h hQ
        · rw [if_neg hc] at h
          refine e_goto dX13_again_290 370 (by decide) ?_
          exact E_X13_again_c370 ih hs h hQ
def F_X13_again_c190 : Nat → Int32 → Int32 → Int32 → p_M → Option (Int32 × p_M)
  | 0, _, _, _, _ => none
  | n + 1, v1, v3, v4, μ =>
    if (5 : Int32) ≤ v4
    then (p_ok (¬ ((5 : Int32) * v3) < 0 ∧ ((5 : Int32) * v3).toNatClampNeg < 240)
      (p_ok (¬ (((5 : Int32) * v3) + (1 : Int32)) < 0 ∧ (((5 : Int32) * v3) + (1 : Int32)).toNatClampNeg < 240)
      (F_X13_again_c249 p_fu v1 v3 (0 : Int32) (sI (sI μ (aM 15) ((5 : Int32) * v3).toNatClampNeg (1000000 : Int32)) (aM 15) (((5 : Int32) * v3) + (1 : Int32)).toNatClampNeg (-1)))))
    else (p_ok (¬ (((5 : Int32) * v1) + v4) < 0 ∧ (((5 : Int32) * v1) + v4).toNatClampNeg < 240)
      (p_ok (¬ (((5 : Int32) * v3) + v4) < 0 ∧ (((5 : Int32) * v3) + v4).toNatClampNeg < 240)
      (F_X13_again_c190 n v1 v3 (v4 + (1 : Int32)) (sI μ (aM 15) (((5 : Int32) * v3) + v4).toNatClampNeg (mI μ (aM 15) (((5 : Int32) * v1) + v4).toNatClampNeg)))))
theorem P_X13_again_c190 : ∀ (n : Nat) (v1 : Int32) (v3 : Int32) (v4 : Int32) (μ : p_M) (r : Int32 × p_M), F_X13_again_c190 n v1 v3 v4 μ = some r → Sm μ r.2 := by
  intro n
  induction n with
  | zero => intro v1 v3 v4 μ r h; rw [F_X13_again_c190] at h; cases h
  | succ n ih =>
    intro v1 v3 v4 μ r h
    rw [F_X13_again_c190] at h
    by_cases hc : (5 : Int32) ≤ v4
    · rw [if_pos hc] at h
      obtain ⟨hc, h⟩ := p_ok_some h
      obtain ⟨hc, h⟩ := p_ok_some h
      exact Sm_trans (Sm_set (Sm_set (Sm_refl μ) (by decide)) (by decide)) (P_X13_again_c249 p_fu _ _ _ _ _ h)
    · rw [if_neg hc] at h
      obtain ⟨hc, h⟩ := p_ok_some h
      obtain ⟨hc, h⟩ := p_ok_some h
      exact Sm_trans (Sm_set (Sm_refl μ) (by decide)) (ih _ _ _ _ _ h)
theorem E_X13_again_c190 {X : p_X} {d : Nat} {Q : p_R → Prop} : ∀ (n : Nat) (v1 : Int32) (v3 : Int32) (v4 : Int32) (μ : p_M) (r : Int32 × p_M) (w2 : Value), ShM μ → F_X13_again_c190 n v1 v3 v4 μ = some r → Q ((0, some (.int r.1)), r.2) → p_Ev X (d + 3) M_X13_again 190 [.ref tM, .int v1, w2, .int v3, .int v4] [] μ Q := by
  intro n
  induction n with
  | zero => intro v1 v3 v4 μ r w2 hs h hQ; rw [F_X13_again_c190] at h; cases h
  | succ n ih =>
    intro v1 v3 v4 μ r w2 hs h hQ
    rw [F_X13_again_c190] at h
    refine e_iload dX13_again_190 rfl ?_
    refine e_iconst (v := (5 : Int32)) dX13_again_192 rfl ?_
    refine e_ic_ge dX13_again_193 224 (by decide) (fun hc => ?_) (fun hc => ?_)
    · rw [if_pos hc] at h
      refine e_aload_n dX13_again_224 rfl ?_
      refine e_getR dX13_again_225 rfl rfl hs.1 hs.2.1 (hs.2.2.2 15 (by decide) rfl).1 ?_
      refine e_iconst (v := (5 : Int32)) dX13_again_228 rfl ?_
      refine e_iload_n dX13_again_229 rfl ?_
      refine e_imul dX13_again_230 ?_
      refine e_ldc_w (v := (1000000 : Int32)) dX13_again_231 rfl ?_
      obtain ⟨hc, h⟩ := p_ok_some h
      refine e_iast dX13_again_234 (hs.2.2.2 15 (by decide) rfl).2.1 (hs.2.2.2 15 (by decide) rfl).2.2.1 (hs.2.2.2 15 (by decide) rfl).2.2.2 hc ?_
      refine e_aload_n dX13_again_235 rfl ?_
      refine e_getR dX13_again_236 rfl rfl hs.1 hs.2.1 (hs.2.2.2 15 (by decide) rfl).1 ?_
      refine e_iconst (v := (5 : Int32)) dX13_again_239 rfl ?_
      refine e_iload_n dX13_again_240 rfl ?_
      refine e_imul dX13_again_241 ?_
      refine e_iconst (v := (1 : Int32)) dX13_again_242 rfl ?_
      refine e_iadd dX13_again_243 ?_
      refine e_iconst (v := (-1)) dX13_again_244 rfl ?_
      obtain ⟨hc, h⟩ := p_ok_some h
      refine e_iast dX13_again_245 (hs.2.2.2 15 (by decide) rfl).2.1 (hs.2.2.2 15 (by decide) rfl).2.2.1 (hs.2.2.2 15 (by decide) rfl).2.2.2 hc ?_
      refine e_iconst (v := (0 : Int32)) dX13_again_246 rfl ?_
      refine e_istore dX13_again_247 (Nat.le_of_ble_eq_true rfl) rfl ?_
      exact E_X13_again_c249 p_fu _ _ _ _ _ _ hs h hQ
    · rw [if_neg hc] at h
      refine e_aload_n dX13_again_196 rfl ?_
      refine e_getR dX13_again_197 rfl rfl hs.1 hs.2.1 (hs.2.2.2 15 (by decide) rfl).1 ?_
      refine e_iconst (v := (5 : Int32)) dX13_again_200 rfl ?_
      refine e_iload_n dX13_again_201 rfl ?_
      refine e_imul dX13_again_202 ?_
      refine e_iload dX13_again_203 rfl ?_
      refine e_iadd dX13_again_205 ?_
      refine e_aload_n dX13_again_206 rfl ?_
      refine e_getR dX13_again_207 rfl rfl hs.1 hs.2.1 (hs.2.2.2 15 (by decide) rfl).1 ?_
      refine e_iconst (v := (5 : Int32)) dX13_again_210 rfl ?_
      refine e_iload_n dX13_again_211 rfl ?_
      refine e_imul dX13_again_212 ?_
      refine e_iload dX13_again_213 rfl ?_
      refine e_iadd dX13_again_215 ?_
      obtain ⟨hc, h⟩ := p_ok_some h
      refine e_iald dX13_again_216 (Nat.lt_trans (hs.2.2.2 15 (by decide) rfl).2.2.2 hs.2.2.1) (hs.2.2.2 15 (by decide) rfl).2.1 (hs.2.2.2 15 (by decide) rfl).2.2.1 (hs.2.2.2 15 (by decide) rfl).2.2.2 hc ?_
      obtain ⟨hc, h⟩ := p_ok_some h
      refine e_iast dX13_again_217 (hs.2.2.2 15 (by decide) rfl).2.1 (hs.2.2.2 15 (by decide) rfl).2.2.1 (hs.2.2.2 15 (by decide) rfl).2.2.2 hc ?_
      refine e_iinc (v := (1 : Int32)) dX13_again_218 rfl rfl rfl ?_
      refine e_goto dX13_again_221 190 (by decide) ?_
      exact ih _ _ _ _ _ _ hs h hQ
def F_X13_again_c34 (v1 : Int32) (s0 : Int32) (μ : p_M) : Option (Int32 × p_M) :=
  (F_X13_throwsIf s0 (2 : Int32) μ).bind fun q3 =>
  if q3.1 = 0
  then ((F_X13_sortedOf v1 (mI q3.2 tM 42) (3 : Int32) q3.2).bind fun q4 =>
    p_ok (¬ v1 < 0 ∧ v1.toNatClampNeg < 40)
    (p_ok (¬ (13 : Int32) < 0 ∧ (13 : Int32).toNatClampNeg < 36)
    (if (mI q4.2 (aM 40) (13 : Int32).toNatClampNeg) ≤ (mI q4.2 (aM 60) v1.toNatClampNeg)
    then (F_X13_again_c83 q4.2)
    else (if q4.1 = 0
      then (F_X13_again_c83 q4.2)
      else (if ¬ (mI q4.2 tM 62) = (40 : Int32)
        then (p_ok (¬ v1 < 0 ∧ v1.toNatClampNeg < 40)
          (p_ok (¬ v1 < 0 ∧ v1.toNatClampNeg < 40)
          (p_ok (¬ v1 < 0 ∧ v1.toNatClampNeg < 40)
          (p_ok (¬ v1 < 0 ∧ v1.toNatClampNeg < 40)
          (p_ok (¬ v1 < 0 ∧ v1.toNatClampNeg < 40)
          (p_ok (¬ v1 < 0 ∧ v1.toNatClampNeg < 40)
          ((F_X13_adds (mI q4.2 (aM 48) v1.toNatClampNeg) q4.1 (mI q4.2 (aM 50) v1.toNatClampNeg) (mI q4.2 (aM 51) v1.toNatClampNeg) (mI q4.2 (aM 52) v1.toNatClampNeg) (mI q4.2 (aM 53) v1.toNatClampNeg) (mI q4.2 (aM 54) v1.toNatClampNeg) q4.2).bind fun q5 =>
          p_ok (¬ q5.1 < 0 ∧ q5.1.toNatClampNeg < 40)
          (p_ok (¬ v1 < 0 ∧ v1.toNatClampNeg < 40)
          (p_ok (¬ q5.1 < 0 ∧ q5.1.toNatClampNeg < 40)
          (p_ok (¬ q5.1 < 0 ∧ q5.1.toNatClampNeg < 42)
          (p_ok (¬ (14 : Int32) < 0 ∧ (14 : Int32).toNatClampNeg < 36)
          (p_ok (¬ ((20 : Int32) * q5.1) < 0 ∧ ((20 : Int32) * q5.1).toNatClampNeg < 840)
          (p_ok (¬ (15 : Int32) < 0 ∧ (15 : Int32).toNatClampNeg < 36)
          (p_ok (¬ ((20 : Int32) * q5.1) < 0 ∧ ((20 : Int32) * q5.1).toNatClampNeg < 840)
          (F_X13_again_c190 p_fu v1 q5.1 (2 : Int32) (sI (sI (sI (sI (sI q5.2 (aM 59) q5.1.toNatClampNeg v1) (aM 60) q5.1.toNatClampNeg ((mI (sI q5.2 (aM 59) q5.1.toNatClampNeg v1) (aM 60) v1.toNatClampNeg) + (1 : Int32))) (aM 8) q5.1.toNatClampNeg (1 : Int32)) (aM 9) ((20 : Int32) * q5.1).toNatClampNeg (mI (sI (sI (sI q5.2 (aM 59) q5.1.toNatClampNeg v1) (aM 60) q5.1.toNatClampNeg ((mI (sI q5.2 (aM 59) q5.1.toNatClampNeg v1) (aM 60) v1.toNatClampNeg) + (1 : Int32))) (aM 8) q5.1.toNatClampNeg (1 : Int32)) (aM 40) (14 : Int32).toNatClampNeg)) (aM 10) ((20 : Int32) * q5.1).toNatClampNeg (mI (sI (sI (sI (sI q5.2 (aM 59) q5.1.toNatClampNeg v1) (aM 60) q5.1.toNatClampNeg ((mI (sI q5.2 (aM 59) q5.1.toNatClampNeg v1) (aM 60) v1.toNatClampNeg) + (1 : Int32))) (aM 8) q5.1.toNatClampNeg (1 : Int32)) (aM 9) ((20 : Int32) * q5.1).toNatClampNeg (mI (sI (sI (sI q5.2 (aM 59) q5.1.toNatClampNeg v1) (aM 60) q5.1.toNatClampNeg ((mI (sI q5.2 (aM 59) q5.1.toNatClampNeg v1) (aM 60) v1.toNatClampNeg) + (1 : Int32))) (aM 8) q5.1.toNatClampNeg (1 : Int32)) (aM 40) (14 : Int32).toNatClampNeg)) (aM 40) (15 : Int32).toNatClampNeg)))))))))))))))))
        else (F_X13_again_c83 q4.2))))))
  else (F_X13_again_c41 q3.2)
theorem P_X13_again_c34 {v1 : Int32} {s0 : Int32} {μ : p_M} {r : Int32 × p_M} (h : F_X13_again_c34 v1 s0 μ = some r) : Sm μ r.2 := by
  unfold F_X13_again_c34 at h
  obtain ⟨q3, hq3, h⟩ := p_bd h
  by_cases hc : q3.1 = 0
  · rw [if_pos hc] at h
    obtain ⟨q4, hq4, h⟩ := p_bd h
    obtain ⟨hc, h⟩ := p_ok_some h
    obtain ⟨hc, h⟩ := p_ok_some h
    by_cases hc : (mI q4.2 (aM 40) (13 : Int32).toNatClampNeg) ≤ (mI q4.2 (aM 60) v1.toNatClampNeg)
    · rw [if_pos hc] at h
      exact Sm_trans (Sm_trans (Sm_trans (Sm_refl μ) (P_X13_throwsIf (r := q3) hq3)) (P_X13_sortedOf (r := q4) hq4)) (P_X13_again_c83 h)
    · rw [if_neg hc] at h
      by_cases hc : q4.1 = 0
      · rw [if_pos hc] at h
        exact Sm_trans (Sm_trans (Sm_trans (Sm_refl μ) (P_X13_throwsIf (r := q3) hq3)) (P_X13_sortedOf (r := q4) hq4)) (P_X13_again_c83 h)
      · rw [if_neg hc] at h
        by_cases hc : ¬ (mI q4.2 tM 62) = (40 : Int32)
        · rw [if_pos hc] at h
          obtain ⟨hc, h⟩ := p_ok_some h
          obtain ⟨hc, h⟩ := p_ok_some h
          obtain ⟨hc, h⟩ := p_ok_some h
          obtain ⟨hc, h⟩ := p_ok_some h
          obtain ⟨hc, h⟩ := p_ok_some h
          obtain ⟨hc, h⟩ := p_ok_some h
          obtain ⟨q5, hq5, h⟩ := p_bd h
          obtain ⟨hc, h⟩ := p_ok_some h
          obtain ⟨hc, h⟩ := p_ok_some h
          obtain ⟨hc, h⟩ := p_ok_some h
          obtain ⟨hc, h⟩ := p_ok_some h
          obtain ⟨hc, h⟩ := p_ok_some h
          obtain ⟨hc, h⟩ := p_ok_some h
          obtain ⟨hc, h⟩ := p_ok_some h
          obtain ⟨hc, h⟩ := p_ok_some h
          exact Sm_trans (Sm_set (Sm_set (Sm_set (Sm_set (Sm_set (Sm_trans (Sm_trans (Sm_trans (Sm_refl μ) (P_X13_throwsIf (r := q3) hq3)) (P_X13_sortedOf (r := q4) hq4)) (P_X13_adds (r := q5) hq5)) (by decide)) (by decide)) (by decide)) (by decide)) (by decide)) (P_X13_again_c190 p_fu _ _ _ _ _ h)
        · rw [if_neg hc] at h
          exact Sm_trans (Sm_trans (Sm_trans (Sm_refl μ) (P_X13_throwsIf (r := q3) hq3)) (P_X13_sortedOf (r := q4) hq4)) (P_X13_again_c83 h)
  · rw [if_neg hc] at h
    exact Sm_trans (Sm_trans (Sm_refl μ) (P_X13_throwsIf (r := q3) hq3)) (P_X13_again_c41 h)
theorem E_X13_again_c34 {X : p_X} {d : Nat} {Q : p_R → Prop} {v1 : Int32} {s0 : Int32} {w2 : Value} {w3 : Value} {w4 : Value} {μ : p_M} {r : Int32 × p_M} (hs : ShM μ) (h : F_X13_again_c34 v1 s0 μ = some r) (hQ : Q ((0, some (.int r.1)), r.2)) : p_Ev X (d + 3) M_X13_again 34 [.ref tM, .int v1, w2, w3, w4] [.int s0, .ref tM] μ Q := by
  unfold F_X13_again_c34 at h
  refine e_iconst (v := (2 : Int32)) dX13_again_34 rfl ?_
  obtain ⟨q3, hq3, h⟩ := p_bd h
  refine e_cV dX13_again_35 rfl rfl ⟨rfl, rfl, by decide⟩ rfl hs.1 hs.2.1 (E_X13_throwsIf hs hq3 ⟨rfl, ?_⟩)
  have hs := ShM_of (P_X13_throwsIf hq3) hs
  show p_Ev X (d + 3) M_X13_again 38 [.ref tM, .int v1, w2, w3, w4] [.int q3.1] q3.2 Q
  refine e_if_eq dX13_again_38 43 (by decide) (fun hc => ?_) (fun hc => ?_)
  · rw [if_pos hc] at h
    refine e_aload_n dX13_again_43 rfl ?_
    refine e_iload_n dX13_again_44 rfl ?_
    refine e_aload_n dX13_again_45 rfl ?_
    refine e_getI dX13_again_46 rfl rfl hs.1 hs.2.1 ?_
    refine e_iconst (v := (3 : Int32)) dX13_again_49 rfl ?_
    obtain ⟨q4, hq4, h⟩ := p_bd h
    refine e_cV dX13_again_50 rfl rfl ⟨rfl, rfl, by decide⟩ rfl hs.1 hs.2.1 (E_X13_sortedOf hs hq4 ⟨rfl, ?_⟩)
    have hs := ShM_of (P_X13_sortedOf hq4) hs
    show p_Ev X (d + 3) M_X13_again 53 [.ref tM, .int v1, w2, w3, w4] [.int q4.1] q4.2 Q
    refine e_istore_n dX13_again_53 (Nat.le_of_ble_eq_true rfl) rfl ?_
    refine e_aload_n dX13_again_54 rfl ?_
    refine e_getR dX13_again_55 rfl rfl hs.1 hs.2.1 (hs.2.2.2 60 (by decide) rfl).1 ?_
    refine e_iload_n dX13_again_58 rfl ?_
    obtain ⟨hc, h⟩ := p_ok_some h
    refine e_iald dX13_again_59 (Nat.lt_trans (hs.2.2.2 60 (by decide) rfl).2.2.2 hs.2.2.1) (hs.2.2.2 60 (by decide) rfl).2.1 (hs.2.2.2 60 (by decide) rfl).2.2.1 (hs.2.2.2 60 (by decide) rfl).2.2.2 hc ?_
    refine e_aload_n dX13_again_60 rfl ?_
    refine e_getR dX13_again_61 rfl rfl hs.1 hs.2.1 (hs.2.2.2 40 (by decide) rfl).1 ?_
    refine e_bipush (v := (13 : Int32)) dX13_again_64 rfl ?_
    obtain ⟨hc, h⟩ := p_ok_some h
    refine e_iald dX13_again_66 (Nat.lt_trans (hs.2.2.2 40 (by decide) rfl).2.2.2 hs.2.2.1) (hs.2.2.2 40 (by decide) rfl).2.1 (hs.2.2.2 40 (by decide) rfl).2.2.1 (hs.2.2.2 40 (by decide) rfl).2.2.2 hc ?_
    refine e_ic_ge dX13_again_67 83 (by decide) (fun hc => ?_) (fun hc => ?_)
    · rw [if_pos hc] at h
      exact E_X13_again_c83 hs h hQ
    · rw [if_neg hc] at h
      refine e_iload_n dX13_again_70 rfl ?_
      refine e_if_eq dX13_again_71 83 (by decide) (fun hc => ?_) (fun hc => ?_)
      · rw [if_pos hc] at h
        exact E_X13_again_c83 hs h hQ
      · rw [if_neg hc] at h
        refine e_aload_n dX13_again_74 rfl ?_
        refine e_getI dX13_again_75 rfl rfl hs.1 hs.2.1 ?_
        refine e_bipush (v := (40 : Int32)) dX13_again_78 rfl ?_
        refine e_ic_ne dX13_again_80 85 (by decide) (fun hc => ?_) (fun hc => ?_)
        · rw [if_pos hc] at h
          refine e_aload_n dX13_again_85 rfl ?_
          refine e_aload_n dX13_again_86 rfl ?_
          refine e_getR dX13_again_87 rfl rfl hs.1 hs.2.1 (hs.2.2.2 48 (by decide) rfl).1 ?_
          refine e_iload_n dX13_again_90 rfl ?_
          obtain ⟨hc, h⟩ := p_ok_some h
          refine e_iald dX13_again_91 (Nat.lt_trans (hs.2.2.2 48 (by decide) rfl).2.2.2 hs.2.2.1) (hs.2.2.2 48 (by decide) rfl).2.1 (hs.2.2.2 48 (by decide) rfl).2.2.1 (hs.2.2.2 48 (by decide) rfl).2.2.2 hc ?_
          refine e_iload_n dX13_again_92 rfl ?_
          refine e_aload_n dX13_again_93 rfl ?_
          refine e_getR dX13_again_94 rfl rfl hs.1 hs.2.1 (hs.2.2.2 50 (by decide) rfl).1 ?_
          refine e_iload_n dX13_again_97 rfl ?_
          obtain ⟨hc, h⟩ := p_ok_some h
          refine e_iald dX13_again_98 (Nat.lt_trans (hs.2.2.2 50 (by decide) rfl).2.2.2 hs.2.2.1) (hs.2.2.2 50 (by decide) rfl).2.1 (hs.2.2.2 50 (by decide) rfl).2.2.1 (hs.2.2.2 50 (by decide) rfl).2.2.2 hc ?_
          refine e_aload_n dX13_again_99 rfl ?_
          refine e_getR dX13_again_100 rfl rfl hs.1 hs.2.1 (hs.2.2.2 51 (by decide) rfl).1 ?_
          refine e_iload_n dX13_again_103 rfl ?_
          obtain ⟨hc, h⟩ := p_ok_some h
          refine e_iald dX13_again_104 (Nat.lt_trans (hs.2.2.2 51 (by decide) rfl).2.2.2 hs.2.2.1) (hs.2.2.2 51 (by decide) rfl).2.1 (hs.2.2.2 51 (by decide) rfl).2.2.1 (hs.2.2.2 51 (by decide) rfl).2.2.2 hc ?_
          refine e_aload_n dX13_again_105 rfl ?_
          refine e_getR dX13_again_106 rfl rfl hs.1 hs.2.1 (hs.2.2.2 52 (by decide) rfl).1 ?_
          refine e_iload_n dX13_again_109 rfl ?_
          obtain ⟨hc, h⟩ := p_ok_some h
          refine e_iald dX13_again_110 (Nat.lt_trans (hs.2.2.2 52 (by decide) rfl).2.2.2 hs.2.2.1) (hs.2.2.2 52 (by decide) rfl).2.1 (hs.2.2.2 52 (by decide) rfl).2.2.1 (hs.2.2.2 52 (by decide) rfl).2.2.2 hc ?_
          refine e_aload_n dX13_again_111 rfl ?_
          refine e_getR dX13_again_112 rfl rfl hs.1 hs.2.1 (hs.2.2.2 53 (by decide) rfl).1 ?_
          refine e_iload_n dX13_again_115 rfl ?_
          obtain ⟨hc, h⟩ := p_ok_some h
          refine e_iald dX13_again_116 (Nat.lt_trans (hs.2.2.2 53 (by decide) rfl).2.2.2 hs.2.2.1) (hs.2.2.2 53 (by decide) rfl).2.1 (hs.2.2.2 53 (by decide) rfl).2.2.1 (hs.2.2.2 53 (by decide) rfl).2.2.2 hc ?_
          refine e_aload_n dX13_again_117 rfl ?_
          refine e_getR dX13_again_118 rfl rfl hs.1 hs.2.1 (hs.2.2.2 54 (by decide) rfl).1 ?_
          refine e_iload_n dX13_again_121 rfl ?_
          obtain ⟨hc, h⟩ := p_ok_some h
          refine e_iald dX13_again_122 (Nat.lt_trans (hs.2.2.2 54 (by decide) rfl).2.2.2 hs.2.2.1) (hs.2.2.2 54 (by decide) rfl).2.1 (hs.2.2.2 54 (by decide) rfl).2.2.1 (hs.2.2.2 54 (by decide) rfl).2.2.2 hc ?_
          obtain ⟨q5, hq5, h⟩ := p_bd h
          refine e_cV dX13_again_123 rfl rfl ⟨rfl, rfl, by decide⟩ rfl hs.1 hs.2.1 (E_X13_adds hs hq5 ⟨rfl, ?_⟩)
          have hs := ShM_of (P_X13_adds hq5) hs
          show p_Ev X (d + 3) M_X13_again 126 [.ref tM, .int v1, .int q4.1, w3, w4] [.int q5.1] q5.2 Q
          refine e_istore_n dX13_again_126 (Nat.le_of_ble_eq_true rfl) rfl ?_
          refine e_aload_n dX13_again_127 rfl ?_
          refine e_getR dX13_again_128 rfl rfl hs.1 hs.2.1 (hs.2.2.2 59 (by decide) rfl).1 ?_
          refine e_iload_n dX13_again_131 rfl ?_
          refine e_iload_n dX13_again_132 rfl ?_
          obtain ⟨hc, h⟩ := p_ok_some h
          refine e_iast dX13_again_133 (hs.2.2.2 59 (by decide) rfl).2.1 (hs.2.2.2 59 (by decide) rfl).2.2.1 (hs.2.2.2 59 (by decide) rfl).2.2.2 hc ?_
          refine e_aload_n dX13_again_134 rfl ?_
          refine e_getR dX13_again_135 rfl rfl hs.1 hs.2.1 (hs.2.2.2 60 (by decide) rfl).1 ?_
          refine e_iload_n dX13_again_138 rfl ?_
          refine e_aload_n dX13_again_139 rfl ?_
          refine e_getR dX13_again_140 rfl rfl hs.1 hs.2.1 (hs.2.2.2 60 (by decide) rfl).1 ?_
          refine e_iload_n dX13_again_143 rfl ?_
          obtain ⟨hc, h⟩ := p_ok_some h
          refine e_iald dX13_again_144 (Nat.lt_trans (hs.2.2.2 60 (by decide) rfl).2.2.2 hs.2.2.1) (hs.2.2.2 60 (by decide) rfl).2.1 (hs.2.2.2 60 (by decide) rfl).2.2.1 (hs.2.2.2 60 (by decide) rfl).2.2.2 hc ?_
          refine e_iconst (v := (1 : Int32)) dX13_again_145 rfl ?_
          refine e_iadd dX13_again_146 ?_
          obtain ⟨hc, h⟩ := p_ok_some h
          refine e_iast dX13_again_147 (hs.2.2.2 60 (by decide) rfl).2.1 (hs.2.2.2 60 (by decide) rfl).2.2.1 (hs.2.2.2 60 (by decide) rfl).2.2.2 hc ?_
          refine e_aload_n dX13_again_148 rfl ?_
          refine e_getR dX13_again_149 rfl rfl hs.1 hs.2.1 (hs.2.2.2 8 (by decide) rfl).1 ?_
          refine e_iload_n dX13_again_152 rfl ?_
          refine e_iconst (v := (1 : Int32)) dX13_again_153 rfl ?_
          obtain ⟨hc, h⟩ := p_ok_some h
          refine e_iast dX13_again_154 (hs.2.2.2 8 (by decide) rfl).2.1 (hs.2.2.2 8 (by decide) rfl).2.2.1 (hs.2.2.2 8 (by decide) rfl).2.2.2 hc ?_
          refine e_aload_n dX13_again_155 rfl ?_
          refine e_getR dX13_again_156 rfl rfl hs.1 hs.2.1 (hs.2.2.2 9 (by decide) rfl).1 ?_
          refine e_bipush (v := (20 : Int32)) dX13_again_159 rfl ?_
          refine e_iload_n dX13_again_161 rfl ?_
          refine e_imul dX13_again_162 ?_
          refine e_aload_n dX13_again_163 rfl ?_
          refine e_getR dX13_again_164 rfl rfl hs.1 hs.2.1 (hs.2.2.2 40 (by decide) rfl).1 ?_
          refine e_bipush (v := (14 : Int32)) dX13_again_167 rfl ?_
          obtain ⟨hc, h⟩ := p_ok_some h
          refine e_iald dX13_again_169 (Nat.lt_trans (hs.2.2.2 40 (by decide) rfl).2.2.2 hs.2.2.1) (hs.2.2.2 40 (by decide) rfl).2.1 (hs.2.2.2 40 (by decide) rfl).2.2.1 (hs.2.2.2 40 (by decide) rfl).2.2.2 hc ?_
          obtain ⟨hc, h⟩ := p_ok_some h
          refine e_iast dX13_again_170 (hs.2.2.2 9 (by decide) rfl).2.1 (hs.2.2.2 9 (by decide) rfl).2.2.1 (hs.2.2.2 9 (by decide) rfl).2.2.2 hc ?_
          refine e_aload_n dX13_again_171 rfl ?_
          refine e_getR dX13_again_172 rfl rfl hs.1 hs.2.1 (hs.2.2.2 10 (by decide) rfl).1 ?_
          refine e_bipush (v := (20 : Int32)) dX13_again_175 rfl ?_
          refine e_iload_n dX13_again_177 rfl ?_
          refine e_imul dX13_again_178 ?_
          refine e_aload_n dX13_again_179 rfl ?_
          refine e_getR dX13_again_180 rfl rfl hs.1 hs.2.1 (hs.2.2.2 40 (by decide) rfl).1 ?_
          refine e_bipush (v := (15 : Int32)) dX13_again_183 rfl ?_
          obtain ⟨hc, h⟩ := p_ok_some h
          refine e_iald dX13_again_185 (Nat.lt_trans (hs.2.2.2 40 (by decide) rfl).2.2.2 hs.2.2.1) (hs.2.2.2 40 (by decide) rfl).2.1 (hs.2.2.2 40 (by decide) rfl).2.2.1 (hs.2.2.2 40 (by decide) rfl).2.2.2 hc ?_
          obtain ⟨hc, h⟩ := p_ok_some h
          refine e_iast dX13_again_186 (hs.2.2.2 10 (by decide) rfl).2.1 (hs.2.2.2 10 (by decide) rfl).2.2.1 (hs.2.2.2 10 (by decide) rfl).2.2.2 hc ?_
          refine e_iconst (v := (2 : Int32)) dX13_again_187 rfl ?_
          refine e_istore dX13_again_188 (Nat.le_of_ble_eq_true rfl) rfl ?_
          exact E_X13_again_c190 p_fu _ _ _ _ _ _ hs h hQ
        · rw [if_neg hc] at h
          exact E_X13_again_c83 hs h hQ
  · rw [if_neg hc] at h
    exact E_X13_again_c41 hs h hQ
def F_X13_again (v1 : Int32) (μ : p_M) : Option (Int32 × p_M) :=
  (F_X13_noLot v1 (sI μ tM 0 (0 : Int32))).bind fun q1 =>
  (F_X13_throwsIf q1.1 (1 : Int32) q1.2).bind fun q2 =>
  if ¬ q2.1 = 0
  then (F_X13_again_c41 q2.2)
  else (p_ok (¬ v1 < 0 ∧ v1.toNatClampNeg < 40)
    (if (mI q2.2 (aM 55) v1.toNatClampNeg) = (3 : Int32)
    then (F_X13_again_c34 v1 (0 : Int32) q2.2)
    else (F_X13_again_c34 v1 (1 : Int32) q2.2)))
theorem P_X13_again {v1 : Int32} {μ : p_M} {r : Int32 × p_M} (h : F_X13_again v1 μ = some r) : Sm μ r.2 := by
  unfold F_X13_again at h
  obtain ⟨q1, hq1, h⟩ := p_bd h
  obtain ⟨q2, hq2, h⟩ := p_bd h
  by_cases hc : ¬ q2.1 = 0
  · rw [if_pos hc] at h
    exact Sm_trans (Sm_trans (Sm_trans (Sm_set (Sm_refl μ) (by decide)) (P_X13_noLot (r := q1) hq1)) (P_X13_throwsIf (r := q2) hq2)) (P_X13_again_c41 h)
  · rw [if_neg hc] at h
    obtain ⟨hc, h⟩ := p_ok_some h
    by_cases hc : (mI q2.2 (aM 55) v1.toNatClampNeg) = (3 : Int32)
    · rw [if_pos hc] at h
      exact Sm_trans (Sm_trans (Sm_trans (Sm_set (Sm_refl μ) (by decide)) (P_X13_noLot (r := q1) hq1)) (P_X13_throwsIf (r := q2) hq2)) (P_X13_again_c34 h)
    · rw [if_neg hc] at h
      exact Sm_trans (Sm_trans (Sm_trans (Sm_set (Sm_refl μ) (by decide)) (P_X13_noLot (r := q1) hq1)) (P_X13_throwsIf (r := q2) hq2)) (P_X13_again_c34 h)
theorem E_X13_again {X : p_X} {d : Nat} {Q : p_R → Prop} {v1 : Int32} {μ : p_M} {r : Int32 × p_M} (hs : ShM μ) (h : F_X13_again v1 μ = some r) (hQ : Q ((0, some (.int r.1)), r.2)) : p_Ev X (d + 3) M_X13_again 0 [.ref tM, .int v1, .double 0, .double 0, .double 0] [] μ Q := by
  unfold F_X13_again at h
  refine e_aload_n dX13_again_0 rfl ?_
  refine e_iconst (v := (0 : Int32)) dX13_again_1 rfl ?_
  refine e_putI dX13_again_2 rfl ⟨rfl, rfl, fun h => by cases h⟩ (fun h => by cases h) hs.1 hs.2.1 ?_
  refine e_aload_n dX13_again_5 rfl ?_
  refine e_aload_n dX13_again_6 rfl ?_
  refine e_iload_n dX13_again_7 rfl ?_
  obtain ⟨q1, hq1, h⟩ := p_bd h
  refine e_cV dX13_again_8 rfl rfl ⟨rfl, rfl, by decide⟩ rfl hs.1 hs.2.1 (E_X13_noLot hs hq1 ⟨rfl, ?_⟩)
  have hs := ShM_of (P_X13_noLot hq1) hs
  show p_Ev X (d + 3) M_X13_again 11 [.ref tM, .int v1, .double 0, .double 0, .double 0] [.int q1.1, .ref tM] q1.2 Q
  refine e_iconst (v := (1 : Int32)) dX13_again_11 rfl ?_
  obtain ⟨q2, hq2, h⟩ := p_bd h
  refine e_cV dX13_again_12 rfl rfl ⟨rfl, rfl, by decide⟩ rfl hs.1 hs.2.1 (E_X13_throwsIf hs hq2 ⟨rfl, ?_⟩)
  have hs := ShM_of (P_X13_throwsIf hq2) hs
  show p_Ev X (d + 3) M_X13_again 15 [.ref tM, .int v1, .double 0, .double 0, .double 0] [.int q2.1] q2.2 Q
  refine e_if_ne dX13_again_15 41 (by decide) (fun hc => ?_) (fun hc => ?_)
  · rw [if_pos hc] at h
    exact E_X13_again_c41 hs h hQ
  · rw [if_neg hc] at h
    refine e_aload_n dX13_again_18 rfl ?_
    refine e_aload_n dX13_again_19 rfl ?_
    refine e_getR dX13_again_20 rfl rfl hs.1 hs.2.1 (hs.2.2.2 55 (by decide) rfl).1 ?_
    refine e_iload_n dX13_again_23 rfl ?_
    obtain ⟨hc, h⟩ := p_ok_some h
    refine e_iald dX13_again_24 (Nat.lt_trans (hs.2.2.2 55 (by decide) rfl).2.2.2 hs.2.2.1) (hs.2.2.2 55 (by decide) rfl).2.1 (hs.2.2.2 55 (by decide) rfl).2.2.1 (hs.2.2.2 55 (by decide) rfl).2.2.2 hc ?_
    refine e_iconst (v := (3 : Int32)) dX13_again_25 rfl ?_
    refine e_ic_eq dX13_again_26 33 (by decide) (fun hc => ?_) (fun hc => ?_)
    · rw [if_pos hc] at h
      refine e_iconst (v := (0 : Int32)) dX13_again_33 rfl ?_
      exact E_X13_again_c34 hs h hQ
    · rw [if_neg hc] at h
      refine e_iconst (v := (1 : Int32)) dX13_again_29 rfl ?_
      refine e_goto dX13_again_30 34 (by decide) ?_
      exact E_X13_again_c34 hs h hQ
