/-! X13_copies -/
def F_X13_copies_c14 : Nat → Int32 → Int32 → Int32 → p_M → Option (Int32 × p_M)
  | 0, _, _, _, _ => none
  | n + 1, v1, v2, v3, μ =>
    p_ok (¬ v1 < 0 ∧ v1.toNatClampNeg < 42)
    (if (mI μ (aM 8) v1.toNatClampNeg) ≤ v3
    then (some (0, μ))
    else (p_ok (¬ (((20 : Int32) * v1) + v3) < 0 ∧ (((20 : Int32) * v1) + v3).toNatClampNeg < 840)
      (p_ok (¬ (((20 : Int32) * v2) + v3) < 0 ∧ (((20 : Int32) * v2) + v3).toNatClampNeg < 840)
      (p_ok (¬ (((20 : Int32) * v1) + v3) < 0 ∧ (((20 : Int32) * v1) + v3).toNatClampNeg < 840)
      (p_ok (¬ (((20 : Int32) * v2) + v3) < 0 ∧ (((20 : Int32) * v2) + v3).toNatClampNeg < 840)
      (F_X13_copies_c14 n v1 v2 (v3 + (1 : Int32)) (sI (sI μ (aM 9) (((20 : Int32) * v2) + v3).toNatClampNeg (mI μ (aM 9) (((20 : Int32) * v1) + v3).toNatClampNeg)) (aM 10) (((20 : Int32) * v2) + v3).toNatClampNeg (mI (sI μ (aM 9) (((20 : Int32) * v2) + v3).toNatClampNeg (mI μ (aM 9) (((20 : Int32) * v1) + v3).toNatClampNeg)) (aM 10) (((20 : Int32) * v1) + v3).toNatClampNeg))))))))
theorem P_X13_copies_c14 : ∀ (n : Nat) (v1 : Int32) (v2 : Int32) (v3 : Int32) (μ : p_M) (r : Int32 × p_M), F_X13_copies_c14 n v1 v2 v3 μ = some r → Sm μ r.2 := by
  intro n
  induction n with
  | zero => intro v1 v2 v3 μ r h; rw [F_X13_copies_c14] at h; cases h
  | succ n ih =>
    intro v1 v2 v3 μ r h
    rw [F_X13_copies_c14] at h
    obtain ⟨hc, h⟩ := p_ok_some h
    by_cases hc : (mI μ (aM 8) v1.toNatClampNeg) ≤ v3
    · rw [if_pos hc] at h
      cases h
      exact (Sm_refl μ)
    · rw [if_neg hc] at h
      obtain ⟨hc, h⟩ := p_ok_some h
      obtain ⟨hc, h⟩ := p_ok_some h
      obtain ⟨hc, h⟩ := p_ok_some h
      obtain ⟨hc, h⟩ := p_ok_some h
      exact Sm_trans (Sm_set (Sm_set (Sm_refl μ) (by decide)) (by decide)) (ih _ _ _ _ _ h)
theorem E_X13_copies_c14 {X : p_X} {d : Nat} {Q : p_R → Prop} : ∀ (n : Nat) (v1 : Int32) (v2 : Int32) (v3 : Int32) (μ : p_M) (r : Int32 × p_M), ShM μ → F_X13_copies_c14 n v1 v2 v3 μ = some r → Q ((0, none), r.2) → p_Ev X (d + 0) M_X13_copies 14 [.ref tM, .int v1, .int v2, .int v3] [] μ Q := by
  intro n
  induction n with
  | zero => intro v1 v2 v3 μ r hs h hQ; rw [F_X13_copies_c14] at h; cases h
  | succ n ih =>
    intro v1 v2 v3 μ r hs h hQ
    rw [F_X13_copies_c14] at h
    refine e_iload_n dX13_copies_14 rfl ?_
    refine e_aload_n dX13_copies_15 rfl ?_
    refine e_getR dX13_copies_16 rfl rfl hs.1 hs.2.1 (hs.2.2.2 8 (by decide) rfl).1 ?_
    refine e_iload_n dX13_copies_19 rfl ?_
    obtain ⟨hc, h⟩ := p_ok_some h
    refine e_iald dX13_copies_20 (Nat.lt_trans (hs.2.2.2 8 (by decide) rfl).2.2.2 hs.2.2.1) (hs.2.2.2 8 (by decide) rfl).2.1 (hs.2.2.2 8 (by decide) rfl).2.2.1 (hs.2.2.2 8 (by decide) rfl).2.2.2 hc ?_
    refine e_ic_ge dX13_copies_21 74 (by decide) (fun hc => ?_) (fun hc => ?_)
    · rw [if_pos hc] at h
      cases h
      exact e_vret dX13_copies_74 rfl hQ
    · rw [if_neg hc] at h
      refine e_aload_n dX13_copies_24 rfl ?_
      refine e_getR dX13_copies_25 rfl rfl hs.1 hs.2.1 (hs.2.2.2 9 (by decide) rfl).1 ?_
      refine e_bipush (v := (20 : Int32)) dX13_copies_28 rfl ?_
      refine e_iload_n dX13_copies_30 rfl ?_
      refine e_imul dX13_copies_31 ?_
      refine e_iload_n dX13_copies_32 rfl ?_
      refine e_iadd dX13_copies_33 ?_
      refine e_aload_n dX13_copies_34 rfl ?_
      refine e_getR dX13_copies_35 rfl rfl hs.1 hs.2.1 (hs.2.2.2 9 (by decide) rfl).1 ?_
      refine e_bipush (v := (20 : Int32)) dX13_copies_38 rfl ?_
      refine e_iload_n dX13_copies_40 rfl ?_
      refine e_imul dX13_copies_41 ?_
      refine e_iload_n dX13_copies_42 rfl ?_
      refine e_iadd dX13_copies_43 ?_
      obtain ⟨hc, h⟩ := p_ok_some h
      refine e_iald dX13_copies_44 (Nat.lt_trans (hs.2.2.2 9 (by decide) rfl).2.2.2 hs.2.2.1) (hs.2.2.2 9 (by decide) rfl).2.1 (hs.2.2.2 9 (by decide) rfl).2.2.1 (hs.2.2.2 9 (by decide) rfl).2.2.2 hc ?_
      obtain ⟨hc, h⟩ := p_ok_some h
      refine e_iast dX13_copies_45 (hs.2.2.2 9 (by decide) rfl).2.1 (hs.2.2.2 9 (by decide) rfl).2.2.1 (hs.2.2.2 9 (by decide) rfl).2.2.2 hc ?_
      refine e_aload_n dX13_copies_46 rfl ?_
      refine e_getR dX13_copies_47 rfl rfl hs.1 hs.2.1 (hs.2.2.2 10 (by decide) rfl).1 ?_
      refine e_bipush (v := (20 : Int32)) dX13_copies_50 rfl ?_
      refine e_iload_n dX13_copies_52 rfl ?_
      refine e_imul dX13_copies_53 ?_
      refine e_iload_n dX13_copies_54 rfl ?_
      refine e_iadd dX13_copies_55 ?_
      refine e_aload_n dX13_copies_56 rfl ?_
      refine e_getR dX13_copies_57 rfl rfl hs.1 hs.2.1 (hs.2.2.2 10 (by decide) rfl).1 ?_
      refine e_bipush (v := (20 : Int32)) dX13_copies_60 rfl ?_
      refine e_iload_n dX13_copies_62 rfl ?_
      refine e_imul dX13_copies_63 ?_
      refine e_iload_n dX13_copies_64 rfl ?_
      refine e_iadd dX13_copies_65 ?_
      obtain ⟨hc, h⟩ := p_ok_some h
      refine e_iald dX13_copies_66 (Nat.lt_trans (hs.2.2.2 10 (by decide) rfl).2.2.2 hs.2.2.1) (hs.2.2.2 10 (by decide) rfl).2.1 (hs.2.2.2 10 (by decide) rfl).2.2.1 (hs.2.2.2 10 (by decide) rfl).2.2.2 hc ?_
      obtain ⟨hc, h⟩ := p_ok_some h
      refine e_iast dX13_copies_67 (hs.2.2.2 10 (by decide) rfl).2.1 (hs.2.2.2 10 (by decide) rfl).2.2.1 (hs.2.2.2 10 (by decide) rfl).2.2.2 hc ?_
      refine e_iinc (v := (1 : Int32)) dX13_copies_68 rfl rfl rfl ?_
      refine e_goto dX13_copies_71 14 (by decide) ?_
      exact ih _ _ _ _ _ hs h hQ
def F_X13_copies (v1 : Int32) (v2 : Int32) (μ : p_M) : Option (Int32 × p_M) :=
  p_ok (¬ v1 < 0 ∧ v1.toNatClampNeg < 42)
  (p_ok (¬ v2 < 0 ∧ v2.toNatClampNeg < 42)
  (F_X13_copies_c14 p_fu v1 v2 (0 : Int32) (sI μ (aM 8) v2.toNatClampNeg (mI μ (aM 8) v1.toNatClampNeg))))
theorem P_X13_copies {v1 : Int32} {v2 : Int32} {μ : p_M} {r : Int32 × p_M} (h : F_X13_copies v1 v2 μ = some r) : Sm μ r.2 := by
  unfold F_X13_copies at h
  obtain ⟨hc, h⟩ := p_ok_some h
  obtain ⟨hc, h⟩ := p_ok_some h
  exact Sm_trans (Sm_set (Sm_refl μ) (by decide)) (P_X13_copies_c14 p_fu _ _ _ _ _ h)
theorem E_X13_copies {X : p_X} {d : Nat} {Q : p_R → Prop} {v1 : Int32} {v2 : Int32} {μ : p_M} {r : Int32 × p_M} (hs : ShM μ) (h : F_X13_copies v1 v2 μ = some r) (hQ : Q ((0, none), r.2)) : p_Ev X (d + 0) M_X13_copies 0 [.ref tM, .int v1, .int v2, .double 0] [] μ Q := by
  unfold F_X13_copies at h
  refine e_aload_n dX13_copies_0 rfl ?_
  refine e_getR dX13_copies_1 rfl rfl hs.1 hs.2.1 (hs.2.2.2 8 (by decide) rfl).1 ?_
  refine e_iload_n dX13_copies_4 rfl ?_
  refine e_aload_n dX13_copies_5 rfl ?_
  refine e_getR dX13_copies_6 rfl rfl hs.1 hs.2.1 (hs.2.2.2 8 (by decide) rfl).1 ?_
  refine e_iload_n dX13_copies_9 rfl ?_
  obtain ⟨hc, h⟩ := p_ok_some h
  refine e_iald dX13_copies_10 (Nat.lt_trans (hs.2.2.2 8 (by decide) rfl).2.2.2 hs.2.2.1) (hs.2.2.2 8 (by decide) rfl).2.1 (hs.2.2.2 8 (by decide) rfl).2.2.1 (hs.2.2.2 8 (by decide) rfl).2.2.2 hc ?_
  obtain ⟨hc, h⟩ := p_ok_some h
  refine e_iast dX13_copies_11 (hs.2.2.2 8 (by decide) rfl).2.1 (hs.2.2.2 8 (by decide) rfl).2.2.1 (hs.2.2.2 8 (by decide) rfl).2.2.2 hc ?_
  refine e_iconst (v := (0 : Int32)) dX13_copies_12 rfl ?_
  refine e_istore_n dX13_copies_13 (by decide) rfl ?_
  exact E_X13_copies_c14 p_fu _ _ _ _ _ hs h hQ
/-! X13_in -/
def F_X13_in_c15 (s0 : Int32) (μ : p_M) : Option (Int32 × p_M) :=
  p_ok (s0 = 0 ∨ s0 = 1) (some (s0, μ))
theorem P_X13_in_c15 {s0 : Int32} {μ : p_M} {r : Int32 × p_M} (h : F_X13_in_c15 s0 μ = some r) : Sm μ r.2 := by
  unfold F_X13_in_c15 at h
  obtain ⟨hc, h⟩ := p_ok_some h
  cases h
  exact (Sm_refl μ)
theorem E_X13_in_c15 {X : p_X} {d : Nat} {Q : p_R → Prop} {s0 : Int32} {w0 : Value} {w1 : Value} {w2 : Value} {μ : p_M} {r : Int32 × p_M} (hs : ShM μ) (h : F_X13_in_c15 s0 μ = some r) (hQ : Q ((0, some (.int r.1)), r.2)) : p_Ev X (d + 0) M_X13_in 15 [w0, w1, w2] [.int s0] μ Q := by
  unfold F_X13_in_c15 at h
  obtain ⟨hc, h⟩ := p_ok_some h
  cases h
  exact e_iretz dX13_in_15 rfl hc hQ
def F_X13_in_c14 (μ : p_M) : Option (Int32 × p_M) :=
  F_X13_in_c15 (0 : Int32) μ
theorem P_X13_in_c14 {μ : p_M} {r : Int32 × p_M} (h : F_X13_in_c14 μ = some r) : Sm μ r.2 := by
  unfold F_X13_in_c14 at h
  exact Sm_trans (Sm_refl μ) (P_X13_in_c15 h)
theorem E_X13_in_c14 {X : p_X} {d : Nat} {Q : p_R → Prop} {w0 : Value} {w1 : Value} {w2 : Value} {μ : p_M} {r : Int32 × p_M} (hs : ShM μ) (h : F_X13_in_c14 μ = some r) (hQ : Q ((0, some (.int r.1)), r.2)) : p_Ev X (d + 0) M_X13_in 14 [w0, w1, w2] [] μ Q := by
  unfold F_X13_in_c14 at h
  refine e_iconst (v := (0 : Int32)) dX13_in_14 rfl ?_
  exact E_X13_in_c15 hs h hQ
def F_X13_in (v0 : Int32) (v1 : Int32) (v2 : Int32) (μ : p_M) : Option (Int32 × p_M) :=
  if v0 < v1
  then (F_X13_in_c14 μ)
  else (if v2 < v0
    then (F_X13_in_c14 μ)
    else (F_X13_in_c15 (1 : Int32) μ))
theorem P_X13_in {v0 : Int32} {v1 : Int32} {v2 : Int32} {μ : p_M} {r : Int32 × p_M} (h : F_X13_in v0 v1 v2 μ = some r) : Sm μ r.2 := by
  unfold F_X13_in at h
  by_cases hc : v0 < v1
  · rw [if_pos hc] at h
    exact Sm_trans (Sm_refl μ) (P_X13_in_c14 h)
  · rw [if_neg hc] at h
    by_cases hc : v2 < v0
    · rw [if_pos hc] at h
      exact Sm_trans (Sm_refl μ) (P_X13_in_c14 h)
    · rw [if_neg hc] at h
      exact Sm_trans (Sm_refl μ) (P_X13_in_c15 h)
theorem E_X13_in {X : p_X} {d : Nat} {Q : p_R → Prop} {v0 : Int32} {v1 : Int32} {v2 : Int32} {μ : p_M} {r : Int32 × p_M} (hs : ShM μ) (h : F_X13_in v0 v1 v2 μ = some r) (hQ : Q ((0, some (.int r.1)), r.2)) : p_Ev X (d + 0) M_X13_in 0 [.int v0, .int v1, .int v2] [] μ Q := by
  unfold F_X13_in at h
  refine e_iload_n dX13_in_0 rfl ?_
  refine e_iload_n dX13_in_1 rfl ?_
  refine e_ic_lt dX13_in_2 14 (by decide) (fun hc => ?_) (fun hc => ?_)
  · rw [if_pos hc] at h
    exact E_X13_in_c14 hs h hQ
  · rw [if_neg hc] at h
    refine e_iload_n dX13_in_5 rfl ?_
    refine e_iload_n dX13_in_6 rfl ?_
    refine e_ic_gt dX13_in_7 14 (by decide) (fun hc => ?_) (fun hc => ?_)
    · rw [if_pos hc] at h
      exact E_X13_in_c14 hs h hQ
    · rw [if_neg hc] at h
      refine e_iconst (v := (1 : Int32)) dX13_in_10 rfl ?_
      refine e_goto dX13_in_11 15 (by decide) ?_
      exact E_X13_in_c15 hs h hQ
/-! X13_throwsIf -/
def F_X13_throwsIf_c9 (v1 : Int32) (μ : p_M) : Option (Int32 × p_M) :=
  p_ok (v1 = 0 ∨ v1 = 1) (some (v1, μ))
theorem P_X13_throwsIf_c9 {v1 : Int32} {μ : p_M} {r : Int32 × p_M} (h : F_X13_throwsIf_c9 v1 μ = some r) : Sm μ r.2 := by
  unfold F_X13_throwsIf_c9 at h
  obtain ⟨hc, h⟩ := p_ok_some h
  cases h
  exact (Sm_refl μ)
theorem E_X13_throwsIf_c9 {X : p_X} {d : Nat} {Q : p_R → Prop} {v1 : Int32} {w0 : Value} {w2 : Value} {μ : p_M} {r : Int32 × p_M} (hs : ShM μ) (h : F_X13_throwsIf_c9 v1 μ = some r) (hQ : Q ((0, some (.int r.1)), r.2)) : p_Ev X (d + 0) M_X13_throwsIf 9 [w0, .int v1, w2] [] μ Q := by
  unfold F_X13_throwsIf_c9 at h
  refine e_iload_n dX13_throwsIf_9 rfl ?_
  obtain ⟨hc, h⟩ := p_ok_some h
  cases h
  exact e_iretz dX13_throwsIf_10 rfl hc hQ
def F_X13_throwsIf (v1 : Int32) (v2 : Int32) (μ : p_M) : Option (Int32 × p_M) :=
  if v1 = 0
  then (F_X13_throwsIf_c9 v1 μ)
  else (F_X13_throwsIf_c9 v1 (sI μ tM 0 v2))
theorem P_X13_throwsIf {v1 : Int32} {v2 : Int32} {μ : p_M} {r : Int32 × p_M} (h : F_X13_throwsIf v1 v2 μ = some r) : Sm μ r.2 := by
  unfold F_X13_throwsIf at h
  by_cases hc : v1 = 0
  · rw [if_pos hc] at h
    exact Sm_trans (Sm_refl μ) (P_X13_throwsIf_c9 h)
  · rw [if_neg hc] at h
    exact Sm_trans (Sm_set (Sm_refl μ) (by decide)) (P_X13_throwsIf_c9 h)
theorem E_X13_throwsIf {X : p_X} {d : Nat} {Q : p_R → Prop} {v1 : Int32} {v2 : Int32} {μ : p_M} {r : Int32 × p_M} (hs : ShM μ) (h : F_X13_throwsIf v1 v2 μ = some r) (hQ : Q ((0, some (.int r.1)), r.2)) : p_Ev X (d + 0) M_X13_throwsIf 0 [.ref tM, .int v1, .int v2] [] μ Q := by
  unfold F_X13_throwsIf at h
  refine e_iload_n dX13_throwsIf_0 rfl ?_
  refine e_if_eq dX13_throwsIf_1 9 (by decide) (fun hc => ?_) (fun hc => ?_)
  · rw [if_pos hc] at h
    exact E_X13_throwsIf_c9 hs h hQ
  · rw [if_neg hc] at h
    refine e_aload_n dX13_throwsIf_4 rfl ?_
    refine e_iload_n dX13_throwsIf_5 rfl ?_
    refine e_putI dX13_throwsIf_6 rfl ⟨rfl, rfl, fun h => by cases h⟩ (fun h => by cases h) hs.1 hs.2.1 ?_
    exact E_X13_throwsIf_c9 hs h hQ
/-! X13_isWord -/
def F_X13_isWord_c60 (K24 : Nat → Int32 → Int32 → p_M → Option (Int32 × p_M)) (v1 : Nat) (v3 : Int32) (s0 : Int32) (μ : p_M) : Option (Int32 × p_M) :=
  K24 v1 s0 (v3 + (1 : Int32)) μ
theorem P_X13_isWord_c60 {K24 : Nat → Int32 → Int32 → p_M → Option (Int32 × p_M)} (hP24 : ∀ (v1 : Nat) (v2 : Int32) (v3 : Int32) (μ : p_M) (r : Int32 × p_M), K24 v1 v2 v3 μ = some r → Sm μ r.2) {v1 : Nat} {v3 : Int32} {s0 : Int32} {μ : p_M} {r : Int32 × p_M} (h : F_X13_isWord_c60 K24 v1 v3 s0 μ = some r) : Sm μ r.2 := by
  unfold F_X13_isWord_c60 at h
  exact Sm_trans (Sm_refl μ) (hP24 _ _ _ _ _ h)
theorem E_X13_isWord_c60 {X : p_X} {d : Nat} {Q : p_R → Prop} {K24 : Nat → Int32 → Int32 → p_M → Option (Int32 × p_M)} (hK24 : ∀ (v1 : Nat) (v2 : Int32) (v3 : Int32) (μ : p_M) (r : Int32 × p_M), ShM μ → K24 v1 v2 v3 μ = some r → Q ((0, some (.int r.1)), r.2) → p_Ev X (d + 0) M_X13_isWord 24 [.ref tM, .ref v1, .int v2, .int v3] [] μ Q) {v1 : Nat} {v3 : Int32} {s0 : Int32} {w2 : Value} {μ : p_M} {r : Int32 × p_M} (hs : ShM μ) (h : F_X13_isWord_c60 K24 v1 v3 s0 μ = some r) (hQ : Q ((0, some (.int r.1)), r.2)) : p_Ev X (d + 0) M_X13_isWord 60 [.ref tM, .ref v1, w2, .int v3] [.int s0] μ Q := by
  unfold F_X13_isWord_c60 at h
  refine e_istore_n dX13_isWord_60 (by decide) rfl ?_
  refine e_iinc (v := (1 : Int32)) dX13_isWord_61 rfl rfl rfl ?_
  refine e_goto dX13_isWord_64 24 (by decide) ?_
  exact hK24 _ _ _ _ _ hs h hQ
def F_X13_isWord_c67 (v2 : Int32) (μ : p_M) : Option (Int32 × p_M) :=
  p_ok (v2 = 0 ∨ v2 = 1) (some (v2, μ))
theorem P_X13_isWord_c67 {v2 : Int32} {μ : p_M} {r : Int32 × p_M} (h : F_X13_isWord_c67 v2 μ = some r) : Sm μ r.2 := by
  unfold F_X13_isWord_c67 at h
  obtain ⟨hc, h⟩ := p_ok_some h
  cases h
  exact (Sm_refl μ)
theorem E_X13_isWord_c67 {X : p_X} {d : Nat} {Q : p_R → Prop} {v2 : Int32} {w0 : Value} {w1 : Value} {w3 : Value} {μ : p_M} {r : Int32 × p_M} (hs : ShM μ) (h : F_X13_isWord_c67 v2 μ = some r) (hQ : Q ((0, some (.int r.1)), r.2)) : p_Ev X (d + 0) M_X13_isWord 67 [w0, w1, .int v2, w3] [] μ Q := by
  unfold F_X13_isWord_c67 at h
  refine e_iload_n dX13_isWord_67 rfl ?_
  obtain ⟨hc, h⟩ := p_ok_some h
  cases h
  exact e_iretz dX13_isWord_68 rfl hc hQ
def F_X13_isWord_c24 : Nat → Nat → Int32 → Int32 → p_M → Option (Int32 × p_M)
  | 0, _, _, _, _ => none
  | n + 1, v1, v2, v3, μ =>
    if v2 = 0
    then (F_X13_isWord_c67 v2 μ)
    else ((tx_len v1).bind fun q2 =>
      if q2 ≤ v3
      then (F_X13_isWord_c67 v2 μ)
      else (p_ok (¬ ((mI μ tM 5) + v3) < 0 ∧ ((mI μ tM 5) + v3).toNatClampNeg < 400)
        ((tx_at v1 v3).bind fun q3 =>
        if ¬ (mI μ (aM 1) ((mI μ tM 5) + v3).toNatClampNeg) = q3
        then (F_X13_isWord_c60 (F_X13_isWord_c24 n) v1 v3 (0 : Int32) μ)
        else (F_X13_isWord_c60 (F_X13_isWord_c24 n) v1 v3 (1 : Int32) μ))))
theorem P_X13_isWord_c24 : ∀ (n : Nat) (v1 : Nat) (v2 : Int32) (v3 : Int32) (μ : p_M) (r : Int32 × p_M), F_X13_isWord_c24 n v1 v2 v3 μ = some r → Sm μ r.2 := by
  intro n
  induction n with
  | zero => intro v1 v2 v3 μ r h; rw [F_X13_isWord_c24] at h; cases h
  | succ n ih =>
    intro v1 v2 v3 μ r h
    rw [F_X13_isWord_c24] at h
    by_cases hc : v2 = 0
    · rw [if_pos hc] at h
      exact Sm_trans (Sm_refl μ) (P_X13_isWord_c67 h)
    · rw [if_neg hc] at h
      obtain ⟨q2, hq, h⟩ := p_bd h
      by_cases hc : q2 ≤ v3
      · rw [if_pos hc] at h
        exact Sm_trans (Sm_refl μ) (P_X13_isWord_c67 h)
      · rw [if_neg hc] at h
        obtain ⟨hc, h⟩ := p_ok_some h
        obtain ⟨q3, hq, h⟩ := p_bd h
        by_cases hc : ¬ (mI μ (aM 1) ((mI μ tM 5) + v3).toNatClampNeg) = q3
        · rw [if_pos hc] at h
          exact Sm_trans (Sm_refl μ) (P_X13_isWord_c60 ih h)
        · rw [if_neg hc] at h
          exact Sm_trans (Sm_refl μ) (P_X13_isWord_c60 ih h)
theorem E_X13_isWord_c24 {X : p_X} {d : Nat} {Q : p_R → Prop} : ∀ (n : Nat) (v1 : Nat) (v2 : Int32) (v3 : Int32) (μ : p_M) (r : Int32 × p_M), ShM μ → F_X13_isWord_c24 n v1 v2 v3 μ = some r → Q ((0, some (.int r.1)), r.2) → p_Ev X (d + 0) M_X13_isWord 24 [.ref tM, .ref v1, .int v2, .int v3] [] μ Q := by
  intro n
  induction n with
  | zero => intro v1 v2 v3 μ r hs h hQ; rw [F_X13_isWord_c24] at h; cases h
  | succ n ih =>
    intro v1 v2 v3 μ r hs h hQ
    rw [F_X13_isWord_c24] at h
    refine e_iload_n dX13_isWord_24 rfl ?_
    refine e_if_eq dX13_isWord_25 67 (by decide) (fun hc => ?_) (fun hc => ?_)
    · rw [if_pos hc] at h
      exact E_X13_isWord_c67 hs h hQ
    · rw [if_neg hc] at h
      refine e_iload_n dX13_isWord_28 rfl ?_
      refine e_aload_n dX13_isWord_29 rfl ?_
      obtain ⟨q2, hq, h⟩ := p_bd h
      refine e_txl dX13_isWord_30 rfl (by decide) hq ?_
      refine e_ic_ge dX13_isWord_33 67 (by decide) (fun hc => ?_) (fun hc => ?_)
      · rw [if_pos hc] at h
        exact E_X13_isWord_c67 hs h hQ
      · rw [if_neg hc] at h
        refine e_aload_n dX13_isWord_36 rfl ?_
        refine e_getR dX13_isWord_37 rfl rfl hs.1 hs.2.1 (hs.2.2.2 1 (by decide) rfl).1 ?_
        refine e_aload_n dX13_isWord_40 rfl ?_
        refine e_getI dX13_isWord_41 rfl rfl hs.1 hs.2.1 ?_
        refine e_iload_n dX13_isWord_44 rfl ?_
        refine e_iadd dX13_isWord_45 ?_
        obtain ⟨hc, h⟩ := p_ok_some h
        refine e_bald dX13_isWord_46 (Nat.lt_trans (hs.2.2.2 1 (by decide) rfl).2.2.2 hs.2.2.1) (hs.2.2.2 1 (by decide) rfl).2.1 (hs.2.2.2 1 (by decide) rfl).2.2.1 (hs.2.2.2 1 (by decide) rfl).2.2.2 hc ?_
        refine e_aload_n dX13_isWord_47 rfl ?_
        refine e_iload_n dX13_isWord_48 rfl ?_
        obtain ⟨q3, hq, h⟩ := p_bd h
        refine e_txc dX13_isWord_49 rfl (by decide) hq ?_
        refine e_ic_ne dX13_isWord_52 59 (by decide) (fun hc => ?_) (fun hc => ?_)
        · rw [if_pos hc] at h
          refine e_iconst (v := (0 : Int32)) dX13_isWord_59 rfl ?_
          exact E_X13_isWord_c60 ih hs h hQ
        · rw [if_neg hc] at h
          refine e_iconst (v := (1 : Int32)) dX13_isWord_55 rfl ?_
          refine e_goto dX13_isWord_56 60 (by decide) ?_
          exact E_X13_isWord_c60 ih hs h hQ
def F_X13_isWord_c21 (v1 : Nat) (s0 : Int32) (μ : p_M) : Option (Int32 × p_M) :=
  F_X13_isWord_c24 p_fu v1 s0 (0 : Int32) μ
theorem P_X13_isWord_c21 {v1 : Nat} {s0 : Int32} {μ : p_M} {r : Int32 × p_M} (h : F_X13_isWord_c21 v1 s0 μ = some r) : Sm μ r.2 := by
  unfold F_X13_isWord_c21 at h
  exact Sm_trans (Sm_refl μ) (P_X13_isWord_c24 p_fu _ _ _ _ _ h)
theorem E_X13_isWord_c21 {X : p_X} {d : Nat} {Q : p_R → Prop} {v1 : Nat} {s0 : Int32} {w2 : Value} {w3 : Value} {μ : p_M} {r : Int32 × p_M} (hs : ShM μ) (h : F_X13_isWord_c21 v1 s0 μ = some r) (hQ : Q ((0, some (.int r.1)), r.2)) : p_Ev X (d + 0) M_X13_isWord 21 [.ref tM, .ref v1, w2, w3] [.int s0] μ Q := by
  unfold F_X13_isWord_c21 at h
  refine e_istore_n dX13_isWord_21 (by decide) rfl ?_
  refine e_iconst (v := (0 : Int32)) dX13_isWord_22 rfl ?_
  refine e_istore_n dX13_isWord_23 (by decide) rfl ?_
  exact E_X13_isWord_c24 p_fu _ _ _ _ _ hs h hQ
def F_X13_isWord (v1 : Nat) (μ : p_M) : Option (Int32 × p_M) :=
  (tx_len v1).bind fun q1 =>
  if ¬ ((mI μ tM 3) - (mI μ tM 5)) = q1
  then (F_X13_isWord_c21 v1 (0 : Int32) μ)
  else (F_X13_isWord_c21 v1 (1 : Int32) μ)
theorem P_X13_isWord {v1 : Nat} {μ : p_M} {r : Int32 × p_M} (h : F_X13_isWord v1 μ = some r) : Sm μ r.2 := by
  unfold F_X13_isWord at h
  obtain ⟨q1, hq, h⟩ := p_bd h
  by_cases hc : ¬ ((mI μ tM 3) - (mI μ tM 5)) = q1
  · rw [if_pos hc] at h
    exact Sm_trans (Sm_refl μ) (P_X13_isWord_c21 h)
  · rw [if_neg hc] at h
    exact Sm_trans (Sm_refl μ) (P_X13_isWord_c21 h)
theorem E_X13_isWord {X : p_X} {d : Nat} {Q : p_R → Prop} {v1 : Nat} {μ : p_M} {r : Int32 × p_M} (hs : ShM μ) (h : F_X13_isWord v1 μ = some r) (hQ : Q ((0, some (.int r.1)), r.2)) : p_Ev X (d + 0) M_X13_isWord 0 [.ref tM, .ref v1, .double 0, .double 0] [] μ Q := by
  unfold F_X13_isWord at h
  refine e_aload_n dX13_isWord_0 rfl ?_
  refine e_getI dX13_isWord_1 rfl rfl hs.1 hs.2.1 ?_
  refine e_aload_n dX13_isWord_4 rfl ?_
  refine e_getI dX13_isWord_5 rfl rfl hs.1 hs.2.1 ?_
  refine e_isub dX13_isWord_8 ?_
  refine e_aload_n dX13_isWord_9 rfl ?_
  obtain ⟨q1, hq, h⟩ := p_bd h
  refine e_txl dX13_isWord_10 rfl (by decide) hq ?_
  refine e_ic_ne dX13_isWord_13 20 (by decide) (fun hc => ?_) (fun hc => ?_)
  · rw [if_pos hc] at h
    refine e_iconst (v := (0 : Int32)) dX13_isWord_20 rfl ?_
    exact E_X13_isWord_c21 hs h hQ
  · rw [if_neg hc] at h
    refine e_iconst (v := (1 : Int32)) dX13_isWord_16 rfl ?_
    refine e_goto dX13_isWord_17 21 (by decide) ?_
    exact E_X13_isWord_c21 hs h hQ
/-! X13_bathOf -/
def F_X13_bathOf_c53 (s0 : Int32) (μ : p_M) : Option (Int32 × p_M) :=
  some (s0, μ)
theorem P_X13_bathOf_c53 {s0 : Int32} {μ : p_M} {r : Int32 × p_M} (h : F_X13_bathOf_c53 s0 μ = some r) : Sm μ r.2 := by
  unfold F_X13_bathOf_c53 at h
  cases h
  exact (Sm_refl μ)
theorem E_X13_bathOf_c53 {X : p_X} {d : Nat} {Q : p_R → Prop} {s0 : Int32} {w0 : Value} {μ : p_M} {r : Int32 × p_M} (hs : ShM μ) (h : F_X13_bathOf_c53 s0 μ = some r) (hQ : Q ((0, some (.int r.1)), r.2)) : p_Ev X (d + 1) M_X13_bathOf 53 [w0] [.int s0] μ Q := by
  unfold F_X13_bathOf_c53 at h
  cases h
  exact e_ireti dX13_bathOf_53 rfl hQ
def F_X13_bathOf (μ : p_M) : Option (Int32 × p_M) :=
  (F_X13_isWord (p_E + 10 + 20) μ).bind fun q1 =>
  if q1.1 = 0
  then ((F_X13_isWord (p_E + 10 + 12) q1.2).bind fun q2 =>
    if q2.1 = 0
    then ((F_X13_isWord (p_E + 10 + 6) q2.2).bind fun q3 =>
      if q3.1 = 0
      then ((F_X13_isWord (p_E + 10 + 11) q3.2).bind fun q4 =>
        if q4.1 = 0
        then (F_X13_bathOf_c53 (-1) q4.2)
        else (F_X13_bathOf_c53 (3 : Int32) q4.2))
      else (F_X13_bathOf_c53 (2 : Int32) q3.2))
    else (F_X13_bathOf_c53 (1 : Int32) q2.2))
  else (F_X13_bathOf_c53 (0 : Int32) q1.2)
theorem P_X13_bathOf {μ : p_M} {r : Int32 × p_M} (h : F_X13_bathOf μ = some r) : Sm μ r.2 := by
  unfold F_X13_bathOf at h
  obtain ⟨q1, hq1, h⟩ := p_bd h
  by_cases hc : q1.1 = 0
  · rw [if_pos hc] at h
    obtain ⟨q2, hq2, h⟩ := p_bd h
    by_cases hc : q2.1 = 0
    · rw [if_pos hc] at h
      obtain ⟨q3, hq3, h⟩ := p_bd h
      by_cases hc : q3.1 = 0
      · rw [if_pos hc] at h
        obtain ⟨q4, hq4, h⟩ := p_bd h
        by_cases hc : q4.1 = 0
        · rw [if_pos hc] at h
          exact Sm_trans (Sm_trans (Sm_trans (Sm_trans (Sm_trans (Sm_refl μ) (P_X13_isWord hq1)) (P_X13_isWord hq2)) (P_X13_isWord hq3)) (P_X13_isWord hq4)) (P_X13_bathOf_c53 h)
        · rw [if_neg hc] at h
          exact Sm_trans (Sm_trans (Sm_trans (Sm_trans (Sm_trans (Sm_refl μ) (P_X13_isWord hq1)) (P_X13_isWord hq2)) (P_X13_isWord hq3)) (P_X13_isWord hq4)) (P_X13_bathOf_c53 h)
      · rw [if_neg hc] at h
        exact Sm_trans (Sm_trans (Sm_trans (Sm_trans (Sm_refl μ) (P_X13_isWord hq1)) (P_X13_isWord hq2)) (P_X13_isWord hq3)) (P_X13_bathOf_c53 h)
    · rw [if_neg hc] at h
      exact Sm_trans (Sm_trans (Sm_trans (Sm_refl μ) (P_X13_isWord hq1)) (P_X13_isWord hq2)) (P_X13_bathOf_c53 h)
  · rw [if_neg hc] at h
    exact Sm_trans (Sm_trans (Sm_refl μ) (P_X13_isWord hq1)) (P_X13_bathOf_c53 h)
theorem E_X13_bathOf {X : p_X} {d : Nat} {Q : p_R → Prop} {μ : p_M} {r : Int32 × p_M} (hs : ShM μ) (h : F_X13_bathOf μ = some r) (hQ : Q ((0, some (.int r.1)), r.2)) : p_Ev X (d + 1) M_X13_bathOf 0 [.ref tM] [] μ Q := by
  unfold F_X13_bathOf at h
  refine e_aload_n dX13_bathOf_0 rfl ?_
  refine e_ldcS dX13_bathOf_1 rfl rfl ?_
  obtain ⟨q1, hq1, h⟩ := p_bd h
  refine e_cV dX13_bathOf_3 rfl rfl ⟨rfl, rfl, by decide⟩ rfl hs.1 hs.2.1 (E_X13_isWord hs hq1 ⟨rfl, ?_⟩)
  have hs := ShM_of (P_X13_isWord hq1) hs
  show p_Ev X (d + 1) M_X13_bathOf 6 [.ref tM] [.int q1.1] q1.2 Q
  refine e_if_eq dX13_bathOf_6 13 (by decide) (fun hc => ?_) (fun hc => ?_)
  · rw [if_pos hc] at h
    refine e_aload_n dX13_bathOf_13 rfl ?_
    refine e_ldcS dX13_bathOf_14 rfl rfl ?_
    obtain ⟨q2, hq2, h⟩ := p_bd h
    refine e_cV dX13_bathOf_16 rfl rfl ⟨rfl, rfl, by decide⟩ rfl hs.1 hs.2.1 (E_X13_isWord hs hq2 ⟨rfl, ?_⟩)
    have hs := ShM_of (P_X13_isWord hq2) hs
    show p_Ev X (d + 1) M_X13_bathOf 19 [.ref tM] [.int q2.1] q2.2 Q
    refine e_if_eq dX13_bathOf_19 26 (by decide) (fun hc => ?_) (fun hc => ?_)
    · rw [if_pos hc] at h
      refine e_aload_n dX13_bathOf_26 rfl ?_
      refine e_ldcS dX13_bathOf_27 rfl rfl ?_
      obtain ⟨q3, hq3, h⟩ := p_bd h
      refine e_cV dX13_bathOf_29 rfl rfl ⟨rfl, rfl, by decide⟩ rfl hs.1 hs.2.1 (E_X13_isWord hs hq3 ⟨rfl, ?_⟩)
      have hs := ShM_of (P_X13_isWord hq3) hs
      show p_Ev X (d + 1) M_X13_bathOf 32 [.ref tM] [.int q3.1] q3.2 Q
      refine e_if_eq dX13_bathOf_32 39 (by decide) (fun hc => ?_) (fun hc => ?_)
      · rw [if_pos hc] at h
        refine e_aload_n dX13_bathOf_39 rfl ?_
        refine e_ldcS dX13_bathOf_40 rfl rfl ?_
        obtain ⟨q4, hq4, h⟩ := p_bd h
        refine e_cV dX13_bathOf_42 rfl rfl ⟨rfl, rfl, by decide⟩ rfl hs.1 hs.2.1 (E_X13_isWord hs hq4 ⟨rfl, ?_⟩)
        have hs := ShM_of (P_X13_isWord hq4) hs
        show p_Ev X (d + 1) M_X13_bathOf 45 [.ref tM] [.int q4.1] q4.2 Q
        refine e_if_eq dX13_bathOf_45 52 (by decide) (fun hc => ?_) (fun hc => ?_)
        · rw [if_pos hc] at h
          refine e_iconst (v := (-1)) dX13_bathOf_52 rfl ?_
          exact E_X13_bathOf_c53 hs h hQ
        · rw [if_neg hc] at h
          refine e_iconst (v := (3 : Int32)) dX13_bathOf_48 rfl ?_
          refine e_goto dX13_bathOf_49 53 (by decide) ?_
          exact E_X13_bathOf_c53 hs h hQ
      · rw [if_neg hc] at h
        refine e_iconst (v := (2 : Int32)) dX13_bathOf_35 rfl ?_
        refine e_goto dX13_bathOf_36 53 (by decide) ?_
        exact E_X13_bathOf_c53 hs h hQ
    · rw [if_neg hc] at h
      refine e_iconst (v := (1 : Int32)) dX13_bathOf_22 rfl ?_
      refine e_goto dX13_bathOf_23 53 (by decide) ?_
      exact E_X13_bathOf_c53 hs h hQ
  · rw [if_neg hc] at h
    refine e_iconst (v := (0 : Int32)) dX13_bathOf_9 rfl ?_
    refine e_goto dX13_bathOf_10 53 (by decide) ?_
    exact E_X13_bathOf_c53 hs h hQ
/-! X13_less -/
def F_X13_less (v1 : Int32) (v2 : Int32) (v3 : Int32) (μ : p_M) : Option (Int32 × p_M) :=
  p_ok (¬ v1 < 0 ∧ v1.toNatClampNeg < 240)
  (p_ok (¬ v1 < 0 ∧ v1.toNatClampNeg < 240)
  (p_ok (¬ (v1 + (1 : Int32)) < 0 ∧ (v1 + (1 : Int32)).toNatClampNeg < 240)
  (p_ok (¬ (v1 + (1 : Int32)) < 0 ∧ (v1 + (1 : Int32)).toNatClampNeg < 240)
  (some (0, (sI (sI μ (aM 15) v1.toNatClampNeg (if (0 : Int32) < ((mI μ (aM 15) v1.toNatClampNeg) - v3) then ((mI μ (aM 15) v1.toNatClampNeg) - v3) else (0 : Int32))) (aM 15) (v1 + (1 : Int32)).toNatClampNeg (if (0 : Int32) < ((mI (sI μ (aM 15) v1.toNatClampNeg (if (0 : Int32) < ((mI μ (aM 15) v1.toNatClampNeg) - v3) then ((mI μ (aM 15) v1.toNatClampNeg) - v3) else (0 : Int32))) (aM 15) (v1 + (1 : Int32)).toNatClampNeg) - v2) then ((mI (sI μ (aM 15) v1.toNatClampNeg (if (0 : Int32) < ((mI μ (aM 15) v1.toNatClampNeg) - v3) then ((mI μ (aM 15) v1.toNatClampNeg) - v3) else (0 : Int32))) (aM 15) (v1 + (1 : Int32)).toNatClampNeg) - v2) else (0 : Int32))))))))
theorem P_X13_less {v1 : Int32} {v2 : Int32} {v3 : Int32} {μ : p_M} {r : Int32 × p_M} (h : F_X13_less v1 v2 v3 μ = some r) : Sm μ r.2 := by
  unfold F_X13_less at h
  obtain ⟨hc, h⟩ := p_ok_some h
  obtain ⟨hc, h⟩ := p_ok_some h
  obtain ⟨hc, h⟩ := p_ok_some h
  obtain ⟨hc, h⟩ := p_ok_some h
  cases h
  exact (Sm_set (Sm_set (Sm_refl μ) (by decide)) (by decide))
theorem E_X13_less {X : p_X} {d : Nat} {Q : p_R → Prop} {v1 : Int32} {v2 : Int32} {v3 : Int32} {μ : p_M} {r : Int32 × p_M} (hs : ShM μ) (h : F_X13_less v1 v2 v3 μ = some r) (hQ : Q ((0, none), r.2)) : p_Ev X (d + 0) M_X13_less 0 [.ref tM, .int v1, .int v2, .int v3] [] μ Q := by
  unfold F_X13_less at h
  refine e_aload_n dX13_less_0 rfl ?_
  refine e_getR dX13_less_1 rfl rfl hs.1 hs.2.1 (hs.2.2.2 15 (by decide) rfl).1 ?_
  refine e_iload_n dX13_less_4 rfl ?_
  refine e_iconst (v := (0 : Int32)) dX13_less_5 rfl ?_
  refine e_aload_n dX13_less_6 rfl ?_
  refine e_getR dX13_less_7 rfl rfl hs.1 hs.2.1 (hs.2.2.2 15 (by decide) rfl).1 ?_
  refine e_iload_n dX13_less_10 rfl ?_
  obtain ⟨hc, h⟩ := p_ok_some h
  refine e_iald dX13_less_11 (Nat.lt_trans (hs.2.2.2 15 (by decide) rfl).2.2.2 hs.2.2.1) (hs.2.2.2 15 (by decide) rfl).2.1 (hs.2.2.2 15 (by decide) rfl).2.2.1 (hs.2.2.2 15 (by decide) rfl).2.2.2 hc ?_
  refine e_iload_n dX13_less_12 rfl ?_
  refine e_isub dX13_less_13 ?_
  refine e_max dX13_less_14 rfl (by decide) ?_
  obtain ⟨hc, h⟩ := p_ok_some h
  refine e_iast dX13_less_17 (hs.2.2.2 15 (by decide) rfl).2.1 (hs.2.2.2 15 (by decide) rfl).2.2.1 (hs.2.2.2 15 (by decide) rfl).2.2.2 hc ?_
  refine e_aload_n dX13_less_18 rfl ?_
  refine e_getR dX13_less_19 rfl rfl hs.1 hs.2.1 (hs.2.2.2 15 (by decide) rfl).1 ?_
  refine e_iload_n dX13_less_22 rfl ?_
  refine e_iconst (v := (1 : Int32)) dX13_less_23 rfl ?_
  refine e_iadd dX13_less_24 ?_
  refine e_iconst (v := (0 : Int32)) dX13_less_25 rfl ?_
  refine e_aload_n dX13_less_26 rfl ?_
  refine e_getR dX13_less_27 rfl rfl hs.1 hs.2.1 (hs.2.2.2 15 (by decide) rfl).1 ?_
  refine e_iload_n dX13_less_30 rfl ?_
  refine e_iconst (v := (1 : Int32)) dX13_less_31 rfl ?_
  refine e_iadd dX13_less_32 ?_
  obtain ⟨hc, h⟩ := p_ok_some h
  refine e_iald dX13_less_33 (Nat.lt_trans (hs.2.2.2 15 (by decide) rfl).2.2.2 hs.2.2.1) (hs.2.2.2 15 (by decide) rfl).2.1 (hs.2.2.2 15 (by decide) rfl).2.2.1 (hs.2.2.2 15 (by decide) rfl).2.2.2 hc ?_
  refine e_iload_n dX13_less_34 rfl ?_
  refine e_isub dX13_less_35 ?_
  refine e_max dX13_less_36 rfl (by decide) ?_
  obtain ⟨hc, h⟩ := p_ok_some h
  refine e_iast dX13_less_39 (hs.2.2.2 15 (by decide) rfl).2.1 (hs.2.2.2 15 (by decide) rfl).2.2.1 (hs.2.2.2 15 (by decide) rfl).2.2.2 hc ?_
  cases h
  exact e_vret dX13_less_40 rfl hQ
/-! X13_does -/
def F_X13_does_c164 (μ : p_M) : Option (Int32 × p_M) :=
  some (0, μ)
theorem P_X13_does_c164 {μ : p_M} {r : Int32 × p_M} (h : F_X13_does_c164 μ = some r) : Sm μ r.2 := by
  unfold F_X13_does_c164 at h
  cases h
  exact (Sm_refl μ)
theorem E_X13_does_c164 {X : p_X} {d : Nat} {Q : p_R → Prop} {w0 : Value} {w1 : Value} {w2 : Value} {w3 : Value} {w4 : Value} {w5 : Value} {w6 : Value} {μ : p_M} {r : Int32 × p_M} (hs : ShM μ) (h : F_X13_does_c164 μ = some r) (hQ : Q ((0, none), r.2)) : p_Ev X (d + 1) M_X13_does 164 [w0, w1, w2, w3, w4, w5, w6] [] μ Q := by
  unfold F_X13_does_c164 at h
  cases h
  exact e_vret dX13_does_164 rfl hQ
def F_X13_does (v1 : Int32) (v2 : Int32) (v3 : Int32) (v4 : Int32) (μ : p_M) : Option (Int32 × p_M) :=
  p_ok (¬ (((5 : Int32) * v1) + (4 : Int32)) < 0 ∧ (((5 : Int32) * v1) + (4 : Int32)).toNatClampNeg < 240)
  (if v3.toInt < 0 ∨ 2 < v3.toInt then (p_ok (¬ (((5 : Int32) * v1) + (4 : Int32)) < 0 ∧ (((5 : Int32) * v1) + (4 : Int32)).toNatClampNeg < 240)
    (F_X13_does_c164 (sI μ (aM 15) (((5 : Int32) * v1) + (4 : Int32)).toNatClampNeg (0 : Int32))))
  else if v3 = 0 then (p_ok (¬ (2 : Int32) = 0)
    ((F_X13_less ((5 : Int32) * v1) (v4 / (2 : Int32)) v4 μ).bind fun q1 =>
    F_X13_does_c164 q1.2))
  else if v3 = 1 then ((F_X13_less ((5 : Int32) * v1) v4 (v4 + (3 : Int32)) μ).bind fun q2 =>
    (F_X13_less (((5 : Int32) * v1) + (2 : Int32)) (v4 + ((mI μ (aM 15) (((5 : Int32) * v1) + (4 : Int32)).toNatClampNeg) * (5 : Int32))) ((v4 + (2 : Int32)) + ((mI μ (aM 15) (((5 : Int32) * v1) + (4 : Int32)).toNatClampNeg) * (5 : Int32))) q2.2).bind fun q3 =>
    F_X13_does_c164 q3.2)
  else if v3 = 2 then (p_ok (¬ v2 < 0 ∧ v2.toNatClampNeg < 6)
    (p_ok (¬ v2 < 0 ∧ v2.toNatClampNeg < 6)
    ((F_X13_less ((5 : Int32) * v1) (if (0 : Int32) < (((2 : Int32) * v4) - (mI μ (aM 13) v2.toNatClampNeg)) then (((2 : Int32) * v4) - (mI μ (aM 13) v2.toNatClampNeg)) else (0 : Int32)) (if (0 : Int32) < (((3 : Int32) * v4) - (mI μ (aM 13) v2.toNatClampNeg)) then (((3 : Int32) * v4) - (mI μ (aM 13) v2.toNatClampNeg)) else (0 : Int32)) μ).bind fun q4 =>
    (F_X13_less (((5 : Int32) * v1) + (2 : Int32)) (0 : Int32) v4 q4.2).bind fun q5 =>
    p_ok (¬ (((5 : Int32) * v1) + (4 : Int32)) < 0 ∧ (((5 : Int32) * v1) + (4 : Int32)).toNatClampNeg < 240)
    (F_X13_does_c164 (sI q5.2 (aM 15) (((5 : Int32) * v1) + (4 : Int32)).toNatClampNeg (1 : Int32))))))
  else none)
theorem P_X13_does {v1 : Int32} {v2 : Int32} {v3 : Int32} {v4 : Int32} {μ : p_M} {r : Int32 × p_M} (h : F_X13_does v1 v2 v3 v4 μ = some r) : Sm μ r.2 := by
  unfold F_X13_does at h
  obtain ⟨hc, h⟩ := p_ok_some h
  by_cases hc : v3.toInt < 0 ∨ 2 < v3.toInt
  · rw [if_pos hc] at h
    obtain ⟨hc, h⟩ := p_ok_some h
    exact Sm_trans (Sm_set (Sm_refl μ) (by decide)) (P_X13_does_c164 h)
  rw [if_neg hc] at h
  by_cases hc : v3 = 0
  · rw [if_pos hc] at h
    obtain ⟨hc, h⟩ := p_ok_some h
    obtain ⟨q1, hq1, h⟩ := p_bd h
    exact Sm_trans (Sm_trans (Sm_refl μ) (P_X13_less hq1)) (P_X13_does_c164 h)
  rw [if_neg hc] at h
  by_cases hc : v3 = 1
  · rw [if_pos hc] at h
    obtain ⟨q2, hq2, h⟩ := p_bd h
    obtain ⟨q3, hq3, h⟩ := p_bd h
    exact Sm_trans (Sm_trans (Sm_trans (Sm_refl μ) (P_X13_less hq2)) (P_X13_less hq3)) (P_X13_does_c164 h)
  rw [if_neg hc] at h
  by_cases hc : v3 = 2
  · rw [if_pos hc] at h
    obtain ⟨hc, h⟩ := p_ok_some h
    obtain ⟨hc, h⟩ := p_ok_some h
    obtain ⟨q4, hq4, h⟩ := p_bd h
    obtain ⟨q5, hq5, h⟩ := p_bd h
    obtain ⟨hc, h⟩ := p_ok_some h
    exact Sm_trans (Sm_set (Sm_trans (Sm_trans (Sm_refl μ) (P_X13_less hq4)) (P_X13_less hq5)) (by decide)) (P_X13_does_c164 h)
  rw [if_neg hc] at h
  cases h
theorem E_X13_does {X : p_X} {d : Nat} {Q : p_R → Prop} {v1 : Int32} {v2 : Int32} {v3 : Int32} {v4 : Int32} {μ : p_M} {r : Int32 × p_M} (hs : ShM μ) (h : F_X13_does v1 v2 v3 v4 μ = some r) (hQ : Q ((0, none), r.2)) : p_Ev X (d + 1) M_X13_does 0 [.ref tM, .int v1, .int v2, .int v3, .int v4, .double 0, .double 0] [] μ Q := by
  unfold F_X13_does at h
  refine e_iconst (v := (5 : Int32)) dX13_does_0 rfl ?_
  refine e_iload_n dX13_does_1 rfl ?_
  refine e_imul dX13_does_2 ?_
  refine e_istore dX13_does_3 (by decide) rfl ?_
  refine e_aload_n dX13_does_5 rfl ?_
  refine e_getR dX13_does_6 rfl rfl hs.1 hs.2.1 (hs.2.2.2 15 (by decide) rfl).1 ?_
  refine e_iload dX13_does_9 rfl ?_
  refine e_iconst (v := (4 : Int32)) dX13_does_11 rfl ?_
  refine e_iadd dX13_does_12 ?_
  obtain ⟨hc, h⟩ := p_ok_some h
  refine e_iald dX13_does_13 (Nat.lt_trans (hs.2.2.2 15 (by decide) rfl).2.2.2 hs.2.2.1) (hs.2.2.2 15 (by decide) rfl).2.1 (hs.2.2.2 15 (by decide) rfl).2.2.1 (hs.2.2.2 15 (by decide) rfl).2.2.2 hc ?_
  refine e_iconst (v := (5 : Int32)) dX13_does_14 rfl ?_
  refine e_imul dX13_does_15 ?_
  refine e_istore dX13_does_16 (by decide) rfl ?_
  refine e_iload_n dX13_does_18 rfl ?_
  by_cases hc : v3.toInt < 0 ∨ 2 < v3.toInt
  · rw [if_pos hc] at h
    refine e_swD dX13_does_19 hc 154 (by decide) ?_
    refine e_aload_n dX13_does_154 rfl ?_
    refine e_getR dX13_does_155 rfl rfl hs.1 hs.2.1 (hs.2.2.2 15 (by decide) rfl).1 ?_
    refine e_iload dX13_does_158 rfl ?_
    refine e_iconst (v := (4 : Int32)) dX13_does_160 rfl ?_
    refine e_iadd dX13_does_161 ?_
    refine e_iconst (v := (0 : Int32)) dX13_does_162 rfl ?_
    obtain ⟨hc, h⟩ := p_ok_some h
    refine e_iast dX13_does_163 (hs.2.2.2 15 (by decide) rfl).2.1 (hs.2.2.2 15 (by decide) rfl).2.2.1 (hs.2.2.2 15 (by decide) rfl).2.2.2 hc ?_
    exact E_X13_does_c164 hs h hQ
  rw [if_neg hc] at h
  by_cases hc : v3 = 0
  · rw [if_pos hc] at h
    refine e_swK (v := 0) dX13_does_19 hc (by decide) rfl 44 (by decide) ?_
    refine e_aload_n dX13_does_44 rfl ?_
    refine e_iload dX13_does_45 rfl ?_
    refine e_iload dX13_does_47 rfl ?_
    refine e_iconst (v := (2 : Int32)) dX13_does_49 rfl ?_
    obtain ⟨hc, h⟩ := p_ok_some h
    refine e_idiv dX13_does_50 hc ?_
    refine e_iload dX13_does_51 rfl ?_
    obtain ⟨q1, hq1, h⟩ := p_bd h
    refine e_cV dX13_does_53 rfl rfl ⟨rfl, rfl, by decide⟩ rfl hs.1 hs.2.1 (E_X13_less hs hq1 ⟨rfl, ?_⟩)
    have hs := ShM_of (P_X13_less hq1) hs
    show p_Ev X (d + 1) M_X13_does 56 [.ref tM, .int v1, .int v2, .int v3, .int v4, .int ((5 : Int32) * v1), .int ((mI μ (aM 15) (((5 : Int32) * v1) + (4 : Int32)).toNatClampNeg) * (5 : Int32))] [] q1.2 Q
    refine e_goto dX13_does_56 164 (by decide) ?_
    exact E_X13_does_c164 hs h hQ
  rw [if_neg hc] at h
  by_cases hc : v3 = 1
  · rw [if_pos hc] at h
    refine e_swK (v := 1) dX13_does_19 hc (by decide) rfl 59 (by decide) ?_
    refine e_aload_n dX13_does_59 rfl ?_
    refine e_iload dX13_does_60 rfl ?_
    refine e_iload dX13_does_62 rfl ?_
    refine e_iload dX13_does_64 rfl ?_
    refine e_iconst (v := (3 : Int32)) dX13_does_66 rfl ?_
    refine e_iadd dX13_does_67 ?_
    obtain ⟨q2, hq2, h⟩ := p_bd h
    refine e_cV dX13_does_68 rfl rfl ⟨rfl, rfl, by decide⟩ rfl hs.1 hs.2.1 (E_X13_less hs hq2 ⟨rfl, ?_⟩)
    have hs := ShM_of (P_X13_less hq2) hs
    show p_Ev X (d + 1) M_X13_does 71 [.ref tM, .int v1, .int v2, .int v3, .int v4, .int ((5 : Int32) * v1), .int ((mI μ (aM 15) (((5 : Int32) * v1) + (4 : Int32)).toNatClampNeg) * (5 : Int32))] [] q2.2 Q
    refine e_aload_n dX13_does_71 rfl ?_
    refine e_iload dX13_does_72 rfl ?_
    refine e_iconst (v := (2 : Int32)) dX13_does_74 rfl ?_
    refine e_iadd dX13_does_75 ?_
    refine e_iload dX13_does_76 rfl ?_
    refine e_iload dX13_does_78 rfl ?_
    refine e_iadd dX13_does_80 ?_
    refine e_iload dX13_does_81 rfl ?_
    refine e_iconst (v := (2 : Int32)) dX13_does_83 rfl ?_
    refine e_iadd dX13_does_84 ?_
    refine e_iload dX13_does_85 rfl ?_
    refine e_iadd dX13_does_87 ?_
    obtain ⟨q3, hq3, h⟩ := p_bd h
    refine e_cV dX13_does_88 rfl rfl ⟨rfl, rfl, by decide⟩ rfl hs.1 hs.2.1 (E_X13_less hs hq3 ⟨rfl, ?_⟩)
    have hs := ShM_of (P_X13_less hq3) hs
    show p_Ev X (d + 1) M_X13_does 91 [.ref tM, .int v1, .int v2, .int v3, .int v4, .int ((5 : Int32) * v1), .int ((mI μ (aM 15) (((5 : Int32) * v1) + (4 : Int32)).toNatClampNeg) * (5 : Int32))] [] q3.2 Q
    refine e_goto dX13_does_91 164 (by decide) ?_
    exact E_X13_does_c164 hs h hQ
  rw [if_neg hc] at h
  by_cases hc : v3 = 2
  · rw [if_pos hc] at h
    refine e_swK (v := 2) dX13_does_19 hc (by decide) rfl 94 (by decide) ?_
    refine e_aload_n dX13_does_94 rfl ?_
    refine e_iload dX13_does_95 rfl ?_
    refine e_iconst (v := (0 : Int32)) dX13_does_97 rfl ?_
    refine e_iconst (v := (2 : Int32)) dX13_does_98 rfl ?_
    refine e_iload dX13_does_99 rfl ?_
    refine e_imul dX13_does_101 ?_
    refine e_aload_n dX13_does_102 rfl ?_
    refine e_getR dX13_does_103 rfl rfl hs.1 hs.2.1 (hs.2.2.2 13 (by decide) rfl).1 ?_
    refine e_iload_n dX13_does_106 rfl ?_
    obtain ⟨hc, h⟩ := p_ok_some h
    refine e_iald dX13_does_107 (Nat.lt_trans (hs.2.2.2 13 (by decide) rfl).2.2.2 hs.2.2.1) (hs.2.2.2 13 (by decide) rfl).2.1 (hs.2.2.2 13 (by decide) rfl).2.2.1 (hs.2.2.2 13 (by decide) rfl).2.2.2 hc ?_
    refine e_isub dX13_does_108 ?_
    refine e_max dX13_does_109 rfl (by decide) ?_
    refine e_iconst (v := (0 : Int32)) dX13_does_112 rfl ?_
    refine e_iconst (v := (3 : Int32)) dX13_does_113 rfl ?_
    refine e_iload dX13_does_114 rfl ?_
    refine e_imul dX13_does_116 ?_
    refine e_aload_n dX13_does_117 rfl ?_
    refine e_getR dX13_does_118 rfl rfl hs.1 hs.2.1 (hs.2.2.2 13 (by decide) rfl).1 ?_
    refine e_iload_n dX13_does_121 rfl ?_
    obtain ⟨hc, h⟩ := p_ok_some h
    refine e_iald dX13_does_122 (Nat.lt_trans (hs.2.2.2 13 (by decide) rfl).2.2.2 hs.2.2.1) (hs.2.2.2 13 (by decide) rfl).2.1 (hs.2.2.2 13 (by decide) rfl).2.2.1 (hs.2.2.2 13 (by decide) rfl).2.2.2 hc ?_
    refine e_isub dX13_does_123 ?_
    refine e_max dX13_does_124 rfl (by decide) ?_
    obtain ⟨q4, hq4, h⟩ := p_bd h
    refine e_cV dX13_does_127 rfl rfl ⟨rfl, rfl, by decide⟩ rfl hs.1 hs.2.1 (E_X13_less hs hq4 ⟨rfl, ?_⟩)
    have hs := ShM_of (P_X13_less hq4) hs
    show p_Ev X (d + 1) M_X13_does 130 [.ref tM, .int v1, .int v2, .int v3, .int v4, .int ((5 : Int32) * v1), .int ((mI μ (aM 15) (((5 : Int32) * v1) + (4 : Int32)).toNatClampNeg) * (5 : Int32))] [] q4.2 Q
    refine e_aload_n dX13_does_130 rfl ?_
    refine e_iload dX13_does_131 rfl ?_
    refine e_iconst (v := (2 : Int32)) dX13_does_133 rfl ?_
    refine e_iadd dX13_does_134 ?_
    refine e_iconst (v := (0 : Int32)) dX13_does_135 rfl ?_
    refine e_iload dX13_does_136 rfl ?_
    obtain ⟨q5, hq5, h⟩ := p_bd h
    refine e_cV dX13_does_138 rfl rfl ⟨rfl, rfl, by decide⟩ rfl hs.1 hs.2.1 (E_X13_less hs hq5 ⟨rfl, ?_⟩)
    have hs := ShM_of (P_X13_less hq5) hs
    show p_Ev X (d + 1) M_X13_does 141 [.ref tM, .int v1, .int v2, .int v3, .int v4, .int ((5 : Int32) * v1), .int ((mI μ (aM 15) (((5 : Int32) * v1) + (4 : Int32)).toNatClampNeg) * (5 : Int32))] [] q5.2 Q
    refine e_aload_n dX13_does_141 rfl ?_
    refine e_getR dX13_does_142 rfl rfl hs.1 hs.2.1 (hs.2.2.2 15 (by decide) rfl).1 ?_
    refine e_iload dX13_does_145 rfl ?_
    refine e_iconst (v := (4 : Int32)) dX13_does_147 rfl ?_
    refine e_iadd dX13_does_148 ?_
    refine e_iconst (v := (1 : Int32)) dX13_does_149 rfl ?_
    obtain ⟨hc, h⟩ := p_ok_some h
    refine e_iast dX13_does_150 (hs.2.2.2 15 (by decide) rfl).2.1 (hs.2.2.2 15 (by decide) rfl).2.2.1 (hs.2.2.2 15 (by decide) rfl).2.2.2 hc ?_
    refine e_goto dX13_does_151 164 (by decide) ?_
    exact E_X13_does_c164 hs h hQ
  rw [if_neg hc] at h
  cases h
/-! X13_isAt -/
def F_X13_isAt_c42 (s0 : Int32) (μ : p_M) : Option (Int32 × p_M) :=
  p_ok (s0 = 0 ∨ s0 = 1) (some (s0, μ))
theorem P_X13_isAt_c42 {s0 : Int32} {μ : p_M} {r : Int32 × p_M} (h : F_X13_isAt_c42 s0 μ = some r) : Sm μ r.2 := by
  unfold F_X13_isAt_c42 at h
  obtain ⟨hc, h⟩ := p_ok_some h
  cases h
  exact (Sm_refl μ)
theorem E_X13_isAt_c42 {X : p_X} {d : Nat} {Q : p_R → Prop} {s0 : Int32} {w0 : Value} {w1 : Value} {w2 : Value} {μ : p_M} {r : Int32 × p_M} (hs : ShM μ) (h : F_X13_isAt_c42 s0 μ = some r) (hQ : Q ((0, some (.int r.1)), r.2)) : p_Ev X (d + 0) M_X13_isAt 42 [w0, w1, w2] [.int s0] μ Q := by
  unfold F_X13_isAt_c42 at h
  obtain ⟨hc, h⟩ := p_ok_some h
  cases h
  exact e_iretz dX13_isAt_42 rfl hc hQ
def F_X13_isAt_c41 (μ : p_M) : Option (Int32 × p_M) :=
  F_X13_isAt_c42 (0 : Int32) μ
theorem P_X13_isAt_c41 {μ : p_M} {r : Int32 × p_M} (h : F_X13_isAt_c41 μ = some r) : Sm μ r.2 := by
  unfold F_X13_isAt_c41 at h
  exact Sm_trans (Sm_refl μ) (P_X13_isAt_c42 h)
theorem E_X13_isAt_c41 {X : p_X} {d : Nat} {Q : p_R → Prop} {w0 : Value} {w1 : Value} {w2 : Value} {μ : p_M} {r : Int32 × p_M} (hs : ShM μ) (h : F_X13_isAt_c41 μ = some r) (hQ : Q ((0, some (.int r.1)), r.2)) : p_Ev X (d + 0) M_X13_isAt 41 [w0, w1, w2] [] μ Q := by
  unfold F_X13_isAt_c41 at h
  refine e_iconst (v := (0 : Int32)) dX13_isAt_41 rfl ?_
  exact E_X13_isAt_c42 hs h hQ
def F_X13_isAt (v1 : Int32) (v2 : Int32) (μ : p_M) : Option (Int32 × p_M) :=
  if (mI μ tM 4) ≤ (mI μ tM 3)
  then (F_X13_isAt_c41 μ)
  else (p_ok (¬ (mI μ tM 3) < 0 ∧ (mI μ tM 3).toNatClampNeg < 400)
    (if (mI μ (aM 1) (mI μ tM 3).toNatClampNeg) < v1
    then (F_X13_isAt_c41 μ)
    else (p_ok (¬ (mI μ tM 3) < 0 ∧ (mI μ tM 3).toNatClampNeg < 400)
      (if v2 < (mI μ (aM 1) (mI μ tM 3).toNatClampNeg)
      then (F_X13_isAt_c41 μ)
      else (F_X13_isAt_c42 (1 : Int32) μ)))))
theorem P_X13_isAt {v1 : Int32} {v2 : Int32} {μ : p_M} {r : Int32 × p_M} (h : F_X13_isAt v1 v2 μ = some r) : Sm μ r.2 := by
  unfold F_X13_isAt at h
  by_cases hc : (mI μ tM 4) ≤ (mI μ tM 3)
  · rw [if_pos hc] at h
    exact Sm_trans (Sm_refl μ) (P_X13_isAt_c41 h)
  · rw [if_neg hc] at h
    obtain ⟨hc, h⟩ := p_ok_some h
    by_cases hc : (mI μ (aM 1) (mI μ tM 3).toNatClampNeg) < v1
    · rw [if_pos hc] at h
      exact Sm_trans (Sm_refl μ) (P_X13_isAt_c41 h)
    · rw [if_neg hc] at h
      obtain ⟨hc, h⟩ := p_ok_some h
      by_cases hc : v2 < (mI μ (aM 1) (mI μ tM 3).toNatClampNeg)
      · rw [if_pos hc] at h
        exact Sm_trans (Sm_refl μ) (P_X13_isAt_c41 h)
      · rw [if_neg hc] at h
        exact Sm_trans (Sm_refl μ) (P_X13_isAt_c42 h)
theorem E_X13_isAt {X : p_X} {d : Nat} {Q : p_R → Prop} {v1 : Int32} {v2 : Int32} {μ : p_M} {r : Int32 × p_M} (hs : ShM μ) (h : F_X13_isAt v1 v2 μ = some r) (hQ : Q ((0, some (.int r.1)), r.2)) : p_Ev X (d + 0) M_X13_isAt 0 [.ref tM, .int v1, .int v2] [] μ Q := by
  unfold F_X13_isAt at h
  refine e_aload_n dX13_isAt_0 rfl ?_
  refine e_getI dX13_isAt_1 rfl rfl hs.1 hs.2.1 ?_
  refine e_aload_n dX13_isAt_4 rfl ?_
  refine e_getI dX13_isAt_5 rfl rfl hs.1 hs.2.1 ?_
  refine e_ic_ge dX13_isAt_8 41 (by decide) (fun hc => ?_) (fun hc => ?_)
  · rw [if_pos hc] at h
    exact E_X13_isAt_c41 hs h hQ
  · rw [if_neg hc] at h
    refine e_aload_n dX13_isAt_11 rfl ?_
    refine e_getR dX13_isAt_12 rfl rfl hs.1 hs.2.1 (hs.2.2.2 1 (by decide) rfl).1 ?_
    refine e_aload_n dX13_isAt_15 rfl ?_
    refine e_getI dX13_isAt_16 rfl rfl hs.1 hs.2.1 ?_
    obtain ⟨hc, h⟩ := p_ok_some h
    refine e_bald dX13_isAt_19 (Nat.lt_trans (hs.2.2.2 1 (by decide) rfl).2.2.2 hs.2.2.1) (hs.2.2.2 1 (by decide) rfl).2.1 (hs.2.2.2 1 (by decide) rfl).2.2.1 (hs.2.2.2 1 (by decide) rfl).2.2.2 hc ?_
    refine e_iload_n dX13_isAt_20 rfl ?_
    refine e_ic_lt dX13_isAt_21 41 (by decide) (fun hc => ?_) (fun hc => ?_)
    · rw [if_pos hc] at h
      exact E_X13_isAt_c41 hs h hQ
    · rw [if_neg hc] at h
      refine e_aload_n dX13_isAt_24 rfl ?_
      refine e_getR dX13_isAt_25 rfl rfl hs.1 hs.2.1 (hs.2.2.2 1 (by decide) rfl).1 ?_
      refine e_aload_n dX13_isAt_28 rfl ?_
      refine e_getI dX13_isAt_29 rfl rfl hs.1 hs.2.1 ?_
      obtain ⟨hc, h⟩ := p_ok_some h
      refine e_bald dX13_isAt_32 (Nat.lt_trans (hs.2.2.2 1 (by decide) rfl).2.2.2 hs.2.2.1) (hs.2.2.2 1 (by decide) rfl).2.1 (hs.2.2.2 1 (by decide) rfl).2.2.1 (hs.2.2.2 1 (by decide) rfl).2.2.2 hc ?_
      refine e_iload_n dX13_isAt_33 rfl ?_
      refine e_ic_gt dX13_isAt_34 41 (by decide) (fun hc => ?_) (fun hc => ?_)
      · rw [if_pos hc] at h
        exact E_X13_isAt_c41 hs h hQ
      · rw [if_neg hc] at h
        refine e_iconst (v := (1 : Int32)) dX13_isAt_37 rfl ?_
        refine e_goto dX13_isAt_38 42 (by decide) ?_
        exact E_X13_isAt_c42 hs h hQ
/-! X13_blanks -/
def F_X13_blanks_c0 : Nat → p_M → Option (Int32 × p_M)
  | 0, _ => none
  | n + 1, μ =>
    (F_X13_isAt (32 : Int32) (32 : Int32) μ).bind fun q1 =>
    if q1.1 = 0
    then (some (0, (sI q1.2 tM 5 (mI q1.2 tM 3))))
    else (F_X13_blanks_c0 n (sI q1.2 tM 3 ((mI q1.2 tM 3) + (1 : Int32))))
theorem P_X13_blanks_c0 : ∀ (n : Nat) (μ : p_M) (r : Int32 × p_M), F_X13_blanks_c0 n μ = some r → Sm μ r.2 := by
  intro n
  induction n with
  | zero => intro μ r h; rw [F_X13_blanks_c0] at h; cases h
  | succ n ih =>
    intro μ r h
    rw [F_X13_blanks_c0] at h
    obtain ⟨q1, hq1, h⟩ := p_bd h
    by_cases hc : q1.1 = 0
    · rw [if_pos hc] at h
      cases h
      exact (Sm_set (Sm_trans (Sm_refl μ) (P_X13_isAt hq1)) (by decide))
    · rw [if_neg hc] at h
      exact Sm_trans (Sm_set (Sm_trans (Sm_refl μ) (P_X13_isAt hq1)) (by decide)) (ih _ _ h)
theorem E_X13_blanks_c0 {X : p_X} {d : Nat} {Q : p_R → Prop} : ∀ (n : Nat) (μ : p_M) (r : Int32 × p_M), ShM μ → F_X13_blanks_c0 n μ = some r → Q ((0, none), r.2) → p_Ev X (d + 1) M_X13_blanks 0 [.ref tM] [] μ Q := by
  intro n
  induction n with
  | zero => intro μ r hs h hQ; rw [F_X13_blanks_c0] at h; cases h
  | succ n ih =>
    intro μ r hs h hQ
    rw [F_X13_blanks_c0] at h
    refine e_aload_n dX13_blanks_0 rfl ?_
    refine e_bipush (v := (32 : Int32)) dX13_blanks_1 rfl ?_
    refine e_bipush (v := (32 : Int32)) dX13_blanks_3 rfl ?_
    obtain ⟨q1, hq1, h⟩ := p_bd h
    refine e_cV dX13_blanks_5 rfl rfl ⟨rfl, rfl, by decide⟩ rfl hs.1 hs.2.1 (E_X13_isAt hs hq1 ⟨rfl, ?_⟩)
    have hs := ShM_of (P_X13_isAt hq1) hs
    show p_Ev X (d + 1) M_X13_blanks 8 [.ref tM] [.int q1.1] q1.2 Q
    refine e_if_eq dX13_blanks_8 24 (by decide) (fun hc => ?_) (fun hc => ?_)
    · rw [if_pos hc] at h
      refine e_aload_n dX13_blanks_24 rfl ?_
      refine e_aload_n dX13_blanks_25 rfl ?_
      refine e_getI dX13_blanks_26 rfl rfl hs.1 hs.2.1 ?_
      refine e_putI dX13_blanks_29 rfl ⟨rfl, rfl, fun h => by cases h⟩ (fun h => by cases h) hs.1 hs.2.1 ?_
      cases h
      exact e_vret dX13_blanks_32 rfl hQ
    · rw [if_neg hc] at h
      refine e_aload_n dX13_blanks_11 rfl ?_
      refine e_dupR dX13_blanks_12 ?_
      refine e_getI dX13_blanks_13 rfl rfl hs.1 hs.2.1 ?_
      refine e_iconst (v := (1 : Int32)) dX13_blanks_16 rfl ?_
      refine e_iadd dX13_blanks_17 ?_
      refine e_putI dX13_blanks_18 rfl ⟨rfl, rfl, fun h => by cases h⟩ (fun h => by cases h) hs.1 hs.2.1 ?_
      refine e_goto dX13_blanks_21 0 (by decide) ?_
      exact ih _ _ hs h hQ
def F_X13_blanks (μ : p_M) : Option (Int32 × p_M) :=
  F_X13_blanks_c0 p_fu μ
theorem P_X13_blanks {μ : p_M} {r : Int32 × p_M} (h : F_X13_blanks μ = some r) : Sm μ r.2 := by
  unfold F_X13_blanks at h
  exact Sm_trans (Sm_refl μ) (P_X13_blanks_c0 p_fu _ _ h)
theorem E_X13_blanks {X : p_X} {d : Nat} {Q : p_R → Prop} {μ : p_M} {r : Int32 × p_M} (hs : ShM μ) (h : F_X13_blanks μ = some r) (hQ : Q ((0, none), r.2)) : p_Ev X (d + 1) M_X13_blanks 0 [.ref tM] [] μ Q := by
  unfold F_X13_blanks at h
  exact E_X13_blanks_c0 p_fu _ _ hs h hQ
/-! X13_word -/
def F_X13_word_c4 : Nat → p_M → Option (Int32 × p_M)
  | 0, _ => none
  | n + 1, μ =>
    (F_X13_isAt (97 : Int32) (122 : Int32) μ).bind fun q2 =>
    if q2.1 = 0
    then (some (0, q2.2))
    else (F_X13_word_c4 n (sI q2.2 tM 3 ((mI q2.2 tM 3) + (1 : Int32))))
theorem P_X13_word_c4 : ∀ (n : Nat) (μ : p_M) (r : Int32 × p_M), F_X13_word_c4 n μ = some r → Sm μ r.2 := by
  intro n
  induction n with
  | zero => intro μ r h; rw [F_X13_word_c4] at h; cases h
  | succ n ih =>
    intro μ r h
    rw [F_X13_word_c4] at h
    obtain ⟨q2, hq2, h⟩ := p_bd h
    by_cases hc : q2.1 = 0
    · rw [if_pos hc] at h
      cases h
      exact (Sm_trans (Sm_refl μ) (P_X13_isAt hq2))
    · rw [if_neg hc] at h
      exact Sm_trans (Sm_set (Sm_trans (Sm_refl μ) (P_X13_isAt hq2)) (by decide)) (ih _ _ h)
theorem E_X13_word_c4 {X : p_X} {d : Nat} {Q : p_R → Prop} : ∀ (n : Nat) (μ : p_M) (r : Int32 × p_M), ShM μ → F_X13_word_c4 n μ = some r → Q ((0, none), r.2) → p_Ev X (d + 2) M_X13_word 4 [.ref tM] [] μ Q := by
  intro n
  induction n with
  | zero => intro μ r hs h hQ; rw [F_X13_word_c4] at h; cases h
  | succ n ih =>
    intro μ r hs h hQ
    rw [F_X13_word_c4] at h
    refine e_aload_n dX13_word_4 rfl ?_
    refine e_bipush (v := (97 : Int32)) dX13_word_5 rfl ?_
    refine e_bipush (v := (122 : Int32)) dX13_word_7 rfl ?_
    obtain ⟨q2, hq2, h⟩ := p_bd h
    refine e_cV dX13_word_9 rfl rfl ⟨rfl, rfl, by decide⟩ rfl hs.1 hs.2.1 (E_X13_isAt hs hq2 ⟨rfl, ?_⟩)
    have hs := ShM_of (P_X13_isAt hq2) hs
    show p_Ev X (d + 2) M_X13_word 12 [.ref tM] [.int q2.1] q2.2 Q
    refine e_if_eq dX13_word_12 28 (by decide) (fun hc => ?_) (fun hc => ?_)
    · rw [if_pos hc] at h
      cases h
      exact e_vret dX13_word_28 rfl hQ
    · rw [if_neg hc] at h
      refine e_aload_n dX13_word_15 rfl ?_
      refine e_dupR dX13_word_16 ?_
      refine e_getI dX13_word_17 rfl rfl hs.1 hs.2.1 ?_
      refine e_iconst (v := (1 : Int32)) dX13_word_20 rfl ?_
      refine e_iadd dX13_word_21 ?_
      refine e_putI dX13_word_22 rfl ⟨rfl, rfl, fun h => by cases h⟩ (fun h => by cases h) hs.1 hs.2.1 ?_
      refine e_goto dX13_word_25 4 (by decide) ?_
      exact ih _ _ hs h hQ
def F_X13_word (μ : p_M) : Option (Int32 × p_M) :=
  (F_X13_blanks μ).bind fun q1 =>
  F_X13_word_c4 p_fu q1.2
theorem P_X13_word {μ : p_M} {r : Int32 × p_M} (h : F_X13_word μ = some r) : Sm μ r.2 := by
  unfold F_X13_word at h
  obtain ⟨q1, hq1, h⟩ := p_bd h
  exact Sm_trans (Sm_trans (Sm_refl μ) (P_X13_blanks hq1)) (P_X13_word_c4 p_fu _ _ h)
theorem E_X13_word {X : p_X} {d : Nat} {Q : p_R → Prop} {μ : p_M} {r : Int32 × p_M} (hs : ShM μ) (h : F_X13_word μ = some r) (hQ : Q ((0, none), r.2)) : p_Ev X (d + 2) M_X13_word 0 [.ref tM] [] μ Q := by
  unfold F_X13_word at h
  refine e_aload_n dX13_word_0 rfl ?_
  obtain ⟨q1, hq1, h⟩ := p_bd h
  refine e_cV dX13_word_1 rfl rfl ⟨rfl, rfl, by decide⟩ rfl hs.1 hs.2.1 (E_X13_blanks hs hq1 ⟨rfl, ?_⟩)
  have hs := ShM_of (P_X13_blanks hq1) hs
  show p_Ev X (d + 2) M_X13_word 4 [.ref tM] [] q1.2 Q
  exact E_X13_word_c4 p_fu _ _ hs h hQ
/-! X13_readBath -/
def F_X13_readBath (μ : p_M) : Option (Int32 × p_M) :=
  (F_X13_word μ).bind fun q1 =>
  (F_X13_bathOf q1.2).bind fun q2 =>
  some (q2.1, q2.2)
theorem P_X13_readBath {μ : p_M} {r : Int32 × p_M} (h : F_X13_readBath μ = some r) : Sm μ r.2 := by
  unfold F_X13_readBath at h
  obtain ⟨q1, hq1, h⟩ := p_bd h
  obtain ⟨q2, hq2, h⟩ := p_bd h
  cases h
  exact (Sm_trans (Sm_trans (Sm_refl μ) (P_X13_word hq1)) (P_X13_bathOf hq2))
theorem E_X13_readBath {X : p_X} {d : Nat} {Q : p_R → Prop} {μ : p_M} {r : Int32 × p_M} (hs : ShM μ) (h : F_X13_readBath μ = some r) (hQ : Q ((0, some (.int r.1)), r.2)) : p_Ev X (d + 3) M_X13_readBath 0 [.ref tM] [] μ Q := by
  unfold F_X13_readBath at h
  refine e_aload_n dX13_readBath_0 rfl ?_
  obtain ⟨q1, hq1, h⟩ := p_bd h
  refine e_cV dX13_readBath_1 rfl rfl ⟨rfl, rfl, by decide⟩ rfl hs.1 hs.2.1 (E_X13_word hs hq1 ⟨rfl, ?_⟩)
  have hs := ShM_of (P_X13_word hq1) hs
  show p_Ev X (d + 3) M_X13_readBath 4 [.ref tM] [] q1.2 Q
  refine e_aload_n dX13_readBath_4 rfl ?_
  obtain ⟨q2, hq2, h⟩ := p_bd h
  refine e_cV dX13_readBath_5 rfl rfl ⟨rfl, rfl, by decide⟩ rfl hs.1 hs.2.1 (E_X13_bathOf hs hq2 ⟨rfl, ?_⟩)
  have hs := ShM_of (P_X13_bathOf hq2) hs
  show p_Ev X (d + 3) M_X13_readBath 8 [.ref tM] [.int q2.1] q2.2 Q
  cases h
  exact e_ireti dX13_readBath_8 rfl hQ
/-! X13_number -/
def F_X13_number_c54 (K7 : Int32 → Int32 → Int32 → Int32 → p_M → Option (Int32 × p_M)) (v1 : Int32) (v2 : Int32) (v3 : Int32) (s0 : Int32) (μ : p_M) : Option (Int32 × p_M) :=
  K7 v1 v2 v3 s0 (sI μ tM 3 ((mI μ tM 3) + (1 : Int32)))
theorem P_X13_number_c54 {K7 : Int32 → Int32 → Int32 → Int32 → p_M → Option (Int32 × p_M)} (hP7 : ∀ (v1 : Int32) (v2 : Int32) (v3 : Int32) (v4 : Int32) (μ : p_M) (r : Int32 × p_M), K7 v1 v2 v3 v4 μ = some r → Sm μ r.2) {v1 : Int32} {v2 : Int32} {v3 : Int32} {s0 : Int32} {μ : p_M} {r : Int32 × p_M} (h : F_X13_number_c54 K7 v1 v2 v3 s0 μ = some r) : Sm μ r.2 := by
  unfold F_X13_number_c54 at h
  exact Sm_trans (Sm_set (Sm_refl μ) (by decide)) (hP7 _ _ _ _ _ _ h)
theorem E_X13_number_c54 {X : p_X} {d : Nat} {Q : p_R → Prop} {K7 : Int32 → Int32 → Int32 → Int32 → p_M → Option (Int32 × p_M)} (hK7 : ∀ (v1 : Int32) (v2 : Int32) (v3 : Int32) (v4 : Int32) (μ : p_M) (r : Int32 × p_M), ShM μ → K7 v1 v2 v3 v4 μ = some r → Q ((0, some (.int r.1)), r.2) → p_Ev X (d + 2) M_X13_number 7 [.ref tM, .int v1, .int v2, .int v3, .int v4] [] μ Q) {v1 : Int32} {v2 : Int32} {v3 : Int32} {s0 : Int32} {w4 : Value} {μ : p_M} {r : Int32 × p_M} (hs : ShM μ) (h : F_X13_number_c54 K7 v1 v2 v3 s0 μ = some r) (hQ : Q ((0, some (.int r.1)), r.2)) : p_Ev X (d + 2) M_X13_number 54 [.ref tM, .int v1, .int v2, .int v3, w4] [.int s0] μ Q := by
  unfold F_X13_number_c54 at h
  refine e_istore dX13_number_54 (by decide) rfl ?_
  refine e_aload_n dX13_number_56 rfl ?_
  refine e_dupR dX13_number_57 ?_
  refine e_getI dX13_number_58 rfl rfl hs.1 hs.2.1 ?_
  refine e_iconst (v := (1 : Int32)) dX13_number_61 rfl ?_
  refine e_iadd dX13_number_62 ?_
  refine e_putI dX13_number_63 rfl ⟨rfl, rfl, fun h => by cases h⟩ (fun h => by cases h) hs.1 hs.2.1 ?_
  refine e_goto dX13_number_66 7 (by decide) ?_
  exact hK7 _ _ _ _ _ _ hs h hQ
def F_X13_number_c111 (s0 : Int32) (μ : p_M) : Option (Int32 × p_M) :=
  some (s0, μ)
theorem P_X13_number_c111 {s0 : Int32} {μ : p_M} {r : Int32 × p_M} (h : F_X13_number_c111 s0 μ = some r) : Sm μ r.2 := by
  unfold F_X13_number_c111 at h
  cases h
  exact (Sm_refl μ)
theorem E_X13_number_c111 {X : p_X} {d : Nat} {Q : p_R → Prop} {s0 : Int32} {w0 : Value} {w1 : Value} {w2 : Value} {w3 : Value} {w4 : Value} {μ : p_M} {r : Int32 × p_M} (hs : ShM μ) (h : F_X13_number_c111 s0 μ = some r) (hQ : Q ((0, some (.int r.1)), r.2)) : p_Ev X (d + 2) M_X13_number 111 [w0, w1, w2, w3, w4] [.int s0] μ Q := by
  unfold F_X13_number_c111 at h
  cases h
  exact e_ireti dX13_number_111 rfl hQ
def F_X13_number_c105 (μ : p_M) : Option (Int32 × p_M) :=
  F_X13_number_c111 (-1) μ
theorem P_X13_number_c105 {μ : p_M} {r : Int32 × p_M} (h : F_X13_number_c105 μ = some r) : Sm μ r.2 := by
  unfold F_X13_number_c105 at h
  exact Sm_trans (Sm_refl μ) (P_X13_number_c111 h)
theorem E_X13_number_c105 {X : p_X} {d : Nat} {Q : p_R → Prop} {w0 : Value} {w1 : Value} {w2 : Value} {w3 : Value} {w4 : Value} {μ : p_M} {r : Int32 × p_M} (hs : ShM μ) (h : F_X13_number_c105 μ = some r) (hQ : Q ((0, some (.int r.1)), r.2)) : p_Ev X (d + 2) M_X13_number 105 [w0, w1, w2, w3, w4] [] μ Q := by
  unfold F_X13_number_c105 at h
  refine e_iconst (v := (-1)) dX13_number_105 rfl ?_
  refine e_goto dX13_number_106 111 (by decide) ?_
  exact E_X13_number_c111 hs h hQ
def F_X13_number_c7 : Nat → Int32 → Int32 → Int32 → Int32 → p_M → Option (Int32 × p_M)
  | 0, _, _, _, _, _ => none
  | n + 1, v1, v2, v3, v4, μ =>
    (F_X13_isAt (48 : Int32) (57 : Int32) μ).bind fun q2 =>
    if q2.1 = 0
    then (if (mI q2.2 tM 3) = (mI q2.2 tM 5)
      then (F_X13_number_c105 q2.2)
      else (if v1 < ((mI q2.2 tM 3) - (mI q2.2 tM 5))
        then (F_X13_number_c105 q2.2)
        else (if v4 < v2
          then (F_X13_number_c105 q2.2)
          else (if v4 ≤ v3
            then (F_X13_number_c111 v4 q2.2)
            else (F_X13_number_c105 q2.2)))))
    else (if v1 ≤ ((mI q2.2 tM 3) - (mI q2.2 tM 5))
      then (F_X13_number_c54 (F_X13_number_c7 n) v1 v2 v3 v4 q2.2)
      else (p_ok (¬ (mI q2.2 tM 3) < 0 ∧ (mI q2.2 tM 3).toNatClampNeg < 400)
        (F_X13_number_c54 (F_X13_number_c7 n) v1 v2 v3 ((((10 : Int32) * v4) + (mI q2.2 (aM 1) (mI q2.2 tM 3).toNatClampNeg)) - (48 : Int32)) q2.2)))
theorem P_X13_number_c7 : ∀ (n : Nat) (v1 : Int32) (v2 : Int32) (v3 : Int32) (v4 : Int32) (μ : p_M) (r : Int32 × p_M), F_X13_number_c7 n v1 v2 v3 v4 μ = some r → Sm μ r.2 := by
  intro n
  induction n with
  | zero => intro v1 v2 v3 v4 μ r h; rw [F_X13_number_c7] at h; cases h
  | succ n ih =>
    intro v1 v2 v3 v4 μ r h
    rw [F_X13_number_c7] at h
    obtain ⟨q2, hq2, h⟩ := p_bd h
    by_cases hc : q2.1 = 0
    · rw [if_pos hc] at h
      by_cases hc : (mI q2.2 tM 3) = (mI q2.2 tM 5)
      · rw [if_pos hc] at h
        exact Sm_trans (Sm_trans (Sm_refl μ) (P_X13_isAt hq2)) (P_X13_number_c105 h)
      · rw [if_neg hc] at h
        by_cases hc : v1 < ((mI q2.2 tM 3) - (mI q2.2 tM 5))
        · rw [if_pos hc] at h
          exact Sm_trans (Sm_trans (Sm_refl μ) (P_X13_isAt hq2)) (P_X13_number_c105 h)
        · rw [if_neg hc] at h
          by_cases hc : v4 < v2
          · rw [if_pos hc] at h
            exact Sm_trans (Sm_trans (Sm_refl μ) (P_X13_isAt hq2)) (P_X13_number_c105 h)
          · rw [if_neg hc] at h
            by_cases hc : v4 ≤ v3
            · rw [if_pos hc] at h
              exact Sm_trans (Sm_trans (Sm_refl μ) (P_X13_isAt hq2)) (P_X13_number_c111 h)
            · rw [if_neg hc] at h
              exact Sm_trans (Sm_trans (Sm_refl μ) (P_X13_isAt hq2)) (P_X13_number_c105 h)
    · rw [if_neg hc] at h
      by_cases hc : v1 ≤ ((mI q2.2 tM 3) - (mI q2.2 tM 5))
      · rw [if_pos hc] at h
        exact Sm_trans (Sm_trans (Sm_refl μ) (P_X13_isAt hq2)) (P_X13_number_c54 ih h)
      · rw [if_neg hc] at h
        obtain ⟨hc, h⟩ := p_ok_some h
        exact Sm_trans (Sm_trans (Sm_refl μ) (P_X13_isAt hq2)) (P_X13_number_c54 ih h)
theorem E_X13_number_c7 {X : p_X} {d : Nat} {Q : p_R → Prop} : ∀ (n : Nat) (v1 : Int32) (v2 : Int32) (v3 : Int32) (v4 : Int32) (μ : p_M) (r : Int32 × p_M), ShM μ → F_X13_number_c7 n v1 v2 v3 v4 μ = some r → Q ((0, some (.int r.1)), r.2) → p_Ev X (d + 2) M_X13_number 7 [.ref tM, .int v1, .int v2, .int v3, .int v4] [] μ Q := by
  intro n
  induction n with
  | zero => intro v1 v2 v3 v4 μ r hs h hQ; rw [F_X13_number_c7] at h; cases h
  | succ n ih =>
    intro v1 v2 v3 v4 μ r hs h hQ
    rw [F_X13_number_c7] at h
    refine e_aload_n dX13_number_7 rfl ?_
    refine e_bipush (v := (48 : Int32)) dX13_number_8 rfl ?_
    refine e_bipush (v := (57 : Int32)) dX13_number_10 rfl ?_
    obtain ⟨q2, hq2, h⟩ := p_bd h
    refine e_cV dX13_number_12 rfl rfl ⟨rfl, rfl, by decide⟩ rfl hs.1 hs.2.1 (E_X13_isAt hs hq2 ⟨rfl, ?_⟩)
    have hs := ShM_of (P_X13_isAt hq2) hs
    show p_Ev X (d + 2) M_X13_number 15 [.ref tM, .int v1, .int v2, .int v3, .int v4] [.int q2.1] q2.2 Q
    refine e_if_eq dX13_number_15 69 (by decide) (fun hc => ?_) (fun hc => ?_)
    · rw [if_pos hc] at h
      refine e_aload_n dX13_number_69 rfl ?_
      refine e_getI dX13_number_70 rfl rfl hs.1 hs.2.1 ?_
      refine e_aload_n dX13_number_73 rfl ?_
      refine e_getI dX13_number_74 rfl rfl hs.1 hs.2.1 ?_
      refine e_ic_eq dX13_number_77 105 (by decide) (fun hc => ?_) (fun hc => ?_)
      · rw [if_pos hc] at h
        exact E_X13_number_c105 hs h hQ
      · rw [if_neg hc] at h
        refine e_aload_n dX13_number_80 rfl ?_
        refine e_getI dX13_number_81 rfl rfl hs.1 hs.2.1 ?_
        refine e_aload_n dX13_number_84 rfl ?_
        refine e_getI dX13_number_85 rfl rfl hs.1 hs.2.1 ?_
        refine e_isub dX13_number_88 ?_
        refine e_iload_n dX13_number_89 rfl ?_
        refine e_ic_gt dX13_number_90 105 (by decide) (fun hc => ?_) (fun hc => ?_)
        · rw [if_pos hc] at h
          exact E_X13_number_c105 hs h hQ
        · rw [if_neg hc] at h
          refine e_iload dX13_number_93 rfl ?_
          refine e_iload_n dX13_number_95 rfl ?_
          refine e_ic_lt dX13_number_96 105 (by decide) (fun hc => ?_) (fun hc => ?_)
          · rw [if_pos hc] at h
            exact E_X13_number_c105 hs h hQ
          · rw [if_neg hc] at h
            refine e_iload dX13_number_99 rfl ?_
            refine e_iload_n dX13_number_101 rfl ?_
            refine e_ic_le dX13_number_102 109 (by decide) (fun hc => ?_) (fun hc => ?_)
            · rw [if_pos hc] at h
              refine e_iload dX13_number_109 rfl ?_
              exact E_X13_number_c111 hs h hQ
            · rw [if_neg hc] at h
              exact E_X13_number_c105 hs h hQ
    · rw [if_neg hc] at h
      refine e_aload_n dX13_number_18 rfl ?_
      refine e_getI dX13_number_19 rfl rfl hs.1 hs.2.1 ?_
      refine e_aload_n dX13_number_22 rfl ?_
      refine e_getI dX13_number_23 rfl rfl hs.1 hs.2.1 ?_
      refine e_isub dX13_number_26 ?_
      refine e_iload_n dX13_number_27 rfl ?_
      refine e_ic_ge dX13_number_28 52 (by decide) (fun hc => ?_) (fun hc => ?_)
      · rw [if_pos hc] at h
        refine e_iload dX13_number_52 rfl ?_
        exact E_X13_number_c54 ih hs h hQ
      · rw [if_neg hc] at h
        refine e_bipush (v := (10 : Int32)) dX13_number_31 rfl ?_
        refine e_iload dX13_number_33 rfl ?_
        refine e_imul dX13_number_35 ?_
        refine e_aload_n dX13_number_36 rfl ?_
        refine e_getR dX13_number_37 rfl rfl hs.1 hs.2.1 (hs.2.2.2 1 (by decide) rfl).1 ?_
        refine e_aload_n dX13_number_40 rfl ?_
        refine e_getI dX13_number_41 rfl rfl hs.1 hs.2.1 ?_
        obtain ⟨hc, h⟩ := p_ok_some h
        refine e_bald dX13_number_44 (Nat.lt_trans (hs.2.2.2 1 (by decide) rfl).2.2.2 hs.2.2.1) (hs.2.2.2 1 (by decide) rfl).2.1 (hs.2.2.2 1 (by decide) rfl).2.2.1 (hs.2.2.2 1 (by decide) rfl).2.2.2 hc ?_
        refine e_iadd dX13_number_45 ?_
        refine e_bipush (v := (48 : Int32)) dX13_number_46 rfl ?_
        refine e_isub dX13_number_48 ?_
        refine e_goto dX13_number_49 54 (by decide) ?_
        exact E_X13_number_c54 ih hs h hQ
def F_X13_number (v1 : Int32) (v2 : Int32) (v3 : Int32) (μ : p_M) : Option (Int32 × p_M) :=
  (F_X13_blanks μ).bind fun q1 =>
  F_X13_number_c7 p_fu v1 v2 v3 (0 : Int32) q1.2
theorem P_X13_number {v1 : Int32} {v2 : Int32} {v3 : Int32} {μ : p_M} {r : Int32 × p_M} (h : F_X13_number v1 v2 v3 μ = some r) : Sm μ r.2 := by
  unfold F_X13_number at h
  obtain ⟨q1, hq1, h⟩ := p_bd h
  exact Sm_trans (Sm_trans (Sm_refl μ) (P_X13_blanks hq1)) (P_X13_number_c7 p_fu _ _ _ _ _ _ h)
theorem E_X13_number {X : p_X} {d : Nat} {Q : p_R → Prop} {v1 : Int32} {v2 : Int32} {v3 : Int32} {μ : p_M} {r : Int32 × p_M} (hs : ShM μ) (h : F_X13_number v1 v2 v3 μ = some r) (hQ : Q ((0, some (.int r.1)), r.2)) : p_Ev X (d + 2) M_X13_number 0 [.ref tM, .int v1, .int v2, .int v3, .double 0] [] μ Q := by
  unfold F_X13_number at h
  refine e_aload_n dX13_number_0 rfl ?_
  obtain ⟨q1, hq1, h⟩ := p_bd h
  refine e_cV dX13_number_1 rfl rfl ⟨rfl, rfl, by decide⟩ rfl hs.1 hs.2.1 (E_X13_blanks hs hq1 ⟨rfl, ?_⟩)
  have hs := ShM_of (P_X13_blanks hq1) hs
  show p_Ev X (d + 2) M_X13_number 4 [.ref tM, .int v1, .int v2, .int v3, .double 0] [] q1.2 Q
  refine e_iconst (v := (0 : Int32)) dX13_number_4 rfl ?_
  refine e_istore dX13_number_5 (by decide) rfl ?_
  exact E_X13_number_c7 p_fu _ _ _ _ _ _ hs h hQ
