/-! X13_noCloth -/
def F_X13_noCloth_c19 (s0 : Int32) (μ : p_M) : Option (Int32 × p_M) :=
  p_ok (s0 = 0 ∨ s0 = 1) (some (s0, μ))
theorem P_X13_noCloth_c19 {s0 : Int32} {μ : p_M} {r : Int32 × p_M} (h : F_X13_noCloth_c19 s0 μ = some r) : Sm μ r.2 := by
  unfold F_X13_noCloth_c19 at h
  obtain ⟨hc, h⟩ := p_ok_some h
  cases h
  exact (Sm_refl μ)
theorem E_X13_noCloth_c19 {X : p_X} {d : Nat} {Q : p_R → Prop} {s0 : Int32} {w0 : Value} {w1 : Value} {μ : p_M} {r : Int32 × p_M} (hs : ShM μ) (h : F_X13_noCloth_c19 s0 μ = some r) (hQ : Q ((0, some (.int r.1)), r.2)) : p_Ev X (d + 1) M_X13_noCloth 19 [w0, w1] [.int s0] μ Q := by
  unfold F_X13_noCloth_c19 at h
  obtain ⟨hc, h⟩ := p_ok_some h
  cases h
  exact e_iretz dX13_noCloth_19 rfl hc hQ
def F_X13_noCloth (v1 : Int32) (μ : p_M) : Option (Int32 × p_M) :=
  (F_X13_in v1 (0 : Int32) ((mI μ tM 14) - (1 : Int32)) μ).bind fun q1 =>
  if ¬ q1.1 = 0
  then (F_X13_noCloth_c19 (0 : Int32) q1.2)
  else (F_X13_noCloth_c19 (1 : Int32) q1.2)
theorem P_X13_noCloth {v1 : Int32} {μ : p_M} {r : Int32 × p_M} (h : F_X13_noCloth v1 μ = some r) : Sm μ r.2 := by
  unfold F_X13_noCloth at h
  obtain ⟨q1, hq1, h⟩ := p_bd h
  by_cases hc : ¬ q1.1 = 0
  · rw [if_pos hc] at h
    exact Sm_trans (Sm_trans (Sm_refl μ) (P_X13_in (r := q1) hq1)) (P_X13_noCloth_c19 h)
  · rw [if_neg hc] at h
    exact Sm_trans (Sm_trans (Sm_refl μ) (P_X13_in (r := q1) hq1)) (P_X13_noCloth_c19 h)
theorem E_X13_noCloth {X : p_X} {d : Nat} {Q : p_R → Prop} {v1 : Int32} {μ : p_M} {r : Int32 × p_M} (hs : ShM μ) (h : F_X13_noCloth v1 μ = some r) (hQ : Q ((0, some (.int r.1)), r.2)) : p_Ev X (d + 1) M_X13_noCloth 0 [.ref tM, .int v1] [] μ Q := by
  unfold F_X13_noCloth at h
  refine e_iload_n dX13_noCloth_0 rfl ?_
  refine e_iconst (v := (0 : Int32)) dX13_noCloth_1 rfl ?_
  refine e_aload_n dX13_noCloth_2 rfl ?_
  refine e_getI dX13_noCloth_3 rfl rfl hs.1 hs.2.1 ?_
  refine e_iconst (v := (1 : Int32)) dX13_noCloth_6 rfl ?_
  refine e_isub dX13_noCloth_7 ?_
  obtain ⟨q1, hq1, h⟩ := p_bd h
  refine e_cS dX13_noCloth_8 rfl rfl rfl rfl (E_X13_in hs hq1 ⟨rfl, ?_⟩)
  have hs := ShM_of (P_X13_in hq1) hs
  show p_Ev X (d + 1) M_X13_noCloth 11 [.ref tM, .int v1] [.int q1.1] q1.2 Q
  refine e_if_ne dX13_noCloth_11 18 (by decide) (fun hc => ?_) (fun hc => ?_)
  · rw [if_pos hc] at h
    refine e_iconst (v := (0 : Int32)) dX13_noCloth_18 rfl ?_
    exact E_X13_noCloth_c19 hs h hQ
  · rw [if_neg hc] at h
    refine e_iconst (v := (1 : Int32)) dX13_noCloth_14 rfl ?_
    refine e_goto dX13_noCloth_15 19 (by decide) ?_
    exact E_X13_noCloth_c19 hs h hQ
/-! X13_packsOf -/
def F_X13_packsOf_c126 (K4 : Int32 → Int32 → Int32 → p_M → Option (Int32 × p_M)) (K62 : Int32 → Int32 → Int32 → Int32 → p_M → Option (Int32 × p_M)) (v1 : Int32) (v2 : Int32) (v3 : Int32) (v4 : Int32) (s0 : Int32) (s1 : Int32) (μ : p_M) : Option (Int32 × p_M) :=
  K62 v1 v2 v3 (v4 + (1 : Int32)) (sI μ tM 75 (s1 + s0))
theorem P_X13_packsOf_c126 {K4 : Int32 → Int32 → Int32 → p_M → Option (Int32 × p_M)} {K62 : Int32 → Int32 → Int32 → Int32 → p_M → Option (Int32 × p_M)} (hP4 : ∀ (v1 : Int32) (v2 : Int32) (v3 : Int32) (μ : p_M) (r : Int32 × p_M), K4 v1 v2 v3 μ = some r → Sm μ r.2) (hP62 : ∀ (v1 : Int32) (v2 : Int32) (v3 : Int32) (v4 : Int32) (μ : p_M) (r : Int32 × p_M), K62 v1 v2 v3 v4 μ = some r → Sm μ r.2) {v1 : Int32} {v2 : Int32} {v3 : Int32} {v4 : Int32} {s0 : Int32} {s1 : Int32} {μ : p_M} {r : Int32 × p_M} (h : F_X13_packsOf_c126 K4 K62 v1 v2 v3 v4 s0 s1 μ = some r) : Sm μ r.2 := by
  unfold F_X13_packsOf_c126 at h
  exact Sm_trans (Sm_set (Sm_refl μ) (by decide)) (hP62 _ _ _ _ _ _ h)
theorem E_X13_packsOf_c126 {X : p_X} {d : Nat} {Q : p_R → Prop} {K4 : Int32 → Int32 → Int32 → p_M → Option (Int32 × p_M)} {K62 : Int32 → Int32 → Int32 → Int32 → p_M → Option (Int32 × p_M)} (hK4 : ∀ (v1 : Int32) (v2 : Int32) (v3 : Int32) (μ : p_M) (r : Int32 × p_M) (w4 : Value), ShM μ → K4 v1 v2 v3 μ = some r → Q ((0, some (.int r.1)), r.2) → p_Ev X (d + 0) M_X13_packsOf 4 [.ref tM, .int v1, .int v2, .int v3, w4] [] μ Q) (hK62 : ∀ (v1 : Int32) (v2 : Int32) (v3 : Int32) (v4 : Int32) (μ : p_M) (r : Int32 × p_M), ShM μ → K62 v1 v2 v3 v4 μ = some r → Q ((0, some (.int r.1)), r.2) → p_Ev X (d + 0) M_X13_packsOf 62 [.ref tM, .int v1, .int v2, .int v3, .int v4] [] μ Q) {v1 : Int32} {v2 : Int32} {v3 : Int32} {v4 : Int32} {s0 : Int32} {s1 : Int32} {μ : p_M} {r : Int32 × p_M} (hs : ShM μ) (h : F_X13_packsOf_c126 K4 K62 v1 v2 v3 v4 s0 s1 μ = some r) (hQ : Q ((0, some (.int r.1)), r.2)) : p_Ev X (d + 0) M_X13_packsOf 126 [.ref tM, .int v1, .int v2, .int v3, .int v4] [.int s0, .int s1, .ref tM] μ Q := by
  unfold F_X13_packsOf_c126 at h
  refine e_iadd dX13_packsOf_126 ?_
  refine e_putI dX13_packsOf_127 rfl ⟨rfl, rfl, fun h => by cases h⟩ (fun h => by cases h) hs.1 hs.2.1 ?_
  refine e_iinc (v := (1 : Int32)) dX13_packsOf_130 rfl rfl rfl ?_
  refine e_goto dX13_packsOf_133 62 (by decide) ?_
  exact hK62 _ _ _ _ _ _ hs h hQ
def F_X13_packsOf_c136 (K4 : Int32 → Int32 → Int32 → p_M → Option (Int32 × p_M)) (v1 : Int32) (v2 : Int32) (v3 : Int32) (μ : p_M) : Option (Int32 × p_M) :=
  p_ok (¬ (16 : Int32) < 0 ∧ (16 : Int32).toNatClampNeg < 36)
  (K4 v1 (v2 + (1 : Int32)) (v3 + (mI μ (aM 40) (16 : Int32).toNatClampNeg)) μ)
theorem P_X13_packsOf_c136 {K4 : Int32 → Int32 → Int32 → p_M → Option (Int32 × p_M)} (hP4 : ∀ (v1 : Int32) (v2 : Int32) (v3 : Int32) (μ : p_M) (r : Int32 × p_M), K4 v1 v2 v3 μ = some r → Sm μ r.2) {v1 : Int32} {v2 : Int32} {v3 : Int32} {μ : p_M} {r : Int32 × p_M} (h : F_X13_packsOf_c136 K4 v1 v2 v3 μ = some r) : Sm μ r.2 := by
  unfold F_X13_packsOf_c136 at h
  obtain ⟨hc, h⟩ := p_ok_some h
  exact Sm_trans (Sm_refl μ) (hP4 _ _ _ _ _ h)
theorem E_X13_packsOf_c136 {X : p_X} {d : Nat} {Q : p_R → Prop} {K4 : Int32 → Int32 → Int32 → p_M → Option (Int32 × p_M)} (hK4 : ∀ (v1 : Int32) (v2 : Int32) (v3 : Int32) (μ : p_M) (r : Int32 × p_M) (w4 : Value), ShM μ → K4 v1 v2 v3 μ = some r → Q ((0, some (.int r.1)), r.2) → p_Ev X (d + 0) M_X13_packsOf 4 [.ref tM, .int v1, .int v2, .int v3, w4] [] μ Q) {v1 : Int32} {v2 : Int32} {v3 : Int32} {w4 : Value} {μ : p_M} {r : Int32 × p_M} (hs : ShM μ) (h : F_X13_packsOf_c136 K4 v1 v2 v3 μ = some r) (hQ : Q ((0, some (.int r.1)), r.2)) : p_Ev X (d + 0) M_X13_packsOf 136 [.ref tM, .int v1, .int v2, .int v3, w4] [] μ Q := by
  unfold F_X13_packsOf_c136 at h
  refine e_iinc (v := (1 : Int32)) dX13_packsOf_136 rfl rfl rfl ?_
  refine e_iload_n dX13_packsOf_139 rfl ?_
  refine e_aload_n dX13_packsOf_140 rfl ?_
  refine e_getR dX13_packsOf_141 rfl rfl hs.1 hs.2.1 (hs.2.2.2 40 (by decide) rfl).1 ?_
  refine e_bipush (v := (16 : Int32)) dX13_packsOf_144 rfl ?_
  obtain ⟨hc, h⟩ := p_ok_some h
  refine e_iald dX13_packsOf_146 (Nat.lt_trans (hs.2.2.2 40 (by decide) rfl).2.2.2 hs.2.2.1) (hs.2.2.2 40 (by decide) rfl).2.1 (hs.2.2.2 40 (by decide) rfl).2.2.1 (hs.2.2.2 40 (by decide) rfl).2.2.2 hc ?_
  refine e_iadd dX13_packsOf_147 ?_
  refine e_istore_n dX13_packsOf_148 (Nat.le_of_ble_eq_true rfl) rfl ?_
  refine e_goto dX13_packsOf_149 4 (by decide) ?_
  exact hK4 _ _ _ _ _ _ hs h hQ
def F_X13_packsOf_c62 (K4 : Int32 → Int32 → Int32 → p_M → Option (Int32 × p_M)) : Nat → Int32 → Int32 → Int32 → Int32 → p_M → Option (Int32 × p_M)
  | 0, _, _, _, _, _ => none
  | n + 1, v1, v2, v3, v4, μ =>
    p_ok (¬ (16 : Int32) < 0 ∧ (16 : Int32).toNatClampNeg < 36)
    (if (v3 + (mI μ (aM 40) (16 : Int32).toNatClampNeg)) ≤ v4
    then (F_X13_packsOf_c136 K4 v1 v2 v3 μ)
    else (if v1 ≤ v2
      then (F_X13_packsOf_c136 K4 v1 v2 v3 μ)
      else (p_ok (¬ v4 < 0 ∧ v4.toNatClampNeg < 2400)
        (p_ok (¬ (mI μ (aM 71) v4.toNatClampNeg) < 0 ∧ (mI μ (aM 71) v4.toNatClampNeg).toNatClampNeg < 2400)
        (p_ok (¬ v4 < 0 ∧ v4.toNatClampNeg < 2400)
        (p_ok (¬ (60 : Int32) = 0)
        (p_ok (¬ ((mI (sI μ (aM 64) (mI μ (aM 71) v4.toNatClampNeg).toNatClampNeg (2 : Int32)) (aM 71) v4.toNatClampNeg) / (60 : Int32)) < 0 ∧ ((mI (sI μ (aM 64) (mI μ (aM 71) v4.toNatClampNeg).toNatClampNeg (2 : Int32)) (aM 71) v4.toNatClampNeg) / (60 : Int32)).toNatClampNeg < 40)
        (if (mI (sI μ (aM 64) (mI μ (aM 71) v4.toNatClampNeg).toNatClampNeg (2 : Int32)) tM 42) ≤ (mI (sI μ (aM 64) (mI μ (aM 71) v4.toNatClampNeg).toNatClampNeg (2 : Int32)) (aM 54) ((mI (sI μ (aM 64) (mI μ (aM 71) v4.toNatClampNeg).toNatClampNeg (2 : Int32)) (aM 71) v4.toNatClampNeg) / (60 : Int32)).toNatClampNeg)
        then (F_X13_packsOf_c126 K4 (F_X13_packsOf_c62 K4 n) v1 v2 v3 v4 (0 : Int32) (mI (sI μ (aM 64) (mI μ (aM 71) v4.toNatClampNeg).toNatClampNeg (2 : Int32)) tM 75) (sI μ (aM 64) (mI μ (aM 71) v4.toNatClampNeg).toNatClampNeg (2 : Int32)))
        else (F_X13_packsOf_c126 K4 (F_X13_packsOf_c62 K4 n) v1 v2 v3 v4 (1 : Int32) (mI (sI μ (aM 64) (mI μ (aM 71) v4.toNatClampNeg).toNatClampNeg (2 : Int32)) tM 75) (sI μ (aM 64) (mI μ (aM 71) v4.toNatClampNeg).toNatClampNeg (2 : Int32)))))))))))
theorem P_X13_packsOf_c62 {K4 : Int32 → Int32 → Int32 → p_M → Option (Int32 × p_M)} (hP4 : ∀ (v1 : Int32) (v2 : Int32) (v3 : Int32) (μ : p_M) (r : Int32 × p_M), K4 v1 v2 v3 μ = some r → Sm μ r.2) : ∀ (n : Nat) (v1 : Int32) (v2 : Int32) (v3 : Int32) (v4 : Int32) (μ : p_M) (r : Int32 × p_M), F_X13_packsOf_c62 K4 n v1 v2 v3 v4 μ = some r → Sm μ r.2 := by
  intro n
  induction n with
  | zero => intro v1 v2 v3 v4 μ r h; rw [F_X13_packsOf_c62] at h; cases h
  | succ n ih =>
    intro v1 v2 v3 v4 μ r h
    rw [F_X13_packsOf_c62] at h
    obtain ⟨hc, h⟩ := p_ok_some h
    by_cases hc : (v3 + (mI μ (aM 40) (16 : Int32).toNatClampNeg)) ≤ v4
    · rw [if_pos hc] at h
      exact Sm_trans (Sm_refl μ) (P_X13_packsOf_c136 hP4 h)
    · rw [if_neg hc] at h
      by_cases hc : v1 ≤ v2
      · rw [if_pos hc] at h
        exact Sm_trans (Sm_refl μ) (P_X13_packsOf_c136 hP4 h)
      · rw [if_neg hc] at h
        obtain ⟨hc, h⟩ := p_ok_some h
        obtain ⟨hc, h⟩ := p_ok_some h
        obtain ⟨hc, h⟩ := p_ok_some h
        obtain ⟨hc, h⟩ := p_ok_some h
        obtain ⟨hc, h⟩ := p_ok_some h
        by_cases hc : (mI (sI μ (aM 64) (mI μ (aM 71) v4.toNatClampNeg).toNatClampNeg (2 : Int32)) tM 42) ≤ (mI (sI μ (aM 64) (mI μ (aM 71) v4.toNatClampNeg).toNatClampNeg (2 : Int32)) (aM 54) ((mI (sI μ (aM 64) (mI μ (aM 71) v4.toNatClampNeg).toNatClampNeg (2 : Int32)) (aM 71) v4.toNatClampNeg) / (60 : Int32)).toNatClampNeg)
        · rw [if_pos hc] at h
          exact Sm_trans (Sm_set (Sm_refl μ) (by decide)) (P_X13_packsOf_c126 hP4 ih h)
        · rw [if_neg hc] at h
          exact Sm_trans (Sm_set (Sm_refl μ) (by decide)) (P_X13_packsOf_c126 hP4 ih h)
theorem E_X13_packsOf_c62 {X : p_X} {d : Nat} {Q : p_R → Prop} {K4 : Int32 → Int32 → Int32 → p_M → Option (Int32 × p_M)} (hK4 : ∀ (v1 : Int32) (v2 : Int32) (v3 : Int32) (μ : p_M) (r : Int32 × p_M) (w4 : Value), ShM μ → K4 v1 v2 v3 μ = some r → Q ((0, some (.int r.1)), r.2) → p_Ev X (d + 0) M_X13_packsOf 4 [.ref tM, .int v1, .int v2, .int v3, w4] [] μ Q) : ∀ (n : Nat) (v1 : Int32) (v2 : Int32) (v3 : Int32) (v4 : Int32) (μ : p_M) (r : Int32 × p_M), ShM μ → F_X13_packsOf_c62 K4 n v1 v2 v3 v4 μ = some r → Q ((0, some (.int r.1)), r.2) → p_Ev X (d + 0) M_X13_packsOf 62 [.ref tM, .int v1, .int v2, .int v3, .int v4] [] μ Q := by
  intro n
  induction n with
  | zero => intro v1 v2 v3 v4 μ r hs h hQ; rw [F_X13_packsOf_c62] at h; cases h
  | succ n ih =>
    intro v1 v2 v3 v4 μ r hs h hQ
    rw [F_X13_packsOf_c62] at h
    refine e_iload dX13_packsOf_62 rfl ?_
    refine e_iload_n dX13_packsOf_64 rfl ?_
    refine e_aload_n dX13_packsOf_65 rfl ?_
    refine e_getR dX13_packsOf_66 rfl rfl hs.1 hs.2.1 (hs.2.2.2 40 (by decide) rfl).1 ?_
    refine e_bipush (v := (16 : Int32)) dX13_packsOf_69 rfl ?_
    obtain ⟨hc, h⟩ := p_ok_some h
    refine e_iald dX13_packsOf_71 (Nat.lt_trans (hs.2.2.2 40 (by decide) rfl).2.2.2 hs.2.2.1) (hs.2.2.2 40 (by decide) rfl).2.1 (hs.2.2.2 40 (by decide) rfl).2.2.1 (hs.2.2.2 40 (by decide) rfl).2.2.2 hc ?_
    refine e_iadd dX13_packsOf_72 ?_
    refine e_ic_ge dX13_packsOf_73 136 (by decide) (fun hc => ?_) (fun hc => ?_)
    · rw [if_pos hc] at h
      exact E_X13_packsOf_c136 hK4 hs h hQ
    · rw [if_neg hc] at h
      refine e_iload_n dX13_packsOf_76 rfl ?_
      refine e_iload_n dX13_packsOf_77 rfl ?_
      refine e_ic_ge dX13_packsOf_78 136 (by decide) (fun hc => ?_) (fun hc => ?_)
      · rw [if_pos hc] at h
        exact E_X13_packsOf_c136 hK4 hs h hQ
      · rw [if_neg hc] at h
        refine e_aload_n dX13_packsOf_81 rfl ?_
        refine e_getR dX13_packsOf_82 rfl rfl hs.1 hs.2.1 (hs.2.2.2 64 (by decide) rfl).1 ?_
        refine e_aload_n dX13_packsOf_85 rfl ?_
        refine e_getR dX13_packsOf_86 rfl rfl hs.1 hs.2.1 (hs.2.2.2 71 (by decide) rfl).1 ?_
        refine e_iload dX13_packsOf_89 rfl ?_
        obtain ⟨hc, h⟩ := p_ok_some h
        refine e_iald dX13_packsOf_91 (Nat.lt_trans (hs.2.2.2 71 (by decide) rfl).2.2.2 hs.2.2.1) (hs.2.2.2 71 (by decide) rfl).2.1 (hs.2.2.2 71 (by decide) rfl).2.2.1 (hs.2.2.2 71 (by decide) rfl).2.2.2 hc ?_
        refine e_iconst (v := (2 : Int32)) dX13_packsOf_92 rfl ?_
        obtain ⟨hc, h⟩ := p_ok_some h
        refine e_iast dX13_packsOf_93 (hs.2.2.2 64 (by decide) rfl).2.1 (hs.2.2.2 64 (by decide) rfl).2.2.1 (hs.2.2.2 64 (by decide) rfl).2.2.2 hc ?_
        refine e_aload_n dX13_packsOf_94 rfl ?_
        refine e_dupR dX13_packsOf_95 ?_
        refine e_getI dX13_packsOf_96 rfl rfl hs.1 hs.2.1 ?_
        refine e_aload_n dX13_packsOf_99 rfl ?_
        refine e_getI dX13_packsOf_100 rfl rfl hs.1 hs.2.1 ?_
        refine e_aload_n dX13_packsOf_103 rfl ?_
        refine e_getR dX13_packsOf_104 rfl rfl hs.1 hs.2.1 (hs.2.2.2 54 (by decide) rfl).1 ?_
        refine e_aload_n dX13_packsOf_107 rfl ?_
        refine e_getR dX13_packsOf_108 rfl rfl hs.1 hs.2.1 (hs.2.2.2 71 (by decide) rfl).1 ?_
        refine e_iload dX13_packsOf_111 rfl ?_
        obtain ⟨hc, h⟩ := p_ok_some h
        refine e_iald dX13_packsOf_113 (Nat.lt_trans (hs.2.2.2 71 (by decide) rfl).2.2.2 hs.2.2.1) (hs.2.2.2 71 (by decide) rfl).2.1 (hs.2.2.2 71 (by decide) rfl).2.2.1 (hs.2.2.2 71 (by decide) rfl).2.2.2 hc ?_
        refine e_bipush (v := (60 : Int32)) dX13_packsOf_114 rfl ?_
        obtain ⟨hc, h⟩ := p_ok_some h
        refine e_idiv dX13_packsOf_116 hc ?_
        obtain ⟨hc, h⟩ := p_ok_some h
        refine e_iald dX13_packsOf_117 (Nat.lt_trans (hs.2.2.2 54 (by decide) rfl).2.2.2 hs.2.2.1) (hs.2.2.2 54 (by decide) rfl).2.1 (hs.2.2.2 54 (by decide) rfl).2.2.1 (hs.2.2.2 54 (by decide) rfl).2.2.2 hc ?_
        refine e_ic_le dX13_packsOf_118 125 (by decide) (fun hc => ?_) (fun hc => ?_)
        · rw [if_pos hc] at h
          refine e_iconst (v := (0 : Int32)) dX13_packsOf_125 rfl ?_
          exact E_X13_packsOf_c126 hK4 ih hs h hQ
        · rw [if_neg hc] at h
          refine e_iconst (v := (1 : Int32)) dX13_packsOf_121 rfl ?_
          refine e_goto dX13_packsOf_122 126 (by decide) ?_
          exact E_X13_packsOf_c126 hK4 ih hs h hQ
def F_X13_packsOf_c4 : Nat → Int32 → Int32 → Int32 → p_M → Option (Int32 × p_M)
  | 0, _, _, _, _ => none
  | n + 1, v1, v2, v3, μ =>
    p_ok (¬ (16 : Int32) < 0 ∧ (16 : Int32).toNatClampNeg < 36)
    (if (mI μ tM 73) < (v3 + (mI μ (aM 40) (16 : Int32).toNatClampNeg))
    then (some (v2, μ))
    else (p_ok (¬ (16 : Int32) < 0 ∧ (16 : Int32).toNatClampNeg < 36)
      (p_ok (¬ ((v3 + (mI μ (aM 40) (16 : Int32).toNatClampNeg)) - (1 : Int32)) < 0 ∧ ((v3 + (mI μ (aM 40) (16 : Int32).toNatClampNeg)) - (1 : Int32)).toNatClampNeg < 2400)
      (p_ok (¬ v3 < 0 ∧ v3.toNatClampNeg < 2400)
      (p_ok (¬ (17 : Int32) < 0 ∧ (17 : Int32).toNatClampNeg < 36)
      (if ((mI μ (aM 72) ((v3 + (mI μ (aM 40) (16 : Int32).toNatClampNeg)) - (1 : Int32)).toNatClampNeg) - (mI μ (aM 72) v3.toNatClampNeg)) ≤ (mI μ (aM 40) (17 : Int32).toNatClampNeg)
      then (F_X13_packsOf_c62 (F_X13_packsOf_c4 n) p_fu v1 v2 v3 v3 μ)
      else (F_X13_packsOf_c4 n v1 v2 (v3 + (1 : Int32)) μ)))))))
theorem P_X13_packsOf_c4 : ∀ (n : Nat) (v1 : Int32) (v2 : Int32) (v3 : Int32) (μ : p_M) (r : Int32 × p_M), F_X13_packsOf_c4 n v1 v2 v3 μ = some r → Sm μ r.2 := by
  intro n
  induction n with
  | zero => intro v1 v2 v3 μ r h; rw [F_X13_packsOf_c4] at h; cases h
  | succ n ih =>
    intro v1 v2 v3 μ r h
    rw [F_X13_packsOf_c4] at h
    obtain ⟨hc, h⟩ := p_ok_some h
    by_cases hc : (mI μ tM 73) < (v3 + (mI μ (aM 40) (16 : Int32).toNatClampNeg))
    · rw [if_pos hc] at h
      cases h
      exact (Sm_refl μ)
    · rw [if_neg hc] at h
      obtain ⟨hc, h⟩ := p_ok_some h
      obtain ⟨hc, h⟩ := p_ok_some h
      obtain ⟨hc, h⟩ := p_ok_some h
      obtain ⟨hc, h⟩ := p_ok_some h
      by_cases hc : ((mI μ (aM 72) ((v3 + (mI μ (aM 40) (16 : Int32).toNatClampNeg)) - (1 : Int32)).toNatClampNeg) - (mI μ (aM 72) v3.toNatClampNeg)) ≤ (mI μ (aM 40) (17 : Int32).toNatClampNeg)
      · rw [if_pos hc] at h
        exact Sm_trans (Sm_refl μ) (P_X13_packsOf_c62 ih p_fu _ _ _ _ _ _ h)
      · rw [if_neg hc] at h
        exact Sm_trans (Sm_refl μ) (ih _ _ _ _ _ h)
theorem E_X13_packsOf_c4 {X : p_X} {d : Nat} {Q : p_R → Prop} : ∀ (n : Nat) (v1 : Int32) (v2 : Int32) (v3 : Int32) (μ : p_M) (r : Int32 × p_M) (w4 : Value), ShM μ → F_X13_packsOf_c4 n v1 v2 v3 μ = some r → Q ((0, some (.int r.1)), r.2) → p_Ev X (d + 0) M_X13_packsOf 4 [.ref tM, .int v1, .int v2, .int v3, w4] [] μ Q := by
  intro n
  induction n with
  | zero => intro v1 v2 v3 μ r w4 hs h hQ; rw [F_X13_packsOf_c4] at h; cases h
  | succ n ih =>
    intro v1 v2 v3 μ r w4 hs h hQ
    rw [F_X13_packsOf_c4] at h
    refine e_iload_n dX13_packsOf_4 rfl ?_
    refine e_aload_n dX13_packsOf_5 rfl ?_
    refine e_getR dX13_packsOf_6 rfl rfl hs.1 hs.2.1 (hs.2.2.2 40 (by decide) rfl).1 ?_
    refine e_bipush (v := (16 : Int32)) dX13_packsOf_9 rfl ?_
    obtain ⟨hc, h⟩ := p_ok_some h
    refine e_iald dX13_packsOf_11 (Nat.lt_trans (hs.2.2.2 40 (by decide) rfl).2.2.2 hs.2.2.1) (hs.2.2.2 40 (by decide) rfl).2.1 (hs.2.2.2 40 (by decide) rfl).2.2.1 (hs.2.2.2 40 (by decide) rfl).2.2.2 hc ?_
    refine e_iadd dX13_packsOf_12 ?_
    refine e_aload_n dX13_packsOf_13 rfl ?_
    refine e_getI dX13_packsOf_14 rfl rfl hs.1 hs.2.1 ?_
    refine e_ic_gt dX13_packsOf_17 152 (by decide) (fun hc => ?_) (fun hc => ?_)
    · rw [if_pos hc] at h
      refine e_iload_n dX13_packsOf_152 rfl ?_
      cases h
      exact e_ireti dX13_packsOf_153 rfl hQ
    · rw [if_neg hc] at h
      refine e_aload_n dX13_packsOf_20 rfl ?_
      refine e_getR dX13_packsOf_21 rfl rfl hs.1 hs.2.1 (hs.2.2.2 72 (by decide) rfl).1 ?_
      refine e_iload_n dX13_packsOf_24 rfl ?_
      refine e_aload_n dX13_packsOf_25 rfl ?_
      refine e_getR dX13_packsOf_26 rfl rfl hs.1 hs.2.1 (hs.2.2.2 40 (by decide) rfl).1 ?_
      refine e_bipush (v := (16 : Int32)) dX13_packsOf_29 rfl ?_
      obtain ⟨hc, h⟩ := p_ok_some h
      refine e_iald dX13_packsOf_31 (Nat.lt_trans (hs.2.2.2 40 (by decide) rfl).2.2.2 hs.2.2.1) (hs.2.2.2 40 (by decide) rfl).2.1 (hs.2.2.2 40 (by decide) rfl).2.2.1 (hs.2.2.2 40 (by decide) rfl).2.2.2 hc ?_
      refine e_iadd dX13_packsOf_32 ?_
      refine e_iconst (v := (1 : Int32)) dX13_packsOf_33 rfl ?_
      refine e_isub dX13_packsOf_34 ?_
      obtain ⟨hc, h⟩ := p_ok_some h
      refine e_iald dX13_packsOf_35 (Nat.lt_trans (hs.2.2.2 72 (by decide) rfl).2.2.2 hs.2.2.1) (hs.2.2.2 72 (by decide) rfl).2.1 (hs.2.2.2 72 (by decide) rfl).2.2.1 (hs.2.2.2 72 (by decide) rfl).2.2.2 hc ?_
      refine e_aload_n dX13_packsOf_36 rfl ?_
      refine e_getR dX13_packsOf_37 rfl rfl hs.1 hs.2.1 (hs.2.2.2 72 (by decide) rfl).1 ?_
      refine e_iload_n dX13_packsOf_40 rfl ?_
      obtain ⟨hc, h⟩ := p_ok_some h
      refine e_iald dX13_packsOf_41 (Nat.lt_trans (hs.2.2.2 72 (by decide) rfl).2.2.2 hs.2.2.1) (hs.2.2.2 72 (by decide) rfl).2.1 (hs.2.2.2 72 (by decide) rfl).2.2.1 (hs.2.2.2 72 (by decide) rfl).2.2.2 hc ?_
      refine e_isub dX13_packsOf_42 ?_
      refine e_aload_n dX13_packsOf_43 rfl ?_
      refine e_getR dX13_packsOf_44 rfl rfl hs.1 hs.2.1 (hs.2.2.2 40 (by decide) rfl).1 ?_
      refine e_bipush (v := (17 : Int32)) dX13_packsOf_47 rfl ?_
      obtain ⟨hc, h⟩ := p_ok_some h
      refine e_iald dX13_packsOf_49 (Nat.lt_trans (hs.2.2.2 40 (by decide) rfl).2.2.2 hs.2.2.1) (hs.2.2.2 40 (by decide) rfl).2.1 (hs.2.2.2 40 (by decide) rfl).2.2.1 (hs.2.2.2 40 (by decide) rfl).2.2.2 hc ?_
      refine e_ic_le dX13_packsOf_50 59 (by decide) (fun hc => ?_) (fun hc => ?_)
      · rw [if_pos hc] at h
        refine e_iload_n dX13_packsOf_59 rfl ?_
        refine e_istore dX13_packsOf_60 (Nat.le_of_ble_eq_true rfl) rfl ?_
        exact E_X13_packsOf_c62 ih p_fu _ _ _ _ _ _ hs h hQ
      · rw [if_neg hc] at h
        refine e_iinc (v := (1 : Int32)) dX13_packsOf_53 rfl rfl rfl ?_
        refine e_goto dX13_packsOf_56 4 (by decide) ?_
        exact ih _ _ _ _ _ _ hs h hQ
def F_X13_packsOf (v1 : Int32) (μ : p_M) : Option (Int32 × p_M) :=
  F_X13_packsOf_c4 p_fu v1 (0 : Int32) (0 : Int32) μ
theorem P_X13_packsOf {v1 : Int32} {μ : p_M} {r : Int32 × p_M} (h : F_X13_packsOf v1 μ = some r) : Sm μ r.2 := by
  unfold F_X13_packsOf at h
  exact Sm_trans (Sm_refl μ) (P_X13_packsOf_c4 p_fu _ _ _ _ _ h)
theorem E_X13_packsOf {X : p_X} {d : Nat} {Q : p_R → Prop} {v1 : Int32} {μ : p_M} {r : Int32 × p_M} (hs : ShM μ) (h : F_X13_packsOf v1 μ = some r) (hQ : Q ((0, some (.int r.1)), r.2)) : p_Ev X (d + 0) M_X13_packsOf 0 [.ref tM, .int v1, .double 0, .double 0, .double 0] [] μ Q := by
  unfold F_X13_packsOf at h
  refine e_iconst (v := (0 : Int32)) dX13_packsOf_0 rfl ?_
  refine e_istore_n dX13_packsOf_1 (Nat.le_of_ble_eq_true rfl) rfl ?_
  refine e_iconst (v := (0 : Int32)) dX13_packsOf_2 rfl ?_
  refine e_istore_n dX13_packsOf_3 (Nat.le_of_ble_eq_true rfl) rfl ?_
  exact E_X13_packsOf_c4 p_fu _ _ _ _ _ _ hs h hQ
/-! X13_deliver -/
def F_X13_deliver_c41 (μ : p_M) : Option (Int32 × p_M) :=
  some ((0 : Int32), μ)
theorem P_X13_deliver_c41 {μ : p_M} {r : Int32 × p_M} (h : F_X13_deliver_c41 μ = some r) : Sm μ r.2 := by
  unfold F_X13_deliver_c41 at h
  cases h
  exact (Sm_refl μ)
theorem E_X13_deliver_c41 {X : p_X} {d : Nat} {Q : p_R → Prop} {w0 : Value} {w1 : Value} {w2 : Value} {w3 : Value} {w4 : Value} {μ : p_M} {r : Int32 × p_M} (hs : ShM μ) (h : F_X13_deliver_c41 μ = some r) (hQ : Q ((0, some (.int r.1)), r.2)) : p_Ev X (d + 3) M_X13_deliver 41 [w0, w1, w2, w3, w4] [] μ Q := by
  unfold F_X13_deliver_c41 at h
  refine e_iconst (v := (0 : Int32)) dX13_deliver_41 rfl ?_
  cases h
  exact e_ireti dX13_deliver_42 rfl hQ
def F_X13_deliver_c34 (v1 : Int32) (v2 : Int32) (s0 : Int32) (μ : p_M) : Option (Int32 × p_M) :=
  (F_X13_throwsIf s0 (2 : Int32) μ).bind fun q4 =>
  if q4.1 = 0
  then ((F_X13_gathers v1 q4.2).bind fun q5 =>
    (F_X13_packsOf (0 : Int32) q5.2).bind fun q6 =>
    if v2 ≤ q6.1
    then ((F_X13_packsOf v2 q6.2).bind fun q7 =>
      some (((mI (sI q7.2 tM 74 ((mI q7.2 tM 74) + v2)) tM 75) - (mI q6.2 tM 75)), (sI q7.2 tM 74 ((mI q7.2 tM 74) + v2))))
    else (some ((-1), q6.2)))
  else (F_X13_deliver_c41 q4.2)
theorem P_X13_deliver_c34 {v1 : Int32} {v2 : Int32} {s0 : Int32} {μ : p_M} {r : Int32 × p_M} (h : F_X13_deliver_c34 v1 v2 s0 μ = some r) : Sm μ r.2 := by
  unfold F_X13_deliver_c34 at h
  obtain ⟨q4, hq4, h⟩ := p_bd h
  by_cases hc : q4.1 = 0
  · rw [if_pos hc] at h
    obtain ⟨q5, hq5, h⟩ := p_bd h
    obtain ⟨q6, hq6, h⟩ := p_bd h
    by_cases hc : v2 ≤ q6.1
    · rw [if_pos hc] at h
      obtain ⟨q7, hq7, h⟩ := p_bd h
      cases h
      exact (Sm_set (Sm_trans (Sm_trans (Sm_trans (Sm_trans (Sm_refl μ) (P_X13_throwsIf (r := q4) hq4)) (P_X13_gathers (r := q5) hq5)) (P_X13_packsOf (r := q6) hq6)) (P_X13_packsOf (r := q7) hq7)) (by decide))
    · rw [if_neg hc] at h
      cases h
      exact (Sm_trans (Sm_trans (Sm_trans (Sm_refl μ) (P_X13_throwsIf (r := q4) hq4)) (P_X13_gathers (r := q5) hq5)) (P_X13_packsOf (r := q6) hq6))
  · rw [if_neg hc] at h
    exact Sm_trans (Sm_trans (Sm_refl μ) (P_X13_throwsIf (r := q4) hq4)) (P_X13_deliver_c41 h)
theorem E_X13_deliver_c34 {X : p_X} {d : Nat} {Q : p_R → Prop} {v1 : Int32} {v2 : Int32} {s0 : Int32} {w3 : Value} {w4 : Value} {μ : p_M} {r : Int32 × p_M} (hs : ShM μ) (h : F_X13_deliver_c34 v1 v2 s0 μ = some r) (hQ : Q ((0, some (.int r.1)), r.2)) : p_Ev X (d + 3) M_X13_deliver 34 [.ref tM, .int v1, .int v2, w3, w4] [.int s0, .ref tM] μ Q := by
  unfold F_X13_deliver_c34 at h
  refine e_iconst (v := (2 : Int32)) dX13_deliver_34 rfl ?_
  obtain ⟨q4, hq4, h⟩ := p_bd h
  refine e_cV dX13_deliver_35 rfl rfl ⟨rfl, rfl, by decide⟩ rfl hs.1 hs.2.1 (E_X13_throwsIf hs hq4 ⟨rfl, ?_⟩)
  have hs := ShM_of (P_X13_throwsIf hq4) hs
  show p_Ev X (d + 3) M_X13_deliver 38 [.ref tM, .int v1, .int v2, w3, w4] [.int q4.1] q4.2 Q
  refine e_if_eq dX13_deliver_38 43 (by decide) (fun hc => ?_) (fun hc => ?_)
  · rw [if_pos hc] at h
    refine e_aload_n dX13_deliver_43 rfl ?_
    refine e_iload_n dX13_deliver_44 rfl ?_
    obtain ⟨q5, hq5, h⟩ := p_bd h
    refine e_cV dX13_deliver_45 rfl rfl ⟨rfl, rfl, by decide⟩ rfl hs.1 hs.2.1 (E_X13_gathers hs hq5 ⟨rfl, ?_⟩)
    have hs := ShM_of (P_X13_gathers hq5) hs
    show p_Ev X (d + 3) M_X13_deliver 48 [.ref tM, .int v1, .int v2, w3, w4] [] q5.2 Q
    refine e_aload_n dX13_deliver_48 rfl ?_
    refine e_iconst (v := (0 : Int32)) dX13_deliver_49 rfl ?_
    obtain ⟨q6, hq6, h⟩ := p_bd h
    refine e_cV dX13_deliver_50 rfl rfl ⟨rfl, rfl, by decide⟩ rfl hs.1 hs.2.1 (E_X13_packsOf hs hq6 ⟨rfl, ?_⟩)
    have hs := ShM_of (P_X13_packsOf hq6) hs
    show p_Ev X (d + 3) M_X13_deliver 53 [.ref tM, .int v1, .int v2, w3, w4] [.int q6.1] q6.2 Q
    refine e_iload_n dX13_deliver_53 rfl ?_
    refine e_ic_ge dX13_deliver_54 59 (by decide) (fun hc => ?_) (fun hc => ?_)
    · rw [if_pos hc] at h
      refine e_aload_n dX13_deliver_59 rfl ?_
      refine e_getI dX13_deliver_60 rfl rfl hs.1 hs.2.1 ?_
      refine e_istore_n dX13_deliver_63 (Nat.le_of_ble_eq_true rfl) rfl ?_
      refine e_aload_n dX13_deliver_64 rfl ?_
      refine e_iload_n dX13_deliver_65 rfl ?_
      obtain ⟨q7, hq7, h⟩ := p_bd h
      refine e_cV dX13_deliver_66 rfl rfl ⟨rfl, rfl, by decide⟩ rfl hs.1 hs.2.1 (E_X13_packsOf hs hq7 ⟨rfl, ?_⟩)
      have hs := ShM_of (P_X13_packsOf hq7) hs
      show p_Ev X (d + 3) M_X13_deliver 69 [.ref tM, .int v1, .int v2, .int (mI q6.2 tM 75), w4] [.int q7.1] q7.2 Q
      refine e_istore dX13_deliver_69 (Nat.le_of_ble_eq_true rfl) rfl ?_
      refine e_aload_n dX13_deliver_71 rfl ?_
      refine e_dupR dX13_deliver_72 ?_
      refine e_getI dX13_deliver_73 rfl rfl hs.1 hs.2.1 ?_
      refine e_iload_n dX13_deliver_76 rfl ?_
      refine e_iadd dX13_deliver_77 ?_
      refine e_putI dX13_deliver_78 rfl ⟨rfl, rfl, fun h => by cases h⟩ (fun h => by cases h) hs.1 hs.2.1 ?_
      refine e_aload_n dX13_deliver_81 rfl ?_
      refine e_getI dX13_deliver_82 rfl rfl hs.1 hs.2.1 ?_
      refine e_iload_n dX13_deliver_85 rfl ?_
      refine e_isub dX13_deliver_86 ?_
      cases h
      exact e_ireti dX13_deliver_87 rfl hQ
    · rw [if_neg hc] at h
      refine e_iconst (v := (-1)) dX13_deliver_57 rfl ?_
      cases h
      exact e_ireti dX13_deliver_58 rfl hQ
  · rw [if_neg hc] at h
    exact E_X13_deliver_c41 hs h hQ
def F_X13_deliver (v1 : Int32) (v2 : Int32) (μ : p_M) : Option (Int32 × p_M) :=
  (F_X13_noCloth v1 (sI μ tM 0 (0 : Int32))).bind fun q1 =>
  (F_X13_throwsIf q1.1 (1 : Int32) q1.2).bind fun q2 =>
  if ¬ q2.1 = 0
  then (F_X13_deliver_c41 q2.2)
  else ((F_X13_in v2 (1 : Int32) (20 : Int32) q2.2).bind fun q3 =>
    if ¬ q3.1 = 0
    then (F_X13_deliver_c34 v1 v2 (0 : Int32) q3.2)
    else (F_X13_deliver_c34 v1 v2 (1 : Int32) q3.2))
theorem P_X13_deliver {v1 : Int32} {v2 : Int32} {μ : p_M} {r : Int32 × p_M} (h : F_X13_deliver v1 v2 μ = some r) : Sm μ r.2 := by
  unfold F_X13_deliver at h
  obtain ⟨q1, hq1, h⟩ := p_bd h
  obtain ⟨q2, hq2, h⟩ := p_bd h
  by_cases hc : ¬ q2.1 = 0
  · rw [if_pos hc] at h
    exact Sm_trans (Sm_trans (Sm_trans (Sm_set (Sm_refl μ) (by decide)) (P_X13_noCloth (r := q1) hq1)) (P_X13_throwsIf (r := q2) hq2)) (P_X13_deliver_c41 h)
  · rw [if_neg hc] at h
    obtain ⟨q3, hq3, h⟩ := p_bd h
    by_cases hc : ¬ q3.1 = 0
    · rw [if_pos hc] at h
      exact Sm_trans (Sm_trans (Sm_trans (Sm_trans (Sm_set (Sm_refl μ) (by decide)) (P_X13_noCloth (r := q1) hq1)) (P_X13_throwsIf (r := q2) hq2)) (P_X13_in (r := q3) hq3)) (P_X13_deliver_c34 h)
    · rw [if_neg hc] at h
      exact Sm_trans (Sm_trans (Sm_trans (Sm_trans (Sm_set (Sm_refl μ) (by decide)) (P_X13_noCloth (r := q1) hq1)) (P_X13_throwsIf (r := q2) hq2)) (P_X13_in (r := q3) hq3)) (P_X13_deliver_c34 h)
theorem E_X13_deliver {X : p_X} {d : Nat} {Q : p_R → Prop} {v1 : Int32} {v2 : Int32} {μ : p_M} {r : Int32 × p_M} (hs : ShM μ) (h : F_X13_deliver v1 v2 μ = some r) (hQ : Q ((0, some (.int r.1)), r.2)) : p_Ev X (d + 3) M_X13_deliver 0 [.ref tM, .int v1, .int v2, .double 0, .double 0] [] μ Q := by
  unfold F_X13_deliver at h
  refine e_aload_n dX13_deliver_0 rfl ?_
  refine e_iconst (v := (0 : Int32)) dX13_deliver_1 rfl ?_
  refine e_putI dX13_deliver_2 rfl ⟨rfl, rfl, fun h => by cases h⟩ (fun h => by cases h) hs.1 hs.2.1 ?_
  refine e_aload_n dX13_deliver_5 rfl ?_
  refine e_aload_n dX13_deliver_6 rfl ?_
  refine e_iload_n dX13_deliver_7 rfl ?_
  obtain ⟨q1, hq1, h⟩ := p_bd h
  refine e_cV dX13_deliver_8 rfl rfl ⟨rfl, rfl, by decide⟩ rfl hs.1 hs.2.1 (E_X13_noCloth hs hq1 ⟨rfl, ?_⟩)
  have hs := ShM_of (P_X13_noCloth hq1) hs
  show p_Ev X (d + 3) M_X13_deliver 11 [.ref tM, .int v1, .int v2, .double 0, .double 0] [.int q1.1, .ref tM] q1.2 Q
  refine e_iconst (v := (1 : Int32)) dX13_deliver_11 rfl ?_
  obtain ⟨q2, hq2, h⟩ := p_bd h
  refine e_cV dX13_deliver_12 rfl rfl ⟨rfl, rfl, by decide⟩ rfl hs.1 hs.2.1 (E_X13_throwsIf hs hq2 ⟨rfl, ?_⟩)
  have hs := ShM_of (P_X13_throwsIf hq2) hs
  show p_Ev X (d + 3) M_X13_deliver 15 [.ref tM, .int v1, .int v2, .double 0, .double 0] [.int q2.1] q2.2 Q
  refine e_if_ne dX13_deliver_15 41 (by decide) (fun hc => ?_) (fun hc => ?_)
  · rw [if_pos hc] at h
    exact E_X13_deliver_c41 hs h hQ
  · rw [if_neg hc] at h
    refine e_aload_n dX13_deliver_18 rfl ?_
    refine e_iload_n dX13_deliver_19 rfl ?_
    refine e_iconst (v := (1 : Int32)) dX13_deliver_20 rfl ?_
    refine e_bipush (v := (20 : Int32)) dX13_deliver_21 rfl ?_
    obtain ⟨q3, hq3, h⟩ := p_bd h
    refine e_cS dX13_deliver_23 rfl rfl rfl rfl (E_X13_in hs hq3 ⟨rfl, ?_⟩)
    have hs := ShM_of (P_X13_in hq3) hs
    show p_Ev X (d + 3) M_X13_deliver 26 [.ref tM, .int v1, .int v2, .double 0, .double 0] [.int q3.1, .ref tM] q3.2 Q
    refine e_if_ne dX13_deliver_26 33 (by decide) (fun hc => ?_) (fun hc => ?_)
    · rw [if_pos hc] at h
      refine e_iconst (v := (0 : Int32)) dX13_deliver_33 rfl ?_
      exact E_X13_deliver_c34 hs h hQ
    · rw [if_neg hc] at h
      refine e_iconst (v := (1 : Int32)) dX13_deliver_29 rfl ?_
      refine e_goto dX13_deliver_30 34 (by decide) ?_
      exact E_X13_deliver_c34 hs h hQ
/-! X13_draw -/
def F_X13_draw_c32 (v1 : Int32) (v2 : Int32) (s0 : Int32) (μ : p_M) : Option (Int32 × p_M) :=
  (F_X13_throwsIf s0 (1 : Int32) μ).bind fun q3 =>
  if q3.1 = 0
  then ((F_X13_draws v1 v2 q3.2).bind fun q4 =>
    some ((mI (sI q4.2 tM 33 ((mI q4.2 tM 33) + (mI q4.2 tM 36))) tM 35), (sI q4.2 tM 33 ((mI q4.2 tM 33) + (mI q4.2 tM 36)))))
  else (some ((0 : Int32), q3.2))
theorem P_X13_draw_c32 {v1 : Int32} {v2 : Int32} {s0 : Int32} {μ : p_M} {r : Int32 × p_M} (h : F_X13_draw_c32 v1 v2 s0 μ = some r) : Sm μ r.2 := by
  unfold F_X13_draw_c32 at h
  obtain ⟨q3, hq3, h⟩ := p_bd h
  by_cases hc : q3.1 = 0
  · rw [if_pos hc] at h
    obtain ⟨q4, hq4, h⟩ := p_bd h
    cases h
    exact (Sm_set (Sm_trans (Sm_trans (Sm_refl μ) (P_X13_throwsIf (r := q3) hq3)) (P_X13_draws (r := q4) hq4)) (by decide))
  · rw [if_neg hc] at h
    cases h
    exact (Sm_trans (Sm_refl μ) (P_X13_throwsIf (r := q3) hq3))
theorem E_X13_draw_c32 {X : p_X} {d : Nat} {Q : p_R → Prop} {v1 : Int32} {v2 : Int32} {s0 : Int32} {μ : p_M} {r : Int32 × p_M} (hs : ShM μ) (h : F_X13_draw_c32 v1 v2 s0 μ = some r) (hQ : Q ((0, some (.int r.1)), r.2)) : p_Ev X (d + 2) M_X13_draw 32 [.ref tM, .int v1, .int v2] [.int s0, .ref tM] μ Q := by
  unfold F_X13_draw_c32 at h
  refine e_iconst (v := (1 : Int32)) dX13_draw_32 rfl ?_
  obtain ⟨q3, hq3, h⟩ := p_bd h
  refine e_cV dX13_draw_33 rfl rfl ⟨rfl, rfl, by decide⟩ rfl hs.1 hs.2.1 (E_X13_throwsIf hs hq3 ⟨rfl, ?_⟩)
  have hs := ShM_of (P_X13_throwsIf hq3) hs
  show p_Ev X (d + 2) M_X13_draw 36 [.ref tM, .int v1, .int v2] [.int q3.1] q3.2 Q
  refine e_if_eq dX13_draw_36 41 (by decide) (fun hc => ?_) (fun hc => ?_)
  · rw [if_pos hc] at h
    refine e_aload_n dX13_draw_41 rfl ?_
    refine e_iload_n dX13_draw_42 rfl ?_
    refine e_iload_n dX13_draw_43 rfl ?_
    obtain ⟨q4, hq4, h⟩ := p_bd h
    refine e_cV dX13_draw_44 rfl rfl ⟨rfl, rfl, by decide⟩ rfl hs.1 hs.2.1 (E_X13_draws hs hq4 ⟨rfl, ?_⟩)
    have hs := ShM_of (P_X13_draws hq4) hs
    show p_Ev X (d + 2) M_X13_draw 47 [.ref tM, .int v1, .int v2] [] q4.2 Q
    refine e_aload_n dX13_draw_47 rfl ?_
    refine e_dupR dX13_draw_48 ?_
    refine e_getI dX13_draw_49 rfl rfl hs.1 hs.2.1 ?_
    refine e_aload_n dX13_draw_52 rfl ?_
    refine e_getI dX13_draw_53 rfl rfl hs.1 hs.2.1 ?_
    refine e_iadd dX13_draw_56 ?_
    refine e_putI dX13_draw_57 rfl ⟨rfl, rfl, fun h => by cases h⟩ (fun h => by cases h) hs.1 hs.2.1 ?_
    refine e_aload_n dX13_draw_60 rfl ?_
    refine e_getI dX13_draw_61 rfl rfl hs.1 hs.2.1 ?_
    cases h
    exact e_ireti dX13_draw_64 rfl hQ
  · rw [if_neg hc] at h
    refine e_iconst (v := (0 : Int32)) dX13_draw_39 rfl ?_
    cases h
    exact e_ireti dX13_draw_40 rfl hQ
def F_X13_draw_c27 (v1 : Int32) (v2 : Int32) (μ : p_M) : Option (Int32 × p_M) :=
  F_X13_draw_c32 v1 v2 (1 : Int32) μ
theorem P_X13_draw_c27 {v1 : Int32} {v2 : Int32} {μ : p_M} {r : Int32 × p_M} (h : F_X13_draw_c27 v1 v2 μ = some r) : Sm μ r.2 := by
  unfold F_X13_draw_c27 at h
  exact Sm_trans (Sm_refl μ) (P_X13_draw_c32 h)
theorem E_X13_draw_c27 {X : p_X} {d : Nat} {Q : p_R → Prop} {v1 : Int32} {v2 : Int32} {μ : p_M} {r : Int32 × p_M} (hs : ShM μ) (h : F_X13_draw_c27 v1 v2 μ = some r) (hQ : Q ((0, some (.int r.1)), r.2)) : p_Ev X (d + 2) M_X13_draw 27 [.ref tM, .int v1, .int v2] [.ref tM] μ Q := by
  unfold F_X13_draw_c27 at h
  refine e_iconst (v := (1 : Int32)) dX13_draw_27 rfl ?_
  refine e_goto dX13_draw_28 32 (by decide) ?_
  exact E_X13_draw_c32 hs h hQ
def F_X13_draw (v1 : Int32) (v2 : Int32) (μ : p_M) : Option (Int32 × p_M) :=
  (F_X13_in v1 (1 : Int32) (1000 : Int32) (sI μ tM 0 (0 : Int32))).bind fun q1 =>
  if q1.1 = 0
  then (F_X13_draw_c27 v1 v2 q1.2)
  else ((F_X13_in v2 (0 : Int32) (100 : Int32) q1.2).bind fun q2 =>
    if ¬ q2.1 = 0
    then (F_X13_draw_c32 v1 v2 (0 : Int32) q2.2)
    else (F_X13_draw_c27 v1 v2 q2.2))
theorem P_X13_draw {v1 : Int32} {v2 : Int32} {μ : p_M} {r : Int32 × p_M} (h : F_X13_draw v1 v2 μ = some r) : Sm μ r.2 := by
  unfold F_X13_draw at h
  obtain ⟨q1, hq1, h⟩ := p_bd h
  by_cases hc : q1.1 = 0
  · rw [if_pos hc] at h
    exact Sm_trans (Sm_trans (Sm_set (Sm_refl μ) (by decide)) (P_X13_in (r := q1) hq1)) (P_X13_draw_c27 h)
  · rw [if_neg hc] at h
    obtain ⟨q2, hq2, h⟩ := p_bd h
    by_cases hc : ¬ q2.1 = 0
    · rw [if_pos hc] at h
      exact Sm_trans (Sm_trans (Sm_trans (Sm_set (Sm_refl μ) (by decide)) (P_X13_in (r := q1) hq1)) (P_X13_in (r := q2) hq2)) (P_X13_draw_c32 h)
    · rw [if_neg hc] at h
      exact Sm_trans (Sm_trans (Sm_trans (Sm_set (Sm_refl μ) (by decide)) (P_X13_in (r := q1) hq1)) (P_X13_in (r := q2) hq2)) (P_X13_draw_c27 h)
theorem E_X13_draw {X : p_X} {d : Nat} {Q : p_R → Prop} {v1 : Int32} {v2 : Int32} {μ : p_M} {r : Int32 × p_M} (hs : ShM μ) (h : F_X13_draw v1 v2 μ = some r) (hQ : Q ((0, some (.int r.1)), r.2)) : p_Ev X (d + 2) M_X13_draw 0 [.ref tM, .int v1, .int v2] [] μ Q := by
  unfold F_X13_draw at h
  refine e_aload_n dX13_draw_0 rfl ?_
  refine e_iconst (v := (0 : Int32)) dX13_draw_1 rfl ?_
  refine e_putI dX13_draw_2 rfl ⟨rfl, rfl, fun h => by cases h⟩ (fun h => by cases h) hs.1 hs.2.1 ?_
  refine e_aload_n dX13_draw_5 rfl ?_
  refine e_iload_n dX13_draw_6 rfl ?_
  refine e_iconst (v := (1 : Int32)) dX13_draw_7 rfl ?_
  refine e_sipush (v := (1000 : Int32)) dX13_draw_8 rfl ?_
  obtain ⟨q1, hq1, h⟩ := p_bd h
  refine e_cS dX13_draw_11 rfl rfl rfl rfl (E_X13_in hs hq1 ⟨rfl, ?_⟩)
  have hs := ShM_of (P_X13_in hq1) hs
  show p_Ev X (d + 2) M_X13_draw 14 [.ref tM, .int v1, .int v2] [.int q1.1, .ref tM] q1.2 Q
  refine e_if_eq dX13_draw_14 27 (by decide) (fun hc => ?_) (fun hc => ?_)
  · rw [if_pos hc] at h
    exact E_X13_draw_c27 hs h hQ
  · rw [if_neg hc] at h
    refine e_iload_n dX13_draw_17 rfl ?_
    refine e_iconst (v := (0 : Int32)) dX13_draw_18 rfl ?_
    refine e_bipush (v := (100 : Int32)) dX13_draw_19 rfl ?_
    obtain ⟨q2, hq2, h⟩ := p_bd h
    refine e_cS dX13_draw_21 rfl rfl rfl rfl (E_X13_in hs hq2 ⟨rfl, ?_⟩)
    have hs := ShM_of (P_X13_in hq2) hs
    show p_Ev X (d + 2) M_X13_draw 24 [.ref tM, .int v1, .int v2] [.int q2.1, .ref tM] q2.2 Q
    refine e_if_ne dX13_draw_24 31 (by decide) (fun hc => ?_) (fun hc => ?_)
    · rw [if_pos hc] at h
      refine e_iconst (v := (0 : Int32)) dX13_draw_31 rfl ?_
      exact E_X13_draw_c32 hs h hQ
    · rw [if_neg hc] at h
      exact E_X13_draw_c27 hs h hQ
/-! X13_end -/
def F_X13_end_c17 (μ : p_M) : Option (Int32 × p_M) :=
  some ((0 : Int32), μ)
theorem P_X13_end_c17 {μ : p_M} {r : Int32 × p_M} (h : F_X13_end_c17 μ = some r) : Sm μ r.2 := by
  unfold F_X13_end_c17 at h
  cases h
  exact (Sm_refl μ)
theorem E_X13_end_c17 {X : p_X} {d : Nat} {Q : p_R → Prop} {w0 : Value} {w1 : Value} {μ : p_M} {r : Int32 × p_M} (hs : ShM μ) (h : F_X13_end_c17 μ = some r) (hQ : Q ((0, some (.int r.1)), r.2)) : p_Ev X (d + 0) M_X13_end 17 [w0, w1] [] μ Q := by
  unfold F_X13_end_c17 at h
  refine e_iconst (v := (0 : Int32)) dX13_end_17 rfl ?_
  cases h
  exact e_iretz dX13_end_18 rfl (by decide) hQ
def F_X13_end (v1 : Int32) (μ : p_M) : Option (Int32 × p_M) :=
  if v1 < 0
  then (F_X13_end_c17 (sI μ tM 0 (0 : Int32)))
  else (if v1 ≤ (mI (sI μ tM 0 (0 : Int32)) tM 2)
    then (some ((1 : Int32), (sI (sI μ tM 0 (0 : Int32)) tM 2 v1)))
    else (F_X13_end_c17 (sI μ tM 0 (0 : Int32))))
theorem P_X13_end {v1 : Int32} {μ : p_M} {r : Int32 × p_M} (h : F_X13_end v1 μ = some r) : Sm μ r.2 := by
  unfold F_X13_end at h
  by_cases hc : v1 < 0
  · rw [if_pos hc] at h
    exact Sm_trans (Sm_set (Sm_refl μ) (by decide)) (P_X13_end_c17 h)
  · rw [if_neg hc] at h
    by_cases hc : v1 ≤ (mI (sI μ tM 0 (0 : Int32)) tM 2)
    · rw [if_pos hc] at h
      cases h
      exact (Sm_set (Sm_set (Sm_refl μ) (by decide)) (by decide))
    · rw [if_neg hc] at h
      exact Sm_trans (Sm_set (Sm_refl μ) (by decide)) (P_X13_end_c17 h)
theorem E_X13_end {X : p_X} {d : Nat} {Q : p_R → Prop} {v1 : Int32} {μ : p_M} {r : Int32 × p_M} (hs : ShM μ) (h : F_X13_end v1 μ = some r) (hQ : Q ((0, some (.int r.1)), r.2)) : p_Ev X (d + 0) M_X13_end 0 [.ref tM, .int v1] [] μ Q := by
  unfold F_X13_end at h
  refine e_aload_n dX13_end_0 rfl ?_
  refine e_iconst (v := (0 : Int32)) dX13_end_1 rfl ?_
  refine e_putI dX13_end_2 rfl ⟨rfl, rfl, fun h => by cases h⟩ (fun h => by cases h) hs.1 hs.2.1 ?_
  refine e_iload_n dX13_end_5 rfl ?_
  refine e_if_lt dX13_end_6 17 (by decide) (fun hc => ?_) (fun hc => ?_)
  · rw [if_pos hc] at h
    exact E_X13_end_c17 hs h hQ
  · rw [if_neg hc] at h
    refine e_iload_n dX13_end_9 rfl ?_
    refine e_aload_n dX13_end_10 rfl ?_
    refine e_getI dX13_end_11 rfl rfl hs.1 hs.2.1 ?_
    refine e_ic_le dX13_end_14 19 (by decide) (fun hc => ?_) (fun hc => ?_)
    · rw [if_pos hc] at h
      refine e_aload_n dX13_end_19 rfl ?_
      refine e_iload_n dX13_end_20 rfl ?_
      refine e_putI dX13_end_21 rfl ⟨rfl, rfl, fun h => by cases h⟩ (fun h => by cases h) hs.1 hs.2.1 ?_
      refine e_iconst (v := (1 : Int32)) dX13_end_24 rfl ?_
      cases h
      exact e_iretz dX13_end_25 rfl (by decide) hQ
    · rw [if_neg hc] at h
      exact E_X13_end_c17 hs h hQ
/-! X13_fault -/
def F_X13_fault (μ : p_M) : Option (Int32 × p_M) :=
  some ((mI (sI μ tM 0 (0 : Int32)) tM 6), (sI μ tM 0 (0 : Int32)))
theorem P_X13_fault {μ : p_M} {r : Int32 × p_M} (h : F_X13_fault μ = some r) : Sm μ r.2 := by
  unfold F_X13_fault at h
  cases h
  exact (Sm_set (Sm_refl μ) (by decide))
theorem E_X13_fault {X : p_X} {d : Nat} {Q : p_R → Prop} {μ : p_M} {r : Int32 × p_M} (hs : ShM μ) (h : F_X13_fault μ = some r) (hQ : Q ((0, some (.int r.1)), r.2)) : p_Ev X (d + 0) M_X13_fault 0 [.ref tM] [] μ Q := by
  unfold F_X13_fault at h
  refine e_aload_n dX13_fault_0 rfl ?_
  refine e_iconst (v := (0 : Int32)) dX13_fault_1 rfl ?_
  refine e_putI dX13_fault_2 rfl ⟨rfl, rfl, fun h => by cases h⟩ (fun h => by cases h) hs.1 hs.2.1 ?_
  refine e_aload_n dX13_fault_5 rfl ?_
  refine e_getI dX13_fault_6 rfl rfl hs.1 hs.2.1 ?_
  cases h
  exact e_ireti dX13_fault_9 rfl hQ
/-! X13_feed -/
def F_X13_feed_c60 : Nat → Int32 → p_M → Option (Int32 × p_M)
  | 0, _, _ => none
  | n + 1, v6, μ =>
    if (20 : Int32) ≤ v6
    then (some ((mI (sI μ tM 2 ((mI μ tM 2) + (20 : Int32))) tM 2), (sI μ tM 2 ((mI μ tM 2) + (20 : Int32)))))
    else (p_ok (¬ (4 : Int32) = 0)
      (p_ok (¬ (v6 / (4 : Int32)) < 0 ∧ (v6 / (4 : Int32)).toNatClampNeg < 5)
      (p_ok (¬ (4 : Int32) = 0)
      (p_ok (¬ ((mI μ tM 2) + v6) < 0 ∧ ((mI μ tM 2) + v6).toNatClampNeg < 400)
      (F_X13_feed_c60 n (v6 + (1 : Int32)) (sI μ (aM 1) ((mI μ tM 2) + v6).toNatClampNeg ((mI μ (aM 7) (v6 / (4 : Int32)).toNatClampNeg) >>> (((24 : Int32) - ((8 : Int32) * (v6 - v6 / (4 : Int32) * (4 : Int32)))) &&& 31)).toInt8.toInt32.toInt8.toInt32))))))
theorem P_X13_feed_c60 : ∀ (n : Nat) (v6 : Int32) (μ : p_M) (r : Int32 × p_M), F_X13_feed_c60 n v6 μ = some r → Sm μ r.2 := by
  intro n
  induction n with
  | zero => intro v6 μ r h; rw [F_X13_feed_c60] at h; cases h
  | succ n ih =>
    intro v6 μ r h
    rw [F_X13_feed_c60] at h
    by_cases hc : (20 : Int32) ≤ v6
    · rw [if_pos hc] at h
      cases h
      exact (Sm_set (Sm_refl μ) (by decide))
    · rw [if_neg hc] at h
      obtain ⟨hc, h⟩ := p_ok_some h
      obtain ⟨hc, h⟩ := p_ok_some h
      obtain ⟨hc, h⟩ := p_ok_some h
      obtain ⟨hc, h⟩ := p_ok_some h
      exact Sm_trans (Sm_set (Sm_refl μ) (by decide)) (ih _ _ _ h)
theorem E_X13_feed_c60 {X : p_X} {d : Nat} {Q : p_R → Prop} : ∀ (n : Nat) (v6 : Int32) (μ : p_M) (r : Int32 × p_M) (w1 : Value) (w2 : Value) (w3 : Value) (w4 : Value) (w5 : Value), ShM μ → F_X13_feed_c60 n v6 μ = some r → Q ((0, some (.int r.1)), r.2) → p_Ev X (d + 0) M_X13_feed 60 [.ref tM, w1, w2, w3, w4, w5, .int v6] [] μ Q := by
  intro n
  induction n with
  | zero => intro v6 μ r w1 w2 w3 w4 w5 hs h hQ; rw [F_X13_feed_c60] at h; cases h
  | succ n ih =>
    intro v6 μ r w1 w2 w3 w4 w5 hs h hQ
    rw [F_X13_feed_c60] at h
    refine e_iload dX13_feed_60 rfl ?_
    refine e_bipush (v := (20 : Int32)) dX13_feed_62 rfl ?_
    refine e_ic_ge dX13_feed_64 106 (by decide) (fun hc => ?_) (fun hc => ?_)
    · rw [if_pos hc] at h
      refine e_aload_n dX13_feed_106 rfl ?_
      refine e_dupR dX13_feed_107 ?_
      refine e_getI dX13_feed_108 rfl rfl hs.1 hs.2.1 ?_
      refine e_bipush (v := (20 : Int32)) dX13_feed_111 rfl ?_
      refine e_iadd dX13_feed_113 ?_
      refine e_putI dX13_feed_114 rfl ⟨rfl, rfl, fun h => by cases h⟩ (fun h => by cases h) hs.1 hs.2.1 ?_
      refine e_aload_n dX13_feed_117 rfl ?_
      refine e_getI dX13_feed_118 rfl rfl hs.1 hs.2.1 ?_
      cases h
      exact e_ireti dX13_feed_121 rfl hQ
    · rw [if_neg hc] at h
      refine e_aload_n dX13_feed_67 rfl ?_
      refine e_getR dX13_feed_68 rfl rfl hs.1 hs.2.1 (hs.2.2.2 1 (by decide) rfl).1 ?_
      refine e_aload_n dX13_feed_71 rfl ?_
      refine e_getI dX13_feed_72 rfl rfl hs.1 hs.2.1 ?_
      refine e_iload dX13_feed_75 rfl ?_
      refine e_iadd dX13_feed_77 ?_
      refine e_aload_n dX13_feed_78 rfl ?_
      refine e_getR dX13_feed_79 rfl rfl hs.1 hs.2.1 (hs.2.2.2 7 (by decide) rfl).1 ?_
      refine e_iload dX13_feed_82 rfl ?_
      refine e_iconst (v := (4 : Int32)) dX13_feed_84 rfl ?_
      obtain ⟨hc, h⟩ := p_ok_some h
      refine e_idiv dX13_feed_85 hc ?_
      obtain ⟨hc, h⟩ := p_ok_some h
      refine e_iald dX13_feed_86 (Nat.lt_trans (hs.2.2.2 7 (by decide) rfl).2.2.2 hs.2.2.1) (hs.2.2.2 7 (by decide) rfl).2.1 (hs.2.2.2 7 (by decide) rfl).2.2.1 (hs.2.2.2 7 (by decide) rfl).2.2.2 hc ?_
      refine e_bipush (v := (24 : Int32)) dX13_feed_87 rfl ?_
      refine e_bipush (v := (8 : Int32)) dX13_feed_89 rfl ?_
      refine e_iload dX13_feed_91 rfl ?_
      refine e_iconst (v := (4 : Int32)) dX13_feed_93 rfl ?_
      obtain ⟨hc, h⟩ := p_ok_some h
      refine e_irem dX13_feed_94 hc ?_
      refine e_imul dX13_feed_95 ?_
      refine e_isub dX13_feed_96 ?_
      refine e_ishr dX13_feed_97 ?_
      refine e_i2b dX13_feed_98 ?_
      obtain ⟨hc, h⟩ := p_ok_some h
      refine e_bast dX13_feed_99 (hs.2.2.2 1 (by decide) rfl).2.1 (hs.2.2.2 1 (by decide) rfl).2.2.1 (hs.2.2.2 1 (by decide) rfl).2.2.2 hc ?_
      refine e_iinc (v := (1 : Int32)) dX13_feed_100 rfl rfl rfl ?_
      refine e_goto dX13_feed_103 60 (by decide) ?_
      exact ih _ _ _ _ _ _ _ _ hs h hQ
def F_X13_feed (v1 : Int32) (v2 : Int32) (v3 : Int32) (v4 : Int32) (v5 : Int32) (μ : p_M) : Option (Int32 × p_M) :=
  if ((mI (sI μ tM 0 (0 : Int32)) tM 2) + (20 : Int32)) ≤ (400 : Int32)
  then (p_ok (¬ (0 : Int32) < 0 ∧ (0 : Int32).toNatClampNeg < 5)
    (p_ok (¬ (1 : Int32) < 0 ∧ (1 : Int32).toNatClampNeg < 5)
    (p_ok (¬ (2 : Int32) < 0 ∧ (2 : Int32).toNatClampNeg < 5)
    (p_ok (¬ (3 : Int32) < 0 ∧ (3 : Int32).toNatClampNeg < 5)
    (p_ok (¬ (4 : Int32) < 0 ∧ (4 : Int32).toNatClampNeg < 5)
    (F_X13_feed_c60 p_fu (0 : Int32) (sI (sI (sI (sI (sI (sI μ tM 0 (0 : Int32)) (aM 7) (0 : Int32).toNatClampNeg v1) (aM 7) (1 : Int32).toNatClampNeg v2) (aM 7) (2 : Int32).toNatClampNeg v3) (aM 7) (3 : Int32).toNatClampNeg v4) (aM 7) (4 : Int32).toNatClampNeg v5)))))))
  else (some ((-1), (sI μ tM 0 (0 : Int32))))
theorem P_X13_feed {v1 : Int32} {v2 : Int32} {v3 : Int32} {v4 : Int32} {v5 : Int32} {μ : p_M} {r : Int32 × p_M} (h : F_X13_feed v1 v2 v3 v4 v5 μ = some r) : Sm μ r.2 := by
  unfold F_X13_feed at h
  by_cases hc : ((mI (sI μ tM 0 (0 : Int32)) tM 2) + (20 : Int32)) ≤ (400 : Int32)
  · rw [if_pos hc] at h
    obtain ⟨hc, h⟩ := p_ok_some h
    obtain ⟨hc, h⟩ := p_ok_some h
    obtain ⟨hc, h⟩ := p_ok_some h
    obtain ⟨hc, h⟩ := p_ok_some h
    obtain ⟨hc, h⟩ := p_ok_some h
    exact Sm_trans (Sm_set (Sm_set (Sm_set (Sm_set (Sm_set (Sm_set (Sm_refl μ) (by decide)) (by decide)) (by decide)) (by decide)) (by decide)) (by decide)) (P_X13_feed_c60 p_fu _ _ _ h)
  · rw [if_neg hc] at h
    cases h
    exact (Sm_set (Sm_refl μ) (by decide))
theorem E_X13_feed {X : p_X} {d : Nat} {Q : p_R → Prop} {v1 : Int32} {v2 : Int32} {v3 : Int32} {v4 : Int32} {v5 : Int32} {μ : p_M} {r : Int32 × p_M} (hs : ShM μ) (h : F_X13_feed v1 v2 v3 v4 v5 μ = some r) (hQ : Q ((0, some (.int r.1)), r.2)) : p_Ev X (d + 0) M_X13_feed 0 [.ref tM, .int v1, .int v2, .int v3, .int v4, .int v5, .double 0] [] μ Q := by
  unfold F_X13_feed at h
  refine e_aload_n dX13_feed_0 rfl ?_
  refine e_iconst (v := (0 : Int32)) dX13_feed_1 rfl ?_
  refine e_putI dX13_feed_2 rfl ⟨rfl, rfl, fun h => by cases h⟩ (fun h => by cases h) hs.1 hs.2.1 ?_
  refine e_aload_n dX13_feed_5 rfl ?_
  refine e_getI dX13_feed_6 rfl rfl hs.1 hs.2.1 ?_
  refine e_bipush (v := (20 : Int32)) dX13_feed_9 rfl ?_
  refine e_iadd dX13_feed_11 ?_
  refine e_sipush (v := (400 : Int32)) dX13_feed_12 rfl ?_
  refine e_ic_le dX13_feed_15 20 (by decide) (fun hc => ?_) (fun hc => ?_)
  · rw [if_pos hc] at h
    refine e_aload_n dX13_feed_20 rfl ?_
    refine e_getR dX13_feed_21 rfl rfl hs.1 hs.2.1 (hs.2.2.2 7 (by decide) rfl).1 ?_
    refine e_iconst (v := (0 : Int32)) dX13_feed_24 rfl ?_
    refine e_iload_n dX13_feed_25 rfl ?_
    obtain ⟨hc, h⟩ := p_ok_some h
    refine e_iast dX13_feed_26 (hs.2.2.2 7 (by decide) rfl).2.1 (hs.2.2.2 7 (by decide) rfl).2.2.1 (hs.2.2.2 7 (by decide) rfl).2.2.2 hc ?_
    refine e_aload_n dX13_feed_27 rfl ?_
    refine e_getR dX13_feed_28 rfl rfl hs.1 hs.2.1 (hs.2.2.2 7 (by decide) rfl).1 ?_
    refine e_iconst (v := (1 : Int32)) dX13_feed_31 rfl ?_
    refine e_iload_n dX13_feed_32 rfl ?_
    obtain ⟨hc, h⟩ := p_ok_some h
    refine e_iast dX13_feed_33 (hs.2.2.2 7 (by decide) rfl).2.1 (hs.2.2.2 7 (by decide) rfl).2.2.1 (hs.2.2.2 7 (by decide) rfl).2.2.2 hc ?_
    refine e_aload_n dX13_feed_34 rfl ?_
    refine e_getR dX13_feed_35 rfl rfl hs.1 hs.2.1 (hs.2.2.2 7 (by decide) rfl).1 ?_
    refine e_iconst (v := (2 : Int32)) dX13_feed_38 rfl ?_
    refine e_iload_n dX13_feed_39 rfl ?_
    obtain ⟨hc, h⟩ := p_ok_some h
    refine e_iast dX13_feed_40 (hs.2.2.2 7 (by decide) rfl).2.1 (hs.2.2.2 7 (by decide) rfl).2.2.1 (hs.2.2.2 7 (by decide) rfl).2.2.2 hc ?_
    refine e_aload_n dX13_feed_41 rfl ?_
    refine e_getR dX13_feed_42 rfl rfl hs.1 hs.2.1 (hs.2.2.2 7 (by decide) rfl).1 ?_
    refine e_iconst (v := (3 : Int32)) dX13_feed_45 rfl ?_
    refine e_iload dX13_feed_46 rfl ?_
    obtain ⟨hc, h⟩ := p_ok_some h
    refine e_iast dX13_feed_48 (hs.2.2.2 7 (by decide) rfl).2.1 (hs.2.2.2 7 (by decide) rfl).2.2.1 (hs.2.2.2 7 (by decide) rfl).2.2.2 hc ?_
    refine e_aload_n dX13_feed_49 rfl ?_
    refine e_getR dX13_feed_50 rfl rfl hs.1 hs.2.1 (hs.2.2.2 7 (by decide) rfl).1 ?_
    refine e_iconst (v := (4 : Int32)) dX13_feed_53 rfl ?_
    refine e_iload dX13_feed_54 rfl ?_
    obtain ⟨hc, h⟩ := p_ok_some h
    refine e_iast dX13_feed_56 (hs.2.2.2 7 (by decide) rfl).2.1 (hs.2.2.2 7 (by decide) rfl).2.2.1 (hs.2.2.2 7 (by decide) rfl).2.2.2 hc ?_
    refine e_iconst (v := (0 : Int32)) dX13_feed_57 rfl ?_
    refine e_istore dX13_feed_58 (Nat.le_of_ble_eq_true rfl) rfl ?_
    exact E_X13_feed_c60 p_fu _ _ _ _ _ _ _ _ hs h hQ
  · rw [if_neg hc] at h
    refine e_iconst (v := (-1)) dX13_feed_18 rfl ?_
    cases h
    exact e_ireti dX13_feed_19 rfl hQ
/-! X13_garment -/
def F_X13_garment_c83 (v1 : Int32) (v2 : Int32) (μ : p_M) : Option (Int32 × p_M) :=
  p_ok (¬ v2 < 0 ∧ v2.toNatClampNeg < 40)
  (some ((mI (sI (sI μ (aM 38) v2.toNatClampNeg v1) tM 39 ((mI (sI μ (aM 38) v2.toNatClampNeg v1) tM 39) + (1 : Int32))) tM 39), (sI (sI μ (aM 38) v2.toNatClampNeg v1) tM 39 ((mI (sI μ (aM 38) v2.toNatClampNeg v1) tM 39) + (1 : Int32)))))
theorem P_X13_garment_c83 {v1 : Int32} {v2 : Int32} {μ : p_M} {r : Int32 × p_M} (h : F_X13_garment_c83 v1 v2 μ = some r) : Sm μ r.2 := by
  unfold F_X13_garment_c83 at h
  obtain ⟨hc, h⟩ := p_ok_some h
  cases h
  exact (Sm_set (Sm_set (Sm_refl μ) (by decide)) (by decide))
theorem E_X13_garment_c83 {X : p_X} {d : Nat} {Q : p_R → Prop} {v1 : Int32} {v2 : Int32} {μ : p_M} {r : Int32 × p_M} (hs : ShM μ) (h : F_X13_garment_c83 v1 v2 μ = some r) (hQ : Q ((0, some (.int r.1)), r.2)) : p_Ev X (d + 1) M_X13_garment 83 [.ref tM, .int v1, .int v2] [] μ Q := by
  unfold F_X13_garment_c83 at h
  refine e_aload_n dX13_garment_83 rfl ?_
  refine e_getR dX13_garment_84 rfl rfl hs.1 hs.2.1 (hs.2.2.2 38 (by decide) rfl).1 ?_
  refine e_iload_n dX13_garment_87 rfl ?_
  refine e_iload_n dX13_garment_88 rfl ?_
  obtain ⟨hc, h⟩ := p_ok_some h
  refine e_iast dX13_garment_89 (hs.2.2.2 38 (by decide) rfl).2.1 (hs.2.2.2 38 (by decide) rfl).2.2.1 (hs.2.2.2 38 (by decide) rfl).2.2.2 hc ?_
  refine e_aload_n dX13_garment_90 rfl ?_
  refine e_dupR dX13_garment_91 ?_
  refine e_getI dX13_garment_92 rfl rfl hs.1 hs.2.1 ?_
  refine e_iconst (v := (1 : Int32)) dX13_garment_95 rfl ?_
  refine e_iadd dX13_garment_96 ?_
  refine e_putI dX13_garment_97 rfl ⟨rfl, rfl, fun h => by cases h⟩ (fun h => by cases h) hs.1 hs.2.1 ?_
  refine e_aload_n dX13_garment_100 rfl ?_
  refine e_getI dX13_garment_101 rfl rfl hs.1 hs.2.1 ?_
  cases h
  exact e_ireti dX13_garment_104 rfl hQ
def F_X13_garment_c47 : Nat → Int32 → Int32 → p_M → Option (Int32 × p_M)
  | 0, _, _, _ => none
  | n + 1, v1, v2, μ =>
    if v2 ≤ 0
    then (F_X13_garment_c83 v1 v2 μ)
    else (p_ok (¬ (v2 - (1 : Int32)) < 0 ∧ (v2 - (1 : Int32)).toNatClampNeg < 40)
      (if (mI μ (aM 38) (v2 - (1 : Int32)).toNatClampNeg) ≤ v1
      then (F_X13_garment_c83 v1 v2 μ)
      else (p_ok (¬ (v2 - (1 : Int32)) < 0 ∧ (v2 - (1 : Int32)).toNatClampNeg < 40)
        (p_ok (¬ v2 < 0 ∧ v2.toNatClampNeg < 40)
        (F_X13_garment_c47 n v1 (v2 + (-1)) (sI μ (aM 38) v2.toNatClampNeg (mI μ (aM 38) (v2 - (1 : Int32)).toNatClampNeg)))))))
theorem P_X13_garment_c47 : ∀ (n : Nat) (v1 : Int32) (v2 : Int32) (μ : p_M) (r : Int32 × p_M), F_X13_garment_c47 n v1 v2 μ = some r → Sm μ r.2 := by
  intro n
  induction n with
  | zero => intro v1 v2 μ r h; rw [F_X13_garment_c47] at h; cases h
  | succ n ih =>
    intro v1 v2 μ r h
    rw [F_X13_garment_c47] at h
    by_cases hc : v2 ≤ 0
    · rw [if_pos hc] at h
      exact Sm_trans (Sm_refl μ) (P_X13_garment_c83 h)
    · rw [if_neg hc] at h
      obtain ⟨hc, h⟩ := p_ok_some h
      by_cases hc : (mI μ (aM 38) (v2 - (1 : Int32)).toNatClampNeg) ≤ v1
      · rw [if_pos hc] at h
        exact Sm_trans (Sm_refl μ) (P_X13_garment_c83 h)
      · rw [if_neg hc] at h
        obtain ⟨hc, h⟩ := p_ok_some h
        obtain ⟨hc, h⟩ := p_ok_some h
        exact Sm_trans (Sm_set (Sm_refl μ) (by decide)) (ih _ _ _ _ h)
theorem E_X13_garment_c47 {X : p_X} {d : Nat} {Q : p_R → Prop} : ∀ (n : Nat) (v1 : Int32) (v2 : Int32) (μ : p_M) (r : Int32 × p_M), ShM μ → F_X13_garment_c47 n v1 v2 μ = some r → Q ((0, some (.int r.1)), r.2) → p_Ev X (d + 1) M_X13_garment 47 [.ref tM, .int v1, .int v2] [] μ Q := by
  intro n
  induction n with
  | zero => intro v1 v2 μ r hs h hQ; rw [F_X13_garment_c47] at h; cases h
  | succ n ih =>
    intro v1 v2 μ r hs h hQ
    rw [F_X13_garment_c47] at h
    refine e_iload_n dX13_garment_47 rfl ?_
    refine e_if_le dX13_garment_48 83 (by decide) (fun hc => ?_) (fun hc => ?_)
    · rw [if_pos hc] at h
      exact E_X13_garment_c83 hs h hQ
    · rw [if_neg hc] at h
      refine e_aload_n dX13_garment_51 rfl ?_
      refine e_getR dX13_garment_52 rfl rfl hs.1 hs.2.1 (hs.2.2.2 38 (by decide) rfl).1 ?_
      refine e_iload_n dX13_garment_55 rfl ?_
      refine e_iconst (v := (1 : Int32)) dX13_garment_56 rfl ?_
      refine e_isub dX13_garment_57 ?_
      obtain ⟨hc, h⟩ := p_ok_some h
      refine e_iald dX13_garment_58 (Nat.lt_trans (hs.2.2.2 38 (by decide) rfl).2.2.2 hs.2.2.1) (hs.2.2.2 38 (by decide) rfl).2.1 (hs.2.2.2 38 (by decide) rfl).2.2.1 (hs.2.2.2 38 (by decide) rfl).2.2.2 hc ?_
      refine e_iload_n dX13_garment_59 rfl ?_
      refine e_ic_le dX13_garment_60 83 (by decide) (fun hc => ?_) (fun hc => ?_)
      · rw [if_pos hc] at h
        exact E_X13_garment_c83 hs h hQ
      · rw [if_neg hc] at h
        refine e_aload_n dX13_garment_63 rfl ?_
        refine e_getR dX13_garment_64 rfl rfl hs.1 hs.2.1 (hs.2.2.2 38 (by decide) rfl).1 ?_
        refine e_iload_n dX13_garment_67 rfl ?_
        refine e_aload_n dX13_garment_68 rfl ?_
        refine e_getR dX13_garment_69 rfl rfl hs.1 hs.2.1 (hs.2.2.2 38 (by decide) rfl).1 ?_
        refine e_iload_n dX13_garment_72 rfl ?_
        refine e_iconst (v := (1 : Int32)) dX13_garment_73 rfl ?_
        refine e_isub dX13_garment_74 ?_
        obtain ⟨hc, h⟩ := p_ok_some h
        refine e_iald dX13_garment_75 (Nat.lt_trans (hs.2.2.2 38 (by decide) rfl).2.2.2 hs.2.2.1) (hs.2.2.2 38 (by decide) rfl).2.1 (hs.2.2.2 38 (by decide) rfl).2.2.1 (hs.2.2.2 38 (by decide) rfl).2.2.2 hc ?_
        obtain ⟨hc, h⟩ := p_ok_some h
        refine e_iast dX13_garment_76 (hs.2.2.2 38 (by decide) rfl).2.1 (hs.2.2.2 38 (by decide) rfl).2.2.1 (hs.2.2.2 38 (by decide) rfl).2.2.2 hc ?_
        refine e_iinc (v := (-1)) dX13_garment_77 rfl rfl rfl ?_
        refine e_goto dX13_garment_80 47 (by decide) ?_
        exact ih _ _ _ _ hs h hQ
def F_X13_garment_c22 (v1 : Int32) (s0 : Int32) (μ : p_M) : Option (Int32 × p_M) :=
  (F_X13_throwsIf s0 (1 : Int32) μ).bind fun q2 =>
  if q2.1 = 0
  then (if ¬ (mI q2.2 tM 39) = (40 : Int32)
    then (F_X13_garment_c47 p_fu v1 (mI q2.2 tM 39) q2.2)
    else (some ((-1), q2.2)))
  else (some ((0 : Int32), q2.2))
theorem P_X13_garment_c22 {v1 : Int32} {s0 : Int32} {μ : p_M} {r : Int32 × p_M} (h : F_X13_garment_c22 v1 s0 μ = some r) : Sm μ r.2 := by
  unfold F_X13_garment_c22 at h
  obtain ⟨q2, hq2, h⟩ := p_bd h
  by_cases hc : q2.1 = 0
  · rw [if_pos hc] at h
    by_cases hc : ¬ (mI q2.2 tM 39) = (40 : Int32)
    · rw [if_pos hc] at h
      exact Sm_trans (Sm_trans (Sm_refl μ) (P_X13_throwsIf (r := q2) hq2)) (P_X13_garment_c47 p_fu _ _ _ _ h)
    · rw [if_neg hc] at h
      cases h
      exact (Sm_trans (Sm_refl μ) (P_X13_throwsIf (r := q2) hq2))
  · rw [if_neg hc] at h
    cases h
    exact (Sm_trans (Sm_refl μ) (P_X13_throwsIf (r := q2) hq2))
theorem E_X13_garment_c22 {X : p_X} {d : Nat} {Q : p_R → Prop} {v1 : Int32} {s0 : Int32} {w2 : Value} {μ : p_M} {r : Int32 × p_M} (hs : ShM μ) (h : F_X13_garment_c22 v1 s0 μ = some r) (hQ : Q ((0, some (.int r.1)), r.2)) : p_Ev X (d + 1) M_X13_garment 22 [.ref tM, .int v1, w2] [.int s0, .ref tM] μ Q := by
  unfold F_X13_garment_c22 at h
  refine e_iconst (v := (1 : Int32)) dX13_garment_22 rfl ?_
  obtain ⟨q2, hq2, h⟩ := p_bd h
  refine e_cV dX13_garment_23 rfl rfl ⟨rfl, rfl, by decide⟩ rfl hs.1 hs.2.1 (E_X13_throwsIf hs hq2 ⟨rfl, ?_⟩)
  have hs := ShM_of (P_X13_throwsIf hq2) hs
  show p_Ev X (d + 1) M_X13_garment 26 [.ref tM, .int v1, w2] [.int q2.1] q2.2 Q
  refine e_if_eq dX13_garment_26 31 (by decide) (fun hc => ?_) (fun hc => ?_)
  · rw [if_pos hc] at h
    refine e_aload_n dX13_garment_31 rfl ?_
    refine e_getI dX13_garment_32 rfl rfl hs.1 hs.2.1 ?_
    refine e_bipush (v := (40 : Int32)) dX13_garment_35 rfl ?_
    refine e_ic_ne dX13_garment_37 42 (by decide) (fun hc => ?_) (fun hc => ?_)
    · rw [if_pos hc] at h
      refine e_aload_n dX13_garment_42 rfl ?_
      refine e_getI dX13_garment_43 rfl rfl hs.1 hs.2.1 ?_
      refine e_istore_n dX13_garment_46 (Nat.le_of_ble_eq_true rfl) rfl ?_
      exact E_X13_garment_c47 p_fu _ _ _ _ hs h hQ
    · rw [if_neg hc] at h
      refine e_iconst (v := (-1)) dX13_garment_40 rfl ?_
      cases h
      exact e_ireti dX13_garment_41 rfl hQ
  · rw [if_neg hc] at h
    refine e_iconst (v := (0 : Int32)) dX13_garment_29 rfl ?_
    cases h
    exact e_ireti dX13_garment_30 rfl hQ
def F_X13_garment (v1 : Int32) (μ : p_M) : Option (Int32 × p_M) :=
  (F_X13_in v1 (0 : Int32) (255 : Int32) (sI μ tM 0 (0 : Int32))).bind fun q1 =>
  if ¬ q1.1 = 0
  then (F_X13_garment_c22 v1 (0 : Int32) q1.2)
  else (F_X13_garment_c22 v1 (1 : Int32) q1.2)
theorem P_X13_garment {v1 : Int32} {μ : p_M} {r : Int32 × p_M} (h : F_X13_garment v1 μ = some r) : Sm μ r.2 := by
  unfold F_X13_garment at h
  obtain ⟨q1, hq1, h⟩ := p_bd h
  by_cases hc : ¬ q1.1 = 0
  · rw [if_pos hc] at h
    exact Sm_trans (Sm_trans (Sm_set (Sm_refl μ) (by decide)) (P_X13_in (r := q1) hq1)) (P_X13_garment_c22 h)
  · rw [if_neg hc] at h
    exact Sm_trans (Sm_trans (Sm_set (Sm_refl μ) (by decide)) (P_X13_in (r := q1) hq1)) (P_X13_garment_c22 h)
theorem E_X13_garment {X : p_X} {d : Nat} {Q : p_R → Prop} {v1 : Int32} {μ : p_M} {r : Int32 × p_M} (hs : ShM μ) (h : F_X13_garment v1 μ = some r) (hQ : Q ((0, some (.int r.1)), r.2)) : p_Ev X (d + 1) M_X13_garment 0 [.ref tM, .int v1, .double 0] [] μ Q := by
  unfold F_X13_garment at h
  refine e_aload_n dX13_garment_0 rfl ?_
  refine e_iconst (v := (0 : Int32)) dX13_garment_1 rfl ?_
  refine e_putI dX13_garment_2 rfl ⟨rfl, rfl, fun h => by cases h⟩ (fun h => by cases h) hs.1 hs.2.1 ?_
  refine e_aload_n dX13_garment_5 rfl ?_
  refine e_iload_n dX13_garment_6 rfl ?_
  refine e_iconst (v := (0 : Int32)) dX13_garment_7 rfl ?_
  refine e_sipush (v := (255 : Int32)) dX13_garment_8 rfl ?_
  obtain ⟨q1, hq1, h⟩ := p_bd h
  refine e_cS dX13_garment_11 rfl rfl rfl rfl (E_X13_in hs hq1 ⟨rfl, ?_⟩)
  have hs := ShM_of (P_X13_in hq1) hs
  show p_Ev X (d + 1) M_X13_garment 14 [.ref tM, .int v1, .double 0] [.int q1.1, .ref tM] q1.2 Q
  refine e_if_ne dX13_garment_14 21 (by decide) (fun hc => ?_) (fun hc => ?_)
  · rw [if_pos hc] at h
    refine e_iconst (v := (0 : Int32)) dX13_garment_21 rfl ?_
    exact E_X13_garment_c22 hs h hQ
  · rw [if_neg hc] at h
    refine e_iconst (v := (1 : Int32)) dX13_garment_17 rfl ?_
    refine e_goto dX13_garment_18 22 (by decide) ?_
    exact E_X13_garment_c22 hs h hQ
/-! X13_has -/
def F_X13_has_c54 (μ : p_M) : Option (Int32 × p_M) :=
  some ((0 : Int32), μ)
theorem P_X13_has_c54 {μ : p_M} {r : Int32 × p_M} (h : F_X13_has_c54 μ = some r) : Sm μ r.2 := by
  unfold F_X13_has_c54 at h
  cases h
  exact (Sm_refl μ)
theorem E_X13_has_c54 {X : p_X} {d : Nat} {Q : p_R → Prop} {w0 : Value} {w1 : Value} {w2 : Value} {μ : p_M} {r : Int32 × p_M} (hs : ShM μ) (h : F_X13_has_c54 μ = some r) (hQ : Q ((0, some (.int r.1)), r.2)) : p_Ev X (d + 1) M_X13_has 54 [w0, w1, w2] [] μ Q := by
  unfold F_X13_has_c54 at h
  refine e_iconst (v := (0 : Int32)) dX13_has_54 rfl ?_
  cases h
  exact e_ireti dX13_has_55 rfl hQ
def F_X13_has_c89 (s0 : Int32) (μ : p_M) : Option (Int32 × p_M) :=
  some (s0, μ)
theorem P_X13_has_c89 {s0 : Int32} {μ : p_M} {r : Int32 × p_M} (h : F_X13_has_c89 s0 μ = some r) : Sm μ r.2 := by
  unfold F_X13_has_c89 at h
  cases h
  exact (Sm_refl μ)
theorem E_X13_has_c89 {X : p_X} {d : Nat} {Q : p_R → Prop} {s0 : Int32} {w0 : Value} {w1 : Value} {w2 : Value} {μ : p_M} {r : Int32 × p_M} (hs : ShM μ) (h : F_X13_has_c89 s0 μ = some r) (hQ : Q ((0, some (.int r.1)), r.2)) : p_Ev X (d + 1) M_X13_has 89 [w0, w1, w2] [.int s0] μ Q := by
  unfold F_X13_has_c89 at h
  cases h
  exact e_ireti dX13_has_89 rfl hQ
def F_X13_has_c47 (v1 : Int32) (v2 : Int32) (s0 : Int32) (μ : p_M) : Option (Int32 × p_M) :=
  (F_X13_throwsIf s0 (2 : Int32) μ).bind fun q4 =>
  if q4.1 = 0
  then (if ¬ v2 = 0
    then (if ¬ v2 = (1 : Int32)
      then (p_ok (¬ v1 < 0 ∧ v1.toNatClampNeg < 5)
        (F_X13_has_c89 (mI q4.2 (aM 29) v1.toNatClampNeg) q4.2))
      else (p_ok (¬ v1 < 0 ∧ v1.toNatClampNeg < 5)
        (F_X13_has_c89 (mI q4.2 (aM 28) v1.toNatClampNeg) q4.2)))
    else (p_ok (¬ v1 < 0 ∧ v1.toNatClampNeg < 5)
      (F_X13_has_c89 (mI q4.2 (aM 27) v1.toNatClampNeg) q4.2)))
  else (F_X13_has_c54 q4.2)
theorem P_X13_has_c47 {v1 : Int32} {v2 : Int32} {s0 : Int32} {μ : p_M} {r : Int32 × p_M} (h : F_X13_has_c47 v1 v2 s0 μ = some r) : Sm μ r.2 := by
  unfold F_X13_has_c47 at h
  obtain ⟨q4, hq4, h⟩ := p_bd h
  by_cases hc : q4.1 = 0
  · rw [if_pos hc] at h
    by_cases hc : ¬ v2 = 0
    · rw [if_pos hc] at h
      by_cases hc : ¬ v2 = (1 : Int32)
      · rw [if_pos hc] at h
        obtain ⟨hc, h⟩ := p_ok_some h
        exact Sm_trans (Sm_trans (Sm_refl μ) (P_X13_throwsIf (r := q4) hq4)) (P_X13_has_c89 h)
      · rw [if_neg hc] at h
        obtain ⟨hc, h⟩ := p_ok_some h
        exact Sm_trans (Sm_trans (Sm_refl μ) (P_X13_throwsIf (r := q4) hq4)) (P_X13_has_c89 h)
    · rw [if_neg hc] at h
      obtain ⟨hc, h⟩ := p_ok_some h
      exact Sm_trans (Sm_trans (Sm_refl μ) (P_X13_throwsIf (r := q4) hq4)) (P_X13_has_c89 h)
  · rw [if_neg hc] at h
    exact Sm_trans (Sm_trans (Sm_refl μ) (P_X13_throwsIf (r := q4) hq4)) (P_X13_has_c54 h)
theorem E_X13_has_c47 {X : p_X} {d : Nat} {Q : p_R → Prop} {v1 : Int32} {v2 : Int32} {s0 : Int32} {μ : p_M} {r : Int32 × p_M} (hs : ShM μ) (h : F_X13_has_c47 v1 v2 s0 μ = some r) (hQ : Q ((0, some (.int r.1)), r.2)) : p_Ev X (d + 1) M_X13_has 47 [.ref tM, .int v1, .int v2] [.int s0, .ref tM] μ Q := by
  unfold F_X13_has_c47 at h
  refine e_iconst (v := (2 : Int32)) dX13_has_47 rfl ?_
  obtain ⟨q4, hq4, h⟩ := p_bd h
  refine e_cV dX13_has_48 rfl rfl ⟨rfl, rfl, by decide⟩ rfl hs.1 hs.2.1 (E_X13_throwsIf hs hq4 ⟨rfl, ?_⟩)
  have hs := ShM_of (P_X13_throwsIf hq4) hs
  show p_Ev X (d + 1) M_X13_has 51 [.ref tM, .int v1, .int v2] [.int q4.1] q4.2 Q
  refine e_if_eq dX13_has_51 56 (by decide) (fun hc => ?_) (fun hc => ?_)
  · rw [if_pos hc] at h
    refine e_iload_n dX13_has_56 rfl ?_
    refine e_if_ne dX13_has_57 69 (by decide) (fun hc => ?_) (fun hc => ?_)
    · rw [if_pos hc] at h
      refine e_iload_n dX13_has_69 rfl ?_
      refine e_iconst (v := (1 : Int32)) dX13_has_70 rfl ?_
      refine e_ic_ne dX13_has_71 83 (by decide) (fun hc => ?_) (fun hc => ?_)
      · rw [if_pos hc] at h
        refine e_aload_n dX13_has_83 rfl ?_
        refine e_getR dX13_has_84 rfl rfl hs.1 hs.2.1 (hs.2.2.2 29 (by decide) rfl).1 ?_
        refine e_iload_n dX13_has_87 rfl ?_
        obtain ⟨hc, h⟩ := p_ok_some h
        refine e_iald dX13_has_88 (Nat.lt_trans (hs.2.2.2 29 (by decide) rfl).2.2.2 hs.2.2.1) (hs.2.2.2 29 (by decide) rfl).2.1 (hs.2.2.2 29 (by decide) rfl).2.2.1 (hs.2.2.2 29 (by decide) rfl).2.2.2 hc ?_
        exact E_X13_has_c89 hs h hQ
      · rw [if_neg hc] at h
        refine e_aload_n dX13_has_74 rfl ?_
        refine e_getR dX13_has_75 rfl rfl hs.1 hs.2.1 (hs.2.2.2 28 (by decide) rfl).1 ?_
        refine e_iload_n dX13_has_78 rfl ?_
        obtain ⟨hc, h⟩ := p_ok_some h
        refine e_iald dX13_has_79 (Nat.lt_trans (hs.2.2.2 28 (by decide) rfl).2.2.2 hs.2.2.1) (hs.2.2.2 28 (by decide) rfl).2.1 (hs.2.2.2 28 (by decide) rfl).2.2.1 (hs.2.2.2 28 (by decide) rfl).2.2.2 hc ?_
        refine e_goto dX13_has_80 89 (by decide) ?_
        exact E_X13_has_c89 hs h hQ
    · rw [if_neg hc] at h
      refine e_aload_n dX13_has_60 rfl ?_
      refine e_getR dX13_has_61 rfl rfl hs.1 hs.2.1 (hs.2.2.2 27 (by decide) rfl).1 ?_
      refine e_iload_n dX13_has_64 rfl ?_
      obtain ⟨hc, h⟩ := p_ok_some h
      refine e_iald dX13_has_65 (Nat.lt_trans (hs.2.2.2 27 (by decide) rfl).2.2.2 hs.2.2.1) (hs.2.2.2 27 (by decide) rfl).2.1 (hs.2.2.2 27 (by decide) rfl).2.2.1 (hs.2.2.2 27 (by decide) rfl).2.2.2 hc ?_
      refine e_goto dX13_has_66 89 (by decide) ?_
      exact E_X13_has_c89 hs h hQ
  · rw [if_neg hc] at h
    exact E_X13_has_c54 hs h hQ
def F_X13_has_c25 (v1 : Int32) (v2 : Int32) (s0 : Int32) (μ : p_M) : Option (Int32 × p_M) :=
  (F_X13_throwsIf s0 (1 : Int32) μ).bind fun q2 =>
  if ¬ q2.1 = 0
  then (F_X13_has_c54 q2.2)
  else ((F_X13_in v2 (0 : Int32) (2 : Int32) q2.2).bind fun q3 =>
    if ¬ q3.1 = 0
    then (F_X13_has_c47 v1 v2 (0 : Int32) q3.2)
    else (F_X13_has_c47 v1 v2 (1 : Int32) q3.2))
theorem P_X13_has_c25 {v1 : Int32} {v2 : Int32} {s0 : Int32} {μ : p_M} {r : Int32 × p_M} (h : F_X13_has_c25 v1 v2 s0 μ = some r) : Sm μ r.2 := by
  unfold F_X13_has_c25 at h
  obtain ⟨q2, hq2, h⟩ := p_bd h
  by_cases hc : ¬ q2.1 = 0
  · rw [if_pos hc] at h
    exact Sm_trans (Sm_trans (Sm_refl μ) (P_X13_throwsIf (r := q2) hq2)) (P_X13_has_c54 h)
  · rw [if_neg hc] at h
    obtain ⟨q3, hq3, h⟩ := p_bd h
    by_cases hc : ¬ q3.1 = 0
    · rw [if_pos hc] at h
      exact Sm_trans (Sm_trans (Sm_trans (Sm_refl μ) (P_X13_throwsIf (r := q2) hq2)) (P_X13_in (r := q3) hq3)) (P_X13_has_c47 h)
    · rw [if_neg hc] at h
      exact Sm_trans (Sm_trans (Sm_trans (Sm_refl μ) (P_X13_throwsIf (r := q2) hq2)) (P_X13_in (r := q3) hq3)) (P_X13_has_c47 h)
theorem E_X13_has_c25 {X : p_X} {d : Nat} {Q : p_R → Prop} {v1 : Int32} {v2 : Int32} {s0 : Int32} {μ : p_M} {r : Int32 × p_M} (hs : ShM μ) (h : F_X13_has_c25 v1 v2 s0 μ = some r) (hQ : Q ((0, some (.int r.1)), r.2)) : p_Ev X (d + 1) M_X13_has 25 [.ref tM, .int v1, .int v2] [.int s0, .ref tM] μ Q := by
  unfold F_X13_has_c25 at h
  refine e_iconst (v := (1 : Int32)) dX13_has_25 rfl ?_
  obtain ⟨q2, hq2, h⟩ := p_bd h
  refine e_cV dX13_has_26 rfl rfl ⟨rfl, rfl, by decide⟩ rfl hs.1 hs.2.1 (E_X13_throwsIf hs hq2 ⟨rfl, ?_⟩)
  have hs := ShM_of (P_X13_throwsIf hq2) hs
  show p_Ev X (d + 1) M_X13_has 29 [.ref tM, .int v1, .int v2] [.int q2.1] q2.2 Q
  refine e_if_ne dX13_has_29 54 (by decide) (fun hc => ?_) (fun hc => ?_)
  · rw [if_pos hc] at h
    exact E_X13_has_c54 hs h hQ
  · rw [if_neg hc] at h
    refine e_aload_n dX13_has_32 rfl ?_
    refine e_iload_n dX13_has_33 rfl ?_
    refine e_iconst (v := (0 : Int32)) dX13_has_34 rfl ?_
    refine e_iconst (v := (2 : Int32)) dX13_has_35 rfl ?_
    obtain ⟨q3, hq3, h⟩ := p_bd h
    refine e_cS dX13_has_36 rfl rfl rfl rfl (E_X13_in hs hq3 ⟨rfl, ?_⟩)
    have hs := ShM_of (P_X13_in hq3) hs
    show p_Ev X (d + 1) M_X13_has 39 [.ref tM, .int v1, .int v2] [.int q3.1, .ref tM] q3.2 Q
    refine e_if_ne dX13_has_39 46 (by decide) (fun hc => ?_) (fun hc => ?_)
    · rw [if_pos hc] at h
      refine e_iconst (v := (0 : Int32)) dX13_has_46 rfl ?_
      exact E_X13_has_c47 hs h hQ
    · rw [if_neg hc] at h
      refine e_iconst (v := (1 : Int32)) dX13_has_42 rfl ?_
      refine e_goto dX13_has_43 47 (by decide) ?_
      exact E_X13_has_c47 hs h hQ
def F_X13_has (v1 : Int32) (v2 : Int32) (μ : p_M) : Option (Int32 × p_M) :=
  (F_X13_in v1 (0 : Int32) ((mI (sI μ tM 0 (0 : Int32)) tM 30) - (1 : Int32)) (sI μ tM 0 (0 : Int32))).bind fun q1 =>
  if ¬ q1.1 = 0
  then (F_X13_has_c25 v1 v2 (0 : Int32) q1.2)
  else (F_X13_has_c25 v1 v2 (1 : Int32) q1.2)
theorem P_X13_has {v1 : Int32} {v2 : Int32} {μ : p_M} {r : Int32 × p_M} (h : F_X13_has v1 v2 μ = some r) : Sm μ r.2 := by
  unfold F_X13_has at h
  obtain ⟨q1, hq1, h⟩ := p_bd h
  by_cases hc : ¬ q1.1 = 0
  · rw [if_pos hc] at h
    exact Sm_trans (Sm_trans (Sm_set (Sm_refl μ) (by decide)) (P_X13_in (r := q1) hq1)) (P_X13_has_c25 h)
  · rw [if_neg hc] at h
    exact Sm_trans (Sm_trans (Sm_set (Sm_refl μ) (by decide)) (P_X13_in (r := q1) hq1)) (P_X13_has_c25 h)
theorem E_X13_has {X : p_X} {d : Nat} {Q : p_R → Prop} {v1 : Int32} {v2 : Int32} {μ : p_M} {r : Int32 × p_M} (hs : ShM μ) (h : F_X13_has v1 v2 μ = some r) (hQ : Q ((0, some (.int r.1)), r.2)) : p_Ev X (d + 1) M_X13_has 0 [.ref tM, .int v1, .int v2] [] μ Q := by
  unfold F_X13_has at h
  refine e_aload_n dX13_has_0 rfl ?_
  refine e_iconst (v := (0 : Int32)) dX13_has_1 rfl ?_
  refine e_putI dX13_has_2 rfl ⟨rfl, rfl, fun h => by cases h⟩ (fun h => by cases h) hs.1 hs.2.1 ?_
  refine e_aload_n dX13_has_5 rfl ?_
  refine e_iload_n dX13_has_6 rfl ?_
  refine e_iconst (v := (0 : Int32)) dX13_has_7 rfl ?_
  refine e_aload_n dX13_has_8 rfl ?_
  refine e_getI dX13_has_9 rfl rfl hs.1 hs.2.1 ?_
  refine e_iconst (v := (1 : Int32)) dX13_has_12 rfl ?_
  refine e_isub dX13_has_13 ?_
  obtain ⟨q1, hq1, h⟩ := p_bd h
  refine e_cS dX13_has_14 rfl rfl rfl rfl (E_X13_in hs hq1 ⟨rfl, ?_⟩)
  have hs := ShM_of (P_X13_in hq1) hs
  show p_Ev X (d + 1) M_X13_has 17 [.ref tM, .int v1, .int v2] [.int q1.1, .ref tM] q1.2 Q
  refine e_if_ne dX13_has_17 24 (by decide) (fun hc => ?_) (fun hc => ?_)
  · rw [if_pos hc] at h
    refine e_iconst (v := (0 : Int32)) dX13_has_24 rfl ?_
    exact E_X13_has_c25 hs h hQ
  · rw [if_neg hc] at h
    refine e_iconst (v := (1 : Int32)) dX13_has_20 rfl ?_
    refine e_goto dX13_has_21 25 (by decide) ?_
    exact E_X13_has_c25 hs h hQ
