/-! X13_packs -/
def F_X13_packs_c87 (K40 : Int32 → Int32 → Int32 → Int32 → Int32 → p_M → Option (Int32 × p_M)) (v1 : Int32) (v2 : Int32) (v3 : Int32) (v4 : Int32) (v5 : Int32) (v6 : Int32) (μ : p_M) : Option (Int32 × p_M) :=
  p_ok (¬ v1 = 0)
  (K40 v1 v2 v3 (v4 + ((v5 - v6) / v1)) v5 μ)
theorem P_X13_packs_c87 {K40 : Int32 → Int32 → Int32 → Int32 → Int32 → p_M → Option (Int32 × p_M)} (hP40 : ∀ (v1 : Int32) (v2 : Int32) (v3 : Int32) (v4 : Int32) (v5 : Int32) (μ : p_M) (r : Int32 × p_M), K40 v1 v2 v3 v4 v5 μ = some r → Sm μ r.2) {v1 : Int32} {v2 : Int32} {v3 : Int32} {v4 : Int32} {v5 : Int32} {v6 : Int32} {μ : p_M} {r : Int32 × p_M} (h : F_X13_packs_c87 K40 v1 v2 v3 v4 v5 v6 μ = some r) : Sm μ r.2 := by
  unfold F_X13_packs_c87 at h
  obtain ⟨hc, h⟩ := p_ok_some h
  exact Sm_trans (Sm_refl μ) (hP40 _ _ _ _ _ _ _ h)
theorem E_X13_packs_c87 {X : p_X} {d : Nat} {Q : p_R → Prop} {K40 : Int32 → Int32 → Int32 → Int32 → Int32 → p_M → Option (Int32 × p_M)} (hK40 : ∀ (v1 : Int32) (v2 : Int32) (v3 : Int32) (v4 : Int32) (v5 : Int32) (μ : p_M) (r : Int32 × p_M) (w6 : Value), ShM μ → K40 v1 v2 v3 v4 v5 μ = some r → Q ((0, some (.int r.1)), r.2) → p_Ev X (d + 1) M_X13_packs 40 [.ref tM, .int v1, .int v2, .int v3, .int v4, .int v5, w6] [] μ Q) {v1 : Int32} {v2 : Int32} {v3 : Int32} {v4 : Int32} {v5 : Int32} {v6 : Int32} {μ : p_M} {r : Int32 × p_M} (hs : ShM μ) (h : F_X13_packs_c87 K40 v1 v2 v3 v4 v5 v6 μ = some r) (hQ : Q ((0, some (.int r.1)), r.2)) : p_Ev X (d + 1) M_X13_packs 87 [.ref tM, .int v1, .int v2, .int v3, .int v4, .int v5, .int v6] [] μ Q := by
  unfold F_X13_packs_c87 at h
  refine e_iload dX13_packs_87 rfl ?_
  refine e_iload dX13_packs_89 rfl ?_
  refine e_iload dX13_packs_91 rfl ?_
  refine e_isub dX13_packs_93 ?_
  refine e_iload_n dX13_packs_94 rfl ?_
  obtain ⟨hc, h⟩ := p_ok_some h
  refine e_idiv dX13_packs_95 hc ?_
  refine e_iadd dX13_packs_96 ?_
  refine e_istore dX13_packs_97 (Nat.le_of_ble_eq_true rfl) rfl ?_
  refine e_goto dX13_packs_99 40 (by decide) ?_
  exact hK40 _ _ _ _ _ _ _ _ hs h hQ
def F_X13_packs_c53 (K40 : Int32 → Int32 → Int32 → Int32 → Int32 → p_M → Option (Int32 × p_M)) : Nat → Int32 → Int32 → Int32 → Int32 → Int32 → Int32 → p_M → Option (Int32 × p_M)
  | 0, _, _, _, _, _, _, _ => none
  | n + 1, v1, v2, v3, v4, v5, v6, μ =>
    if (mI μ tM 39) ≤ v5
    then (F_X13_packs_c87 K40 v1 v2 v3 v4 v5 v6 μ)
    else (p_ok (¬ v5 < 0 ∧ v5.toNatClampNeg < 40)
      (p_ok (¬ v6 < 0 ∧ v6.toNatClampNeg < 40)
      (if v2 < ((mI μ (aM 38) v5.toNatClampNeg) - (mI μ (aM 38) v6.toNatClampNeg))
      then (F_X13_packs_c87 K40 v1 v2 v3 v4 v5 v6 μ)
      else (F_X13_packs_c53 K40 n v1 v2 v3 v4 (v5 + (1 : Int32)) v6 μ))))
theorem P_X13_packs_c53 {K40 : Int32 → Int32 → Int32 → Int32 → Int32 → p_M → Option (Int32 × p_M)} (hP40 : ∀ (v1 : Int32) (v2 : Int32) (v3 : Int32) (v4 : Int32) (v5 : Int32) (μ : p_M) (r : Int32 × p_M), K40 v1 v2 v3 v4 v5 μ = some r → Sm μ r.2) : ∀ (n : Nat) (v1 : Int32) (v2 : Int32) (v3 : Int32) (v4 : Int32) (v5 : Int32) (v6 : Int32) (μ : p_M) (r : Int32 × p_M), F_X13_packs_c53 K40 n v1 v2 v3 v4 v5 v6 μ = some r → Sm μ r.2 := by
  intro n
  induction n with
  | zero => intro v1 v2 v3 v4 v5 v6 μ r h; rw [F_X13_packs_c53] at h; cases h
  | succ n ih =>
    intro v1 v2 v3 v4 v5 v6 μ r h
    rw [F_X13_packs_c53] at h
    by_cases hc : (mI μ tM 39) ≤ v5
    · rw [if_pos hc] at h
      exact Sm_trans (Sm_refl μ) (P_X13_packs_c87 hP40 h)
    · rw [if_neg hc] at h
      obtain ⟨hc, h⟩ := p_ok_some h
      obtain ⟨hc, h⟩ := p_ok_some h
      by_cases hc : v2 < ((mI μ (aM 38) v5.toNatClampNeg) - (mI μ (aM 38) v6.toNatClampNeg))
      · rw [if_pos hc] at h
        exact Sm_trans (Sm_refl μ) (P_X13_packs_c87 hP40 h)
      · rw [if_neg hc] at h
        exact Sm_trans (Sm_refl μ) (ih _ _ _ _ _ _ _ _ h)
theorem E_X13_packs_c53 {X : p_X} {d : Nat} {Q : p_R → Prop} {K40 : Int32 → Int32 → Int32 → Int32 → Int32 → p_M → Option (Int32 × p_M)} (hK40 : ∀ (v1 : Int32) (v2 : Int32) (v3 : Int32) (v4 : Int32) (v5 : Int32) (μ : p_M) (r : Int32 × p_M) (w6 : Value), ShM μ → K40 v1 v2 v3 v4 v5 μ = some r → Q ((0, some (.int r.1)), r.2) → p_Ev X (d + 1) M_X13_packs 40 [.ref tM, .int v1, .int v2, .int v3, .int v4, .int v5, w6] [] μ Q) : ∀ (n : Nat) (v1 : Int32) (v2 : Int32) (v3 : Int32) (v4 : Int32) (v5 : Int32) (v6 : Int32) (μ : p_M) (r : Int32 × p_M), ShM μ → F_X13_packs_c53 K40 n v1 v2 v3 v4 v5 v6 μ = some r → Q ((0, some (.int r.1)), r.2) → p_Ev X (d + 1) M_X13_packs 53 [.ref tM, .int v1, .int v2, .int v3, .int v4, .int v5, .int v6] [] μ Q := by
  intro n
  induction n with
  | zero => intro v1 v2 v3 v4 v5 v6 μ r hs h hQ; rw [F_X13_packs_c53] at h; cases h
  | succ n ih =>
    intro v1 v2 v3 v4 v5 v6 μ r hs h hQ
    rw [F_X13_packs_c53] at h
    refine e_iload dX13_packs_53 rfl ?_
    refine e_aload_n dX13_packs_55 rfl ?_
    refine e_getI dX13_packs_56 rfl rfl hs.1 hs.2.1 ?_
    refine e_ic_ge dX13_packs_59 87 (by decide) (fun hc => ?_) (fun hc => ?_)
    · rw [if_pos hc] at h
      exact E_X13_packs_c87 hK40 hs h hQ
    · rw [if_neg hc] at h
      refine e_aload_n dX13_packs_62 rfl ?_
      refine e_getR dX13_packs_63 rfl rfl hs.1 hs.2.1 (hs.2.2.2 38 (by decide) rfl).1 ?_
      refine e_iload dX13_packs_66 rfl ?_
      obtain ⟨hc, h⟩ := p_ok_some h
      refine e_iald dX13_packs_68 (Nat.lt_trans (hs.2.2.2 38 (by decide) rfl).2.2.2 hs.2.2.1) (hs.2.2.2 38 (by decide) rfl).2.1 (hs.2.2.2 38 (by decide) rfl).2.2.1 (hs.2.2.2 38 (by decide) rfl).2.2.2 hc ?_
      refine e_aload_n dX13_packs_69 rfl ?_
      refine e_getR dX13_packs_70 rfl rfl hs.1 hs.2.1 (hs.2.2.2 38 (by decide) rfl).1 ?_
      refine e_iload dX13_packs_73 rfl ?_
      obtain ⟨hc, h⟩ := p_ok_some h
      refine e_iald dX13_packs_75 (Nat.lt_trans (hs.2.2.2 38 (by decide) rfl).2.2.2 hs.2.2.1) (hs.2.2.2 38 (by decide) rfl).2.1 (hs.2.2.2 38 (by decide) rfl).2.2.1 (hs.2.2.2 38 (by decide) rfl).2.2.2 hc ?_
      refine e_isub dX13_packs_76 ?_
      refine e_iload_n dX13_packs_77 rfl ?_
      refine e_ic_gt dX13_packs_78 87 (by decide) (fun hc => ?_) (fun hc => ?_)
      · rw [if_pos hc] at h
        exact E_X13_packs_c87 hK40 hs h hQ
      · rw [if_neg hc] at h
        refine e_iinc (v := (1 : Int32)) dX13_packs_81 rfl rfl rfl ?_
        refine e_goto dX13_packs_84 53 (by decide) ?_
        exact ih _ _ _ _ _ _ _ _ hs h hQ
def F_X13_packs_c120 (s0 : Int32) (μ : p_M) : Option (Int32 × p_M) :=
  some (s0, μ)
theorem P_X13_packs_c120 {s0 : Int32} {μ : p_M} {r : Int32 × p_M} (h : F_X13_packs_c120 s0 μ = some r) : Sm μ r.2 := by
  unfold F_X13_packs_c120 at h
  cases h
  exact (Sm_refl μ)
theorem E_X13_packs_c120 {X : p_X} {d : Nat} {Q : p_R → Prop} {s0 : Int32} {w0 : Value} {w1 : Value} {w2 : Value} {w3 : Value} {w4 : Value} {w5 : Value} {w6 : Value} {μ : p_M} {r : Int32 × p_M} (hs : ShM μ) (h : F_X13_packs_c120 s0 μ = some r) (hQ : Q ((0, some (.int r.1)), r.2)) : p_Ev X (d + 1) M_X13_packs 120 [w0, w1, w2, w3, w4, w5, w6] [.int s0] μ Q := by
  unfold F_X13_packs_c120 at h
  cases h
  exact e_ireti dX13_packs_120 rfl hQ
def F_X13_packs_c40 : Nat → Int32 → Int32 → Int32 → Int32 → Int32 → p_M → Option (Int32 × p_M)
  | 0, _, _, _, _, _, _ => none
  | n + 1, v1, v2, v3, v4, v5, μ =>
    if (mI μ tM 39) ≤ v5
    then (if v3 = 0
      then (F_X13_packs_c120 v4 μ)
      else (F_X13_packs_c120 ((mI μ tM 39) - (v4 * v1)) μ))
    else (F_X13_packs_c53 (F_X13_packs_c40 n) p_fu v1 v2 v3 v4 v5 v5 μ)
theorem P_X13_packs_c40 : ∀ (n : Nat) (v1 : Int32) (v2 : Int32) (v3 : Int32) (v4 : Int32) (v5 : Int32) (μ : p_M) (r : Int32 × p_M), F_X13_packs_c40 n v1 v2 v3 v4 v5 μ = some r → Sm μ r.2 := by
  intro n
  induction n with
  | zero => intro v1 v2 v3 v4 v5 μ r h; rw [F_X13_packs_c40] at h; cases h
  | succ n ih =>
    intro v1 v2 v3 v4 v5 μ r h
    rw [F_X13_packs_c40] at h
    by_cases hc : (mI μ tM 39) ≤ v5
    · rw [if_pos hc] at h
      by_cases hc : v3 = 0
      · rw [if_pos hc] at h
        exact Sm_trans (Sm_refl μ) (P_X13_packs_c120 h)
      · rw [if_neg hc] at h
        exact Sm_trans (Sm_refl μ) (P_X13_packs_c120 h)
    · rw [if_neg hc] at h
      exact Sm_trans (Sm_refl μ) (P_X13_packs_c53 ih p_fu _ _ _ _ _ _ _ _ h)
theorem E_X13_packs_c40 {X : p_X} {d : Nat} {Q : p_R → Prop} : ∀ (n : Nat) (v1 : Int32) (v2 : Int32) (v3 : Int32) (v4 : Int32) (v5 : Int32) (μ : p_M) (r : Int32 × p_M) (w6 : Value), ShM μ → F_X13_packs_c40 n v1 v2 v3 v4 v5 μ = some r → Q ((0, some (.int r.1)), r.2) → p_Ev X (d + 1) M_X13_packs 40 [.ref tM, .int v1, .int v2, .int v3, .int v4, .int v5, w6] [] μ Q := by
  intro n
  induction n with
  | zero => intro v1 v2 v3 v4 v5 μ r w6 hs h hQ; rw [F_X13_packs_c40] at h; cases h
  | succ n ih =>
    intro v1 v2 v3 v4 v5 μ r w6 hs h hQ
    rw [F_X13_packs_c40] at h
    refine e_iload dX13_packs_40 rfl ?_
    refine e_aload_n dX13_packs_42 rfl ?_
    refine e_getI dX13_packs_43 rfl rfl hs.1 hs.2.1 ?_
    refine e_ic_ge dX13_packs_46 102 (by decide) (fun hc => ?_) (fun hc => ?_)
    · rw [if_pos hc] at h
      refine e_iload_n dX13_packs_102 rfl ?_
      refine e_if_eq dX13_packs_103 118 (by decide) (fun hc => ?_) (fun hc => ?_)
      · rw [if_pos hc] at h
        refine e_iload dX13_packs_118 rfl ?_
        exact E_X13_packs_c120 hs h hQ
      · rw [if_neg hc] at h
        refine e_aload_n dX13_packs_106 rfl ?_
        refine e_getI dX13_packs_107 rfl rfl hs.1 hs.2.1 ?_
        refine e_iload dX13_packs_110 rfl ?_
        refine e_iload_n dX13_packs_112 rfl ?_
        refine e_imul dX13_packs_113 ?_
        refine e_isub dX13_packs_114 ?_
        refine e_goto dX13_packs_115 120 (by decide) ?_
        exact E_X13_packs_c120 hs h hQ
    · rw [if_neg hc] at h
      refine e_iload dX13_packs_49 rfl ?_
      refine e_istore dX13_packs_51 (Nat.le_of_ble_eq_true rfl) rfl ?_
      exact E_X13_packs_c53 ih p_fu _ _ _ _ _ _ _ _ hs h hQ
def F_X13_packs_c25 (v1 : Int32) (v2 : Int32) (v3 : Int32) (s0 : Int32) (μ : p_M) : Option (Int32 × p_M) :=
  (F_X13_throwsIf s0 (1 : Int32) μ).bind fun q2 =>
  if q2.1 = 0
  then (F_X13_packs_c40 p_fu v1 v2 v3 (0 : Int32) (0 : Int32) q2.2)
  else (some ((0 : Int32), q2.2))
theorem P_X13_packs_c25 {v1 : Int32} {v2 : Int32} {v3 : Int32} {s0 : Int32} {μ : p_M} {r : Int32 × p_M} (h : F_X13_packs_c25 v1 v2 v3 s0 μ = some r) : Sm μ r.2 := by
  unfold F_X13_packs_c25 at h
  obtain ⟨q2, hq2, h⟩ := p_bd h
  by_cases hc : q2.1 = 0
  · rw [if_pos hc] at h
    exact Sm_trans (Sm_trans (Sm_refl μ) (P_X13_throwsIf (r := q2) hq2)) (P_X13_packs_c40 p_fu _ _ _ _ _ _ _ h)
  · rw [if_neg hc] at h
    cases h
    exact (Sm_trans (Sm_refl μ) (P_X13_throwsIf (r := q2) hq2))
theorem E_X13_packs_c25 {X : p_X} {d : Nat} {Q : p_R → Prop} {v1 : Int32} {v2 : Int32} {v3 : Int32} {s0 : Int32} {w4 : Value} {w5 : Value} {w6 : Value} {μ : p_M} {r : Int32 × p_M} (hs : ShM μ) (h : F_X13_packs_c25 v1 v2 v3 s0 μ = some r) (hQ : Q ((0, some (.int r.1)), r.2)) : p_Ev X (d + 1) M_X13_packs 25 [.ref tM, .int v1, .int v2, .int v3, w4, w5, w6] [.int s0, .ref tM] μ Q := by
  unfold F_X13_packs_c25 at h
  refine e_iconst (v := (1 : Int32)) dX13_packs_25 rfl ?_
  obtain ⟨q2, hq2, h⟩ := p_bd h
  refine e_cV dX13_packs_26 rfl rfl ⟨rfl, rfl, by decide⟩ rfl hs.1 hs.2.1 (E_X13_throwsIf hs hq2 ⟨rfl, ?_⟩)
  have hs := ShM_of (P_X13_throwsIf hq2) hs
  show p_Ev X (d + 1) M_X13_packs 29 [.ref tM, .int v1, .int v2, .int v3, w4, w5, w6] [.int q2.1] q2.2 Q
  refine e_if_eq dX13_packs_29 34 (by decide) (fun hc => ?_) (fun hc => ?_)
  · rw [if_pos hc] at h
    refine e_iconst (v := (0 : Int32)) dX13_packs_34 rfl ?_
    refine e_istore dX13_packs_35 (Nat.le_of_ble_eq_true rfl) rfl ?_
    refine e_iconst (v := (0 : Int32)) dX13_packs_37 rfl ?_
    refine e_istore dX13_packs_38 (Nat.le_of_ble_eq_true rfl) rfl ?_
    exact E_X13_packs_c40 p_fu _ _ _ _ _ _ _ _ hs h hQ
  · rw [if_neg hc] at h
    refine e_iconst (v := (0 : Int32)) dX13_packs_32 rfl ?_
    cases h
    exact e_ireti dX13_packs_33 rfl hQ
def F_X13_packs_c20 (v1 : Int32) (v2 : Int32) (v3 : Int32) (μ : p_M) : Option (Int32 × p_M) :=
  F_X13_packs_c25 v1 v2 v3 (1 : Int32) μ
theorem P_X13_packs_c20 {v1 : Int32} {v2 : Int32} {v3 : Int32} {μ : p_M} {r : Int32 × p_M} (h : F_X13_packs_c20 v1 v2 v3 μ = some r) : Sm μ r.2 := by
  unfold F_X13_packs_c20 at h
  exact Sm_trans (Sm_refl μ) (P_X13_packs_c25 h)
theorem E_X13_packs_c20 {X : p_X} {d : Nat} {Q : p_R → Prop} {v1 : Int32} {v2 : Int32} {v3 : Int32} {w4 : Value} {w5 : Value} {w6 : Value} {μ : p_M} {r : Int32 × p_M} (hs : ShM μ) (h : F_X13_packs_c20 v1 v2 v3 μ = some r) (hQ : Q ((0, some (.int r.1)), r.2)) : p_Ev X (d + 1) M_X13_packs 20 [.ref tM, .int v1, .int v2, .int v3, w4, w5, w6] [.ref tM] μ Q := by
  unfold F_X13_packs_c20 at h
  refine e_iconst (v := (1 : Int32)) dX13_packs_20 rfl ?_
  refine e_goto dX13_packs_21 25 (by decide) ?_
  exact E_X13_packs_c25 hs h hQ
def F_X13_packs (v1 : Int32) (v2 : Int32) (v3 : Int32) (μ : p_M) : Option (Int32 × p_M) :=
  (F_X13_in v1 (1 : Int32) (20 : Int32) (sI μ tM 0 (0 : Int32))).bind fun q1 =>
  if q1.1 = 0
  then (F_X13_packs_c20 v1 v2 v3 q1.2)
  else (if 0 ≤ v2
    then (F_X13_packs_c25 v1 v2 v3 (0 : Int32) q1.2)
    else (F_X13_packs_c20 v1 v2 v3 q1.2))
theorem P_X13_packs {v1 : Int32} {v2 : Int32} {v3 : Int32} {μ : p_M} {r : Int32 × p_M} (h : F_X13_packs v1 v2 v3 μ = some r) : Sm μ r.2 := by
  unfold F_X13_packs at h
  obtain ⟨q1, hq1, h⟩ := p_bd h
  by_cases hc : q1.1 = 0
  · rw [if_pos hc] at h
    exact Sm_trans (Sm_trans (Sm_set (Sm_refl μ) (by decide)) (P_X13_in (r := q1) hq1)) (P_X13_packs_c20 h)
  · rw [if_neg hc] at h
    by_cases hc : 0 ≤ v2
    · rw [if_pos hc] at h
      exact Sm_trans (Sm_trans (Sm_set (Sm_refl μ) (by decide)) (P_X13_in (r := q1) hq1)) (P_X13_packs_c25 h)
    · rw [if_neg hc] at h
      exact Sm_trans (Sm_trans (Sm_set (Sm_refl μ) (by decide)) (P_X13_in (r := q1) hq1)) (P_X13_packs_c20 h)
theorem E_X13_packs {X : p_X} {d : Nat} {Q : p_R → Prop} {v1 : Int32} {v2 : Int32} {v3 : Int32} {μ : p_M} {r : Int32 × p_M} (hs : ShM μ) (h : F_X13_packs v1 v2 v3 μ = some r) (hQ : Q ((0, some (.int r.1)), r.2)) : p_Ev X (d + 1) M_X13_packs 0 [.ref tM, .int v1, .int v2, .int v3, .double 0, .double 0, .double 0] [] μ Q := by
  unfold F_X13_packs at h
  refine e_aload_n dX13_packs_0 rfl ?_
  refine e_iconst (v := (0 : Int32)) dX13_packs_1 rfl ?_
  refine e_putI dX13_packs_2 rfl ⟨rfl, rfl, fun h => by cases h⟩ (fun h => by cases h) hs.1 hs.2.1 ?_
  refine e_aload_n dX13_packs_5 rfl ?_
  refine e_iload_n dX13_packs_6 rfl ?_
  refine e_iconst (v := (1 : Int32)) dX13_packs_7 rfl ?_
  refine e_bipush (v := (20 : Int32)) dX13_packs_8 rfl ?_
  obtain ⟨q1, hq1, h⟩ := p_bd h
  refine e_cS dX13_packs_10 rfl rfl rfl rfl (E_X13_in hs hq1 ⟨rfl, ?_⟩)
  have hs := ShM_of (P_X13_in hq1) hs
  show p_Ev X (d + 1) M_X13_packs 13 [.ref tM, .int v1, .int v2, .int v3, .double 0, .double 0, .double 0] [.int q1.1, .ref tM] q1.2 Q
  refine e_if_eq dX13_packs_13 20 (by decide) (fun hc => ?_) (fun hc => ?_)
  · rw [if_pos hc] at h
    exact E_X13_packs_c20 hs h hQ
  · rw [if_neg hc] at h
    refine e_iload_n dX13_packs_16 rfl ?_
    refine e_if_ge dX13_packs_17 24 (by decide) (fun hc => ?_) (fun hc => ?_)
    · rw [if_pos hc] at h
      refine e_iconst (v := (0 : Int32)) dX13_packs_24 rfl ?_
      exact E_X13_packs_c25 hs h hQ
    · rw [if_neg hc] at h
      exact E_X13_packs_c20 hs h hQ
/-! X13_pattern -/
def F_X13_pattern_c50 : Nat → Int32 → p_M → Option (Int32 × p_M)
  | 0, _, _ => none
  | n + 1, v3, μ =>
    if (24 : Int32) ≤ v3
    then (some (0, μ))
    else (p_ok (¬ v3 < 0 ∧ v3.toNatClampNeg < 24)
      (F_X13_pattern_c50 n (v3 + (1 : Int32)) (sI μ (aM 78) v3.toNatClampNeg (0 : Int32))))
theorem P_X13_pattern_c50 : ∀ (n : Nat) (v3 : Int32) (μ : p_M) (r : Int32 × p_M), F_X13_pattern_c50 n v3 μ = some r → Sm μ r.2 := by
  intro n
  induction n with
  | zero => intro v3 μ r h; rw [F_X13_pattern_c50] at h; cases h
  | succ n ih =>
    intro v3 μ r h
    rw [F_X13_pattern_c50] at h
    by_cases hc : (24 : Int32) ≤ v3
    · rw [if_pos hc] at h
      cases h
      exact (Sm_refl μ)
    · rw [if_neg hc] at h
      obtain ⟨hc, h⟩ := p_ok_some h
      exact Sm_trans (Sm_set (Sm_refl μ) (by decide)) (ih _ _ _ h)
theorem E_X13_pattern_c50 {X : p_X} {d : Nat} {Q : p_R → Prop} : ∀ (n : Nat) (v3 : Int32) (μ : p_M) (r : Int32 × p_M) (w1 : Value) (w2 : Value), ShM μ → F_X13_pattern_c50 n v3 μ = some r → Q ((0, none), r.2) → p_Ev X (d + 1) M_X13_pattern 50 [.ref tM, w1, w2, .int v3] [] μ Q := by
  intro n
  induction n with
  | zero => intro v3 μ r w1 w2 hs h hQ; rw [F_X13_pattern_c50] at h; cases h
  | succ n ih =>
    intro v3 μ r w1 w2 hs h hQ
    rw [F_X13_pattern_c50] at h
    refine e_iload_n dX13_pattern_50 rfl ?_
    refine e_bipush (v := (24 : Int32)) dX13_pattern_51 rfl ?_
    refine e_ic_ge dX13_pattern_53 69 (by decide) (fun hc => ?_) (fun hc => ?_)
    · rw [if_pos hc] at h
      cases h
      exact e_vret dX13_pattern_69 rfl hQ
    · rw [if_neg hc] at h
      refine e_aload_n dX13_pattern_56 rfl ?_
      refine e_getR dX13_pattern_57 rfl rfl hs.1 hs.2.1 (hs.2.2.2 78 (by decide) rfl).1 ?_
      refine e_iload_n dX13_pattern_60 rfl ?_
      refine e_iconst (v := (0 : Int32)) dX13_pattern_61 rfl ?_
      obtain ⟨hc, h⟩ := p_ok_some h
      refine e_iast dX13_pattern_62 (hs.2.2.2 78 (by decide) rfl).2.1 (hs.2.2.2 78 (by decide) rfl).2.2.1 (hs.2.2.2 78 (by decide) rfl).2.2.2 hc ?_
      refine e_iinc (v := (1 : Int32)) dX13_pattern_63 rfl rfl rfl ?_
      refine e_goto dX13_pattern_66 50 (by decide) ?_
      exact ih _ _ _ _ _ hs h hQ
def F_X13_pattern_c30 (v1 : Int32) (v2 : Int32) (s0 : Int32) (μ : p_M) : Option (Int32 × p_M) :=
  (F_X13_throwsIf s0 (1 : Int32) μ).bind fun q3 =>
  if q3.1 = 0
  then (F_X13_pattern_c50 p_fu (0 : Int32) (sI (sI q3.2 tM 76 v1) tM 77 v2))
  else (some (0, q3.2))
theorem P_X13_pattern_c30 {v1 : Int32} {v2 : Int32} {s0 : Int32} {μ : p_M} {r : Int32 × p_M} (h : F_X13_pattern_c30 v1 v2 s0 μ = some r) : Sm μ r.2 := by
  unfold F_X13_pattern_c30 at h
  obtain ⟨q3, hq3, h⟩ := p_bd h
  by_cases hc : q3.1 = 0
  · rw [if_pos hc] at h
    exact Sm_trans (Sm_set (Sm_set (Sm_trans (Sm_refl μ) (P_X13_throwsIf (r := q3) hq3)) (by decide)) (by decide)) (P_X13_pattern_c50 p_fu _ _ _ h)
  · rw [if_neg hc] at h
    cases h
    exact (Sm_trans (Sm_refl μ) (P_X13_throwsIf (r := q3) hq3))
theorem E_X13_pattern_c30 {X : p_X} {d : Nat} {Q : p_R → Prop} {v1 : Int32} {v2 : Int32} {s0 : Int32} {w3 : Value} {μ : p_M} {r : Int32 × p_M} (hs : ShM μ) (h : F_X13_pattern_c30 v1 v2 s0 μ = some r) (hQ : Q ((0, none), r.2)) : p_Ev X (d + 1) M_X13_pattern 30 [.ref tM, .int v1, .int v2, w3] [.int s0, .ref tM] μ Q := by
  unfold F_X13_pattern_c30 at h
  refine e_iconst (v := (1 : Int32)) dX13_pattern_30 rfl ?_
  obtain ⟨q3, hq3, h⟩ := p_bd h
  refine e_cV dX13_pattern_31 rfl rfl ⟨rfl, rfl, by decide⟩ rfl hs.1 hs.2.1 (E_X13_throwsIf hs hq3 ⟨rfl, ?_⟩)
  have hs := ShM_of (P_X13_throwsIf hq3) hs
  show p_Ev X (d + 1) M_X13_pattern 34 [.ref tM, .int v1, .int v2, w3] [.int q3.1] q3.2 Q
  refine e_if_eq dX13_pattern_34 38 (by decide) (fun hc => ?_) (fun hc => ?_)
  · rw [if_pos hc] at h
    refine e_aload_n dX13_pattern_38 rfl ?_
    refine e_iload_n dX13_pattern_39 rfl ?_
    refine e_putI dX13_pattern_40 rfl ⟨rfl, rfl, fun h => by cases h⟩ (fun h => by cases h) hs.1 hs.2.1 ?_
    refine e_aload_n dX13_pattern_43 rfl ?_
    refine e_iload_n dX13_pattern_44 rfl ?_
    refine e_putI dX13_pattern_45 rfl ⟨rfl, rfl, fun h => by cases h⟩ (fun h => by cases h) hs.1 hs.2.1 ?_
    refine e_iconst (v := (0 : Int32)) dX13_pattern_48 rfl ?_
    refine e_istore_n dX13_pattern_49 (Nat.le_of_ble_eq_true rfl) rfl ?_
    exact E_X13_pattern_c50 p_fu _ _ _ _ _ hs h hQ
  · rw [if_neg hc] at h
    cases h
    exact e_vret dX13_pattern_37 rfl hQ
def F_X13_pattern_c25 (v1 : Int32) (v2 : Int32) (μ : p_M) : Option (Int32 × p_M) :=
  F_X13_pattern_c30 v1 v2 (1 : Int32) μ
theorem P_X13_pattern_c25 {v1 : Int32} {v2 : Int32} {μ : p_M} {r : Int32 × p_M} (h : F_X13_pattern_c25 v1 v2 μ = some r) : Sm μ r.2 := by
  unfold F_X13_pattern_c25 at h
  exact Sm_trans (Sm_refl μ) (P_X13_pattern_c30 h)
theorem E_X13_pattern_c25 {X : p_X} {d : Nat} {Q : p_R → Prop} {v1 : Int32} {v2 : Int32} {w3 : Value} {μ : p_M} {r : Int32 × p_M} (hs : ShM μ) (h : F_X13_pattern_c25 v1 v2 μ = some r) (hQ : Q ((0, none), r.2)) : p_Ev X (d + 1) M_X13_pattern 25 [.ref tM, .int v1, .int v2, w3] [.ref tM] μ Q := by
  unfold F_X13_pattern_c25 at h
  refine e_iconst (v := (1 : Int32)) dX13_pattern_25 rfl ?_
  refine e_goto dX13_pattern_26 30 (by decide) ?_
  exact E_X13_pattern_c30 hs h hQ
def F_X13_pattern (v1 : Int32) (v2 : Int32) (μ : p_M) : Option (Int32 × p_M) :=
  (F_X13_in v1 (1 : Int32) (6 : Int32) (sI μ tM 0 (0 : Int32))).bind fun q1 =>
  if q1.1 = 0
  then (F_X13_pattern_c25 v1 v2 q1.2)
  else ((F_X13_in v2 (1 : Int32) (4 : Int32) q1.2).bind fun q2 =>
    if ¬ q2.1 = 0
    then (F_X13_pattern_c30 v1 v2 (0 : Int32) q2.2)
    else (F_X13_pattern_c25 v1 v2 q2.2))
theorem P_X13_pattern {v1 : Int32} {v2 : Int32} {μ : p_M} {r : Int32 × p_M} (h : F_X13_pattern v1 v2 μ = some r) : Sm μ r.2 := by
  unfold F_X13_pattern at h
  obtain ⟨q1, hq1, h⟩ := p_bd h
  by_cases hc : q1.1 = 0
  · rw [if_pos hc] at h
    exact Sm_trans (Sm_trans (Sm_set (Sm_refl μ) (by decide)) (P_X13_in (r := q1) hq1)) (P_X13_pattern_c25 h)
  · rw [if_neg hc] at h
    obtain ⟨q2, hq2, h⟩ := p_bd h
    by_cases hc : ¬ q2.1 = 0
    · rw [if_pos hc] at h
      exact Sm_trans (Sm_trans (Sm_trans (Sm_set (Sm_refl μ) (by decide)) (P_X13_in (r := q1) hq1)) (P_X13_in (r := q2) hq2)) (P_X13_pattern_c30 h)
    · rw [if_neg hc] at h
      exact Sm_trans (Sm_trans (Sm_trans (Sm_set (Sm_refl μ) (by decide)) (P_X13_in (r := q1) hq1)) (P_X13_in (r := q2) hq2)) (P_X13_pattern_c25 h)
theorem E_X13_pattern {X : p_X} {d : Nat} {Q : p_R → Prop} {v1 : Int32} {v2 : Int32} {μ : p_M} {r : Int32 × p_M} (hs : ShM μ) (h : F_X13_pattern v1 v2 μ = some r) (hQ : Q ((0, none), r.2)) : p_Ev X (d + 1) M_X13_pattern 0 [.ref tM, .int v1, .int v2, .double 0] [] μ Q := by
  unfold F_X13_pattern at h
  refine e_aload_n dX13_pattern_0 rfl ?_
  refine e_iconst (v := (0 : Int32)) dX13_pattern_1 rfl ?_
  refine e_putI dX13_pattern_2 rfl ⟨rfl, rfl, fun h => by cases h⟩ (fun h => by cases h) hs.1 hs.2.1 ?_
  refine e_aload_n dX13_pattern_5 rfl ?_
  refine e_iload_n dX13_pattern_6 rfl ?_
  refine e_iconst (v := (1 : Int32)) dX13_pattern_7 rfl ?_
  refine e_bipush (v := (6 : Int32)) dX13_pattern_8 rfl ?_
  obtain ⟨q1, hq1, h⟩ := p_bd h
  refine e_cS dX13_pattern_10 rfl rfl rfl rfl (E_X13_in hs hq1 ⟨rfl, ?_⟩)
  have hs := ShM_of (P_X13_in hq1) hs
  show p_Ev X (d + 1) M_X13_pattern 13 [.ref tM, .int v1, .int v2, .double 0] [.int q1.1, .ref tM] q1.2 Q
  refine e_if_eq dX13_pattern_13 25 (by decide) (fun hc => ?_) (fun hc => ?_)
  · rw [if_pos hc] at h
    exact E_X13_pattern_c25 hs h hQ
  · rw [if_neg hc] at h
    refine e_iload_n dX13_pattern_16 rfl ?_
    refine e_iconst (v := (1 : Int32)) dX13_pattern_17 rfl ?_
    refine e_iconst (v := (4 : Int32)) dX13_pattern_18 rfl ?_
    obtain ⟨q2, hq2, h⟩ := p_bd h
    refine e_cS dX13_pattern_19 rfl rfl rfl rfl (E_X13_in hs hq2 ⟨rfl, ?_⟩)
    have hs := ShM_of (P_X13_in hq2) hs
    show p_Ev X (d + 1) M_X13_pattern 22 [.ref tM, .int v1, .int v2, .double 0] [.int q2.1, .ref tM] q2.2 Q
    refine e_if_ne dX13_pattern_22 29 (by decide) (fun hc => ?_) (fun hc => ?_)
    · rw [if_pos hc] at h
      refine e_iconst (v := (0 : Int32)) dX13_pattern_29 rfl ?_
      exact E_X13_pattern_c30 hs h hQ
    · rw [if_neg hc] at h
      exact E_X13_pattern_c25 hs h hQ
/-! X13_pour -/
def F_X13_pour_c67 (μ : p_M) : Option (Int32 × p_M) :=
  some ((0 : Int32), μ)
theorem P_X13_pour_c67 {μ : p_M} {r : Int32 × p_M} (h : F_X13_pour_c67 μ = some r) : Sm μ r.2 := by
  unfold F_X13_pour_c67 at h
  cases h
  exact (Sm_refl μ)
theorem E_X13_pour_c67 {X : p_X} {d : Nat} {Q : p_R → Prop} {w0 : Value} {w1 : Value} {w2 : Value} {w3 : Value} {μ : p_M} {r : Int32 × p_M} (hs : ShM μ) (h : F_X13_pour_c67 μ = some r) (hQ : Q ((0, some (.int r.1)), r.2)) : p_Ev X (d + 1) M_X13_pour 67 [w0, w1, w2, w3] [] μ Q := by
  unfold F_X13_pour_c67 at h
  refine e_iconst (v := (0 : Int32)) dX13_pour_67 rfl ?_
  cases h
  exact e_ireti dX13_pour_68 rfl hQ
def F_X13_pour_c60 (v1 : Int32) (v2 : Int32) (v3 : Int32) (s0 : Int32) (μ : p_M) : Option (Int32 × p_M) :=
  (F_X13_throwsIf s0 (2 : Int32) μ).bind fun q5 =>
  if q5.1 = 0
  then ((F_X13_pours v1 v2 v3 q5.2).bind fun q6 =>
    some ((mI q6.2 tM 37), q6.2))
  else (F_X13_pour_c67 q5.2)
theorem P_X13_pour_c60 {v1 : Int32} {v2 : Int32} {v3 : Int32} {s0 : Int32} {μ : p_M} {r : Int32 × p_M} (h : F_X13_pour_c60 v1 v2 v3 s0 μ = some r) : Sm μ r.2 := by
  unfold F_X13_pour_c60 at h
  obtain ⟨q5, hq5, h⟩ := p_bd h
  by_cases hc : q5.1 = 0
  · rw [if_pos hc] at h
    obtain ⟨q6, hq6, h⟩ := p_bd h
    cases h
    exact (Sm_trans (Sm_trans (Sm_refl μ) (P_X13_throwsIf (r := q5) hq5)) (P_X13_pours (r := q6) hq6))
  · rw [if_neg hc] at h
    exact Sm_trans (Sm_trans (Sm_refl μ) (P_X13_throwsIf (r := q5) hq5)) (P_X13_pour_c67 h)
theorem E_X13_pour_c60 {X : p_X} {d : Nat} {Q : p_R → Prop} {v1 : Int32} {v2 : Int32} {v3 : Int32} {s0 : Int32} {μ : p_M} {r : Int32 × p_M} (hs : ShM μ) (h : F_X13_pour_c60 v1 v2 v3 s0 μ = some r) (hQ : Q ((0, some (.int r.1)), r.2)) : p_Ev X (d + 1) M_X13_pour 60 [.ref tM, .int v1, .int v2, .int v3] [.int s0, .ref tM] μ Q := by
  unfold F_X13_pour_c60 at h
  refine e_iconst (v := (2 : Int32)) dX13_pour_60 rfl ?_
  obtain ⟨q5, hq5, h⟩ := p_bd h
  refine e_cV dX13_pour_61 rfl rfl ⟨rfl, rfl, by decide⟩ rfl hs.1 hs.2.1 (E_X13_throwsIf hs hq5 ⟨rfl, ?_⟩)
  have hs := ShM_of (P_X13_throwsIf hq5) hs
  show p_Ev X (d + 1) M_X13_pour 64 [.ref tM, .int v1, .int v2, .int v3] [.int q5.1] q5.2 Q
  refine e_if_eq dX13_pour_64 69 (by decide) (fun hc => ?_) (fun hc => ?_)
  · rw [if_pos hc] at h
    refine e_aload_n dX13_pour_69 rfl ?_
    refine e_iload_n dX13_pour_70 rfl ?_
    refine e_iload_n dX13_pour_71 rfl ?_
    refine e_iload_n dX13_pour_72 rfl ?_
    obtain ⟨q6, hq6, h⟩ := p_bd h
    refine e_cV dX13_pour_73 rfl rfl ⟨rfl, rfl, by decide⟩ rfl hs.1 hs.2.1 (E_X13_pours hs hq6 ⟨rfl, ?_⟩)
    have hs := ShM_of (P_X13_pours hq6) hs
    show p_Ev X (d + 1) M_X13_pour 76 [.ref tM, .int v1, .int v2, .int v3] [] q6.2 Q
    refine e_aload_n dX13_pour_76 rfl ?_
    refine e_getI dX13_pour_77 rfl rfl hs.1 hs.2.1 ?_
    cases h
    exact e_ireti dX13_pour_80 rfl hQ
  · rw [if_neg hc] at h
    exact E_X13_pour_c67 hs h hQ
def F_X13_pour_c55 (v1 : Int32) (v2 : Int32) (v3 : Int32) (μ : p_M) : Option (Int32 × p_M) :=
  F_X13_pour_c60 v1 v2 v3 (1 : Int32) μ
theorem P_X13_pour_c55 {v1 : Int32} {v2 : Int32} {v3 : Int32} {μ : p_M} {r : Int32 × p_M} (h : F_X13_pour_c55 v1 v2 v3 μ = some r) : Sm μ r.2 := by
  unfold F_X13_pour_c55 at h
  exact Sm_trans (Sm_refl μ) (P_X13_pour_c60 h)
theorem E_X13_pour_c55 {X : p_X} {d : Nat} {Q : p_R → Prop} {v1 : Int32} {v2 : Int32} {v3 : Int32} {μ : p_M} {r : Int32 × p_M} (hs : ShM μ) (h : F_X13_pour_c55 v1 v2 v3 μ = some r) (hQ : Q ((0, some (.int r.1)), r.2)) : p_Ev X (d + 1) M_X13_pour 55 [.ref tM, .int v1, .int v2, .int v3] [.ref tM] μ Q := by
  unfold F_X13_pour_c55 at h
  refine e_iconst (v := (1 : Int32)) dX13_pour_55 rfl ?_
  refine e_goto dX13_pour_56 60 (by decide) ?_
  exact E_X13_pour_c60 hs h hQ
def F_X13_pour_c25 (v1 : Int32) (v2 : Int32) (v3 : Int32) (s0 : Int32) (μ : p_M) : Option (Int32 × p_M) :=
  (F_X13_throwsIf s0 (1 : Int32) μ).bind fun q2 =>
  if ¬ q2.1 = 0
  then (F_X13_pour_c67 q2.2)
  else ((F_X13_in v2 (1 : Int32) (1000 : Int32) q2.2).bind fun q3 =>
    if q3.1 = 0
    then (F_X13_pour_c55 v1 v2 v3 q3.2)
    else ((F_X13_in v3 (0 : Int32) (100000 : Int32) q3.2).bind fun q4 =>
      if ¬ q4.1 = 0
      then (F_X13_pour_c60 v1 v2 v3 (0 : Int32) q4.2)
      else (F_X13_pour_c55 v1 v2 v3 q4.2)))
theorem P_X13_pour_c25 {v1 : Int32} {v2 : Int32} {v3 : Int32} {s0 : Int32} {μ : p_M} {r : Int32 × p_M} (h : F_X13_pour_c25 v1 v2 v3 s0 μ = some r) : Sm μ r.2 := by
  unfold F_X13_pour_c25 at h
  obtain ⟨q2, hq2, h⟩ := p_bd h
  by_cases hc : ¬ q2.1 = 0
  · rw [if_pos hc] at h
    exact Sm_trans (Sm_trans (Sm_refl μ) (P_X13_throwsIf (r := q2) hq2)) (P_X13_pour_c67 h)
  · rw [if_neg hc] at h
    obtain ⟨q3, hq3, h⟩ := p_bd h
    by_cases hc : q3.1 = 0
    · rw [if_pos hc] at h
      exact Sm_trans (Sm_trans (Sm_trans (Sm_refl μ) (P_X13_throwsIf (r := q2) hq2)) (P_X13_in (r := q3) hq3)) (P_X13_pour_c55 h)
    · rw [if_neg hc] at h
      obtain ⟨q4, hq4, h⟩ := p_bd h
      by_cases hc : ¬ q4.1 = 0
      · rw [if_pos hc] at h
        exact Sm_trans (Sm_trans (Sm_trans (Sm_trans (Sm_refl μ) (P_X13_throwsIf (r := q2) hq2)) (P_X13_in (r := q3) hq3)) (P_X13_in (r := q4) hq4)) (P_X13_pour_c60 h)
      · rw [if_neg hc] at h
        exact Sm_trans (Sm_trans (Sm_trans (Sm_trans (Sm_refl μ) (P_X13_throwsIf (r := q2) hq2)) (P_X13_in (r := q3) hq3)) (P_X13_in (r := q4) hq4)) (P_X13_pour_c55 h)
theorem E_X13_pour_c25 {X : p_X} {d : Nat} {Q : p_R → Prop} {v1 : Int32} {v2 : Int32} {v3 : Int32} {s0 : Int32} {μ : p_M} {r : Int32 × p_M} (hs : ShM μ) (h : F_X13_pour_c25 v1 v2 v3 s0 μ = some r) (hQ : Q ((0, some (.int r.1)), r.2)) : p_Ev X (d + 1) M_X13_pour 25 [.ref tM, .int v1, .int v2, .int v3] [.int s0, .ref tM] μ Q := by
  unfold F_X13_pour_c25 at h
  refine e_iconst (v := (1 : Int32)) dX13_pour_25 rfl ?_
  obtain ⟨q2, hq2, h⟩ := p_bd h
  refine e_cV dX13_pour_26 rfl rfl ⟨rfl, rfl, by decide⟩ rfl hs.1 hs.2.1 (E_X13_throwsIf hs hq2 ⟨rfl, ?_⟩)
  have hs := ShM_of (P_X13_throwsIf hq2) hs
  show p_Ev X (d + 1) M_X13_pour 29 [.ref tM, .int v1, .int v2, .int v3] [.int q2.1] q2.2 Q
  refine e_if_ne dX13_pour_29 67 (by decide) (fun hc => ?_) (fun hc => ?_)
  · rw [if_pos hc] at h
    exact E_X13_pour_c67 hs h hQ
  · rw [if_neg hc] at h
    refine e_aload_n dX13_pour_32 rfl ?_
    refine e_iload_n dX13_pour_33 rfl ?_
    refine e_iconst (v := (1 : Int32)) dX13_pour_34 rfl ?_
    refine e_sipush (v := (1000 : Int32)) dX13_pour_35 rfl ?_
    obtain ⟨q3, hq3, h⟩ := p_bd h
    refine e_cS dX13_pour_38 rfl rfl rfl rfl (E_X13_in hs hq3 ⟨rfl, ?_⟩)
    have hs := ShM_of (P_X13_in hq3) hs
    show p_Ev X (d + 1) M_X13_pour 41 [.ref tM, .int v1, .int v2, .int v3] [.int q3.1, .ref tM] q3.2 Q
    refine e_if_eq dX13_pour_41 55 (by decide) (fun hc => ?_) (fun hc => ?_)
    · rw [if_pos hc] at h
      exact E_X13_pour_c55 hs h hQ
    · rw [if_neg hc] at h
      refine e_iload_n dX13_pour_44 rfl ?_
      refine e_iconst (v := (0 : Int32)) dX13_pour_45 rfl ?_
      refine e_ldc_w (v := (100000 : Int32)) dX13_pour_46 rfl ?_
      obtain ⟨q4, hq4, h⟩ := p_bd h
      refine e_cS dX13_pour_49 rfl rfl rfl rfl (E_X13_in hs hq4 ⟨rfl, ?_⟩)
      have hs := ShM_of (P_X13_in hq4) hs
      show p_Ev X (d + 1) M_X13_pour 52 [.ref tM, .int v1, .int v2, .int v3] [.int q4.1, .ref tM] q4.2 Q
      refine e_if_ne dX13_pour_52 59 (by decide) (fun hc => ?_) (fun hc => ?_)
      · rw [if_pos hc] at h
        refine e_iconst (v := (0 : Int32)) dX13_pour_59 rfl ?_
        exact E_X13_pour_c60 hs h hQ
      · rw [if_neg hc] at h
        exact E_X13_pour_c55 hs h hQ
def F_X13_pour (v1 : Int32) (v2 : Int32) (v3 : Int32) (μ : p_M) : Option (Int32 × p_M) :=
  (F_X13_in v1 (0 : Int32) ((mI (sI μ tM 0 (0 : Int32)) tM 30) - (1 : Int32)) (sI μ tM 0 (0 : Int32))).bind fun q1 =>
  if ¬ q1.1 = 0
  then (F_X13_pour_c25 v1 v2 v3 (0 : Int32) q1.2)
  else (F_X13_pour_c25 v1 v2 v3 (1 : Int32) q1.2)
theorem P_X13_pour {v1 : Int32} {v2 : Int32} {v3 : Int32} {μ : p_M} {r : Int32 × p_M} (h : F_X13_pour v1 v2 v3 μ = some r) : Sm μ r.2 := by
  unfold F_X13_pour at h
  obtain ⟨q1, hq1, h⟩ := p_bd h
  by_cases hc : ¬ q1.1 = 0
  · rw [if_pos hc] at h
    exact Sm_trans (Sm_trans (Sm_set (Sm_refl μ) (by decide)) (P_X13_in (r := q1) hq1)) (P_X13_pour_c25 h)
  · rw [if_neg hc] at h
    exact Sm_trans (Sm_trans (Sm_set (Sm_refl μ) (by decide)) (P_X13_in (r := q1) hq1)) (P_X13_pour_c25 h)
theorem E_X13_pour {X : p_X} {d : Nat} {Q : p_R → Prop} {v1 : Int32} {v2 : Int32} {v3 : Int32} {μ : p_M} {r : Int32 × p_M} (hs : ShM μ) (h : F_X13_pour v1 v2 v3 μ = some r) (hQ : Q ((0, some (.int r.1)), r.2)) : p_Ev X (d + 1) M_X13_pour 0 [.ref tM, .int v1, .int v2, .int v3] [] μ Q := by
  unfold F_X13_pour at h
  refine e_aload_n dX13_pour_0 rfl ?_
  refine e_iconst (v := (0 : Int32)) dX13_pour_1 rfl ?_
  refine e_putI dX13_pour_2 rfl ⟨rfl, rfl, fun h => by cases h⟩ (fun h => by cases h) hs.1 hs.2.1 ?_
  refine e_aload_n dX13_pour_5 rfl ?_
  refine e_iload_n dX13_pour_6 rfl ?_
  refine e_iconst (v := (0 : Int32)) dX13_pour_7 rfl ?_
  refine e_aload_n dX13_pour_8 rfl ?_
  refine e_getI dX13_pour_9 rfl rfl hs.1 hs.2.1 ?_
  refine e_iconst (v := (1 : Int32)) dX13_pour_12 rfl ?_
  refine e_isub dX13_pour_13 ?_
  obtain ⟨q1, hq1, h⟩ := p_bd h
  refine e_cS dX13_pour_14 rfl rfl rfl rfl (E_X13_in hs hq1 ⟨rfl, ?_⟩)
  have hs := ShM_of (P_X13_in hq1) hs
  show p_Ev X (d + 1) M_X13_pour 17 [.ref tM, .int v1, .int v2, .int v3] [.int q1.1, .ref tM] q1.2 Q
  refine e_if_ne dX13_pour_17 24 (by decide) (fun hc => ?_) (fun hc => ?_)
  · rw [if_pos hc] at h
    refine e_iconst (v := (0 : Int32)) dX13_pour_24 rfl ?_
    exact E_X13_pour_c25 hs h hQ
  · rw [if_neg hc] at h
    refine e_iconst (v := (1 : Int32)) dX13_pour_20 rfl ?_
    refine e_goto dX13_pour_21 25 (by decide) ?_
    exact E_X13_pour_c25 hs h hQ
/-! X13_readRecipe -/
def F_X13_readRecipe_c46 (μ : p_M) : Option (Int32 × p_M) :=
  some ((0 : Int32), μ)
theorem P_X13_readRecipe_c46 {μ : p_M} {r : Int32 × p_M} (h : F_X13_readRecipe_c46 μ = some r) : Sm μ r.2 := by
  unfold F_X13_readRecipe_c46 at h
  cases h
  exact (Sm_refl μ)
theorem E_X13_readRecipe_c46 {X : p_X} {d : Nat} {Q : p_R → Prop} {w0 : Value} {w1 : Value} {w2 : Value} {μ : p_M} {r : Int32 × p_M} (hs : ShM μ) (h : F_X13_readRecipe_c46 μ = some r) (hQ : Q ((0, some (.int r.1)), r.2)) : p_Ev X (d + 4) M_X13_readRecipe 46 [w0, w1, w2] [] μ Q := by
  unfold F_X13_readRecipe_c46 at h
  refine e_iconst (v := (0 : Int32)) dX13_readRecipe_46 rfl ?_
  cases h
  exact e_iretz dX13_readRecipe_47 rfl (by decide) hQ
def F_X13_readRecipe_c65 (K25 : p_M → Option (Int32 × p_M)) (v1 : Int32) (s0 : Int32) (μ : p_M) : Option (Int32 × p_M) :=
  if 0 ≤ s0
  then (p_ok (¬ (41 : Int32) < 0 ∧ (41 : Int32).toNatClampNeg < 42)
    (p_ok (¬ ((820 : Int32) + (mI μ (aM 8) (41 : Int32).toNatClampNeg)) < 0 ∧ ((820 : Int32) + (mI μ (aM 8) (41 : Int32).toNatClampNeg)).toNatClampNeg < 840)
    (p_ok (¬ (41 : Int32) < 0 ∧ (41 : Int32).toNatClampNeg < 42)
    (p_ok (¬ ((820 : Int32) + (mI (sI μ (aM 9) ((820 : Int32) + (mI μ (aM 8) (41 : Int32).toNatClampNeg)).toNatClampNeg v1) (aM 8) (41 : Int32).toNatClampNeg)) < 0 ∧ ((820 : Int32) + (mI (sI μ (aM 9) ((820 : Int32) + (mI μ (aM 8) (41 : Int32).toNatClampNeg)).toNatClampNeg v1) (aM 8) (41 : Int32).toNatClampNeg)).toNatClampNeg < 840)
    (p_ok (¬ (41 : Int32) < 0 ∧ (41 : Int32).toNatClampNeg < 42)
    (p_ok (¬ (41 : Int32) < 0 ∧ (41 : Int32).toNatClampNeg < 42)
    ((F_X13_blanks (sI (sI (sI μ (aM 9) ((820 : Int32) + (mI μ (aM 8) (41 : Int32).toNatClampNeg)).toNatClampNeg v1) (aM 10) ((820 : Int32) + (mI (sI μ (aM 9) ((820 : Int32) + (mI μ (aM 8) (41 : Int32).toNatClampNeg)).toNatClampNeg v1) (aM 8) (41 : Int32).toNatClampNeg)).toNatClampNeg s0) (aM 8) (41 : Int32).toNatClampNeg ((mI (sI (sI μ (aM 9) ((820 : Int32) + (mI μ (aM 8) (41 : Int32).toNatClampNeg)).toNatClampNeg v1) (aM 10) ((820 : Int32) + (mI (sI μ (aM 9) ((820 : Int32) + (mI μ (aM 8) (41 : Int32).toNatClampNeg)).toNatClampNeg v1) (aM 8) (41 : Int32).toNatClampNeg)).toNatClampNeg s0) (aM 8) (41 : Int32).toNatClampNeg) + (1 : Int32)))).bind fun q4 =>
    if ¬ (mI q4.2 tM 3) = (mI q4.2 tM 4)
    then ((F_X13_isAt (59 : Int32) (59 : Int32) q4.2).bind fun q5 =>
      if ¬ q5.1 = 0
      then (K25 (sI q5.2 tM 3 ((mI q5.2 tM 3) + (1 : Int32))))
      else (some ((0 : Int32), q5.2)))
    else (some ((1 : Int32), q4.2)))))))))
  else (some ((0 : Int32), μ))
theorem P_X13_readRecipe_c65 {K25 : p_M → Option (Int32 × p_M)} (hP25 : ∀ (μ : p_M) (r : Int32 × p_M), K25 μ = some r → Sm μ r.2) {v1 : Int32} {s0 : Int32} {μ : p_M} {r : Int32 × p_M} (h : F_X13_readRecipe_c65 K25 v1 s0 μ = some r) : Sm μ r.2 := by
  unfold F_X13_readRecipe_c65 at h
  by_cases hc : 0 ≤ s0
  · rw [if_pos hc] at h
    obtain ⟨hc, h⟩ := p_ok_some h
    obtain ⟨hc, h⟩ := p_ok_some h
    obtain ⟨hc, h⟩ := p_ok_some h
    obtain ⟨hc, h⟩ := p_ok_some h
    obtain ⟨hc, h⟩ := p_ok_some h
    obtain ⟨hc, h⟩ := p_ok_some h
    obtain ⟨q4, hq4, h⟩ := p_bd h
    by_cases hc : ¬ (mI q4.2 tM 3) = (mI q4.2 tM 4)
    · rw [if_pos hc] at h
      obtain ⟨q5, hq5, h⟩ := p_bd h
      by_cases hc : ¬ q5.1 = 0
      · rw [if_pos hc] at h
        exact Sm_trans (Sm_set (Sm_trans (Sm_trans (Sm_set (Sm_set (Sm_set (Sm_refl μ) (by decide)) (by decide)) (by decide)) (P_X13_blanks (r := q4) hq4)) (P_X13_isAt (r := q5) hq5)) (by decide)) (hP25 _ _ h)
      · rw [if_neg hc] at h
        cases h
        exact (Sm_trans (Sm_trans (Sm_set (Sm_set (Sm_set (Sm_refl μ) (by decide)) (by decide)) (by decide)) (P_X13_blanks (r := q4) hq4)) (P_X13_isAt (r := q5) hq5))
    · rw [if_neg hc] at h
      cases h
      exact (Sm_trans (Sm_set (Sm_set (Sm_set (Sm_refl μ) (by decide)) (by decide)) (by decide)) (P_X13_blanks (r := q4) hq4))
  · rw [if_neg hc] at h
    cases h
    exact (Sm_refl μ)
theorem E_X13_readRecipe_c65 {X : p_X} {d : Nat} {Q : p_R → Prop} {K25 : p_M → Option (Int32 × p_M)} (hK25 : ∀ (μ : p_M) (r : Int32 × p_M) (w1 : Value) (w2 : Value), ShM μ → K25 μ = some r → Q ((0, some (.int r.1)), r.2) → p_Ev X (d + 4) M_X13_readRecipe 25 [.ref tM, w1, w2] [] μ Q) {v1 : Int32} {s0 : Int32} {w2 : Value} {μ : p_M} {r : Int32 × p_M} (hs : ShM μ) (h : F_X13_readRecipe_c65 K25 v1 s0 μ = some r) (hQ : Q ((0, some (.int r.1)), r.2)) : p_Ev X (d + 4) M_X13_readRecipe 65 [.ref tM, .int v1, w2] [.int s0] μ Q := by
  unfold F_X13_readRecipe_c65 at h
  refine e_istore_n dX13_readRecipe_65 (Nat.le_of_ble_eq_true rfl) rfl ?_
  refine e_iload_n dX13_readRecipe_66 rfl ?_
  refine e_if_ge dX13_readRecipe_67 72 (by decide) (fun hc => ?_) (fun hc => ?_)
  · rw [if_pos hc] at h
    refine e_aload_n dX13_readRecipe_72 rfl ?_
    refine e_getR dX13_readRecipe_73 rfl rfl hs.1 hs.2.1 (hs.2.2.2 9 (by decide) rfl).1 ?_
    refine e_sipush (v := (820 : Int32)) dX13_readRecipe_76 rfl ?_
    refine e_aload_n dX13_readRecipe_79 rfl ?_
    refine e_getR dX13_readRecipe_80 rfl rfl hs.1 hs.2.1 (hs.2.2.2 8 (by decide) rfl).1 ?_
    refine e_bipush (v := (41 : Int32)) dX13_readRecipe_83 rfl ?_
    obtain ⟨hc, h⟩ := p_ok_some h
    refine e_iald dX13_readRecipe_85 (Nat.lt_trans (hs.2.2.2 8 (by decide) rfl).2.2.2 hs.2.2.1) (hs.2.2.2 8 (by decide) rfl).2.1 (hs.2.2.2 8 (by decide) rfl).2.2.1 (hs.2.2.2 8 (by decide) rfl).2.2.2 hc ?_
    refine e_iadd dX13_readRecipe_86 ?_
    refine e_iload_n dX13_readRecipe_87 rfl ?_
    obtain ⟨hc, h⟩ := p_ok_some h
    refine e_iast dX13_readRecipe_88 (hs.2.2.2 9 (by decide) rfl).2.1 (hs.2.2.2 9 (by decide) rfl).2.2.1 (hs.2.2.2 9 (by decide) rfl).2.2.2 hc ?_
    refine e_aload_n dX13_readRecipe_89 rfl ?_
    refine e_getR dX13_readRecipe_90 rfl rfl hs.1 hs.2.1 (hs.2.2.2 10 (by decide) rfl).1 ?_
    refine e_sipush (v := (820 : Int32)) dX13_readRecipe_93 rfl ?_
    refine e_aload_n dX13_readRecipe_96 rfl ?_
    refine e_getR dX13_readRecipe_97 rfl rfl hs.1 hs.2.1 (hs.2.2.2 8 (by decide) rfl).1 ?_
    refine e_bipush (v := (41 : Int32)) dX13_readRecipe_100 rfl ?_
    obtain ⟨hc, h⟩ := p_ok_some h
    refine e_iald dX13_readRecipe_102 (Nat.lt_trans (hs.2.2.2 8 (by decide) rfl).2.2.2 hs.2.2.1) (hs.2.2.2 8 (by decide) rfl).2.1 (hs.2.2.2 8 (by decide) rfl).2.2.1 (hs.2.2.2 8 (by decide) rfl).2.2.2 hc ?_
    refine e_iadd dX13_readRecipe_103 ?_
    refine e_iload_n dX13_readRecipe_104 rfl ?_
    obtain ⟨hc, h⟩ := p_ok_some h
    refine e_iast dX13_readRecipe_105 (hs.2.2.2 10 (by decide) rfl).2.1 (hs.2.2.2 10 (by decide) rfl).2.2.1 (hs.2.2.2 10 (by decide) rfl).2.2.2 hc ?_
    refine e_aload_n dX13_readRecipe_106 rfl ?_
    refine e_getR dX13_readRecipe_107 rfl rfl hs.1 hs.2.1 (hs.2.2.2 8 (by decide) rfl).1 ?_
    refine e_bipush (v := (41 : Int32)) dX13_readRecipe_110 rfl ?_
    refine e_dup2 dX13_readRecipe_112 ?_
    obtain ⟨hc, h⟩ := p_ok_some h
    refine e_iald dX13_readRecipe_113 (Nat.lt_trans (hs.2.2.2 8 (by decide) rfl).2.2.2 hs.2.2.1) (hs.2.2.2 8 (by decide) rfl).2.1 (hs.2.2.2 8 (by decide) rfl).2.2.1 (hs.2.2.2 8 (by decide) rfl).2.2.2 hc ?_
    refine e_iconst (v := (1 : Int32)) dX13_readRecipe_114 rfl ?_
    refine e_iadd dX13_readRecipe_115 ?_
    obtain ⟨hc, h⟩ := p_ok_some h
    refine e_iast dX13_readRecipe_116 (hs.2.2.2 8 (by decide) rfl).2.1 (hs.2.2.2 8 (by decide) rfl).2.2.1 (hs.2.2.2 8 (by decide) rfl).2.2.2 hc ?_
    refine e_aload_n dX13_readRecipe_117 rfl ?_
    obtain ⟨q4, hq4, h⟩ := p_bd h
    refine e_cV dX13_readRecipe_118 rfl rfl ⟨rfl, rfl, by decide⟩ rfl hs.1 hs.2.1 (E_X13_blanks hs hq4 ⟨rfl, ?_⟩)
    have hs := ShM_of (P_X13_blanks hq4) hs
    show p_Ev X (d + 4) M_X13_readRecipe 121 [.ref tM, .int v1, .int s0] [] q4.2 Q
    refine e_aload_n dX13_readRecipe_121 rfl ?_
    refine e_getI dX13_readRecipe_122 rfl rfl hs.1 hs.2.1 ?_
    refine e_aload_n dX13_readRecipe_125 rfl ?_
    refine e_getI dX13_readRecipe_126 rfl rfl hs.1 hs.2.1 ?_
    refine e_ic_ne dX13_readRecipe_129 134 (by decide) (fun hc => ?_) (fun hc => ?_)
    · rw [if_pos hc] at h
      refine e_aload_n dX13_readRecipe_134 rfl ?_
      refine e_bipush (v := (59 : Int32)) dX13_readRecipe_135 rfl ?_
      refine e_bipush (v := (59 : Int32)) dX13_readRecipe_137 rfl ?_
      obtain ⟨q5, hq5, h⟩ := p_bd h
      refine e_cV dX13_readRecipe_139 rfl rfl ⟨rfl, rfl, by decide⟩ rfl hs.1 hs.2.1 (E_X13_isAt hs hq5 ⟨rfl, ?_⟩)
      have hs := ShM_of (P_X13_isAt hq5) hs
      show p_Ev X (d + 4) M_X13_readRecipe 142 [.ref tM, .int v1, .int s0] [.int q5.1] q5.2 Q
      refine e_if_ne dX13_readRecipe_142 147 (by decide) (fun hc => ?_) (fun hc => ?_)
      · rw [if_pos hc] at h
        refine e_aload_n dX13_readRecipe_147 rfl ?_
        refine e_dupR dX13_readRecipe_148 ?_
        refine e_getI dX13_readRecipe_149 rfl rfl hs.1 hs.2.1 ?_
        refine e_iconst (v := (1 : Int32)) dX13_readRecipe_152 rfl ?_
        refine e_iadd dX13_readRecipe_153 ?_
        refine e_putI dX13_readRecipe_154 rfl ⟨rfl, rfl, fun h => by cases h⟩ (fun h => by cases h) hs.1 hs.2.1 ?_
        refine e_goto dX13_readRecipe_157 25 (by decide) ?_
        exact hK25 _ _ _ _ hs h hQ
      · rw [if_neg hc] at h
        refine e_iconst (v := (0 : Int32)) dX13_readRecipe_145 rfl ?_
        cases h
        exact e_iretz dX13_readRecipe_146 rfl (by decide) hQ
    · rw [if_neg hc] at h
      refine e_iconst (v := (1 : Int32)) dX13_readRecipe_132 rfl ?_
      cases h
      exact e_iretz dX13_readRecipe_133 rfl (by decide) hQ
  · rw [if_neg hc] at h
    refine e_iconst (v := (0 : Int32)) dX13_readRecipe_70 rfl ?_
    cases h
    exact e_iretz dX13_readRecipe_71 rfl (by decide) hQ
def F_X13_readRecipe_c25 : Nat → p_M → Option (Int32 × p_M)
  | 0, _ => none
  | n + 1, μ =>
    (F_X13_readBath μ).bind fun q2 =>
    if q2.1 < 0
    then (F_X13_readRecipe_c46 q2.2)
    else (p_ok (¬ (41 : Int32) < 0 ∧ (41 : Int32).toNatClampNeg < 42)
      (if ¬ (mI q2.2 (aM 8) (41 : Int32).toNatClampNeg) = (20 : Int32)
      then (if ¬ q2.1 = (3 : Int32)
        then ((F_X13_number (2 : Int32) (1 : Int32) (20 : Int32) q2.2).bind fun q3 =>
          F_X13_readRecipe_c65 (F_X13_readRecipe_c25 n) q2.1 q3.1 q3.2)
        else (F_X13_readRecipe_c65 (F_X13_readRecipe_c25 n) q2.1 (1 : Int32) q2.2))
      else (F_X13_readRecipe_c46 q2.2)))
theorem P_X13_readRecipe_c25 : ∀ (n : Nat) (μ : p_M) (r : Int32 × p_M), F_X13_readRecipe_c25 n μ = some r → Sm μ r.2 := by
  intro n
  induction n with
  | zero => intro μ r h; rw [F_X13_readRecipe_c25] at h; cases h
  | succ n ih =>
    intro μ r h
    rw [F_X13_readRecipe_c25] at h
    obtain ⟨q2, hq2, h⟩ := p_bd h
    by_cases hc : q2.1 < 0
    · rw [if_pos hc] at h
      exact Sm_trans (Sm_trans (Sm_refl μ) (P_X13_readBath (r := q2) hq2)) (P_X13_readRecipe_c46 h)
    · rw [if_neg hc] at h
      obtain ⟨hc, h⟩ := p_ok_some h
      by_cases hc : ¬ (mI q2.2 (aM 8) (41 : Int32).toNatClampNeg) = (20 : Int32)
      · rw [if_pos hc] at h
        by_cases hc : ¬ q2.1 = (3 : Int32)
        · rw [if_pos hc] at h
          obtain ⟨q3, hq3, h⟩ := p_bd h
          exact Sm_trans (Sm_trans (Sm_trans (Sm_refl μ) (P_X13_readBath (r := q2) hq2)) (P_X13_number (r := q3) hq3)) (P_X13_readRecipe_c65 ih h)
        · rw [if_neg hc] at h
          exact Sm_trans (Sm_trans (Sm_refl μ) (P_X13_readBath (r := q2) hq2)) (P_X13_readRecipe_c65 ih h)
      · rw [if_neg hc] at h
        exact Sm_trans (Sm_trans (Sm_refl μ) (P_X13_readBath (r := q2) hq2)) (P_X13_readRecipe_c46 h)
theorem E_X13_readRecipe_c25 {X : p_X} {d : Nat} {Q : p_R → Prop} : ∀ (n : Nat) (μ : p_M) (r : Int32 × p_M) (w1 : Value) (w2 : Value), ShM μ → F_X13_readRecipe_c25 n μ = some r → Q ((0, some (.int r.1)), r.2) → p_Ev X (d + 4) M_X13_readRecipe 25 [.ref tM, w1, w2] [] μ Q := by
  intro n
  induction n with
  | zero => intro μ r w1 w2 hs h hQ; rw [F_X13_readRecipe_c25] at h; cases h
  | succ n ih =>
    intro μ r w1 w2 hs h hQ
    rw [F_X13_readRecipe_c25] at h
    refine e_aload_n dX13_readRecipe_25 rfl ?_
    obtain ⟨q2, hq2, h⟩ := p_bd h
    refine e_cV dX13_readRecipe_26 rfl rfl ⟨rfl, rfl, by decide⟩ rfl hs.1 hs.2.1 (E_X13_readBath hs hq2 ⟨rfl, ?_⟩)
    have hs := ShM_of (P_X13_readBath hq2) hs
    show p_Ev X (d + 4) M_X13_readRecipe 29 [.ref tM, w1, w2] [.int q2.1] q2.2 Q
    refine e_istore_n dX13_readRecipe_29 (Nat.le_of_ble_eq_true rfl) rfl ?_
    refine e_iload_n dX13_readRecipe_30 rfl ?_
    refine e_if_lt dX13_readRecipe_31 46 (by decide) (fun hc => ?_) (fun hc => ?_)
    · rw [if_pos hc] at h
      exact E_X13_readRecipe_c46 hs h hQ
    · rw [if_neg hc] at h
      refine e_aload_n dX13_readRecipe_34 rfl ?_
      refine e_getR dX13_readRecipe_35 rfl rfl hs.1 hs.2.1 (hs.2.2.2 8 (by decide) rfl).1 ?_
      refine e_bipush (v := (41 : Int32)) dX13_readRecipe_38 rfl ?_
      obtain ⟨hc, h⟩ := p_ok_some h
      refine e_iald dX13_readRecipe_40 (Nat.lt_trans (hs.2.2.2 8 (by decide) rfl).2.2.2 hs.2.2.1) (hs.2.2.2 8 (by decide) rfl).2.1 (hs.2.2.2 8 (by decide) rfl).2.2.1 (hs.2.2.2 8 (by decide) rfl).2.2.2 hc ?_
      refine e_bipush (v := (20 : Int32)) dX13_readRecipe_41 rfl ?_
      refine e_ic_ne dX13_readRecipe_43 48 (by decide) (fun hc => ?_) (fun hc => ?_)
      · rw [if_pos hc] at h
        refine e_iload_n dX13_readRecipe_48 rfl ?_
        refine e_iconst (v := (3 : Int32)) dX13_readRecipe_49 rfl ?_
        refine e_ic_ne dX13_readRecipe_50 57 (by decide) (fun hc => ?_) (fun hc => ?_)
        · rw [if_pos hc] at h
          refine e_aload_n dX13_readRecipe_57 rfl ?_
          refine e_iconst (v := (2 : Int32)) dX13_readRecipe_58 rfl ?_
          refine e_iconst (v := (1 : Int32)) dX13_readRecipe_59 rfl ?_
          refine e_bipush (v := (20 : Int32)) dX13_readRecipe_60 rfl ?_
          obtain ⟨q3, hq3, h⟩ := p_bd h
          refine e_cV dX13_readRecipe_62 rfl rfl ⟨rfl, rfl, by decide⟩ rfl hs.1 hs.2.1 (E_X13_number hs hq3 ⟨rfl, ?_⟩)
          have hs := ShM_of (P_X13_number hq3) hs
          show p_Ev X (d + 4) M_X13_readRecipe 65 [.ref tM, .int q2.1, w2] [.int q3.1] q3.2 Q
          exact E_X13_readRecipe_c65 ih hs h hQ
        · rw [if_neg hc] at h
          refine e_iconst (v := (1 : Int32)) dX13_readRecipe_53 rfl ?_
          refine e_goto dX13_readRecipe_54 65 (by decide) ?_
          exact E_X13_readRecipe_c65 ih hs h hQ
      · rw [if_neg hc] at h
        exact E_X13_readRecipe_c46 hs h hQ
def F_X13_readRecipe (μ : p_M) : Option (Int32 × p_M) :=
  p_ok (¬ (41 : Int32) < 0 ∧ (41 : Int32).toNatClampNeg < 42)
  ((F_X13_blanks (sI μ (aM 8) (41 : Int32).toNatClampNeg (0 : Int32))).bind fun q1 =>
  if ¬ (mI q1.2 tM 3) = (mI q1.2 tM 4)
  then (F_X13_readRecipe_c25 p_fu q1.2)
  else (some ((1 : Int32), q1.2)))
theorem P_X13_readRecipe {μ : p_M} {r : Int32 × p_M} (h : F_X13_readRecipe μ = some r) : Sm μ r.2 := by
  unfold F_X13_readRecipe at h
  obtain ⟨hc, h⟩ := p_ok_some h
  obtain ⟨q1, hq1, h⟩ := p_bd h
  by_cases hc : ¬ (mI q1.2 tM 3) = (mI q1.2 tM 4)
  · rw [if_pos hc] at h
    exact Sm_trans (Sm_trans (Sm_set (Sm_refl μ) (by decide)) (P_X13_blanks (r := q1) hq1)) (P_X13_readRecipe_c25 p_fu _ _ h)
  · rw [if_neg hc] at h
    cases h
    exact (Sm_trans (Sm_set (Sm_refl μ) (by decide)) (P_X13_blanks (r := q1) hq1))
theorem E_X13_readRecipe {X : p_X} {d : Nat} {Q : p_R → Prop} {μ : p_M} {r : Int32 × p_M} (hs : ShM μ) (h : F_X13_readRecipe μ = some r) (hQ : Q ((0, some (.int r.1)), r.2)) : p_Ev X (d + 4) M_X13_readRecipe 0 [.ref tM, .double 0, .double 0] [] μ Q := by
  unfold F_X13_readRecipe at h
  refine e_aload_n dX13_readRecipe_0 rfl ?_
  refine e_getR dX13_readRecipe_1 rfl rfl hs.1 hs.2.1 (hs.2.2.2 8 (by decide) rfl).1 ?_
  refine e_bipush (v := (41 : Int32)) dX13_readRecipe_4 rfl ?_
  refine e_iconst (v := (0 : Int32)) dX13_readRecipe_6 rfl ?_
  obtain ⟨hc, h⟩ := p_ok_some h
  refine e_iast dX13_readRecipe_7 (hs.2.2.2 8 (by decide) rfl).2.1 (hs.2.2.2 8 (by decide) rfl).2.2.1 (hs.2.2.2 8 (by decide) rfl).2.2.2 hc ?_
  refine e_aload_n dX13_readRecipe_8 rfl ?_
  obtain ⟨q1, hq1, h⟩ := p_bd h
  refine e_cV dX13_readRecipe_9 rfl rfl ⟨rfl, rfl, by decide⟩ rfl hs.1 hs.2.1 (E_X13_blanks hs hq1 ⟨rfl, ?_⟩)
  have hs := ShM_of (P_X13_blanks hq1) hs
  show p_Ev X (d + 4) M_X13_readRecipe 12 [.ref tM, .double 0, .double 0] [] q1.2 Q
  refine e_aload_n dX13_readRecipe_12 rfl ?_
  refine e_getI dX13_readRecipe_13 rfl rfl hs.1 hs.2.1 ?_
  refine e_aload_n dX13_readRecipe_16 rfl ?_
  refine e_getI dX13_readRecipe_17 rfl rfl hs.1 hs.2.1 ?_
  refine e_ic_ne dX13_readRecipe_20 25 (by decide) (fun hc => ?_) (fun hc => ?_)
  · rw [if_pos hc] at h
    exact E_X13_readRecipe_c25 p_fu _ _ _ _ hs h hQ
  · rw [if_neg hc] at h
    refine e_iconst (v := (1 : Int32)) dX13_readRecipe_23 rfl ?_
    cases h
    exact e_iretz dX13_readRecipe_24 rfl (by decide) hQ
/-! X13_ready -/
def F_X13_ready (v1 : Int32) (μ : p_M) : Option (Int32 × p_M) :=
  (F_X13_noCloth v1 (sI μ tM 0 (0 : Int32))).bind fun q1 =>
  (F_X13_throwsIf q1.1 (1 : Int32) q1.2).bind fun q2 =>
  if q2.1 = 0
  then ((F_X13_gathers v1 q2.2).bind fun q3 =>
    (F_X13_packsOf (0 : Int32) q3.2).bind fun q4 =>
    some (q4.1, q4.2))
  else (some ((0 : Int32), q2.2))
theorem P_X13_ready {v1 : Int32} {μ : p_M} {r : Int32 × p_M} (h : F_X13_ready v1 μ = some r) : Sm μ r.2 := by
  unfold F_X13_ready at h
  obtain ⟨q1, hq1, h⟩ := p_bd h
  obtain ⟨q2, hq2, h⟩ := p_bd h
  by_cases hc : q2.1 = 0
  · rw [if_pos hc] at h
    obtain ⟨q3, hq3, h⟩ := p_bd h
    obtain ⟨q4, hq4, h⟩ := p_bd h
    cases h
    exact (Sm_trans (Sm_trans (Sm_trans (Sm_trans (Sm_set (Sm_refl μ) (by decide)) (P_X13_noCloth (r := q1) hq1)) (P_X13_throwsIf (r := q2) hq2)) (P_X13_gathers (r := q3) hq3)) (P_X13_packsOf (r := q4) hq4))
  · rw [if_neg hc] at h
    cases h
    exact (Sm_trans (Sm_trans (Sm_set (Sm_refl μ) (by decide)) (P_X13_noCloth (r := q1) hq1)) (P_X13_throwsIf (r := q2) hq2))
theorem E_X13_ready {X : p_X} {d : Nat} {Q : p_R → Prop} {v1 : Int32} {μ : p_M} {r : Int32 × p_M} (hs : ShM μ) (h : F_X13_ready v1 μ = some r) (hQ : Q ((0, some (.int r.1)), r.2)) : p_Ev X (d + 3) M_X13_ready 0 [.ref tM, .int v1] [] μ Q := by
  unfold F_X13_ready at h
  refine e_aload_n dX13_ready_0 rfl ?_
  refine e_iconst (v := (0 : Int32)) dX13_ready_1 rfl ?_
  refine e_putI dX13_ready_2 rfl ⟨rfl, rfl, fun h => by cases h⟩ (fun h => by cases h) hs.1 hs.2.1 ?_
  refine e_aload_n dX13_ready_5 rfl ?_
  refine e_aload_n dX13_ready_6 rfl ?_
  refine e_iload_n dX13_ready_7 rfl ?_
  obtain ⟨q1, hq1, h⟩ := p_bd h
  refine e_cV dX13_ready_8 rfl rfl ⟨rfl, rfl, by decide⟩ rfl hs.1 hs.2.1 (E_X13_noCloth hs hq1 ⟨rfl, ?_⟩)
  have hs := ShM_of (P_X13_noCloth hq1) hs
  show p_Ev X (d + 3) M_X13_ready 11 [.ref tM, .int v1] [.int q1.1, .ref tM] q1.2 Q
  refine e_iconst (v := (1 : Int32)) dX13_ready_11 rfl ?_
  obtain ⟨q2, hq2, h⟩ := p_bd h
  refine e_cV dX13_ready_12 rfl rfl ⟨rfl, rfl, by decide⟩ rfl hs.1 hs.2.1 (E_X13_throwsIf hs hq2 ⟨rfl, ?_⟩)
  have hs := ShM_of (P_X13_throwsIf hq2) hs
  show p_Ev X (d + 3) M_X13_ready 15 [.ref tM, .int v1] [.int q2.1] q2.2 Q
  refine e_if_eq dX13_ready_15 20 (by decide) (fun hc => ?_) (fun hc => ?_)
  · rw [if_pos hc] at h
    refine e_aload_n dX13_ready_20 rfl ?_
    refine e_iload_n dX13_ready_21 rfl ?_
    obtain ⟨q3, hq3, h⟩ := p_bd h
    refine e_cV dX13_ready_22 rfl rfl ⟨rfl, rfl, by decide⟩ rfl hs.1 hs.2.1 (E_X13_gathers hs hq3 ⟨rfl, ?_⟩)
    have hs := ShM_of (P_X13_gathers hq3) hs
    show p_Ev X (d + 3) M_X13_ready 25 [.ref tM, .int v1] [] q3.2 Q
    refine e_aload_n dX13_ready_25 rfl ?_
    refine e_iconst (v := (0 : Int32)) dX13_ready_26 rfl ?_
    obtain ⟨q4, hq4, h⟩ := p_bd h
    refine e_cV dX13_ready_27 rfl rfl ⟨rfl, rfl, by decide⟩ rfl hs.1 hs.2.1 (E_X13_packsOf hs hq4 ⟨rfl, ?_⟩)
    have hs := ShM_of (P_X13_packsOf hq4) hs
    show p_Ev X (d + 3) M_X13_ready 30 [.ref tM, .int v1] [.int q4.1] q4.2 Q
    cases h
    exact e_ireti dX13_ready_30 rfl hQ
  · rw [if_neg hc] at h
    refine e_iconst (v := (0 : Int32)) dX13_ready_18 rfl ?_
    cases h
    exact e_ireti dX13_ready_19 rfl hQ
/-! X13_recipe -/
def F_X13_recipe_c35 (s0 : Int32) (μ : p_M) : Option (Int32 × p_M) :=
  (F_X13_throwsIf s0 (1 : Int32) μ).bind fun q3 =>
  if q3.1 = 0
  then ((F_X13_copies (41 : Int32) (40 : Int32) q3.2).bind fun q4 =>
    p_ok (¬ (40 : Int32) < 0 ∧ (40 : Int32).toNatClampNeg < 42)
    (some ((mI q4.2 (aM 8) (40 : Int32).toNatClampNeg), q4.2)))
  else (some ((0 : Int32), q3.2))
theorem P_X13_recipe_c35 {s0 : Int32} {μ : p_M} {r : Int32 × p_M} (h : F_X13_recipe_c35 s0 μ = some r) : Sm μ r.2 := by
  unfold F_X13_recipe_c35 at h
  obtain ⟨q3, hq3, h⟩ := p_bd h
  by_cases hc : q3.1 = 0
  · rw [if_pos hc] at h
    obtain ⟨q4, hq4, h⟩ := p_bd h
    obtain ⟨hc, h⟩ := p_ok_some h
    cases h
    exact (Sm_trans (Sm_trans (Sm_refl μ) (P_X13_throwsIf (r := q3) hq3)) (P_X13_copies (r := q4) hq4))
  · rw [if_neg hc] at h
    cases h
    exact (Sm_trans (Sm_refl μ) (P_X13_throwsIf (r := q3) hq3))
theorem E_X13_recipe_c35 {X : p_X} {d : Nat} {Q : p_R → Prop} {s0 : Int32} {w1 : Value} {μ : p_M} {r : Int32 × p_M} (hs : ShM μ) (h : F_X13_recipe_c35 s0 μ = some r) (hQ : Q ((0, some (.int r.1)), r.2)) : p_Ev X (d + 5) M_X13_recipe 35 [.ref tM, w1] [.int s0, .ref tM] μ Q := by
  unfold F_X13_recipe_c35 at h
  refine e_iconst (v := (1 : Int32)) dX13_recipe_35 rfl ?_
  obtain ⟨q3, hq3, h⟩ := p_bd h
  refine e_cV dX13_recipe_36 rfl rfl ⟨rfl, rfl, by decide⟩ rfl hs.1 hs.2.1 (E_X13_throwsIf hs hq3 ⟨rfl, ?_⟩)
  have hs := ShM_of (P_X13_throwsIf hq3) hs
  show p_Ev X (d + 5) M_X13_recipe 39 [.ref tM, w1] [.int q3.1] q3.2 Q
  refine e_if_eq dX13_recipe_39 44 (by decide) (fun hc => ?_) (fun hc => ?_)
  · rw [if_pos hc] at h
    refine e_aload_n dX13_recipe_44 rfl ?_
    refine e_bipush (v := (41 : Int32)) dX13_recipe_45 rfl ?_
    refine e_bipush (v := (40 : Int32)) dX13_recipe_47 rfl ?_
    obtain ⟨q4, hq4, h⟩ := p_bd h
    refine e_cV dX13_recipe_49 rfl rfl ⟨rfl, rfl, by decide⟩ rfl hs.1 hs.2.1 (E_X13_copies hs hq4 ⟨rfl, ?_⟩)
    have hs := ShM_of (P_X13_copies hq4) hs
    show p_Ev X (d + 5) M_X13_recipe 52 [.ref tM, w1] [] q4.2 Q
    refine e_aload_n dX13_recipe_52 rfl ?_
    refine e_getR dX13_recipe_53 rfl rfl hs.1 hs.2.1 (hs.2.2.2 8 (by decide) rfl).1 ?_
    refine e_bipush (v := (40 : Int32)) dX13_recipe_56 rfl ?_
    obtain ⟨hc, h⟩ := p_ok_some h
    refine e_iald dX13_recipe_58 (Nat.lt_trans (hs.2.2.2 8 (by decide) rfl).2.2.2 hs.2.2.1) (hs.2.2.2 8 (by decide) rfl).2.1 (hs.2.2.2 8 (by decide) rfl).2.2.1 (hs.2.2.2 8 (by decide) rfl).2.2.2 hc ?_
    cases h
    exact e_ireti dX13_recipe_59 rfl hQ
  · rw [if_neg hc] at h
    refine e_iconst (v := (0 : Int32)) dX13_recipe_42 rfl ?_
    cases h
    exact e_ireti dX13_recipe_43 rfl hQ
def F_X13_recipe_c22 (v1 : Int32) (s0 : Int32) (μ : p_M) : Option (Int32 × p_M) :=
  if ¬ v1 = 0
  then (F_X13_recipe_c35 (0 : Int32) (sI μ tM 6 s0))
  else (F_X13_recipe_c35 (1 : Int32) (sI μ tM 6 s0))
theorem P_X13_recipe_c22 {v1 : Int32} {s0 : Int32} {μ : p_M} {r : Int32 × p_M} (h : F_X13_recipe_c22 v1 s0 μ = some r) : Sm μ r.2 := by
  unfold F_X13_recipe_c22 at h
  by_cases hc : ¬ v1 = 0
  · rw [if_pos hc] at h
    exact Sm_trans (Sm_set (Sm_refl μ) (by decide)) (P_X13_recipe_c35 h)
  · rw [if_neg hc] at h
    exact Sm_trans (Sm_set (Sm_refl μ) (by decide)) (P_X13_recipe_c35 h)
theorem E_X13_recipe_c22 {X : p_X} {d : Nat} {Q : p_R → Prop} {v1 : Int32} {s0 : Int32} {μ : p_M} {r : Int32 × p_M} (hs : ShM μ) (h : F_X13_recipe_c22 v1 s0 μ = some r) (hQ : Q ((0, some (.int r.1)), r.2)) : p_Ev X (d + 5) M_X13_recipe 22 [.ref tM, .int v1] [.int s0, .ref tM] μ Q := by
  unfold F_X13_recipe_c22 at h
  refine e_putI dX13_recipe_22 rfl ⟨rfl, rfl, fun h => by cases h⟩ (fun h => by cases h) hs.1 hs.2.1 ?_
  refine e_aload_n dX13_recipe_25 rfl ?_
  refine e_iload_n dX13_recipe_26 rfl ?_
  refine e_if_ne dX13_recipe_27 34 (by decide) (fun hc => ?_) (fun hc => ?_)
  · rw [if_pos hc] at h
    refine e_iconst (v := (0 : Int32)) dX13_recipe_34 rfl ?_
    exact E_X13_recipe_c35 hs h hQ
  · rw [if_neg hc] at h
    refine e_iconst (v := (1 : Int32)) dX13_recipe_30 rfl ?_
    refine e_goto dX13_recipe_31 35 (by decide) ?_
    exact E_X13_recipe_c35 hs h hQ
def F_X13_recipe (μ : p_M) : Option (Int32 × p_M) :=
  (F_X13_uses μ).bind fun q1 =>
  (F_X13_readRecipe q1.2).bind fun q2 =>
  if q2.1 = 0
  then (F_X13_recipe_c22 q2.1 (mI q2.2 tM 5) q2.2)
  else (F_X13_recipe_c22 q2.1 (-1) q2.2)
theorem P_X13_recipe {μ : p_M} {r : Int32 × p_M} (h : F_X13_recipe μ = some r) : Sm μ r.2 := by
  unfold F_X13_recipe at h
  obtain ⟨q1, hq1, h⟩ := p_bd h
  obtain ⟨q2, hq2, h⟩ := p_bd h
  by_cases hc : q2.1 = 0
  · rw [if_pos hc] at h
    exact Sm_trans (Sm_trans (Sm_trans (Sm_refl μ) (P_X13_uses (r := q1) hq1)) (P_X13_readRecipe (r := q2) hq2)) (P_X13_recipe_c22 h)
  · rw [if_neg hc] at h
    exact Sm_trans (Sm_trans (Sm_trans (Sm_refl μ) (P_X13_uses (r := q1) hq1)) (P_X13_readRecipe (r := q2) hq2)) (P_X13_recipe_c22 h)
theorem E_X13_recipe {X : p_X} {d : Nat} {Q : p_R → Prop} {μ : p_M} {r : Int32 × p_M} (hs : ShM μ) (h : F_X13_recipe μ = some r) (hQ : Q ((0, some (.int r.1)), r.2)) : p_Ev X (d + 5) M_X13_recipe 0 [.ref tM, .double 0] [] μ Q := by
  unfold F_X13_recipe at h
  refine e_aload_n dX13_recipe_0 rfl ?_
  obtain ⟨q1, hq1, h⟩ := p_bd h
  refine e_cV dX13_recipe_1 rfl rfl ⟨rfl, rfl, by decide⟩ rfl hs.1 hs.2.1 (E_X13_uses hs hq1 ⟨rfl, ?_⟩)
  have hs := ShM_of (P_X13_uses hq1) hs
  show p_Ev X (d + 5) M_X13_recipe 4 [.ref tM, .double 0] [] q1.2 Q
  refine e_aload_n dX13_recipe_4 rfl ?_
  obtain ⟨q2, hq2, h⟩ := p_bd h
  refine e_cV dX13_recipe_5 rfl rfl ⟨rfl, rfl, by decide⟩ rfl hs.1 hs.2.1 (E_X13_readRecipe hs hq2 ⟨rfl, ?_⟩)
  have hs := ShM_of (P_X13_readRecipe hq2) hs
  show p_Ev X (d + 5) M_X13_recipe 8 [.ref tM, .double 0] [.int q2.1] q2.2 Q
  refine e_istore_n dX13_recipe_8 (Nat.le_of_ble_eq_true rfl) rfl ?_
  refine e_aload_n dX13_recipe_9 rfl ?_
  refine e_iload_n dX13_recipe_10 rfl ?_
  refine e_if_eq dX13_recipe_11 18 (by decide) (fun hc => ?_) (fun hc => ?_)
  · rw [if_pos hc] at h
    refine e_aload_n dX13_recipe_18 rfl ?_
    refine e_getI dX13_recipe_19 rfl rfl hs.1 hs.2.1 ?_
    exact E_X13_recipe_c22 hs h hQ
  · rw [if_neg hc] at h
    refine e_iconst (v := (-1)) dX13_recipe_14 rfl ?_
    refine e_goto dX13_recipe_15 22 (by decide) ?_
    exact E_X13_recipe_c22 hs h hQ
/-! X13_seamOf -/
def F_X13_seamOf_c50 (K4 : Int32 → Int32 → Int32 → p_M → Option (Int32 × p_M)) (v1 : Int32) (v3 : Int32) (s0 : Int32) (s1 : Int32) (μ : p_M) : Option (Int32 × p_M) :=
  K4 v1 (s1 + s0) (v3 + (1 : Int32)) μ
theorem P_X13_seamOf_c50 {K4 : Int32 → Int32 → Int32 → p_M → Option (Int32 × p_M)} (hP4 : ∀ (v1 : Int32) (v2 : Int32) (v3 : Int32) (μ : p_M) (r : Int32 × p_M), K4 v1 v2 v3 μ = some r → Sm μ r.2) {v1 : Int32} {v3 : Int32} {s0 : Int32} {s1 : Int32} {μ : p_M} {r : Int32 × p_M} (h : F_X13_seamOf_c50 K4 v1 v3 s0 s1 μ = some r) : Sm μ r.2 := by
  unfold F_X13_seamOf_c50 at h
  exact Sm_trans (Sm_refl μ) (hP4 _ _ _ _ _ h)
theorem E_X13_seamOf_c50 {X : p_X} {d : Nat} {Q : p_R → Prop} {K4 : Int32 → Int32 → Int32 → p_M → Option (Int32 × p_M)} (hK4 : ∀ (v1 : Int32) (v2 : Int32) (v3 : Int32) (μ : p_M) (r : Int32 × p_M), ShM μ → K4 v1 v2 v3 μ = some r → Q ((0, some (.int r.1)), r.2) → p_Ev X (d + 0) M_X13_seamOf 4 [.ref tM, .int v1, .int v2, .int v3] [] μ Q) {v1 : Int32} {v3 : Int32} {s0 : Int32} {s1 : Int32} {w2 : Value} {μ : p_M} {r : Int32 × p_M} (hs : ShM μ) (h : F_X13_seamOf_c50 K4 v1 v3 s0 s1 μ = some r) (hQ : Q ((0, some (.int r.1)), r.2)) : p_Ev X (d + 0) M_X13_seamOf 50 [.ref tM, .int v1, w2, .int v3] [.int s0, .int s1] μ Q := by
  unfold F_X13_seamOf_c50 at h
  refine e_iadd dX13_seamOf_50 ?_
  refine e_istore_n dX13_seamOf_51 (Nat.le_of_ble_eq_true rfl) rfl ?_
  refine e_iinc (v := (1 : Int32)) dX13_seamOf_52 rfl rfl rfl ?_
  refine e_goto dX13_seamOf_55 4 (by decide) ?_
  exact hK4 _ _ _ _ _ hs h hQ
def F_X13_seamOf_c4 : Nat → Int32 → Int32 → Int32 → p_M → Option (Int32 × p_M)
  | 0, _, _, _, _ => none
  | n + 1, v1, v2, v3, μ =>
    if (8 : Int32) ≤ v3
    then (some (v2, μ))
    else (p_ok (¬ ((((12 : Int32) * v3) + (12 : Int32)) - (1 : Int32)) < 0 ∧ ((((12 : Int32) * v3) + (12 : Int32)) - (1 : Int32)).toNatClampNeg < 192)
      (p_ok (¬ (8 : Int32) = 0)
      (p_ok (¬ ((12 : Int32) * ((8 : Int32) + ((v3 + v1) - (v3 + v1) / (8 : Int32) * (8 : Int32)))) < 0 ∧ ((12 : Int32) * ((8 : Int32) + ((v3 + v1) - (v3 + v1) / (8 : Int32) * (8 : Int32)))).toNatClampNeg < 192)
      (if (mI μ (aM 79) ((((12 : Int32) * v3) + (12 : Int32)) - (1 : Int32)).toNatClampNeg) = (mI μ (aM 79) ((12 : Int32) * ((8 : Int32) + ((v3 + v1) - (v3 + v1) / (8 : Int32) * (8 : Int32)))).toNatClampNeg)
      then (F_X13_seamOf_c50 (F_X13_seamOf_c4 n) v1 v3 (0 : Int32) v2 μ)
      else (F_X13_seamOf_c50 (F_X13_seamOf_c4 n) v1 v3 (1 : Int32) v2 μ)))))
theorem P_X13_seamOf_c4 : ∀ (n : Nat) (v1 : Int32) (v2 : Int32) (v3 : Int32) (μ : p_M) (r : Int32 × p_M), F_X13_seamOf_c4 n v1 v2 v3 μ = some r → Sm μ r.2 := by
  intro n
  induction n with
  | zero => intro v1 v2 v3 μ r h; rw [F_X13_seamOf_c4] at h; cases h
  | succ n ih =>
    intro v1 v2 v3 μ r h
    rw [F_X13_seamOf_c4] at h
    by_cases hc : (8 : Int32) ≤ v3
    · rw [if_pos hc] at h
      cases h
      exact (Sm_refl μ)
    · rw [if_neg hc] at h
      obtain ⟨hc, h⟩ := p_ok_some h
      obtain ⟨hc, h⟩ := p_ok_some h
      obtain ⟨hc, h⟩ := p_ok_some h
      by_cases hc : (mI μ (aM 79) ((((12 : Int32) * v3) + (12 : Int32)) - (1 : Int32)).toNatClampNeg) = (mI μ (aM 79) ((12 : Int32) * ((8 : Int32) + ((v3 + v1) - (v3 + v1) / (8 : Int32) * (8 : Int32)))).toNatClampNeg)
      · rw [if_pos hc] at h
        exact Sm_trans (Sm_refl μ) (P_X13_seamOf_c50 ih h)
      · rw [if_neg hc] at h
        exact Sm_trans (Sm_refl μ) (P_X13_seamOf_c50 ih h)
theorem E_X13_seamOf_c4 {X : p_X} {d : Nat} {Q : p_R → Prop} : ∀ (n : Nat) (v1 : Int32) (v2 : Int32) (v3 : Int32) (μ : p_M) (r : Int32 × p_M), ShM μ → F_X13_seamOf_c4 n v1 v2 v3 μ = some r → Q ((0, some (.int r.1)), r.2) → p_Ev X (d + 0) M_X13_seamOf 4 [.ref tM, .int v1, .int v2, .int v3] [] μ Q := by
  intro n
  induction n with
  | zero => intro v1 v2 v3 μ r hs h hQ; rw [F_X13_seamOf_c4] at h; cases h
  | succ n ih =>
    intro v1 v2 v3 μ r hs h hQ
    rw [F_X13_seamOf_c4] at h
    refine e_iload_n dX13_seamOf_4 rfl ?_
    refine e_bipush (v := (8 : Int32)) dX13_seamOf_5 rfl ?_
    refine e_ic_ge dX13_seamOf_7 58 (by decide) (fun hc => ?_) (fun hc => ?_)
    · rw [if_pos hc] at h
      refine e_iload_n dX13_seamOf_58 rfl ?_
      cases h
      exact e_ireti dX13_seamOf_59 rfl hQ
    · rw [if_neg hc] at h
      refine e_iload_n dX13_seamOf_10 rfl ?_
      refine e_aload_n dX13_seamOf_11 rfl ?_
      refine e_getR dX13_seamOf_12 rfl rfl hs.1 hs.2.1 (hs.2.2.2 79 (by decide) rfl).1 ?_
      refine e_bipush (v := (12 : Int32)) dX13_seamOf_15 rfl ?_
      refine e_iload_n dX13_seamOf_17 rfl ?_
      refine e_imul dX13_seamOf_18 ?_
      refine e_bipush (v := (12 : Int32)) dX13_seamOf_19 rfl ?_
      refine e_iadd dX13_seamOf_21 ?_
      refine e_iconst (v := (1 : Int32)) dX13_seamOf_22 rfl ?_
      refine e_isub dX13_seamOf_23 ?_
      obtain ⟨hc, h⟩ := p_ok_some h
      refine e_iald dX13_seamOf_24 (Nat.lt_trans (hs.2.2.2 79 (by decide) rfl).2.2.2 hs.2.2.1) (hs.2.2.2 79 (by decide) rfl).2.1 (hs.2.2.2 79 (by decide) rfl).2.2.1 (hs.2.2.2 79 (by decide) rfl).2.2.2 hc ?_
      refine e_aload_n dX13_seamOf_25 rfl ?_
      refine e_getR dX13_seamOf_26 rfl rfl hs.1 hs.2.1 (hs.2.2.2 79 (by decide) rfl).1 ?_
      refine e_bipush (v := (12 : Int32)) dX13_seamOf_29 rfl ?_
      refine e_bipush (v := (8 : Int32)) dX13_seamOf_31 rfl ?_
      refine e_iload_n dX13_seamOf_33 rfl ?_
      refine e_iload_n dX13_seamOf_34 rfl ?_
      refine e_iadd dX13_seamOf_35 ?_
      refine e_bipush (v := (8 : Int32)) dX13_seamOf_36 rfl ?_
      obtain ⟨hc, h⟩ := p_ok_some h
      refine e_irem dX13_seamOf_38 hc ?_
      refine e_iadd dX13_seamOf_39 ?_
      refine e_imul dX13_seamOf_40 ?_
      obtain ⟨hc, h⟩ := p_ok_some h
      refine e_iald dX13_seamOf_41 (Nat.lt_trans (hs.2.2.2 79 (by decide) rfl).2.2.2 hs.2.2.1) (hs.2.2.2 79 (by decide) rfl).2.1 (hs.2.2.2 79 (by decide) rfl).2.2.1 (hs.2.2.2 79 (by decide) rfl).2.2.2 hc ?_
      refine e_ic_eq dX13_seamOf_42 49 (by decide) (fun hc => ?_) (fun hc => ?_)
      · rw [if_pos hc] at h
        refine e_iconst (v := (0 : Int32)) dX13_seamOf_49 rfl ?_
        exact E_X13_seamOf_c50 ih hs h hQ
      · rw [if_neg hc] at h
        refine e_iconst (v := (1 : Int32)) dX13_seamOf_45 rfl ?_
        refine e_goto dX13_seamOf_46 50 (by decide) ?_
        exact E_X13_seamOf_c50 ih hs h hQ
def F_X13_seamOf (v1 : Int32) (μ : p_M) : Option (Int32 × p_M) :=
  F_X13_seamOf_c4 p_fu v1 (0 : Int32) (0 : Int32) μ
theorem P_X13_seamOf {v1 : Int32} {μ : p_M} {r : Int32 × p_M} (h : F_X13_seamOf v1 μ = some r) : Sm μ r.2 := by
  unfold F_X13_seamOf at h
  exact Sm_trans (Sm_refl μ) (P_X13_seamOf_c4 p_fu _ _ _ _ _ h)
theorem E_X13_seamOf {X : p_X} {d : Nat} {Q : p_R → Prop} {v1 : Int32} {μ : p_M} {r : Int32 × p_M} (hs : ShM μ) (h : F_X13_seamOf v1 μ = some r) (hQ : Q ((0, some (.int r.1)), r.2)) : p_Ev X (d + 0) M_X13_seamOf 0 [.ref tM, .int v1, .double 0, .double 0] [] μ Q := by
  unfold F_X13_seamOf at h
  refine e_iconst (v := (0 : Int32)) dX13_seamOf_0 rfl ?_
  refine e_istore_n dX13_seamOf_1 (Nat.le_of_ble_eq_true rfl) rfl ?_
  refine e_iconst (v := (0 : Int32)) dX13_seamOf_2 rfl ?_
  refine e_istore_n dX13_seamOf_3 (Nat.le_of_ble_eq_true rfl) rfl ?_
  exact E_X13_seamOf_c4 p_fu _ _ _ _ _ hs h hQ
