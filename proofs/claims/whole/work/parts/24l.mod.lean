/-! X13_seam -/
def F_X13_seam_c37 (s0 : Int32) (μ : p_M) : Option (Int32 × p_M) :=
  some (s0, μ)
theorem P_X13_seam_c37 {s0 : Int32} {μ : p_M} {r : Int32 × p_M} (h : F_X13_seam_c37 s0 μ = some r) : Sm μ r.2 := by
  unfold F_X13_seam_c37 at h
  cases h
  exact (Sm_refl μ)
theorem E_X13_seam_c37 {X : p_X} {d : Nat} {Q : p_R → Prop} {s0 : Int32} {w0 : Value} {w1 : Value} {μ : p_M} {r : Int32 × p_M} (hs : ShM μ) (h : F_X13_seam_c37 s0 μ = some r) (hQ : Q ((0, some (.int r.1)), r.2)) : p_Ev X (d + 1) M_X13_seam 37 [w0, w1] [.int s0] μ Q := by
  unfold F_X13_seam_c37 at h
  cases h
  exact e_ireti dX13_seam_37 rfl hQ
def F_X13_seam_c21 (v1 : Int32) (s0 : Int32) (μ : p_M) : Option (Int32 × p_M) :=
  (F_X13_throwsIf s0 (1 : Int32) μ).bind fun q2 =>
  if q2.1 = 0
  then ((F_X13_seamOf v1 q2.2).bind fun q3 =>
    F_X13_seam_c37 q3.1 q3.2)
  else (F_X13_seam_c37 (0 : Int32) q2.2)
theorem P_X13_seam_c21 {v1 : Int32} {s0 : Int32} {μ : p_M} {r : Int32 × p_M} (h : F_X13_seam_c21 v1 s0 μ = some r) : Sm μ r.2 := by
  unfold F_X13_seam_c21 at h
  obtain ⟨q2, hq2, h⟩ := p_bd h
  by_cases hc : q2.1 = 0
  · rw [if_pos hc] at h
    obtain ⟨q3, hq3, h⟩ := p_bd h
    exact Sm_trans (Sm_trans (Sm_trans (Sm_refl μ) (P_X13_throwsIf (r := q2) hq2)) (P_X13_seamOf (r := q3) hq3)) (P_X13_seam_c37 h)
  · rw [if_neg hc] at h
    exact Sm_trans (Sm_trans (Sm_refl μ) (P_X13_throwsIf (r := q2) hq2)) (P_X13_seam_c37 h)
theorem E_X13_seam_c21 {X : p_X} {d : Nat} {Q : p_R → Prop} {v1 : Int32} {s0 : Int32} {μ : p_M} {r : Int32 × p_M} (hs : ShM μ) (h : F_X13_seam_c21 v1 s0 μ = some r) (hQ : Q ((0, some (.int r.1)), r.2)) : p_Ev X (d + 1) M_X13_seam 21 [.ref tM, .int v1] [.int s0, .ref tM] μ Q := by
  unfold F_X13_seam_c21 at h
  refine e_iconst (v := (1 : Int32)) dX13_seam_21 rfl ?_
  obtain ⟨q2, hq2, h⟩ := p_bd h
  refine e_cV dX13_seam_22 rfl rfl ⟨rfl, rfl, by decide⟩ rfl hs.1 hs.2.1 (E_X13_throwsIf hs hq2 ⟨rfl, ?_⟩)
  have hs := ShM_of (P_X13_throwsIf hq2) hs
  show p_Ev X (d + 1) M_X13_seam 25 [.ref tM, .int v1] [.int q2.1] q2.2 Q
  refine e_if_eq dX13_seam_25 32 (by decide) (fun hc => ?_) (fun hc => ?_)
  · rw [if_pos hc] at h
    refine e_aload_n dX13_seam_32 rfl ?_
    refine e_iload_n dX13_seam_33 rfl ?_
    obtain ⟨q3, hq3, h⟩ := p_bd h
    refine e_cV dX13_seam_34 rfl rfl ⟨rfl, rfl, by decide⟩ rfl hs.1 hs.2.1 (E_X13_seamOf hs hq3 ⟨rfl, ?_⟩)
    have hs := ShM_of (P_X13_seamOf hq3) hs
    show p_Ev X (d + 1) M_X13_seam 37 [.ref tM, .int v1] [.int q3.1] q3.2 Q
    exact E_X13_seam_c37 hs h hQ
  · rw [if_neg hc] at h
    refine e_iconst (v := (0 : Int32)) dX13_seam_28 rfl ?_
    refine e_goto dX13_seam_29 37 (by decide) ?_
    exact E_X13_seam_c37 hs h hQ
def F_X13_seam (v1 : Int32) (μ : p_M) : Option (Int32 × p_M) :=
  (F_X13_in v1 (0 : Int32) (7 : Int32) (sI μ tM 0 (0 : Int32))).bind fun q1 =>
  if ¬ q1.1 = 0
  then (F_X13_seam_c21 v1 (0 : Int32) q1.2)
  else (F_X13_seam_c21 v1 (1 : Int32) q1.2)
theorem P_X13_seam {v1 : Int32} {μ : p_M} {r : Int32 × p_M} (h : F_X13_seam v1 μ = some r) : Sm μ r.2 := by
  unfold F_X13_seam at h
  obtain ⟨q1, hq1, h⟩ := p_bd h
  by_cases hc : ¬ q1.1 = 0
  · rw [if_pos hc] at h
    exact Sm_trans (Sm_trans (Sm_set (Sm_refl μ) (by decide)) (P_X13_in (r := q1) hq1)) (P_X13_seam_c21 h)
  · rw [if_neg hc] at h
    exact Sm_trans (Sm_trans (Sm_set (Sm_refl μ) (by decide)) (P_X13_in (r := q1) hq1)) (P_X13_seam_c21 h)
theorem E_X13_seam {X : p_X} {d : Nat} {Q : p_R → Prop} {v1 : Int32} {μ : p_M} {r : Int32 × p_M} (hs : ShM μ) (h : F_X13_seam v1 μ = some r) (hQ : Q ((0, some (.int r.1)), r.2)) : p_Ev X (d + 1) M_X13_seam 0 [.ref tM, .int v1] [] μ Q := by
  unfold F_X13_seam at h
  refine e_aload_n dX13_seam_0 rfl ?_
  refine e_iconst (v := (0 : Int32)) dX13_seam_1 rfl ?_
  refine e_putI dX13_seam_2 rfl ⟨rfl, rfl, fun h => by cases h⟩ (fun h => by cases h) hs.1 hs.2.1 ?_
  refine e_aload_n dX13_seam_5 rfl ?_
  refine e_iload_n dX13_seam_6 rfl ?_
  refine e_iconst (v := (0 : Int32)) dX13_seam_7 rfl ?_
  refine e_bipush (v := (7 : Int32)) dX13_seam_8 rfl ?_
  obtain ⟨q1, hq1, h⟩ := p_bd h
  refine e_cS dX13_seam_10 rfl rfl rfl rfl (E_X13_in hs hq1 ⟨rfl, ?_⟩)
  have hs := ShM_of (P_X13_in hq1) hs
  show p_Ev X (d + 1) M_X13_seam 13 [.ref tM, .int v1] [.int q1.1, .ref tM] q1.2 Q
  refine e_if_ne dX13_seam_13 20 (by decide) (fun hc => ?_) (fun hc => ?_)
  · rw [if_pos hc] at h
    refine e_iconst (v := (0 : Int32)) dX13_seam_20 rfl ?_
    exact E_X13_seam_c21 hs h hQ
  · rw [if_neg hc] at h
    refine e_iconst (v := (1 : Int32)) dX13_seam_16 rfl ?_
    refine e_goto dX13_seam_17 21 (by decide) ?_
    exact E_X13_seam_c21 hs h hQ
/-! X13_shift -/
def F_X13_shift_c30 (K9 : Int32 → Int32 → p_M → Option (Int32 × p_M)) (v1 : Int32) (v2 : Int32) (μ : p_M) : Option (Int32 × p_M) :=
  K9 v1 (v2 + (1 : Int32)) μ
theorem P_X13_shift_c30 {K9 : Int32 → Int32 → p_M → Option (Int32 × p_M)} (hP9 : ∀ (v1 : Int32) (v2 : Int32) (μ : p_M) (r : Int32 × p_M), K9 v1 v2 μ = some r → Sm μ r.2) {v1 : Int32} {v2 : Int32} {μ : p_M} {r : Int32 × p_M} (h : F_X13_shift_c30 K9 v1 v2 μ = some r) : Sm μ r.2 := by
  unfold F_X13_shift_c30 at h
  exact Sm_trans (Sm_refl μ) (hP9 _ _ _ _ h)
theorem E_X13_shift_c30 {X : p_X} {d : Nat} {Q : p_R → Prop} {K9 : Int32 → Int32 → p_M → Option (Int32 × p_M)} (hK9 : ∀ (v1 : Int32) (v2 : Int32) (μ : p_M) (r : Int32 × p_M), ShM μ → K9 v1 v2 μ = some r → Q ((0, some (.int r.1)), r.2) → p_Ev X (d + 1) M_X13_shift 9 [.ref tM, .int v1, .int v2] [] μ Q) {v1 : Int32} {v2 : Int32} {μ : p_M} {r : Int32 × p_M} (hs : ShM μ) (h : F_X13_shift_c30 K9 v1 v2 μ = some r) (hQ : Q ((0, some (.int r.1)), r.2)) : p_Ev X (d + 1) M_X13_shift 30 [.ref tM, .int v1, .int v2] [] μ Q := by
  unfold F_X13_shift_c30 at h
  refine e_iinc (v := (1 : Int32)) dX13_shift_30 rfl rfl rfl ?_
  refine e_goto dX13_shift_33 9 (by decide) ?_
  exact hK9 _ _ _ _ hs h hQ
def F_X13_shift_c9 : Nat → Int32 → Int32 → p_M → Option (Int32 × p_M)
  | 0, _, _, _ => none
  | n + 1, v1, v2, μ =>
    if (8 : Int32) ≤ v2
    then (some (v1, μ))
    else ((F_X13_seamOf v2 μ).bind fun q1 =>
      (F_X13_seamOf v1 q1.2).bind fun q2 =>
      if q2.1 ≤ q1.1
      then (F_X13_shift_c30 (F_X13_shift_c9 n) v1 v2 q2.2)
      else (F_X13_shift_c30 (F_X13_shift_c9 n) v2 v2 q2.2))
theorem P_X13_shift_c9 : ∀ (n : Nat) (v1 : Int32) (v2 : Int32) (μ : p_M) (r : Int32 × p_M), F_X13_shift_c9 n v1 v2 μ = some r → Sm μ r.2 := by
  intro n
  induction n with
  | zero => intro v1 v2 μ r h; rw [F_X13_shift_c9] at h; cases h
  | succ n ih =>
    intro v1 v2 μ r h
    rw [F_X13_shift_c9] at h
    by_cases hc : (8 : Int32) ≤ v2
    · rw [if_pos hc] at h
      cases h
      exact (Sm_refl μ)
    · rw [if_neg hc] at h
      obtain ⟨q1, hq1, h⟩ := p_bd h
      obtain ⟨q2, hq2, h⟩ := p_bd h
      by_cases hc : q2.1 ≤ q1.1
      · rw [if_pos hc] at h
        exact Sm_trans (Sm_trans (Sm_trans (Sm_refl μ) (P_X13_seamOf (r := q1) hq1)) (P_X13_seamOf (r := q2) hq2)) (P_X13_shift_c30 ih h)
      · rw [if_neg hc] at h
        exact Sm_trans (Sm_trans (Sm_trans (Sm_refl μ) (P_X13_seamOf (r := q1) hq1)) (P_X13_seamOf (r := q2) hq2)) (P_X13_shift_c30 ih h)
theorem E_X13_shift_c9 {X : p_X} {d : Nat} {Q : p_R → Prop} : ∀ (n : Nat) (v1 : Int32) (v2 : Int32) (μ : p_M) (r : Int32 × p_M), ShM μ → F_X13_shift_c9 n v1 v2 μ = some r → Q ((0, some (.int r.1)), r.2) → p_Ev X (d + 1) M_X13_shift 9 [.ref tM, .int v1, .int v2] [] μ Q := by
  intro n
  induction n with
  | zero => intro v1 v2 μ r hs h hQ; rw [F_X13_shift_c9] at h; cases h
  | succ n ih =>
    intro v1 v2 μ r hs h hQ
    rw [F_X13_shift_c9] at h
    refine e_iload_n dX13_shift_9 rfl ?_
    refine e_bipush (v := (8 : Int32)) dX13_shift_10 rfl ?_
    refine e_ic_ge dX13_shift_12 36 (by decide) (fun hc => ?_) (fun hc => ?_)
    · rw [if_pos hc] at h
      refine e_iload_n dX13_shift_36 rfl ?_
      cases h
      exact e_ireti dX13_shift_37 rfl hQ
    · rw [if_neg hc] at h
      refine e_aload_n dX13_shift_15 rfl ?_
      refine e_iload_n dX13_shift_16 rfl ?_
      obtain ⟨q1, hq1, h⟩ := p_bd h
      refine e_cV dX13_shift_17 rfl rfl ⟨rfl, rfl, by decide⟩ rfl hs.1 hs.2.1 (E_X13_seamOf hs hq1 ⟨rfl, ?_⟩)
      have hs := ShM_of (P_X13_seamOf hq1) hs
      show p_Ev X (d + 1) M_X13_shift 20 [.ref tM, .int v1, .int v2] [.int q1.1] q1.2 Q
      refine e_aload_n dX13_shift_20 rfl ?_
      refine e_iload_n dX13_shift_21 rfl ?_
      obtain ⟨q2, hq2, h⟩ := p_bd h
      refine e_cV dX13_shift_22 rfl rfl ⟨rfl, rfl, by decide⟩ rfl hs.1 hs.2.1 (E_X13_seamOf hs hq2 ⟨rfl, ?_⟩)
      have hs := ShM_of (P_X13_seamOf hq2) hs
      show p_Ev X (d + 1) M_X13_shift 25 [.ref tM, .int v1, .int v2] [.int q2.1, .int q1.1] q2.2 Q
      refine e_ic_ge dX13_shift_25 30 (by decide) (fun hc => ?_) (fun hc => ?_)
      · rw [if_pos hc] at h
        exact E_X13_shift_c30 ih hs h hQ
      · rw [if_neg hc] at h
        refine e_iload_n dX13_shift_28 rfl ?_
        refine e_istore_n dX13_shift_29 (Nat.le_of_ble_eq_true rfl) rfl ?_
        exact E_X13_shift_c30 ih hs h hQ
def F_X13_shift (μ : p_M) : Option (Int32 × p_M) :=
  F_X13_shift_c9 p_fu (0 : Int32) (1 : Int32) (sI μ tM 0 (0 : Int32))
theorem P_X13_shift {μ : p_M} {r : Int32 × p_M} (h : F_X13_shift μ = some r) : Sm μ r.2 := by
  unfold F_X13_shift at h
  exact Sm_trans (Sm_set (Sm_refl μ) (by decide)) (P_X13_shift_c9 p_fu _ _ _ _ h)
theorem E_X13_shift {X : p_X} {d : Nat} {Q : p_R → Prop} {μ : p_M} {r : Int32 × p_M} (hs : ShM μ) (h : F_X13_shift μ = some r) (hQ : Q ((0, some (.int r.1)), r.2)) : p_Ev X (d + 1) M_X13_shift 0 [.ref tM, .double 0, .double 0] [] μ Q := by
  unfold F_X13_shift at h
  refine e_aload_n dX13_shift_0 rfl ?_
  refine e_iconst (v := (0 : Int32)) dX13_shift_1 rfl ?_
  refine e_putI dX13_shift_2 rfl ⟨rfl, rfl, fun h => by cases h⟩ (fun h => by cases h) hs.1 hs.2.1 ?_
  refine e_iconst (v := (0 : Int32)) dX13_shift_5 rfl ?_
  refine e_istore_n dX13_shift_6 (Nat.le_of_ble_eq_true rfl) rfl ?_
  refine e_iconst (v := (1 : Int32)) dX13_shift_7 rfl ?_
  refine e_istore_n dX13_shift_8 (Nat.le_of_ble_eq_true rfl) rfl ?_
  exact E_X13_shift_c9 p_fu _ _ _ _ hs h hQ
/-! X13_sorted -/
def F_X13_sorted_c51 (s0 : Int32) (μ : p_M) : Option (Int32 × p_M) :=
  some (s0, μ)
theorem P_X13_sorted_c51 {s0 : Int32} {μ : p_M} {r : Int32 × p_M} (h : F_X13_sorted_c51 s0 μ = some r) : Sm μ r.2 := by
  unfold F_X13_sorted_c51 at h
  cases h
  exact (Sm_refl μ)
theorem E_X13_sorted_c51 {X : p_X} {d : Nat} {Q : p_R → Prop} {s0 : Int32} {w0 : Value} {w1 : Value} {w2 : Value} {w3 : Value} {μ : p_M} {r : Int32 × p_M} (hs : ShM μ) (h : F_X13_sorted_c51 s0 μ = some r) (hQ : Q ((0, some (.int r.1)), r.2)) : p_Ev X (d + 3) M_X13_sorted 51 [w0, w1, w2, w3] [.int s0] μ Q := by
  unfold F_X13_sorted_c51 at h
  cases h
  exact e_ireti dX13_sorted_51 rfl hQ
def F_X13_sorted_c40 (μ : p_M) : Option (Int32 × p_M) :=
  F_X13_sorted_c51 (0 : Int32) μ
theorem P_X13_sorted_c40 {μ : p_M} {r : Int32 × p_M} (h : F_X13_sorted_c40 μ = some r) : Sm μ r.2 := by
  unfold F_X13_sorted_c40 at h
  exact Sm_trans (Sm_refl μ) (P_X13_sorted_c51 h)
theorem E_X13_sorted_c40 {X : p_X} {d : Nat} {Q : p_R → Prop} {w0 : Value} {w1 : Value} {w2 : Value} {w3 : Value} {μ : p_M} {r : Int32 × p_M} (hs : ShM μ) (h : F_X13_sorted_c40 μ = some r) (hQ : Q ((0, some (.int r.1)), r.2)) : p_Ev X (d + 3) M_X13_sorted 40 [w0, w1, w2, w3] [] μ Q := by
  unfold F_X13_sorted_c40 at h
  refine e_iconst (v := (0 : Int32)) dX13_sorted_40 rfl ?_
  refine e_goto dX13_sorted_41 51 (by decide) ?_
  exact E_X13_sorted_c51 hs h hQ
def F_X13_sorted_c33 (v1 : Int32) (v2 : Int32) (v3 : Int32) (s0 : Int32) (μ : p_M) : Option (Int32 × p_M) :=
  (F_X13_throwsIf s0 (2 : Int32) μ).bind fun q4 =>
  if q4.1 = 0
  then ((F_X13_sortedOf v1 v2 v3 q4.2).bind fun q5 =>
    F_X13_sorted_c51 q5.1 q5.2)
  else (F_X13_sorted_c40 q4.2)
theorem P_X13_sorted_c33 {v1 : Int32} {v2 : Int32} {v3 : Int32} {s0 : Int32} {μ : p_M} {r : Int32 × p_M} (h : F_X13_sorted_c33 v1 v2 v3 s0 μ = some r) : Sm μ r.2 := by
  unfold F_X13_sorted_c33 at h
  obtain ⟨q4, hq4, h⟩ := p_bd h
  by_cases hc : q4.1 = 0
  · rw [if_pos hc] at h
    obtain ⟨q5, hq5, h⟩ := p_bd h
    exact Sm_trans (Sm_trans (Sm_trans (Sm_refl μ) (P_X13_throwsIf (r := q4) hq4)) (P_X13_sortedOf (r := q5) hq5)) (P_X13_sorted_c51 h)
  · rw [if_neg hc] at h
    exact Sm_trans (Sm_trans (Sm_refl μ) (P_X13_throwsIf (r := q4) hq4)) (P_X13_sorted_c40 h)
theorem E_X13_sorted_c33 {X : p_X} {d : Nat} {Q : p_R → Prop} {v1 : Int32} {v2 : Int32} {v3 : Int32} {s0 : Int32} {μ : p_M} {r : Int32 × p_M} (hs : ShM μ) (h : F_X13_sorted_c33 v1 v2 v3 s0 μ = some r) (hQ : Q ((0, some (.int r.1)), r.2)) : p_Ev X (d + 3) M_X13_sorted 33 [.ref tM, .int v1, .int v2, .int v3] [.int s0, .ref tM] μ Q := by
  unfold F_X13_sorted_c33 at h
  refine e_iconst (v := (2 : Int32)) dX13_sorted_33 rfl ?_
  obtain ⟨q4, hq4, h⟩ := p_bd h
  refine e_cV dX13_sorted_34 rfl rfl ⟨rfl, rfl, by decide⟩ rfl hs.1 hs.2.1 (E_X13_throwsIf hs hq4 ⟨rfl, ?_⟩)
  have hs := ShM_of (P_X13_throwsIf hq4) hs
  show p_Ev X (d + 3) M_X13_sorted 37 [.ref tM, .int v1, .int v2, .int v3] [.int q4.1] q4.2 Q
  refine e_if_eq dX13_sorted_37 44 (by decide) (fun hc => ?_) (fun hc => ?_)
  · rw [if_pos hc] at h
    refine e_aload_n dX13_sorted_44 rfl ?_
    refine e_iload_n dX13_sorted_45 rfl ?_
    refine e_iload_n dX13_sorted_46 rfl ?_
    refine e_iload_n dX13_sorted_47 rfl ?_
    obtain ⟨q5, hq5, h⟩ := p_bd h
    refine e_cV dX13_sorted_48 rfl rfl ⟨rfl, rfl, by decide⟩ rfl hs.1 hs.2.1 (E_X13_sortedOf hs hq5 ⟨rfl, ?_⟩)
    have hs := ShM_of (P_X13_sortedOf hq5) hs
    show p_Ev X (d + 3) M_X13_sorted 51 [.ref tM, .int v1, .int v2, .int v3] [.int q5.1] q5.2 Q
    exact E_X13_sorted_c51 hs h hQ
  · rw [if_neg hc] at h
    exact E_X13_sorted_c40 hs h hQ
def F_X13_sorted (v1 : Int32) (v2 : Int32) (v3 : Int32) (μ : p_M) : Option (Int32 × p_M) :=
  (F_X13_noLot v1 (sI μ tM 0 (0 : Int32))).bind fun q1 =>
  (F_X13_throwsIf q1.1 (1 : Int32) q1.2).bind fun q2 =>
  if ¬ q2.1 = 0
  then (F_X13_sorted_c40 q2.2)
  else ((F_X13_in v3 (0 : Int32) (3 : Int32) q2.2).bind fun q3 =>
    if ¬ q3.1 = 0
    then (F_X13_sorted_c33 v1 v2 v3 (0 : Int32) q3.2)
    else (F_X13_sorted_c33 v1 v2 v3 (1 : Int32) q3.2))
theorem P_X13_sorted {v1 : Int32} {v2 : Int32} {v3 : Int32} {μ : p_M} {r : Int32 × p_M} (h : F_X13_sorted v1 v2 v3 μ = some r) : Sm μ r.2 := by
  unfold F_X13_sorted at h
  obtain ⟨q1, hq1, h⟩ := p_bd h
  obtain ⟨q2, hq2, h⟩ := p_bd h
  by_cases hc : ¬ q2.1 = 0
  · rw [if_pos hc] at h
    exact Sm_trans (Sm_trans (Sm_trans (Sm_set (Sm_refl μ) (by decide)) (P_X13_noLot (r := q1) hq1)) (P_X13_throwsIf (r := q2) hq2)) (P_X13_sorted_c40 h)
  · rw [if_neg hc] at h
    obtain ⟨q3, hq3, h⟩ := p_bd h
    by_cases hc : ¬ q3.1 = 0
    · rw [if_pos hc] at h
      exact Sm_trans (Sm_trans (Sm_trans (Sm_trans (Sm_set (Sm_refl μ) (by decide)) (P_X13_noLot (r := q1) hq1)) (P_X13_throwsIf (r := q2) hq2)) (P_X13_in (r := q3) hq3)) (P_X13_sorted_c33 h)
    · rw [if_neg hc] at h
      exact Sm_trans (Sm_trans (Sm_trans (Sm_trans (Sm_set (Sm_refl μ) (by decide)) (P_X13_noLot (r := q1) hq1)) (P_X13_throwsIf (r := q2) hq2)) (P_X13_in (r := q3) hq3)) (P_X13_sorted_c33 h)
theorem E_X13_sorted {X : p_X} {d : Nat} {Q : p_R → Prop} {v1 : Int32} {v2 : Int32} {v3 : Int32} {μ : p_M} {r : Int32 × p_M} (hs : ShM μ) (h : F_X13_sorted v1 v2 v3 μ = some r) (hQ : Q ((0, some (.int r.1)), r.2)) : p_Ev X (d + 3) M_X13_sorted 0 [.ref tM, .int v1, .int v2, .int v3] [] μ Q := by
  unfold F_X13_sorted at h
  refine e_aload_n dX13_sorted_0 rfl ?_
  refine e_iconst (v := (0 : Int32)) dX13_sorted_1 rfl ?_
  refine e_putI dX13_sorted_2 rfl ⟨rfl, rfl, fun h => by cases h⟩ (fun h => by cases h) hs.1 hs.2.1 ?_
  refine e_aload_n dX13_sorted_5 rfl ?_
  refine e_aload_n dX13_sorted_6 rfl ?_
  refine e_iload_n dX13_sorted_7 rfl ?_
  obtain ⟨q1, hq1, h⟩ := p_bd h
  refine e_cV dX13_sorted_8 rfl rfl ⟨rfl, rfl, by decide⟩ rfl hs.1 hs.2.1 (E_X13_noLot hs hq1 ⟨rfl, ?_⟩)
  have hs := ShM_of (P_X13_noLot hq1) hs
  show p_Ev X (d + 3) M_X13_sorted 11 [.ref tM, .int v1, .int v2, .int v3] [.int q1.1, .ref tM] q1.2 Q
  refine e_iconst (v := (1 : Int32)) dX13_sorted_11 rfl ?_
  obtain ⟨q2, hq2, h⟩ := p_bd h
  refine e_cV dX13_sorted_12 rfl rfl ⟨rfl, rfl, by decide⟩ rfl hs.1 hs.2.1 (E_X13_throwsIf hs hq2 ⟨rfl, ?_⟩)
  have hs := ShM_of (P_X13_throwsIf hq2) hs
  show p_Ev X (d + 3) M_X13_sorted 15 [.ref tM, .int v1, .int v2, .int v3] [.int q2.1] q2.2 Q
  refine e_if_ne dX13_sorted_15 40 (by decide) (fun hc => ?_) (fun hc => ?_)
  · rw [if_pos hc] at h
    exact E_X13_sorted_c40 hs h hQ
  · rw [if_neg hc] at h
    refine e_aload_n dX13_sorted_18 rfl ?_
    refine e_iload_n dX13_sorted_19 rfl ?_
    refine e_iconst (v := (0 : Int32)) dX13_sorted_20 rfl ?_
    refine e_iconst (v := (3 : Int32)) dX13_sorted_21 rfl ?_
    obtain ⟨q3, hq3, h⟩ := p_bd h
    refine e_cS dX13_sorted_22 rfl rfl rfl rfl (E_X13_in hs hq3 ⟨rfl, ?_⟩)
    have hs := ShM_of (P_X13_in hq3) hs
    show p_Ev X (d + 3) M_X13_sorted 25 [.ref tM, .int v1, .int v2, .int v3] [.int q3.1, .ref tM] q3.2 Q
    refine e_if_ne dX13_sorted_25 32 (by decide) (fun hc => ?_) (fun hc => ?_)
    · rw [if_pos hc] at h
      refine e_iconst (v := (0 : Int32)) dX13_sorted_32 rfl ?_
      exact E_X13_sorted_c33 hs h hQ
    · rw [if_neg hc] at h
      refine e_iconst (v := (1 : Int32)) dX13_sorted_28 rfl ?_
      refine e_goto dX13_sorted_29 33 (by decide) ?_
      exact E_X13_sorted_c33 hs h hQ
/-! X13_sortsFor -/
def F_X13_sortsFor_c48 (K7 : Int32 → Int32 → Int32 → Int32 → p_M → Option (Int32 × p_M)) (v1 : Int32) (v2 : Int32) (v3 : Int32) (v4 : Int32) (μ : p_M) : Option (Int32 × p_M) :=
  K7 v1 v2 v3 (v4 + (1 : Int32)) μ
theorem P_X13_sortsFor_c48 {K7 : Int32 → Int32 → Int32 → Int32 → p_M → Option (Int32 × p_M)} (hP7 : ∀ (v1 : Int32) (v2 : Int32) (v3 : Int32) (v4 : Int32) (μ : p_M) (r : Int32 × p_M), K7 v1 v2 v3 v4 μ = some r → Sm μ r.2) {v1 : Int32} {v2 : Int32} {v3 : Int32} {v4 : Int32} {μ : p_M} {r : Int32 × p_M} (h : F_X13_sortsFor_c48 K7 v1 v2 v3 v4 μ = some r) : Sm μ r.2 := by
  unfold F_X13_sortsFor_c48 at h
  exact Sm_trans (Sm_refl μ) (hP7 _ _ _ _ _ _ h)
theorem E_X13_sortsFor_c48 {X : p_X} {d : Nat} {Q : p_R → Prop} {K7 : Int32 → Int32 → Int32 → Int32 → p_M → Option (Int32 × p_M)} (hK7 : ∀ (v1 : Int32) (v2 : Int32) (v3 : Int32) (v4 : Int32) (μ : p_M) (r : Int32 × p_M), ShM μ → K7 v1 v2 v3 v4 μ = some r → Q ((0, some (.int r.1)), r.2) → p_Ev X (d + 0) M_X13_sortsFor 7 [.ref tM, .int v1, .int v2, .int v3, .int v4] [] μ Q) {v1 : Int32} {v2 : Int32} {v3 : Int32} {v4 : Int32} {μ : p_M} {r : Int32 × p_M} (hs : ShM μ) (h : F_X13_sortsFor_c48 K7 v1 v2 v3 v4 μ = some r) (hQ : Q ((0, some (.int r.1)), r.2)) : p_Ev X (d + 0) M_X13_sortsFor 48 [.ref tM, .int v1, .int v2, .int v3, .int v4] [] μ Q := by
  unfold F_X13_sortsFor_c48 at h
  refine e_iinc (v := (1 : Int32)) dX13_sortsFor_48 rfl rfl rfl ?_
  refine e_goto dX13_sortsFor_51 7 (by decide) ?_
  exact hK7 _ _ _ _ _ _ hs h hQ
def F_X13_sortsFor_c42 (K7 : Int32 → Int32 → Int32 → Int32 → p_M → Option (Int32 × p_M)) (v1 : Int32) (v2 : Int32) (v4 : Int32) (μ : p_M) : Option (Int32 × p_M) :=
  F_X13_sortsFor_c48 K7 v1 (v2 + (1 : Int32)) v4 v4 μ
theorem P_X13_sortsFor_c42 {K7 : Int32 → Int32 → Int32 → Int32 → p_M → Option (Int32 × p_M)} (hP7 : ∀ (v1 : Int32) (v2 : Int32) (v3 : Int32) (v4 : Int32) (μ : p_M) (r : Int32 × p_M), K7 v1 v2 v3 v4 μ = some r → Sm μ r.2) {v1 : Int32} {v2 : Int32} {v4 : Int32} {μ : p_M} {r : Int32 × p_M} (h : F_X13_sortsFor_c42 K7 v1 v2 v4 μ = some r) : Sm μ r.2 := by
  unfold F_X13_sortsFor_c42 at h
  exact Sm_trans (Sm_refl μ) (P_X13_sortsFor_c48 hP7 h)
theorem E_X13_sortsFor_c42 {X : p_X} {d : Nat} {Q : p_R → Prop} {K7 : Int32 → Int32 → Int32 → Int32 → p_M → Option (Int32 × p_M)} (hK7 : ∀ (v1 : Int32) (v2 : Int32) (v3 : Int32) (v4 : Int32) (μ : p_M) (r : Int32 × p_M), ShM μ → K7 v1 v2 v3 v4 μ = some r → Q ((0, some (.int r.1)), r.2) → p_Ev X (d + 0) M_X13_sortsFor 7 [.ref tM, .int v1, .int v2, .int v3, .int v4] [] μ Q) {v1 : Int32} {v2 : Int32} {v4 : Int32} {w3 : Value} {μ : p_M} {r : Int32 × p_M} (hs : ShM μ) (h : F_X13_sortsFor_c42 K7 v1 v2 v4 μ = some r) (hQ : Q ((0, some (.int r.1)), r.2)) : p_Ev X (d + 0) M_X13_sortsFor 42 [.ref tM, .int v1, .int v2, w3, .int v4] [] μ Q := by
  unfold F_X13_sortsFor_c42 at h
  refine e_iload dX13_sortsFor_42 rfl ?_
  refine e_istore_n dX13_sortsFor_44 (Nat.le_of_ble_eq_true rfl) rfl ?_
  refine e_iinc (v := (1 : Int32)) dX13_sortsFor_45 rfl rfl rfl ?_
  exact E_X13_sortsFor_c48 hK7 hs h hQ
def F_X13_sortsFor_c7 : Nat → Int32 → Int32 → Int32 → Int32 → p_M → Option (Int32 × p_M)
  | 0, _, _, _, _, _ => none
  | n + 1, v1, v2, v3, v4, μ =>
    if (mI μ tM 39) ≤ v4
    then (some (v2, μ))
    else (if v4 ≤ 0
      then (F_X13_sortsFor_c42 (F_X13_sortsFor_c7 n) v1 v2 v4 μ)
      else (p_ok (¬ v4 < 0 ∧ v4.toNatClampNeg < 40)
        (p_ok (¬ v3 < 0 ∧ v3.toNatClampNeg < 40)
        (if v1 < ((mI μ (aM 38) v4.toNatClampNeg) - (mI μ (aM 38) v3.toNatClampNeg))
        then (F_X13_sortsFor_c42 (F_X13_sortsFor_c7 n) v1 v2 v4 μ)
        else (F_X13_sortsFor_c48 (F_X13_sortsFor_c7 n) v1 v2 v3 v4 μ)))))
theorem P_X13_sortsFor_c7 : ∀ (n : Nat) (v1 : Int32) (v2 : Int32) (v3 : Int32) (v4 : Int32) (μ : p_M) (r : Int32 × p_M), F_X13_sortsFor_c7 n v1 v2 v3 v4 μ = some r → Sm μ r.2 := by
  intro n
  induction n with
  | zero => intro v1 v2 v3 v4 μ r h; rw [F_X13_sortsFor_c7] at h; cases h
  | succ n ih =>
    intro v1 v2 v3 v4 μ r h
    rw [F_X13_sortsFor_c7] at h
    by_cases hc : (mI μ tM 39) ≤ v4
    · rw [if_pos hc] at h
      cases h
      exact (Sm_refl μ)
    · rw [if_neg hc] at h
      by_cases hc : v4 ≤ 0
      · rw [if_pos hc] at h
        exact Sm_trans (Sm_refl μ) (P_X13_sortsFor_c42 ih h)
      · rw [if_neg hc] at h
        obtain ⟨hc, h⟩ := p_ok_some h
        obtain ⟨hc, h⟩ := p_ok_some h
        by_cases hc : v1 < ((mI μ (aM 38) v4.toNatClampNeg) - (mI μ (aM 38) v3.toNatClampNeg))
        · rw [if_pos hc] at h
          exact Sm_trans (Sm_refl μ) (P_X13_sortsFor_c42 ih h)
        · rw [if_neg hc] at h
          exact Sm_trans (Sm_refl μ) (P_X13_sortsFor_c48 ih h)
theorem E_X13_sortsFor_c7 {X : p_X} {d : Nat} {Q : p_R → Prop} : ∀ (n : Nat) (v1 : Int32) (v2 : Int32) (v3 : Int32) (v4 : Int32) (μ : p_M) (r : Int32 × p_M), ShM μ → F_X13_sortsFor_c7 n v1 v2 v3 v4 μ = some r → Q ((0, some (.int r.1)), r.2) → p_Ev X (d + 0) M_X13_sortsFor 7 [.ref tM, .int v1, .int v2, .int v3, .int v4] [] μ Q := by
  intro n
  induction n with
  | zero => intro v1 v2 v3 v4 μ r hs h hQ; rw [F_X13_sortsFor_c7] at h; cases h
  | succ n ih =>
    intro v1 v2 v3 v4 μ r hs h hQ
    rw [F_X13_sortsFor_c7] at h
    refine e_iload dX13_sortsFor_7 rfl ?_
    refine e_aload_n dX13_sortsFor_9 rfl ?_
    refine e_getI dX13_sortsFor_10 rfl rfl hs.1 hs.2.1 ?_
    refine e_ic_ge dX13_sortsFor_13 54 (by decide) (fun hc => ?_) (fun hc => ?_)
    · rw [if_pos hc] at h
      refine e_iload_n dX13_sortsFor_54 rfl ?_
      cases h
      exact e_ireti dX13_sortsFor_55 rfl hQ
    · rw [if_neg hc] at h
      refine e_iload dX13_sortsFor_16 rfl ?_
      refine e_if_le dX13_sortsFor_18 42 (by decide) (fun hc => ?_) (fun hc => ?_)
      · rw [if_pos hc] at h
        exact E_X13_sortsFor_c42 ih hs h hQ
      · rw [if_neg hc] at h
        refine e_aload_n dX13_sortsFor_21 rfl ?_
        refine e_getR dX13_sortsFor_22 rfl rfl hs.1 hs.2.1 (hs.2.2.2 38 (by decide) rfl).1 ?_
        refine e_iload dX13_sortsFor_25 rfl ?_
        obtain ⟨hc, h⟩ := p_ok_some h
        refine e_iald dX13_sortsFor_27 (Nat.lt_trans (hs.2.2.2 38 (by decide) rfl).2.2.2 hs.2.2.1) (hs.2.2.2 38 (by decide) rfl).2.1 (hs.2.2.2 38 (by decide) rfl).2.2.1 (hs.2.2.2 38 (by decide) rfl).2.2.2 hc ?_
        refine e_aload_n dX13_sortsFor_28 rfl ?_
        refine e_getR dX13_sortsFor_29 rfl rfl hs.1 hs.2.1 (hs.2.2.2 38 (by decide) rfl).1 ?_
        refine e_iload_n dX13_sortsFor_32 rfl ?_
        obtain ⟨hc, h⟩ := p_ok_some h
        refine e_iald dX13_sortsFor_33 (Nat.lt_trans (hs.2.2.2 38 (by decide) rfl).2.2.2 hs.2.2.1) (hs.2.2.2 38 (by decide) rfl).2.1 (hs.2.2.2 38 (by decide) rfl).2.2.1 (hs.2.2.2 38 (by decide) rfl).2.2.2 hc ?_
        refine e_isub dX13_sortsFor_34 ?_
        refine e_iload_n dX13_sortsFor_35 rfl ?_
        refine e_ic_gt dX13_sortsFor_36 42 (by decide) (fun hc => ?_) (fun hc => ?_)
        · rw [if_pos hc] at h
          exact E_X13_sortsFor_c42 ih hs h hQ
        · rw [if_neg hc] at h
          refine e_goto dX13_sortsFor_39 48 (by decide) ?_
          exact E_X13_sortsFor_c48 ih hs h hQ
def F_X13_sortsFor (v1 : Int32) (μ : p_M) : Option (Int32 × p_M) :=
  F_X13_sortsFor_c7 p_fu v1 (0 : Int32) (0 : Int32) (0 : Int32) μ
theorem P_X13_sortsFor {v1 : Int32} {μ : p_M} {r : Int32 × p_M} (h : F_X13_sortsFor v1 μ = some r) : Sm μ r.2 := by
  unfold F_X13_sortsFor at h
  exact Sm_trans (Sm_refl μ) (P_X13_sortsFor_c7 p_fu _ _ _ _ _ _ h)
theorem E_X13_sortsFor {X : p_X} {d : Nat} {Q : p_R → Prop} {v1 : Int32} {μ : p_M} {r : Int32 × p_M} (hs : ShM μ) (h : F_X13_sortsFor v1 μ = some r) (hQ : Q ((0, some (.int r.1)), r.2)) : p_Ev X (d + 0) M_X13_sortsFor 0 [.ref tM, .int v1, .double 0, .double 0, .double 0] [] μ Q := by
  unfold F_X13_sortsFor at h
  refine e_iconst (v := (0 : Int32)) dX13_sortsFor_0 rfl ?_
  refine e_istore_n dX13_sortsFor_1 (Nat.le_of_ble_eq_true rfl) rfl ?_
  refine e_iconst (v := (0 : Int32)) dX13_sortsFor_2 rfl ?_
  refine e_istore_n dX13_sortsFor_3 (Nat.le_of_ble_eq_true rfl) rfl ?_
  refine e_iconst (v := (0 : Int32)) dX13_sortsFor_4 rfl ?_
  refine e_istore dX13_sortsFor_5 (Nat.le_of_ble_eq_true rfl) rfl ?_
  exact E_X13_sortsFor_c7 p_fu _ _ _ _ _ _ hs h hQ
/-! X13_spread -/
def F_X13_spread_c32 : Nat → Int32 → Int32 → p_M → Option (Int32 × p_M)
  | 0, _, _, _ => none
  | n + 1, v1, v2, μ =>
    (F_X13_sortsFor v2 μ).bind fun q3 =>
    if q3.1 ≤ v1
    then (some (v2, q3.2))
    else (F_X13_spread_c32 n v1 (v2 + (1 : Int32)) q3.2)
theorem P_X13_spread_c32 : ∀ (n : Nat) (v1 : Int32) (v2 : Int32) (μ : p_M) (r : Int32 × p_M), F_X13_spread_c32 n v1 v2 μ = some r → Sm μ r.2 := by
  intro n
  induction n with
  | zero => intro v1 v2 μ r h; rw [F_X13_spread_c32] at h; cases h
  | succ n ih =>
    intro v1 v2 μ r h
    rw [F_X13_spread_c32] at h
    obtain ⟨q3, hq3, h⟩ := p_bd h
    by_cases hc : q3.1 ≤ v1
    · rw [if_pos hc] at h
      cases h
      exact (Sm_trans (Sm_refl μ) (P_X13_sortsFor (r := q3) hq3))
    · rw [if_neg hc] at h
      exact Sm_trans (Sm_trans (Sm_refl μ) (P_X13_sortsFor (r := q3) hq3)) (ih _ _ _ _ h)
theorem E_X13_spread_c32 {X : p_X} {d : Nat} {Q : p_R → Prop} : ∀ (n : Nat) (v1 : Int32) (v2 : Int32) (μ : p_M) (r : Int32 × p_M), ShM μ → F_X13_spread_c32 n v1 v2 μ = some r → Q ((0, some (.int r.1)), r.2) → p_Ev X (d + 1) M_X13_spread 32 [.ref tM, .int v1, .int v2] [] μ Q := by
  intro n
  induction n with
  | zero => intro v1 v2 μ r hs h hQ; rw [F_X13_spread_c32] at h; cases h
  | succ n ih =>
    intro v1 v2 μ r hs h hQ
    rw [F_X13_spread_c32] at h
    refine e_aload_n dX13_spread_32 rfl ?_
    refine e_iload_n dX13_spread_33 rfl ?_
    obtain ⟨q3, hq3, h⟩ := p_bd h
    refine e_cV dX13_spread_34 rfl rfl ⟨rfl, rfl, by decide⟩ rfl hs.1 hs.2.1 (E_X13_sortsFor hs hq3 ⟨rfl, ?_⟩)
    have hs := ShM_of (P_X13_sortsFor hq3) hs
    show p_Ev X (d + 1) M_X13_spread 37 [.ref tM, .int v1, .int v2] [.int q3.1] q3.2 Q
    refine e_iload_n dX13_spread_37 rfl ?_
    refine e_ic_le dX13_spread_38 47 (by decide) (fun hc => ?_) (fun hc => ?_)
    · rw [if_pos hc] at h
      refine e_iload_n dX13_spread_47 rfl ?_
      cases h
      exact e_ireti dX13_spread_48 rfl hQ
    · rw [if_neg hc] at h
      refine e_iinc (v := (1 : Int32)) dX13_spread_41 rfl rfl rfl ?_
      refine e_goto dX13_spread_44 32 (by decide) ?_
      exact ih _ _ _ _ hs h hQ
def F_X13_spread_c21 (v1 : Int32) (s0 : Int32) (μ : p_M) : Option (Int32 × p_M) :=
  (F_X13_throwsIf s0 (1 : Int32) μ).bind fun q2 =>
  if q2.1 = 0
  then (F_X13_spread_c32 p_fu v1 (0 : Int32) q2.2)
  else (some ((0 : Int32), q2.2))
theorem P_X13_spread_c21 {v1 : Int32} {s0 : Int32} {μ : p_M} {r : Int32 × p_M} (h : F_X13_spread_c21 v1 s0 μ = some r) : Sm μ r.2 := by
  unfold F_X13_spread_c21 at h
  obtain ⟨q2, hq2, h⟩ := p_bd h
  by_cases hc : q2.1 = 0
  · rw [if_pos hc] at h
    exact Sm_trans (Sm_trans (Sm_refl μ) (P_X13_throwsIf (r := q2) hq2)) (P_X13_spread_c32 p_fu _ _ _ _ h)
  · rw [if_neg hc] at h
    cases h
    exact (Sm_trans (Sm_refl μ) (P_X13_throwsIf (r := q2) hq2))
theorem E_X13_spread_c21 {X : p_X} {d : Nat} {Q : p_R → Prop} {v1 : Int32} {s0 : Int32} {w2 : Value} {μ : p_M} {r : Int32 × p_M} (hs : ShM μ) (h : F_X13_spread_c21 v1 s0 μ = some r) (hQ : Q ((0, some (.int r.1)), r.2)) : p_Ev X (d + 1) M_X13_spread 21 [.ref tM, .int v1, w2] [.int s0, .ref tM] μ Q := by
  unfold F_X13_spread_c21 at h
  refine e_iconst (v := (1 : Int32)) dX13_spread_21 rfl ?_
  obtain ⟨q2, hq2, h⟩ := p_bd h
  refine e_cV dX13_spread_22 rfl rfl ⟨rfl, rfl, by decide⟩ rfl hs.1 hs.2.1 (E_X13_throwsIf hs hq2 ⟨rfl, ?_⟩)
  have hs := ShM_of (P_X13_throwsIf hq2) hs
  show p_Ev X (d + 1) M_X13_spread 25 [.ref tM, .int v1, w2] [.int q2.1] q2.2 Q
  refine e_if_eq dX13_spread_25 30 (by decide) (fun hc => ?_) (fun hc => ?_)
  · rw [if_pos hc] at h
    refine e_iconst (v := (0 : Int32)) dX13_spread_30 rfl ?_
    refine e_istore_n dX13_spread_31 (Nat.le_of_ble_eq_true rfl) rfl ?_
    exact E_X13_spread_c32 p_fu _ _ _ _ hs h hQ
  · rw [if_neg hc] at h
    refine e_iconst (v := (0 : Int32)) dX13_spread_28 rfl ?_
    cases h
    exact e_ireti dX13_spread_29 rfl hQ
def F_X13_spread (v1 : Int32) (μ : p_M) : Option (Int32 × p_M) :=
  (F_X13_in v1 (1 : Int32) (10 : Int32) (sI μ tM 0 (0 : Int32))).bind fun q1 =>
  if ¬ q1.1 = 0
  then (F_X13_spread_c21 v1 (0 : Int32) q1.2)
  else (F_X13_spread_c21 v1 (1 : Int32) q1.2)
theorem P_X13_spread {v1 : Int32} {μ : p_M} {r : Int32 × p_M} (h : F_X13_spread v1 μ = some r) : Sm μ r.2 := by
  unfold F_X13_spread at h
  obtain ⟨q1, hq1, h⟩ := p_bd h
  by_cases hc : ¬ q1.1 = 0
  · rw [if_pos hc] at h
    exact Sm_trans (Sm_trans (Sm_set (Sm_refl μ) (by decide)) (P_X13_in (r := q1) hq1)) (P_X13_spread_c21 h)
  · rw [if_neg hc] at h
    exact Sm_trans (Sm_trans (Sm_set (Sm_refl μ) (by decide)) (P_X13_in (r := q1) hq1)) (P_X13_spread_c21 h)
theorem E_X13_spread {X : p_X} {d : Nat} {Q : p_R → Prop} {v1 : Int32} {μ : p_M} {r : Int32 × p_M} (hs : ShM μ) (h : F_X13_spread v1 μ = some r) (hQ : Q ((0, some (.int r.1)), r.2)) : p_Ev X (d + 1) M_X13_spread 0 [.ref tM, .int v1, .double 0] [] μ Q := by
  unfold F_X13_spread at h
  refine e_aload_n dX13_spread_0 rfl ?_
  refine e_iconst (v := (0 : Int32)) dX13_spread_1 rfl ?_
  refine e_putI dX13_spread_2 rfl ⟨rfl, rfl, fun h => by cases h⟩ (fun h => by cases h) hs.1 hs.2.1 ?_
  refine e_aload_n dX13_spread_5 rfl ?_
  refine e_iload_n dX13_spread_6 rfl ?_
  refine e_iconst (v := (1 : Int32)) dX13_spread_7 rfl ?_
  refine e_bipush (v := (10 : Int32)) dX13_spread_8 rfl ?_
  obtain ⟨q1, hq1, h⟩ := p_bd h
  refine e_cS dX13_spread_10 rfl rfl rfl rfl (E_X13_in hs hq1 ⟨rfl, ?_⟩)
  have hs := ShM_of (P_X13_in hq1) hs
  show p_Ev X (d + 1) M_X13_spread 13 [.ref tM, .int v1, .double 0] [.int q1.1, .ref tM] q1.2 Q
  refine e_if_ne dX13_spread_13 20 (by decide) (fun hc => ?_) (fun hc => ?_)
  · rw [if_pos hc] at h
    refine e_iconst (v := (0 : Int32)) dX13_spread_20 rfl ?_
    exact E_X13_spread_c21 hs h hQ
  · rw [if_neg hc] at h
    refine e_iconst (v := (1 : Int32)) dX13_spread_16 rfl ?_
    refine e_goto dX13_spread_17 21 (by decide) ?_
    exact E_X13_spread_c21 hs h hQ
/-! X13_tank -/
def F_X13_tank_c50 (μ : p_M) : Option (Int32 × p_M) :=
  some ((0 : Int32), μ)
theorem P_X13_tank_c50 {μ : p_M} {r : Int32 × p_M} (h : F_X13_tank_c50 μ = some r) : Sm μ r.2 := by
  unfold F_X13_tank_c50 at h
  cases h
  exact (Sm_refl μ)
theorem E_X13_tank_c50 {X : p_X} {d : Nat} {Q : p_R → Prop} {w0 : Value} {w1 : Value} {μ : p_M} {r : Int32 × p_M} (hs : ShM μ) (h : F_X13_tank_c50 μ = some r) (hQ : Q ((0, some (.int r.1)), r.2)) : p_Ev X (d + 1) M_X13_tank 50 [w0, w1] [] μ Q := by
  unfold F_X13_tank_c50 at h
  refine e_iconst (v := (0 : Int32)) dX13_tank_50 rfl ?_
  cases h
  exact e_ireti dX13_tank_51 rfl hQ
def F_X13_tank_c43 (v1 : Int32) (s0 : Int32) (μ : p_M) : Option (Int32 × p_M) :=
  (F_X13_throwsIf s0 (2 : Int32) μ).bind fun q3 =>
  if q3.1 = 0
  then (p_ok (¬ (mI q3.2 tM 30) < 0 ∧ (mI q3.2 tM 30).toNatClampNeg < 5)
    (some (((mI (sI (sI q3.2 (aM 27) (mI q3.2 tM 30).toNatClampNeg v1) tM 30 ((mI (sI q3.2 (aM 27) (mI q3.2 tM 30).toNatClampNeg v1) tM 30) + (1 : Int32))) tM 30) - (1 : Int32)), (sI (sI q3.2 (aM 27) (mI q3.2 tM 30).toNatClampNeg v1) tM 30 ((mI (sI q3.2 (aM 27) (mI q3.2 tM 30).toNatClampNeg v1) tM 30) + (1 : Int32))))))
  else (F_X13_tank_c50 q3.2)
theorem P_X13_tank_c43 {v1 : Int32} {s0 : Int32} {μ : p_M} {r : Int32 × p_M} (h : F_X13_tank_c43 v1 s0 μ = some r) : Sm μ r.2 := by
  unfold F_X13_tank_c43 at h
  obtain ⟨q3, hq3, h⟩ := p_bd h
  by_cases hc : q3.1 = 0
  · rw [if_pos hc] at h
    obtain ⟨hc, h⟩ := p_ok_some h
    cases h
    exact (Sm_set (Sm_set (Sm_trans (Sm_refl μ) (P_X13_throwsIf (r := q3) hq3)) (by decide)) (by decide))
  · rw [if_neg hc] at h
    exact Sm_trans (Sm_trans (Sm_refl μ) (P_X13_throwsIf (r := q3) hq3)) (P_X13_tank_c50 h)
theorem E_X13_tank_c43 {X : p_X} {d : Nat} {Q : p_R → Prop} {v1 : Int32} {s0 : Int32} {μ : p_M} {r : Int32 × p_M} (hs : ShM μ) (h : F_X13_tank_c43 v1 s0 μ = some r) (hQ : Q ((0, some (.int r.1)), r.2)) : p_Ev X (d + 1) M_X13_tank 43 [.ref tM, .int v1] [.int s0, .ref tM] μ Q := by
  unfold F_X13_tank_c43 at h
  refine e_iconst (v := (2 : Int32)) dX13_tank_43 rfl ?_
  obtain ⟨q3, hq3, h⟩ := p_bd h
  refine e_cV dX13_tank_44 rfl rfl ⟨rfl, rfl, by decide⟩ rfl hs.1 hs.2.1 (E_X13_throwsIf hs hq3 ⟨rfl, ?_⟩)
  have hs := ShM_of (P_X13_throwsIf hq3) hs
  show p_Ev X (d + 1) M_X13_tank 47 [.ref tM, .int v1] [.int q3.1] q3.2 Q
  refine e_if_eq dX13_tank_47 52 (by decide) (fun hc => ?_) (fun hc => ?_)
  · rw [if_pos hc] at h
    refine e_aload_n dX13_tank_52 rfl ?_
    refine e_getR dX13_tank_53 rfl rfl hs.1 hs.2.1 (hs.2.2.2 27 (by decide) rfl).1 ?_
    refine e_aload_n dX13_tank_56 rfl ?_
    refine e_getI dX13_tank_57 rfl rfl hs.1 hs.2.1 ?_
    refine e_iload_n dX13_tank_60 rfl ?_
    obtain ⟨hc, h⟩ := p_ok_some h
    refine e_iast dX13_tank_61 (hs.2.2.2 27 (by decide) rfl).2.1 (hs.2.2.2 27 (by decide) rfl).2.2.1 (hs.2.2.2 27 (by decide) rfl).2.2.2 hc ?_
    refine e_aload_n dX13_tank_62 rfl ?_
    refine e_dupR dX13_tank_63 ?_
    refine e_getI dX13_tank_64 rfl rfl hs.1 hs.2.1 ?_
    refine e_iconst (v := (1 : Int32)) dX13_tank_67 rfl ?_
    refine e_iadd dX13_tank_68 ?_
    refine e_putI dX13_tank_69 rfl ⟨rfl, rfl, fun h => by cases h⟩ (fun h => by cases h) hs.1 hs.2.1 ?_
    refine e_aload_n dX13_tank_72 rfl ?_
    refine e_getI dX13_tank_73 rfl rfl hs.1 hs.2.1 ?_
    refine e_iconst (v := (1 : Int32)) dX13_tank_76 rfl ?_
    refine e_isub dX13_tank_77 ?_
    cases h
    exact e_ireti dX13_tank_78 rfl hQ
  · rw [if_neg hc] at h
    exact E_X13_tank_c50 hs h hQ
def F_X13_tank_c22 (v1 : Int32) (s0 : Int32) (μ : p_M) : Option (Int32 × p_M) :=
  (F_X13_throwsIf s0 (1 : Int32) μ).bind fun q2 =>
  if ¬ q2.1 = 0
  then (F_X13_tank_c50 q2.2)
  else (if ¬ (mI q2.2 tM 30) = (5 : Int32)
    then (F_X13_tank_c43 v1 (0 : Int32) q2.2)
    else (F_X13_tank_c43 v1 (1 : Int32) q2.2))
theorem P_X13_tank_c22 {v1 : Int32} {s0 : Int32} {μ : p_M} {r : Int32 × p_M} (h : F_X13_tank_c22 v1 s0 μ = some r) : Sm μ r.2 := by
  unfold F_X13_tank_c22 at h
  obtain ⟨q2, hq2, h⟩ := p_bd h
  by_cases hc : ¬ q2.1 = 0
  · rw [if_pos hc] at h
    exact Sm_trans (Sm_trans (Sm_refl μ) (P_X13_throwsIf (r := q2) hq2)) (P_X13_tank_c50 h)
  · rw [if_neg hc] at h
    by_cases hc : ¬ (mI q2.2 tM 30) = (5 : Int32)
    · rw [if_pos hc] at h
      exact Sm_trans (Sm_trans (Sm_refl μ) (P_X13_throwsIf (r := q2) hq2)) (P_X13_tank_c43 h)
    · rw [if_neg hc] at h
      exact Sm_trans (Sm_trans (Sm_refl μ) (P_X13_throwsIf (r := q2) hq2)) (P_X13_tank_c43 h)
theorem E_X13_tank_c22 {X : p_X} {d : Nat} {Q : p_R → Prop} {v1 : Int32} {s0 : Int32} {μ : p_M} {r : Int32 × p_M} (hs : ShM μ) (h : F_X13_tank_c22 v1 s0 μ = some r) (hQ : Q ((0, some (.int r.1)), r.2)) : p_Ev X (d + 1) M_X13_tank 22 [.ref tM, .int v1] [.int s0, .ref tM] μ Q := by
  unfold F_X13_tank_c22 at h
  refine e_iconst (v := (1 : Int32)) dX13_tank_22 rfl ?_
  obtain ⟨q2, hq2, h⟩ := p_bd h
  refine e_cV dX13_tank_23 rfl rfl ⟨rfl, rfl, by decide⟩ rfl hs.1 hs.2.1 (E_X13_throwsIf hs hq2 ⟨rfl, ?_⟩)
  have hs := ShM_of (P_X13_throwsIf hq2) hs
  show p_Ev X (d + 1) M_X13_tank 26 [.ref tM, .int v1] [.int q2.1] q2.2 Q
  refine e_if_ne dX13_tank_26 50 (by decide) (fun hc => ?_) (fun hc => ?_)
  · rw [if_pos hc] at h
    exact E_X13_tank_c50 hs h hQ
  · rw [if_neg hc] at h
    refine e_aload_n dX13_tank_29 rfl ?_
    refine e_aload_n dX13_tank_30 rfl ?_
    refine e_getI dX13_tank_31 rfl rfl hs.1 hs.2.1 ?_
    refine e_iconst (v := (5 : Int32)) dX13_tank_34 rfl ?_
    refine e_ic_ne dX13_tank_35 42 (by decide) (fun hc => ?_) (fun hc => ?_)
    · rw [if_pos hc] at h
      refine e_iconst (v := (0 : Int32)) dX13_tank_42 rfl ?_
      exact E_X13_tank_c43 hs h hQ
    · rw [if_neg hc] at h
      refine e_iconst (v := (1 : Int32)) dX13_tank_38 rfl ?_
      refine e_goto dX13_tank_39 43 (by decide) ?_
      exact E_X13_tank_c43 hs h hQ
def F_X13_tank (v1 : Int32) (μ : p_M) : Option (Int32 × p_M) :=
  (F_X13_in v1 (1 : Int32) (1000 : Int32) (sI μ tM 0 (0 : Int32))).bind fun q1 =>
  if ¬ q1.1 = 0
  then (F_X13_tank_c22 v1 (0 : Int32) q1.2)
  else (F_X13_tank_c22 v1 (1 : Int32) q1.2)
theorem P_X13_tank {v1 : Int32} {μ : p_M} {r : Int32 × p_M} (h : F_X13_tank v1 μ = some r) : Sm μ r.2 := by
  unfold F_X13_tank at h
  obtain ⟨q1, hq1, h⟩ := p_bd h
  by_cases hc : ¬ q1.1 = 0
  · rw [if_pos hc] at h
    exact Sm_trans (Sm_trans (Sm_set (Sm_refl μ) (by decide)) (P_X13_in (r := q1) hq1)) (P_X13_tank_c22 h)
  · rw [if_neg hc] at h
    exact Sm_trans (Sm_trans (Sm_set (Sm_refl μ) (by decide)) (P_X13_in (r := q1) hq1)) (P_X13_tank_c22 h)
theorem E_X13_tank {X : p_X} {d : Nat} {Q : p_R → Prop} {v1 : Int32} {μ : p_M} {r : Int32 × p_M} (hs : ShM μ) (h : F_X13_tank v1 μ = some r) (hQ : Q ((0, some (.int r.1)), r.2)) : p_Ev X (d + 1) M_X13_tank 0 [.ref tM, .int v1] [] μ Q := by
  unfold F_X13_tank at h
  refine e_aload_n dX13_tank_0 rfl ?_
  refine e_iconst (v := (0 : Int32)) dX13_tank_1 rfl ?_
  refine e_putI dX13_tank_2 rfl ⟨rfl, rfl, fun h => by cases h⟩ (fun h => by cases h) hs.1 hs.2.1 ?_
  refine e_aload_n dX13_tank_5 rfl ?_
  refine e_iload_n dX13_tank_6 rfl ?_
  refine e_iconst (v := (1 : Int32)) dX13_tank_7 rfl ?_
  refine e_sipush (v := (1000 : Int32)) dX13_tank_8 rfl ?_
  obtain ⟨q1, hq1, h⟩ := p_bd h
  refine e_cS dX13_tank_11 rfl rfl rfl rfl (E_X13_in hs hq1 ⟨rfl, ?_⟩)
  have hs := ShM_of (P_X13_in hq1) hs
  show p_Ev X (d + 1) M_X13_tank 14 [.ref tM, .int v1] [.int q1.1, .ref tM] q1.2 Q
  refine e_if_ne dX13_tank_14 21 (by decide) (fun hc => ?_) (fun hc => ?_)
  · rw [if_pos hc] at h
    refine e_iconst (v := (0 : Int32)) dX13_tank_21 rfl ?_
    exact E_X13_tank_c22 hs h hQ
  · rw [if_neg hc] at h
    refine e_iconst (v := (1 : Int32)) dX13_tank_17 rfl ?_
    refine e_goto dX13_tank_18 22 (by decide) ?_
    exact E_X13_tank_c22 hs h hQ
/-! X13_tells -/
def F_X13_tells_c38 (s0 : Int32) (μ : p_M) : Option (Int32 × p_M) :=
  some (s0, μ)
theorem P_X13_tells_c38 {s0 : Int32} {μ : p_M} {r : Int32 × p_M} (h : F_X13_tells_c38 s0 μ = some r) : Sm μ r.2 := by
  unfold F_X13_tells_c38 at h
  cases h
  exact (Sm_refl μ)
theorem E_X13_tells_c38 {X : p_X} {d : Nat} {Q : p_R → Prop} {s0 : Int32} {w0 : Value} {w1 : Value} {μ : p_M} {r : Int32 × p_M} (hs : ShM μ) (h : F_X13_tells_c38 s0 μ = some r) (hQ : Q ((0, some (.int r.1)), r.2)) : p_Ev X (d + 1) M_X13_tells 38 [w0, w1] [.int s0] μ Q := by
  unfold F_X13_tells_c38 at h
  cases h
  exact e_ireti dX13_tells_38 rfl hQ
def F_X13_tells_c21 (v1 : Int32) (s0 : Int32) (μ : p_M) : Option (Int32 × p_M) :=
  (F_X13_throwsIf s0 (1 : Int32) μ).bind fun q2 =>
  if q2.1 = 0
  then (p_ok (¬ v1 < 0 ∧ v1.toNatClampNeg < 36)
    (F_X13_tells_c38 (mI q2.2 (aM 40) v1.toNatClampNeg) q2.2))
  else (F_X13_tells_c38 (0 : Int32) q2.2)
theorem P_X13_tells_c21 {v1 : Int32} {s0 : Int32} {μ : p_M} {r : Int32 × p_M} (h : F_X13_tells_c21 v1 s0 μ = some r) : Sm μ r.2 := by
  unfold F_X13_tells_c21 at h
  obtain ⟨q2, hq2, h⟩ := p_bd h
  by_cases hc : q2.1 = 0
  · rw [if_pos hc] at h
    obtain ⟨hc, h⟩ := p_ok_some h
    exact Sm_trans (Sm_trans (Sm_refl μ) (P_X13_throwsIf (r := q2) hq2)) (P_X13_tells_c38 h)
  · rw [if_neg hc] at h
    exact Sm_trans (Sm_trans (Sm_refl μ) (P_X13_throwsIf (r := q2) hq2)) (P_X13_tells_c38 h)
theorem E_X13_tells_c21 {X : p_X} {d : Nat} {Q : p_R → Prop} {v1 : Int32} {s0 : Int32} {μ : p_M} {r : Int32 × p_M} (hs : ShM μ) (h : F_X13_tells_c21 v1 s0 μ = some r) (hQ : Q ((0, some (.int r.1)), r.2)) : p_Ev X (d + 1) M_X13_tells 21 [.ref tM, .int v1] [.int s0, .ref tM] μ Q := by
  unfold F_X13_tells_c21 at h
  refine e_iconst (v := (1 : Int32)) dX13_tells_21 rfl ?_
  obtain ⟨q2, hq2, h⟩ := p_bd h
  refine e_cV dX13_tells_22 rfl rfl ⟨rfl, rfl, by decide⟩ rfl hs.1 hs.2.1 (E_X13_throwsIf hs hq2 ⟨rfl, ?_⟩)
  have hs := ShM_of (P_X13_throwsIf hq2) hs
  show p_Ev X (d + 1) M_X13_tells 25 [.ref tM, .int v1] [.int q2.1] q2.2 Q
  refine e_if_eq dX13_tells_25 32 (by decide) (fun hc => ?_) (fun hc => ?_)
  · rw [if_pos hc] at h
    refine e_aload_n dX13_tells_32 rfl ?_
    refine e_getR dX13_tells_33 rfl rfl hs.1 hs.2.1 (hs.2.2.2 40 (by decide) rfl).1 ?_
    refine e_iload_n dX13_tells_36 rfl ?_
    obtain ⟨hc, h⟩ := p_ok_some h
    refine e_iald dX13_tells_37 (Nat.lt_trans (hs.2.2.2 40 (by decide) rfl).2.2.2 hs.2.2.1) (hs.2.2.2 40 (by decide) rfl).2.1 (hs.2.2.2 40 (by decide) rfl).2.2.1 (hs.2.2.2 40 (by decide) rfl).2.2.2 hc ?_
    exact E_X13_tells_c38 hs h hQ
  · rw [if_neg hc] at h
    refine e_iconst (v := (0 : Int32)) dX13_tells_28 rfl ?_
    refine e_goto dX13_tells_29 38 (by decide) ?_
    exact E_X13_tells_c38 hs h hQ
def F_X13_tells (v1 : Int32) (μ : p_M) : Option (Int32 × p_M) :=
  (F_X13_in v1 (0 : Int32) (17 : Int32) (sI μ tM 0 (0 : Int32))).bind fun q1 =>
  if ¬ q1.1 = 0
  then (F_X13_tells_c21 v1 (0 : Int32) q1.2)
  else (F_X13_tells_c21 v1 (1 : Int32) q1.2)
theorem P_X13_tells {v1 : Int32} {μ : p_M} {r : Int32 × p_M} (h : F_X13_tells v1 μ = some r) : Sm μ r.2 := by
  unfold F_X13_tells at h
  obtain ⟨q1, hq1, h⟩ := p_bd h
  by_cases hc : ¬ q1.1 = 0
  · rw [if_pos hc] at h
    exact Sm_trans (Sm_trans (Sm_set (Sm_refl μ) (by decide)) (P_X13_in (r := q1) hq1)) (P_X13_tells_c21 h)
  · rw [if_neg hc] at h
    exact Sm_trans (Sm_trans (Sm_set (Sm_refl μ) (by decide)) (P_X13_in (r := q1) hq1)) (P_X13_tells_c21 h)
theorem E_X13_tells {X : p_X} {d : Nat} {Q : p_R → Prop} {v1 : Int32} {μ : p_M} {r : Int32 × p_M} (hs : ShM μ) (h : F_X13_tells v1 μ = some r) (hQ : Q ((0, some (.int r.1)), r.2)) : p_Ev X (d + 1) M_X13_tells 0 [.ref tM, .int v1] [] μ Q := by
  unfold F_X13_tells at h
  refine e_aload_n dX13_tells_0 rfl ?_
  refine e_iconst (v := (0 : Int32)) dX13_tells_1 rfl ?_
  refine e_putI dX13_tells_2 rfl ⟨rfl, rfl, fun h => by cases h⟩ (fun h => by cases h) hs.1 hs.2.1 ?_
  refine e_aload_n dX13_tells_5 rfl ?_
  refine e_iload_n dX13_tells_6 rfl ?_
  refine e_iconst (v := (0 : Int32)) dX13_tells_7 rfl ?_
  refine e_bipush (v := (17 : Int32)) dX13_tells_8 rfl ?_
  obtain ⟨q1, hq1, h⟩ := p_bd h
  refine e_cS dX13_tells_10 rfl rfl rfl rfl (E_X13_in hs hq1 ⟨rfl, ?_⟩)
  have hs := ShM_of (P_X13_in hq1) hs
  show p_Ev X (d + 1) M_X13_tells 13 [.ref tM, .int v1] [.int q1.1, .ref tM] q1.2 Q
  refine e_if_ne dX13_tells_13 20 (by decide) (fun hc => ?_) (fun hc => ?_)
  · rw [if_pos hc] at h
    refine e_iconst (v := (0 : Int32)) dX13_tells_20 rfl ?_
    exact E_X13_tells_c21 hs h hQ
  · rw [if_neg hc] at h
    refine e_iconst (v := (1 : Int32)) dX13_tells_16 rfl ?_
    refine e_goto dX13_tells_17 21 (by decide) ?_
    exact E_X13_tells_c21 hs h hQ
/-! X13_thrown -/
def F_X13_thrown (μ : p_M) : Option (Int32 × p_M) :=
  some ((mI μ tM 0), μ)
theorem P_X13_thrown {μ : p_M} {r : Int32 × p_M} (h : F_X13_thrown μ = some r) : Sm μ r.2 := by
  unfold F_X13_thrown at h
  cases h
  exact (Sm_refl μ)
theorem E_X13_thrown {X : p_X} {d : Nat} {Q : p_R → Prop} {μ : p_M} {r : Int32 × p_M} (hs : ShM μ) (h : F_X13_thrown μ = some r) (hQ : Q ((0, some (.int r.1)), r.2)) : p_Ev X (d + 0) M_X13_thrown 0 [.ref tM] [] μ Q := by
  unfold F_X13_thrown at h
  refine e_aload_n dX13_thrown_0 rfl ?_
  refine e_getI dX13_thrown_1 rfl rfl hs.1 hs.2.1 ?_
  cases h
  exact e_ireti dX13_thrown_4 rfl hQ
/-! X13_usual -/
def F_X13_usual_c27 (s0 : Int32) (μ : p_M) : Option (Int32 × p_M) :=
  some (s0, μ)
theorem P_X13_usual_c27 {s0 : Int32} {μ : p_M} {r : Int32 × p_M} (h : F_X13_usual_c27 s0 μ = some r) : Sm μ r.2 := by
  unfold F_X13_usual_c27 at h
  cases h
  exact (Sm_refl μ)
theorem E_X13_usual_c27 {X : p_X} {d : Nat} {Q : p_R → Prop} {s0 : Int32} {w0 : Value} {μ : p_M} {r : Int32 × p_M} (hs : ShM μ) (h : F_X13_usual_c27 s0 μ = some r) (hQ : Q ((0, some (.int r.1)), r.2)) : p_Ev X (d + 0) M_X13_usual 27 [w0] [.int s0] μ Q := by
  unfold F_X13_usual_c27 at h
  cases h
  exact e_ireti dX13_usual_27 rfl hQ
def F_X13_usual (v0 : Int32) (μ : p_M) : Option (Int32 × p_M) :=
  if ¬ v0 = 0
  then (if ¬ v0 = (1 : Int32)
    then (if ¬ v0 = (2 : Int32)
      then (F_X13_usual_c27 (1 : Int32) μ)
      else (F_X13_usual_c27 (3 : Int32) μ))
    else (F_X13_usual_c27 (2 : Int32) μ))
  else (F_X13_usual_c27 (4 : Int32) μ)
theorem P_X13_usual {v0 : Int32} {μ : p_M} {r : Int32 × p_M} (h : F_X13_usual v0 μ = some r) : Sm μ r.2 := by
  unfold F_X13_usual at h
  by_cases hc : ¬ v0 = 0
  · rw [if_pos hc] at h
    by_cases hc : ¬ v0 = (1 : Int32)
    · rw [if_pos hc] at h
      by_cases hc : ¬ v0 = (2 : Int32)
      · rw [if_pos hc] at h
        exact Sm_trans (Sm_refl μ) (P_X13_usual_c27 h)
      · rw [if_neg hc] at h
        exact Sm_trans (Sm_refl μ) (P_X13_usual_c27 h)
    · rw [if_neg hc] at h
      exact Sm_trans (Sm_refl μ) (P_X13_usual_c27 h)
  · rw [if_neg hc] at h
    exact Sm_trans (Sm_refl μ) (P_X13_usual_c27 h)
theorem E_X13_usual {X : p_X} {d : Nat} {Q : p_R → Prop} {v0 : Int32} {μ : p_M} {r : Int32 × p_M} (hs : ShM μ) (h : F_X13_usual v0 μ = some r) (hQ : Q ((0, some (.int r.1)), r.2)) : p_Ev X (d + 0) M_X13_usual 0 [.int v0] [] μ Q := by
  unfold F_X13_usual at h
  refine e_iload_n dX13_usual_0 rfl ?_
  refine e_if_ne dX13_usual_1 8 (by decide) (fun hc => ?_) (fun hc => ?_)
  · rw [if_pos hc] at h
    refine e_iload_n dX13_usual_8 rfl ?_
    refine e_iconst (v := (1 : Int32)) dX13_usual_9 rfl ?_
    refine e_ic_ne dX13_usual_10 17 (by decide) (fun hc => ?_) (fun hc => ?_)
    · rw [if_pos hc] at h
      refine e_iload_n dX13_usual_17 rfl ?_
      refine e_iconst (v := (2 : Int32)) dX13_usual_18 rfl ?_
      refine e_ic_ne dX13_usual_19 26 (by decide) (fun hc => ?_) (fun hc => ?_)
      · rw [if_pos hc] at h
        refine e_iconst (v := (1 : Int32)) dX13_usual_26 rfl ?_
        exact E_X13_usual_c27 hs h hQ
      · rw [if_neg hc] at h
        refine e_iconst (v := (3 : Int32)) dX13_usual_22 rfl ?_
        refine e_goto dX13_usual_23 27 (by decide) ?_
        exact E_X13_usual_c27 hs h hQ
    · rw [if_neg hc] at h
      refine e_iconst (v := (2 : Int32)) dX13_usual_13 rfl ?_
      refine e_goto dX13_usual_14 27 (by decide) ?_
      exact E_X13_usual_c27 hs h hQ
  · rw [if_neg hc] at h
    refine e_iconst (v := (4 : Int32)) dX13_usual_4 rfl ?_
    refine e_goto dX13_usual_5 27 (by decide) ?_
    exact E_X13_usual_c27 hs h hQ
/-! X13_works -/
def F_X13_works_c110 (K73 : Int32 → Int32 → Int32 → p_M → Option (Int32 × p_M)) (v1 : Int32) (v4 : Int32) (s0 : Int32) (s1 : Int32) (μ : p_M) : Option (Int32 × p_M) :=
  K73 v1 (s1 + s0) (v4 + (1 : Int32)) μ
theorem P_X13_works_c110 {K73 : Int32 → Int32 → Int32 → p_M → Option (Int32 × p_M)} (hP73 : ∀ (v1 : Int32) (v3 : Int32) (v4 : Int32) (μ : p_M) (r : Int32 × p_M), K73 v1 v3 v4 μ = some r → Sm μ r.2) {v1 : Int32} {v4 : Int32} {s0 : Int32} {s1 : Int32} {μ : p_M} {r : Int32 × p_M} (h : F_X13_works_c110 K73 v1 v4 s0 s1 μ = some r) : Sm μ r.2 := by
  unfold F_X13_works_c110 at h
  exact Sm_trans (Sm_refl μ) (hP73 _ _ _ _ _ h)
theorem E_X13_works_c110 {X : p_X} {d : Nat} {Q : p_R → Prop} {K73 : Int32 → Int32 → Int32 → p_M → Option (Int32 × p_M)} (hK73 : ∀ (v1 : Int32) (v3 : Int32) (v4 : Int32) (μ : p_M) (r : Int32 × p_M) (w2 : Value), ShM μ → K73 v1 v3 v4 μ = some r → Q ((0, some (.int r.1)), r.2) → p_Ev X (d + 2) M_X13_works 73 [.ref tM, .int v1, w2, .int v3, .int v4] [] μ Q) {v1 : Int32} {v4 : Int32} {s0 : Int32} {s1 : Int32} {w2 : Value} {w3 : Value} {μ : p_M} {r : Int32 × p_M} (hs : ShM μ) (h : F_X13_works_c110 K73 v1 v4 s0 s1 μ = some r) (hQ : Q ((0, some (.int r.1)), r.2)) : p_Ev X (d + 2) M_X13_works 110 [.ref tM, .int v1, w2, w3, .int v4] [.int s0, .int s1] μ Q := by
  unfold F_X13_works_c110 at h
  refine e_iadd dX13_works_110 ?_
  refine e_istore_n dX13_works_111 (Nat.le_of_ble_eq_true rfl) rfl ?_
  refine e_iinc (v := (1 : Int32)) dX13_works_112 rfl rfl rfl ?_
  refine e_goto dX13_works_115 73 (by decide) ?_
  exact hK73 _ _ _ _ _ _ hs h hQ
def F_X13_works_c109 (K73 : Int32 → Int32 → Int32 → p_M → Option (Int32 × p_M)) (v1 : Int32) (v4 : Int32) (s0 : Int32) (μ : p_M) : Option (Int32 × p_M) :=
  F_X13_works_c110 K73 v1 v4 (0 : Int32) s0 μ
theorem P_X13_works_c109 {K73 : Int32 → Int32 → Int32 → p_M → Option (Int32 × p_M)} (hP73 : ∀ (v1 : Int32) (v3 : Int32) (v4 : Int32) (μ : p_M) (r : Int32 × p_M), K73 v1 v3 v4 μ = some r → Sm μ r.2) {v1 : Int32} {v4 : Int32} {s0 : Int32} {μ : p_M} {r : Int32 × p_M} (h : F_X13_works_c109 K73 v1 v4 s0 μ = some r) : Sm μ r.2 := by
  unfold F_X13_works_c109 at h
  exact Sm_trans (Sm_refl μ) (P_X13_works_c110 hP73 h)
theorem E_X13_works_c109 {X : p_X} {d : Nat} {Q : p_R → Prop} {K73 : Int32 → Int32 → Int32 → p_M → Option (Int32 × p_M)} (hK73 : ∀ (v1 : Int32) (v3 : Int32) (v4 : Int32) (μ : p_M) (r : Int32 × p_M) (w2 : Value), ShM μ → K73 v1 v3 v4 μ = some r → Q ((0, some (.int r.1)), r.2) → p_Ev X (d + 2) M_X13_works 73 [.ref tM, .int v1, w2, .int v3, .int v4] [] μ Q) {v1 : Int32} {v4 : Int32} {s0 : Int32} {w2 : Value} {w3 : Value} {μ : p_M} {r : Int32 × p_M} (hs : ShM μ) (h : F_X13_works_c109 K73 v1 v4 s0 μ = some r) (hQ : Q ((0, some (.int r.1)), r.2)) : p_Ev X (d + 2) M_X13_works 109 [.ref tM, .int v1, w2, w3, .int v4] [.int s0] μ Q := by
  unfold F_X13_works_c109 at h
  refine e_iconst (v := (0 : Int32)) dX13_works_109 rfl ?_
  exact E_X13_works_c110 hK73 hs h hQ
def F_X13_works_c73 : Nat → Int32 → Int32 → Int32 → p_M → Option (Int32 × p_M)
  | 0, _, _, _, _ => none
  | n + 1, v1, v3, v4, μ =>
    if (mI μ tM 62) ≤ v4
    then (some (v3, μ))
    else (p_ok (¬ v4 < 0 ∧ v4.toNatClampNeg < 40)
      (if ¬ (mI μ (aM 55) v4.toNatClampNeg) = (1 : Int32)
      then (F_X13_works_c109 (F_X13_works_c73 n) v1 v4 v3 μ)
      else (p_ok (¬ v4 < 0 ∧ v4.toNatClampNeg < 40)
        (if ¬ (mI μ (aM 56) v4.toNatClampNeg) = v1
        then (F_X13_works_c109 (F_X13_works_c73 n) v1 v4 v3 μ)
        else (F_X13_works_c110 (F_X13_works_c73 n) v1 v4 (1 : Int32) v3 μ)))))
theorem P_X13_works_c73 : ∀ (n : Nat) (v1 : Int32) (v3 : Int32) (v4 : Int32) (μ : p_M) (r : Int32 × p_M), F_X13_works_c73 n v1 v3 v4 μ = some r → Sm μ r.2 := by
  intro n
  induction n with
  | zero => intro v1 v3 v4 μ r h; rw [F_X13_works_c73] at h; cases h
  | succ n ih =>
    intro v1 v3 v4 μ r h
    rw [F_X13_works_c73] at h
    by_cases hc : (mI μ tM 62) ≤ v4
    · rw [if_pos hc] at h
      cases h
      exact (Sm_refl μ)
    · rw [if_neg hc] at h
      obtain ⟨hc, h⟩ := p_ok_some h
      by_cases hc : ¬ (mI μ (aM 55) v4.toNatClampNeg) = (1 : Int32)
      · rw [if_pos hc] at h
        exact Sm_trans (Sm_refl μ) (P_X13_works_c109 ih h)
      · rw [if_neg hc] at h
        obtain ⟨hc, h⟩ := p_ok_some h
        by_cases hc : ¬ (mI μ (aM 56) v4.toNatClampNeg) = v1
        · rw [if_pos hc] at h
          exact Sm_trans (Sm_refl μ) (P_X13_works_c109 ih h)
        · rw [if_neg hc] at h
          exact Sm_trans (Sm_refl μ) (P_X13_works_c110 ih h)
theorem E_X13_works_c73 {X : p_X} {d : Nat} {Q : p_R → Prop} : ∀ (n : Nat) (v1 : Int32) (v3 : Int32) (v4 : Int32) (μ : p_M) (r : Int32 × p_M) (w2 : Value), ShM μ → F_X13_works_c73 n v1 v3 v4 μ = some r → Q ((0, some (.int r.1)), r.2) → p_Ev X (d + 2) M_X13_works 73 [.ref tM, .int v1, w2, .int v3, .int v4] [] μ Q := by
  intro n
  induction n with
  | zero => intro v1 v3 v4 μ r w2 hs h hQ; rw [F_X13_works_c73] at h; cases h
  | succ n ih =>
    intro v1 v3 v4 μ r w2 hs h hQ
    rw [F_X13_works_c73] at h
    refine e_iload dX13_works_73 rfl ?_
    refine e_aload_n dX13_works_75 rfl ?_
    refine e_getI dX13_works_76 rfl rfl hs.1 hs.2.1 ?_
    refine e_ic_ge dX13_works_79 118 (by decide) (fun hc => ?_) (fun hc => ?_)
    · rw [if_pos hc] at h
      refine e_iload_n dX13_works_118 rfl ?_
      cases h
      exact e_ireti dX13_works_119 rfl hQ
    · rw [if_neg hc] at h
      refine e_iload_n dX13_works_82 rfl ?_
      refine e_aload_n dX13_works_83 rfl ?_
      refine e_getR dX13_works_84 rfl rfl hs.1 hs.2.1 (hs.2.2.2 55 (by decide) rfl).1 ?_
      refine e_iload dX13_works_87 rfl ?_
      obtain ⟨hc, h⟩ := p_ok_some h
      refine e_iald dX13_works_89 (Nat.lt_trans (hs.2.2.2 55 (by decide) rfl).2.2.2 hs.2.2.1) (hs.2.2.2 55 (by decide) rfl).2.1 (hs.2.2.2 55 (by decide) rfl).2.2.1 (hs.2.2.2 55 (by decide) rfl).2.2.2 hc ?_
      refine e_iconst (v := (1 : Int32)) dX13_works_90 rfl ?_
      refine e_ic_ne dX13_works_91 109 (by decide) (fun hc => ?_) (fun hc => ?_)
      · rw [if_pos hc] at h
        exact E_X13_works_c109 ih hs h hQ
      · rw [if_neg hc] at h
        refine e_aload_n dX13_works_94 rfl ?_
        refine e_getR dX13_works_95 rfl rfl hs.1 hs.2.1 (hs.2.2.2 56 (by decide) rfl).1 ?_
        refine e_iload dX13_works_98 rfl ?_
        obtain ⟨hc, h⟩ := p_ok_some h
        refine e_iald dX13_works_100 (Nat.lt_trans (hs.2.2.2 56 (by decide) rfl).2.2.2 hs.2.2.1) (hs.2.2.2 56 (by decide) rfl).2.1 (hs.2.2.2 56 (by decide) rfl).2.2.1 (hs.2.2.2 56 (by decide) rfl).2.2.2 hc ?_
        refine e_iload_n dX13_works_101 rfl ?_
        refine e_ic_ne dX13_works_102 109 (by decide) (fun hc => ?_) (fun hc => ?_)
        · rw [if_pos hc] at h
          exact E_X13_works_c109 ih hs h hQ
        · rw [if_neg hc] at h
          refine e_iconst (v := (1 : Int32)) dX13_works_105 rfl ?_
          refine e_goto dX13_works_106 110 (by decide) ?_
          exact E_X13_works_c110 ih hs h hQ
def F_X13_works (v1 : Int32) (v2 : Int32) (μ : p_M) : Option (Int32 × p_M) :=
  (F_X13_noMachine v1 (sI μ tM 0 (0 : Int32))).bind fun q1 =>
  (F_X13_throwsIf q1.1 (1 : Int32) q1.2).bind fun q2 =>
  if q2.1 = 0
  then (if v2.toInt < 0 ∨ 4 < v2.toInt then (some ((0 : Int32), (sI q2.2 tM 0 (2 : Int32))))
    else if v2 = 0 then (p_ok (¬ v1 < 0 ∧ v1.toNatClampNeg < 4)
      (some ((mI q2.2 (aM 43) v1.toNatClampNeg), q2.2)))
    else if v2 = 1 then (p_ok (¬ v1 < 0 ∧ v1.toNatClampNeg < 4)
      (some ((mI q2.2 (aM 44) v1.toNatClampNeg), q2.2)))
    else if v2 = 2 then (F_X13_works_c73 p_fu v1 (0 : Int32) (0 : Int32) q2.2)
    else if v2 = 3 then (p_ok (¬ v1 < 0 ∧ v1.toNatClampNeg < 4)
      (some ((mI q2.2 (aM 45) v1.toNatClampNeg), q2.2)))
    else if v2 = 4 then (p_ok (¬ v1 < 0 ∧ v1.toNatClampNeg < 4)
      (some ((mI q2.2 (aM 46) v1.toNatClampNeg), q2.2)))
    else none)
  else (some ((0 : Int32), q2.2))
theorem P_X13_works {v1 : Int32} {v2 : Int32} {μ : p_M} {r : Int32 × p_M} (h : F_X13_works v1 v2 μ = some r) : Sm μ r.2 := by
  unfold F_X13_works at h
  obtain ⟨q1, hq1, h⟩ := p_bd h
  obtain ⟨q2, hq2, h⟩ := p_bd h
  by_cases hc : q2.1 = 0
  · rw [if_pos hc] at h
    by_cases hc : v2.toInt < 0 ∨ 4 < v2.toInt
    · rw [if_pos hc] at h
      cases h
      exact (Sm_set (Sm_trans (Sm_trans (Sm_set (Sm_refl μ) (by decide)) (P_X13_noMachine (r := q1) hq1)) (P_X13_throwsIf (r := q2) hq2)) (by decide))
    rw [if_neg hc] at h
    by_cases hc : v2 = 0
    · rw [if_pos hc] at h
      obtain ⟨hc, h⟩ := p_ok_some h
      cases h
      exact (Sm_trans (Sm_trans (Sm_set (Sm_refl μ) (by decide)) (P_X13_noMachine (r := q1) hq1)) (P_X13_throwsIf (r := q2) hq2))
    rw [if_neg hc] at h
    by_cases hc : v2 = 1
    · rw [if_pos hc] at h
      obtain ⟨hc, h⟩ := p_ok_some h
      cases h
      exact (Sm_trans (Sm_trans (Sm_set (Sm_refl μ) (by decide)) (P_X13_noMachine (r := q1) hq1)) (P_X13_throwsIf (r := q2) hq2))
    rw [if_neg hc] at h
    by_cases hc : v2 = 2
    · rw [if_pos hc] at h
      exact Sm_trans (Sm_trans (Sm_trans (Sm_set (Sm_refl μ) (by decide)) (P_X13_noMachine (r := q1) hq1)) (P_X13_throwsIf (r := q2) hq2)) (P_X13_works_c73 p_fu _ _ _ _ _ h)
    rw [if_neg hc] at h
    by_cases hc : v2 = 3
    · rw [if_pos hc] at h
      obtain ⟨hc, h⟩ := p_ok_some h
      cases h
      exact (Sm_trans (Sm_trans (Sm_set (Sm_refl μ) (by decide)) (P_X13_noMachine (r := q1) hq1)) (P_X13_throwsIf (r := q2) hq2))
    rw [if_neg hc] at h
    by_cases hc : v2 = 4
    · rw [if_pos hc] at h
      obtain ⟨hc, h⟩ := p_ok_some h
      cases h
      exact (Sm_trans (Sm_trans (Sm_set (Sm_refl μ) (by decide)) (P_X13_noMachine (r := q1) hq1)) (P_X13_throwsIf (r := q2) hq2))
    rw [if_neg hc] at h
    cases h
  · rw [if_neg hc] at h
    cases h
    exact (Sm_trans (Sm_trans (Sm_set (Sm_refl μ) (by decide)) (P_X13_noMachine (r := q1) hq1)) (P_X13_throwsIf (r := q2) hq2))
theorem E_X13_works {X : p_X} {d : Nat} {Q : p_R → Prop} {v1 : Int32} {v2 : Int32} {μ : p_M} {r : Int32 × p_M} (hs : ShM μ) (h : F_X13_works v1 v2 μ = some r) (hQ : Q ((0, some (.int r.1)), r.2)) : p_Ev X (d + 2) M_X13_works 0 [.ref tM, .int v1, .int v2, .double 0, .double 0] [] μ Q := by
  unfold F_X13_works at h
  refine e_aload_n dX13_works_0 rfl ?_
  refine e_iconst (v := (0 : Int32)) dX13_works_1 rfl ?_
  refine e_putI dX13_works_2 rfl ⟨rfl, rfl, fun h => by cases h⟩ (fun h => by cases h) hs.1 hs.2.1 ?_
  refine e_aload_n dX13_works_5 rfl ?_
  refine e_aload_n dX13_works_6 rfl ?_
  refine e_iload_n dX13_works_7 rfl ?_
  obtain ⟨q1, hq1, h⟩ := p_bd h
  refine e_cV dX13_works_8 rfl rfl ⟨rfl, rfl, by decide⟩ rfl hs.1 hs.2.1 (E_X13_noMachine hs hq1 ⟨rfl, ?_⟩)
  have hs := ShM_of (P_X13_noMachine hq1) hs
  show p_Ev X (d + 2) M_X13_works 11 [.ref tM, .int v1, .int v2, .double 0, .double 0] [.int q1.1, .ref tM] q1.2 Q
  refine e_iconst (v := (1 : Int32)) dX13_works_11 rfl ?_
  obtain ⟨q2, hq2, h⟩ := p_bd h
  refine e_cV dX13_works_12 rfl rfl ⟨rfl, rfl, by decide⟩ rfl hs.1 hs.2.1 (E_X13_throwsIf hs hq2 ⟨rfl, ?_⟩)
  have hs := ShM_of (P_X13_throwsIf hq2) hs
  show p_Ev X (d + 2) M_X13_works 15 [.ref tM, .int v1, .int v2, .double 0, .double 0] [.int q2.1] q2.2 Q
  refine e_if_eq dX13_works_15 20 (by decide) (fun hc => ?_) (fun hc => ?_)
  · rw [if_pos hc] at h
    refine e_iconst (v := (0 : Int32)) dX13_works_20 rfl ?_
    refine e_istore_n dX13_works_21 (Nat.le_of_ble_eq_true rfl) rfl ?_
    refine e_iload_n dX13_works_22 rfl ?_
    by_cases hc : v2.toInt < 0 ∨ 4 < v2.toInt
    · rw [if_pos hc] at h
      refine e_swD dX13_works_23 hc 134 (by decide) ?_
      refine e_aload_n dX13_works_134 rfl ?_
      refine e_iconst (v := (2 : Int32)) dX13_works_135 rfl ?_
      refine e_putI dX13_works_136 rfl ⟨rfl, rfl, fun h => by cases h⟩ (fun h => by cases h) hs.1 hs.2.1 ?_
      refine e_iconst (v := (0 : Int32)) dX13_works_139 rfl ?_
      cases h
      exact e_ireti dX13_works_140 rfl hQ
    rw [if_neg hc] at h
    by_cases hc : v2 = 0
    · rw [if_pos hc] at h
      refine e_swK (v := 0) dX13_works_23 hc (by decide) rfl 56 (by decide) ?_
      refine e_aload_n dX13_works_56 rfl ?_
      refine e_getR dX13_works_57 rfl rfl hs.1 hs.2.1 (hs.2.2.2 43 (by decide) rfl).1 ?_
      refine e_iload_n dX13_works_60 rfl ?_
      obtain ⟨hc, h⟩ := p_ok_some h
      refine e_iald dX13_works_61 (Nat.lt_trans (hs.2.2.2 43 (by decide) rfl).2.2.2 hs.2.2.1) (hs.2.2.2 43 (by decide) rfl).2.1 (hs.2.2.2 43 (by decide) rfl).2.2.1 (hs.2.2.2 43 (by decide) rfl).2.2.2 hc ?_
      cases h
      exact e_ireti dX13_works_62 rfl hQ
    rw [if_neg hc] at h
    by_cases hc : v2 = 1
    · rw [if_pos hc] at h
      refine e_swK (v := 1) dX13_works_23 hc (by decide) rfl 63 (by decide) ?_
      refine e_aload_n dX13_works_63 rfl ?_
      refine e_getR dX13_works_64 rfl rfl hs.1 hs.2.1 (hs.2.2.2 44 (by decide) rfl).1 ?_
      refine e_iload_n dX13_works_67 rfl ?_
      obtain ⟨hc, h⟩ := p_ok_some h
      refine e_iald dX13_works_68 (Nat.lt_trans (hs.2.2.2 44 (by decide) rfl).2.2.2 hs.2.2.1) (hs.2.2.2 44 (by decide) rfl).2.1 (hs.2.2.2 44 (by decide) rfl).2.2.1 (hs.2.2.2 44 (by decide) rfl).2.2.2 hc ?_
      cases h
      exact e_ireti dX13_works_69 rfl hQ
    rw [if_neg hc] at h
    by_cases hc : v2 = 2
    · rw [if_pos hc] at h
      refine e_swK (v := 2) dX13_works_23 hc (by decide) rfl 70 (by decide) ?_
      refine e_iconst (v := (0 : Int32)) dX13_works_70 rfl ?_
      refine e_istore dX13_works_71 (Nat.le_of_ble_eq_true rfl) rfl ?_
      exact E_X13_works_c73 p_fu _ _ _ _ _ _ hs h hQ
    rw [if_neg hc] at h
    by_cases hc : v2 = 3
    · rw [if_pos hc] at h
      refine e_swK (v := 3) dX13_works_23 hc (by decide) rfl 120 (by decide) ?_
      refine e_aload_n dX13_works_120 rfl ?_
      refine e_getR dX13_works_121 rfl rfl hs.1 hs.2.1 (hs.2.2.2 45 (by decide) rfl).1 ?_
      refine e_iload_n dX13_works_124 rfl ?_
      obtain ⟨hc, h⟩ := p_ok_some h
      refine e_iald dX13_works_125 (Nat.lt_trans (hs.2.2.2 45 (by decide) rfl).2.2.2 hs.2.2.1) (hs.2.2.2 45 (by decide) rfl).2.1 (hs.2.2.2 45 (by decide) rfl).2.2.1 (hs.2.2.2 45 (by decide) rfl).2.2.2 hc ?_
      cases h
      exact e_ireti dX13_works_126 rfl hQ
    rw [if_neg hc] at h
    by_cases hc : v2 = 4
    · rw [if_pos hc] at h
      refine e_swK (v := 4) dX13_works_23 hc (by decide) rfl 127 (by decide) ?_
      refine e_aload_n dX13_works_127 rfl ?_
      refine e_getR dX13_works_128 rfl rfl hs.1 hs.2.1 (hs.2.2.2 46 (by decide) rfl).1 ?_
      refine e_iload_n dX13_works_131 rfl ?_
      obtain ⟨hc, h⟩ := p_ok_some h
      refine e_iald dX13_works_132 (Nat.lt_trans (hs.2.2.2 46 (by decide) rfl).2.2.2 hs.2.2.1) (hs.2.2.2 46 (by decide) rfl).2.1 (hs.2.2.2 46 (by decide) rfl).2.2.1 (hs.2.2.2 46 (by decide) rfl).2.2.2 hc ?_
      cases h
      exact e_ireti dX13_works_133 rfl hQ
    rw [if_neg hc] at h
    cases h
  · rw [if_neg hc] at h
    refine e_iconst (v := (0 : Int32)) dX13_works_18 rfl ?_
    cases h
    exact e_ireti dX13_works_19 rfl hQ
