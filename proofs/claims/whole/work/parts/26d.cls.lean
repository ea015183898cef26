/-! X11_giveBack -/
def F_X11_giveBack_c29 (μ : p_M) : Option (Int32 × p_M) :=
  some (0, μ)
theorem E_X11_giveBack_c29 {X : p_X} {d : Nat} {Q : p_R → Prop} {w0 : Value} {w1 : Value} {w2 : Value} {w3 : Value} {μ : p_M} {r : Int32 × p_M} (h : F_X11_giveBack_c29 μ = some r) (hQ : Q ((0, none), r.2)) : p_Ev X (d + 2) M_X11_giveBack 29 [w0, w1, w2, w3] [] μ Q := by
  unfold F_X11_giveBack_c29 at h
  cases h
  exact e_vret dX11_giveBack_29 rfl hQ
def F_X11_giveBack_c23 (v0 : Nat) (v2 : Int32) (v3 : Int32) (μ : p_M) : Option (Int32 × p_M) :=
  p_ok (mK μ v0 = 12 ∧ v0 < mN μ)
  ((F_X11_runOff v0 v2 v3 μ).bind fun q3 =>
  F_X11_giveBack_c29 q3.2)
theorem E_X11_giveBack_c23 {X : p_X} {d : Nat} {Q : p_R → Prop} {v0 : Nat} {v2 : Int32} {v3 : Int32} {w1 : Value} {μ : p_M} {r : Int32 × p_M} (h : F_X11_giveBack_c23 v0 v2 v3 μ = some r) (hQ : Q ((0, none), r.2)) : p_Ev X (d + 2) M_X11_giveBack 23 [.ref v0, w1, .int v2, .int v3] [] μ Q := by
  unfold F_X11_giveBack_c23 at h
  refine e_aload_n dX11_giveBack_23 rfl ?_
  refine e_iload_n dX11_giveBack_24 rfl ?_
  refine e_iload_n dX11_giveBack_25 rfl ?_
  obtain ⟨h4, h⟩ := p_ok_some h
  obtain ⟨q3, hq3, h⟩ := p_bd h
  refine f_cVv dX11_giveBack_26 rfl rfl ⟨rfl, rfl, by decide⟩ rfl h4 (fun Q' hQ' => E_X11_runOff hq3 hQ') ?_
  exact E_X11_giveBack_c29 h hQ
def F_X11_giveBack (v0 : Nat) (v1 : Int32) (v2 : Int32) (v3 : Int32) (μ : p_M) : Option (Int32 × p_M) :=
  if v1 < 0
  then (F_X11_giveBack_c23 v0 v2 v3 μ)
  else (p_ok (mK μ v0 = 12 ∧ v0 < mN μ)
    (if (mI μ v0 3) ≤ v1
    then (F_X11_giveBack_c23 v0 v2 v3 μ)
    else ((F_X11_putIn v0 v1 v2 v3 μ).bind fun q2 =>
      F_X11_giveBack_c29 q2.2)))
theorem E_X11_giveBack {X : p_X} {d : Nat} {Q : p_R → Prop} {v0 : Nat} {v1 : Int32} {v2 : Int32} {v3 : Int32} {μ : p_M} {r : Int32 × p_M} (h : F_X11_giveBack v0 v1 v2 v3 μ = some r) (hQ : Q ((0, none), r.2)) : p_Ev X (d + 2) M_X11_giveBack 0 [.ref v0, .int v1, .int v2, .int v3] [] μ Q := by
  unfold F_X11_giveBack at h
  refine e_iload_n dX11_giveBack_0 rfl ?_
  refine e_if_lt dX11_giveBack_1 23 (by decide) (fun hc => ?_) (fun hc => ?_)
  · rw [if_pos hc] at h
    exact E_X11_giveBack_c23 h hQ
  · rw [if_neg hc] at h
    refine e_iload_n dX11_giveBack_4 rfl ?_
    refine e_aload_n dX11_giveBack_5 rfl ?_
    obtain ⟨h1, h⟩ := p_ok_some h
    refine e_getI dX11_giveBack_6 rfl rfl h1.1 h1.2 ?_
    refine e_ic_ge dX11_giveBack_9 23 (by decide) (fun hc => ?_) (fun hc => ?_)
    · rw [if_pos hc] at h
      exact E_X11_giveBack_c23 h hQ
    · rw [if_neg hc] at h
      refine e_aload_n dX11_giveBack_12 rfl ?_
      refine e_iload_n dX11_giveBack_13 rfl ?_
      refine e_iload_n dX11_giveBack_14 rfl ?_
      refine e_iload_n dX11_giveBack_15 rfl ?_
      obtain ⟨q2, hq2, h⟩ := p_bd h
      refine f_cVi dX11_giveBack_16 rfl rfl ⟨rfl, rfl, by decide⟩ rfl h1 (fun Q' hQ' => E_X11_putIn hq2 hQ') ?_
      refine e_popI dX11_giveBack_19 ?_
      refine e_goto dX11_giveBack_20 29 (by decide) ?_
      exact E_X11_giveBack_c29 h hQ
/-! X11_isDirtier -/
def F_X11_isDirtier_c39 (s0 : Int32) (μ : p_M) : Option (Int32 × p_M) :=
  p_ok (s0 = 0 ∨ s0 = 1)
  (some (s0, μ))
theorem E_X11_isDirtier_c39 {X : p_X} {d : Nat} {Q : p_R → Prop} {s0 : Int32} {w0 : Value} {w1 : Value} {w2 : Value} {μ : p_M} {r : Int32 × p_M} (h : F_X11_isDirtier_c39 s0 μ = some r) (hQ : Q ((0, some (.int r.1)), r.2)) : p_Ev X (d + 0) M_X11_isDirtier 39 [w0, w1, w2] [.int s0] μ Q := by
  unfold F_X11_isDirtier_c39 at h
  obtain ⟨h10, h⟩ := p_ok_some h
  cases h
  exact e_iretz dX11_isDirtier_39 rfl h10 hQ
def F_X11_isDirtier (v0 : Nat) (v1 : Int32) (v2 : Int32) (μ : p_M) : Option (Int32 × p_M) :=
  p_ok (mK μ v0 = 12 ∧ v0 < mN μ)
  ((mR μ v0 2).bind fun q2 =>
  p_ok (q2 < p_E ∧ mK μ q2 = 20 ∧ q2 < mN μ)
  (p_ok (¬ v1 < 0 ∧ v1.toNatClampNeg < mL μ q2)
  ((mR μ v0 1).bind fun q5 =>
  p_ok (q5 < p_E ∧ mK μ q5 = 20 ∧ q5 < mN μ)
  (p_ok (¬ v2 < 0 ∧ v2.toNatClampNeg < mL μ q5)
  (p_ok (¬ v2 < 0 ∧ v2.toNatClampNeg < mL μ q2)
  (p_ok (¬ v1 < 0 ∧ v1.toNatClampNeg < mL μ q5)
  (if (lg_cmp ((mI μ q2 v1.toNatClampNeg).toInt64 * (mI μ q5 v2.toNatClampNeg).toInt64) ((mI μ q2 v2.toNatClampNeg).toInt64 * (mI μ q5 v1.toNatClampNeg).toInt64)) ≤ 0
  then (F_X11_isDirtier_c39 (0 : Int32) μ)
  else (F_X11_isDirtier_c39 (1 : Int32) μ))))))))
theorem E_X11_isDirtier {X : p_X} {d : Nat} {Q : p_R → Prop} {v0 : Nat} {v1 : Int32} {v2 : Int32} {μ : p_M} {r : Int32 × p_M} (h : F_X11_isDirtier v0 v1 v2 μ = some r) (hQ : Q ((0, some (.int r.1)), r.2)) : p_Ev X (d + 0) M_X11_isDirtier 0 [.ref v0, .int v1, .int v2] [] μ Q := by
  unfold F_X11_isDirtier at h
  refine e_aload_n dX11_isDirtier_0 rfl ?_
  obtain ⟨h1, h⟩ := p_ok_some h
  obtain ⟨q2, hq2, h⟩ := p_bd h
  refine e_getR dX11_isDirtier_1 rfl rfl h1.1 h1.2 hq2 ?_
  refine e_iload_n dX11_isDirtier_4 rfl ?_
  obtain ⟨h3, h⟩ := p_ok_some h
  obtain ⟨h4, h⟩ := p_ok_some h
  refine e_iaG dX11_isDirtier_5 h3 h4 ?_
  refine e_i2l dX11_isDirtier_6 ?_
  refine e_aload_n dX11_isDirtier_7 rfl ?_
  obtain ⟨q5, hq5, h⟩ := p_bd h
  refine e_getR dX11_isDirtier_8 rfl rfl h1.1 h1.2 hq5 ?_
  refine e_iload_n dX11_isDirtier_11 rfl ?_
  obtain ⟨h6, h⟩ := p_ok_some h
  obtain ⟨h7, h⟩ := p_ok_some h
  refine e_iaG dX11_isDirtier_12 h6 h7 ?_
  refine e_i2l dX11_isDirtier_13 ?_
  refine e_lmul dX11_isDirtier_14 ?_
  refine e_aload_n dX11_isDirtier_15 rfl ?_
  refine e_getR dX11_isDirtier_16 rfl rfl h1.1 h1.2 hq2 ?_
  refine e_iload_n dX11_isDirtier_19 rfl ?_
  obtain ⟨h8, h⟩ := p_ok_some h
  refine e_iaG dX11_isDirtier_20 h3 h8 ?_
  refine e_i2l dX11_isDirtier_21 ?_
  refine e_aload_n dX11_isDirtier_22 rfl ?_
  refine e_getR dX11_isDirtier_23 rfl rfl h1.1 h1.2 hq5 ?_
  refine e_iload_n dX11_isDirtier_26 rfl ?_
  obtain ⟨h9, h⟩ := p_ok_some h
  refine e_iaG dX11_isDirtier_27 h6 h9 ?_
  refine e_i2l dX11_isDirtier_28 ?_
  refine e_lmul dX11_isDirtier_29 ?_
  refine e_lcmp dX11_isDirtier_30 ?_
  refine e_if_le dX11_isDirtier_31 38 (by decide) (fun hc => ?_) (fun hc => ?_)
  · rw [if_pos hc] at h
    refine e_iconst (v := (0 : Int32)) dX11_isDirtier_38 rfl ?_
    exact E_X11_isDirtier_c39 h hQ
  · rw [if_neg hc] at h
    refine e_iconst (v := (1 : Int32)) dX11_isDirtier_34 rfl ?_
    refine e_goto dX11_isDirtier_35 39 (by decide) ?_
    exact E_X11_isDirtier_c39 h hQ
/-! X11_dirtiest -/
def F_X11_dirtiest_c74 (K4 : Nat → Int32 → Int32 → Int32 → p_M → Option (Int32 × p_M)) (v0 : Nat) (v1 : Int32) (v2 : Int32) (v3 : Int32) (μ : p_M) : Option (Int32 × p_M) :=
  K4 v0 v1 v2 (v3 + (1 : Int32)) μ
theorem E_X11_dirtiest_c74 {X : p_X} {d : Nat} {Q : p_R → Prop} {K4 : Nat → Int32 → Int32 → Int32 → p_M → Option (Int32 × p_M)} (hK4 : ∀ (v0 : Nat) (v1 : Int32) (v2 : Int32) (v3 : Int32) (μ : p_M) (r : Int32 × p_M) (w4 : Value), K4 v0 v1 v2 v3 μ = some r → Q ((0, some (.int r.1)), r.2) → p_Ev X (d + 1) M_X11_dirtiest 4 [.ref v0, .int v1, .int v2, .int v3, w4] [] μ Q) {v0 : Nat} {v1 : Int32} {v2 : Int32} {v3 : Int32} {w4 : Value} {μ : p_M} {r : Int32 × p_M} (h : F_X11_dirtiest_c74 K4 v0 v1 v2 v3 μ = some r) (hQ : Q ((0, some (.int r.1)), r.2)) : p_Ev X (d + 1) M_X11_dirtiest 74 [.ref v0, .int v1, .int v2, .int v3, w4] [] μ Q := by
  unfold F_X11_dirtiest_c74 at h
  refine e_iinc (v := (1 : Int32)) dX11_dirtiest_74 rfl rfl rfl ?_
  refine e_goto dX11_dirtiest_77 4 (by decide) ?_
  exact hK4 _ _ _ _ _ _ _ h hQ
def F_X11_dirtiest_c72 (K4 : Nat → Int32 → Int32 → Int32 → p_M → Option (Int32 × p_M)) (v0 : Nat) (v1 : Int32) (v3 : Int32) (μ : p_M) : Option (Int32 × p_M) :=
  F_X11_dirtiest_c74 K4 v0 v1 v3 v3 μ
theorem E_X11_dirtiest_c72 {X : p_X} {d : Nat} {Q : p_R → Prop} {K4 : Nat → Int32 → Int32 → Int32 → p_M → Option (Int32 × p_M)} (hK4 : ∀ (v0 : Nat) (v1 : Int32) (v2 : Int32) (v3 : Int32) (μ : p_M) (r : Int32 × p_M) (w4 : Value), K4 v0 v1 v2 v3 μ = some r → Q ((0, some (.int r.1)), r.2) → p_Ev X (d + 1) M_X11_dirtiest 4 [.ref v0, .int v1, .int v2, .int v3, w4] [] μ Q) {v0 : Nat} {v1 : Int32} {v3 : Int32} {w2 : Value} {w4 : Value} {μ : p_M} {r : Int32 × p_M} (h : F_X11_dirtiest_c72 K4 v0 v1 v3 μ = some r) (hQ : Q ((0, some (.int r.1)), r.2)) : p_Ev X (d + 1) M_X11_dirtiest 72 [.ref v0, .int v1, w2, .int v3, w4] [] μ Q := by
  unfold F_X11_dirtiest_c72 at h
  refine e_iload_n dX11_dirtiest_72 rfl ?_
  refine e_istore_n dX11_dirtiest_73 (Nat.le_of_ble_eq_true rfl) rfl ?_
  exact E_X11_dirtiest_c74 hK4 h hQ
def F_X11_dirtiest_c51 (K4 : Nat → Int32 → Int32 → Int32 → p_M → Option (Int32 × p_M)) (v0 : Nat) (v1 : Int32) (v2 : Int32) (v3 : Int32) (s0 : Int32) (μ : p_M) : Option (Int32 × p_M) :=
  if s0 = 0
  then (F_X11_dirtiest_c74 K4 v0 v1 v2 v3 μ)
  else (if v2 = (-1)
    then (F_X11_dirtiest_c72 K4 v0 v1 v3 μ)
    else (p_ok (mK μ v0 = 12 ∧ v0 < mN μ)
      ((F_X11_isDirtier v0 v3 v2 μ).bind fun q8 =>
      if q8.1 = 0
      then (F_X11_dirtiest_c74 K4 v0 v1 v2 v3 q8.2)
      else (F_X11_dirtiest_c72 K4 v0 v1 v3 q8.2))))
theorem E_X11_dirtiest_c51 {X : p_X} {d : Nat} {Q : p_R → Prop} {K4 : Nat → Int32 → Int32 → Int32 → p_M → Option (Int32 × p_M)} (hK4 : ∀ (v0 : Nat) (v1 : Int32) (v2 : Int32) (v3 : Int32) (μ : p_M) (r : Int32 × p_M) (w4 : Value), K4 v0 v1 v2 v3 μ = some r → Q ((0, some (.int r.1)), r.2) → p_Ev X (d + 1) M_X11_dirtiest 4 [.ref v0, .int v1, .int v2, .int v3, w4] [] μ Q) {v0 : Nat} {v1 : Int32} {v2 : Int32} {v3 : Int32} {s0 : Int32} {w4 : Value} {μ : p_M} {r : Int32 × p_M} (h : F_X11_dirtiest_c51 K4 v0 v1 v2 v3 s0 μ = some r) (hQ : Q ((0, some (.int r.1)), r.2)) : p_Ev X (d + 1) M_X11_dirtiest 51 [.ref v0, .int v1, .int v2, .int v3, w4] [.int s0] μ Q := by
  unfold F_X11_dirtiest_c51 at h
  refine e_istore dX11_dirtiest_51 (Nat.le_of_ble_eq_true rfl) rfl ?_
  refine e_iload dX11_dirtiest_53 rfl ?_
  refine e_if_eq dX11_dirtiest_55 74 (by decide) (fun hc => ?_) (fun hc => ?_)
  · rw [if_pos hc] at h
    exact E_X11_dirtiest_c74 hK4 h hQ
  · rw [if_neg hc] at h
    refine e_iload_n dX11_dirtiest_58 rfl ?_
    refine e_iconst (v := (-1)) dX11_dirtiest_59 rfl ?_
    refine e_ic_eq dX11_dirtiest_60 72 (by decide) (fun hc => ?_) (fun hc => ?_)
    · rw [if_pos hc] at h
      exact E_X11_dirtiest_c72 hK4 h hQ
    · rw [if_neg hc] at h
      refine e_aload_n dX11_dirtiest_63 rfl ?_
      refine e_iload_n dX11_dirtiest_64 rfl ?_
      refine e_iload_n dX11_dirtiest_65 rfl ?_
      obtain ⟨h9, h⟩ := p_ok_some h
      obtain ⟨q8, hq8, h⟩ := p_bd h
      refine f_cVi dX11_dirtiest_66 rfl rfl ⟨rfl, rfl, by decide⟩ rfl h9 (fun Q' hQ' => E_X11_isDirtier hq8 hQ') ?_
      refine e_if_eq dX11_dirtiest_69 74 (by decide) (fun hc => ?_) (fun hc => ?_)
      · rw [if_pos hc] at h
        exact E_X11_dirtiest_c74 hK4 h hQ
      · rw [if_neg hc] at h
        exact E_X11_dirtiest_c72 hK4 h hQ
def F_X11_dirtiest_c50 (K4 : Nat → Int32 → Int32 → Int32 → p_M → Option (Int32 × p_M)) (v0 : Nat) (v1 : Int32) (v2 : Int32) (v3 : Int32) (μ : p_M) : Option (Int32 × p_M) :=
  F_X11_dirtiest_c51 K4 v0 v1 v2 v3 (0 : Int32) μ
theorem E_X11_dirtiest_c50 {X : p_X} {d : Nat} {Q : p_R → Prop} {K4 : Nat → Int32 → Int32 → Int32 → p_M → Option (Int32 × p_M)} (hK4 : ∀ (v0 : Nat) (v1 : Int32) (v2 : Int32) (v3 : Int32) (μ : p_M) (r : Int32 × p_M) (w4 : Value), K4 v0 v1 v2 v3 μ = some r → Q ((0, some (.int r.1)), r.2) → p_Ev X (d + 1) M_X11_dirtiest 4 [.ref v0, .int v1, .int v2, .int v3, w4] [] μ Q) {v0 : Nat} {v1 : Int32} {v2 : Int32} {v3 : Int32} {w4 : Value} {μ : p_M} {r : Int32 × p_M} (h : F_X11_dirtiest_c50 K4 v0 v1 v2 v3 μ = some r) (hQ : Q ((0, some (.int r.1)), r.2)) : p_Ev X (d + 1) M_X11_dirtiest 50 [.ref v0, .int v1, .int v2, .int v3, w4] [] μ Q := by
  unfold F_X11_dirtiest_c50 at h
  refine e_iconst (v := (0 : Int32)) dX11_dirtiest_50 rfl ?_
  exact E_X11_dirtiest_c51 hK4 h hQ
def F_X11_dirtiest_c4 : Nat → Nat → Int32 → Int32 → Int32 → p_M → Option (Int32 × p_M)
  | 0, _, _, _, _, _ => none
  | n + 1, v0, v1, v2, v3, μ =>
    p_ok (mK μ v0 = 12 ∧ v0 < mN μ)
    (if (mI μ v0 3) ≤ v3
    then (some (v2, μ))
    else ((mR μ v0 1).bind fun q2 =>
      p_ok (q2 < p_E ∧ mK μ q2 = 20 ∧ q2 < mN μ)
      (p_ok (¬ v3 < 0 ∧ v3.toNatClampNeg < mL μ q2)
      (if (mI μ q2 v3.toNatClampNeg) ≤ 0
      then (F_X11_dirtiest_c50 (F_X11_dirtiest_c4 n) v0 v1 v2 v3 μ)
      else ((mR μ v0 2).bind fun q5 =>
        p_ok (q5 < p_E ∧ mK μ q5 = 20 ∧ q5 < mN μ)
        (p_ok (¬ v3 < 0 ∧ v3.toNatClampNeg < mL μ q5)
        (if 0 < (lg_cmp ((100 : Int64) * (mI μ q5 v3.toNatClampNeg).toInt64) (v1.toInt64 * (mI μ q2 v3.toNatClampNeg).toInt64))
        then (F_X11_dirtiest_c50 (F_X11_dirtiest_c4 n) v0 v1 v2 v3 μ)
        else (F_X11_dirtiest_c51 (F_X11_dirtiest_c4 n) v0 v1 v2 v3 (1 : Int32) μ))))))))
theorem E_X11_dirtiest_c4 {X : p_X} {d : Nat} {Q : p_R → Prop} : ∀ (n : Nat) (v0 : Nat) (v1 : Int32) (v2 : Int32) (v3 : Int32) (μ : p_M) (r : Int32 × p_M) (w4 : Value), F_X11_dirtiest_c4 n v0 v1 v2 v3 μ = some r → Q ((0, some (.int r.1)), r.2) → p_Ev X (d + 1) M_X11_dirtiest 4 [.ref v0, .int v1, .int v2, .int v3, w4] [] μ Q := by
  intro n
  induction n with
  | zero => intro v0 v1 v2 v3 μ r w4 h hQ; rw [F_X11_dirtiest_c4] at h; cases h
  | succ n ih =>
    intro v0 v1 v2 v3 μ r w4 h hQ
    rw [F_X11_dirtiest_c4] at h
    refine e_iload_n dX11_dirtiest_4 rfl ?_
    refine e_aload_n dX11_dirtiest_5 rfl ?_
    obtain ⟨h1, h⟩ := p_ok_some h
    refine e_getI dX11_dirtiest_6 rfl rfl h1.1 h1.2 ?_
    refine e_ic_ge dX11_dirtiest_9 80 (by decide) (fun hc => ?_) (fun hc => ?_)
    · rw [if_pos hc] at h
      refine e_iload_n dX11_dirtiest_80 rfl ?_
      cases h
      exact e_ireti dX11_dirtiest_81 rfl hQ
    · rw [if_neg hc] at h
      refine e_aload_n dX11_dirtiest_12 rfl ?_
      obtain ⟨q2, hq2, h⟩ := p_bd h
      refine e_getR dX11_dirtiest_13 rfl rfl h1.1 h1.2 hq2 ?_
      refine e_iload_n dX11_dirtiest_16 rfl ?_
      obtain ⟨h3, h⟩ := p_ok_some h
      obtain ⟨h4, h⟩ := p_ok_some h
      refine e_iaG dX11_dirtiest_17 h3 h4 ?_
      refine e_if_le dX11_dirtiest_18 50 (by decide) (fun hc => ?_) (fun hc => ?_)
      · rw [if_pos hc] at h
        exact E_X11_dirtiest_c50 ih h hQ
      · rw [if_neg hc] at h
        refine e_ldc2 (v := 100) dX11_dirtiest_21 rfl ?_
        refine e_aload_n dX11_dirtiest_24 rfl ?_
        obtain ⟨q5, hq5, h⟩ := p_bd h
        refine e_getR dX11_dirtiest_25 rfl rfl h1.1 h1.2 hq5 ?_
        refine e_iload_n dX11_dirtiest_28 rfl ?_
        obtain ⟨h6, h⟩ := p_ok_some h
        obtain ⟨h7, h⟩ := p_ok_some h
        refine e_iaG dX11_dirtiest_29 h6 h7 ?_
        refine e_i2l dX11_dirtiest_30 ?_
        refine e_lmul dX11_dirtiest_31 ?_
        refine e_iload_n dX11_dirtiest_32 rfl ?_
        refine e_i2l dX11_dirtiest_33 ?_
        refine e_aload_n dX11_dirtiest_34 rfl ?_
        refine e_getR dX11_dirtiest_35 rfl rfl h1.1 h1.2 hq2 ?_
        refine e_iload_n dX11_dirtiest_38 rfl ?_
        refine e_iaG dX11_dirtiest_39 h3 h4 ?_
        refine e_i2l dX11_dirtiest_40 ?_
        refine e_lmul dX11_dirtiest_41 ?_
        refine e_lcmp dX11_dirtiest_42 ?_
        refine e_if_gt dX11_dirtiest_43 50 (by decide) (fun hc => ?_) (fun hc => ?_)
        · rw [if_pos hc] at h
          exact E_X11_dirtiest_c50 ih h hQ
        · rw [if_neg hc] at h
          refine e_iconst (v := (1 : Int32)) dX11_dirtiest_46 rfl ?_
          refine e_goto dX11_dirtiest_47 51 (by decide) ?_
          exact E_X11_dirtiest_c51 ih h hQ
def F_X11_dirtiest (v0 : Nat) (v1 : Int32) (μ : p_M) : Option (Int32 × p_M) :=
  F_X11_dirtiest_c4 p_fu v0 v1 (-1) (0 : Int32) μ
theorem E_X11_dirtiest {X : p_X} {d : Nat} {Q : p_R → Prop} {v0 : Nat} {v1 : Int32} {μ : p_M} {r : Int32 × p_M} (h : F_X11_dirtiest v0 v1 μ = some r) (hQ : Q ((0, some (.int r.1)), r.2)) : p_Ev X (d + 1) M_X11_dirtiest 0 [.ref v0, .int v1, .double 0, .double 0, .double 0] [] μ Q := by
  unfold F_X11_dirtiest at h
  refine e_iconst (v := (-1)) dX11_dirtiest_0 rfl ?_
  refine e_istore_n dX11_dirtiest_1 (Nat.le_of_ble_eq_true rfl) rfl ?_
  refine e_iconst (v := (0 : Int32)) dX11_dirtiest_2 rfl ?_
  refine e_istore_n dX11_dirtiest_3 (Nat.le_of_ble_eq_true rfl) rfl ?_
  exact E_X11_dirtiest_c4 p_fu _ _ _ _ _ _ _ h hQ
/-! X11_takeOut -/
def F_X11_takeOut_c113 (v0 : Nat) (v3 : Int32) (v4 : Int32) (μ : p_M) : Option (Int32 × p_M) :=
  p_ok (mK μ v0 = 12 ∧ v0 < mN μ)
  (p_let (sI μ v0 5 v3) fun m21 =>
  p_let (sI m21 v0 4 ((mI m21 v0 4) + v3)) fun m22 =>
  some (v4, m22))
theorem E_X11_takeOut_c113 {X : p_X} {d : Nat} {Q : p_R → Prop} {v0 : Nat} {v3 : Int32} {v4 : Int32} {w1 : Value} {w2 : Value} {w5 : Value} {w6 : Value} {w7 : Value} {w8 : Value} {μ : p_M} {r : Int32 × p_M} (h : F_X11_takeOut_c113 v0 v3 v4 μ = some r) (hQ : Q ((0, some (.int r.1)), r.2)) : p_Ev X (d + 2) M_X11_takeOut 113 [.ref v0, w1, w2, .int v3, .int v4, w5, w6, w7, w8] [] μ Q := by
  unfold F_X11_takeOut_c113 at h
  refine e_aload_n dX11_takeOut_113 rfl ?_
  refine e_iload_n dX11_takeOut_114 rfl ?_
  obtain ⟨h20, h⟩ := p_ok_some h
  replace h := p_lt h
  refine e_putI dX11_takeOut_115 rfl ⟨rfl, rfl, (fun h => by cases h)⟩ (fun h => by cases h) h20.1 h20.2 ?_
  refine e_aload_n dX11_takeOut_118 rfl ?_
  refine e_dupR dX11_takeOut_119 ?_
  refine e_getI dX11_takeOut_120 rfl rfl h20.1 h20.2 ?_
  refine e_iload_n dX11_takeOut_123 rfl ?_
  refine e_iadd dX11_takeOut_124 ?_
  replace h := p_lt h
  refine e_putI dX11_takeOut_125 rfl ⟨rfl, rfl, (fun h => by cases h)⟩ (fun h => by cases h) h20.1 h20.2 ?_
  refine e_iload dX11_takeOut_128 rfl ?_
  cases h
  exact e_ireti dX11_takeOut_130 rfl hQ
def F_X11_takeOut_c8 : Nat → Nat → Int32 → Int32 → Int32 → Int32 → p_M → Option (Int32 × p_M)
  | 0, _, _, _, _, _, _ => none
  | n + 1, v0, v2, v3, v4, v5, μ =>
    p_ok (mK μ v0 = 12 ∧ v0 < mN μ)
    (if (mI μ v0 3) ≤ v5
    then (F_X11_takeOut_c113 v0 v3 v4 μ)
    else (if v3 ≤ 0
      then (F_X11_takeOut_c113 v0 v3 v4 μ)
      else ((F_X11_dirtiest v0 v2 μ).bind fun q2 =>
        if ¬ q2.1 = (-1)
        then (p_ok (mK q2.2 v0 = 12 ∧ v0 < mN q2.2)
          ((mR q2.2 v0 1).bind fun q4 =>
          p_ok (q4 < p_E ∧ mK q2.2 q4 = 20 ∧ q4 < mN q2.2)
          (p_ok (¬ q2.1 < 0 ∧ q2.1.toNatClampNeg < mL q2.2 q4)
          ((mR q2.2 v0 2).bind fun q7 =>
          p_ok (q7 < p_E ∧ mK q2.2 q7 = 20 ∧ q7 < mN q2.2)
          (p_ok (¬ q2.1 < 0 ∧ q2.1.toNatClampNeg < mL q2.2 q7)
          ((F_X11_partUp (mI q2.2 q7 q2.1.toNatClampNeg) (if (mI q2.2 q4 q2.1.toNatClampNeg) < v3 then (mI q2.2 q4 q2.1.toNatClampNeg) else v3) (mI q2.2 q4 q2.1.toNatClampNeg) q2.2).bind fun q10 =>
          p_ok (mK q10.2 v0 = 12 ∧ v0 < mN q10.2)
          ((mR q10.2 v0 1).bind fun q12 =>
          p_ok (q12 < p_E ∧ mK q10.2 q12 = 20 ∧ q12 < mN q10.2)
          (p_ok (¬ q2.1 < 0 ∧ q2.1.toNatClampNeg < mL q10.2 q12)
          (p_let (sI q10.2 q12 q2.1.toNatClampNeg ((mI q10.2 q12 q2.1.toNatClampNeg) - (if (mI q2.2 q4 q2.1.toNatClampNeg) < v3 then (mI q2.2 q4 q2.1.toNatClampNeg) else v3))) fun m15 =>
          (mR m15 v0 2).bind fun q16 =>
          p_ok (q16 < p_E ∧ mK m15 q16 = 20 ∧ q16 < mN m15)
          (p_ok (¬ q2.1 < 0 ∧ q2.1.toNatClampNeg < mL m15 q16)
          (p_let (sI m15 q16 q2.1.toNatClampNeg ((mI m15 q16 q2.1.toNatClampNeg) - q10.1)) fun m19 =>
          F_X11_takeOut_c8 n v0 v2 (v3 - (if (mI q2.2 q4 q2.1.toNatClampNeg) < v3 then (mI q2.2 q4 q2.1.toNatClampNeg) else v3)) (v4 + q10.1) (v5 + (1 : Int32)) m19)))))))))))
        else (F_X11_takeOut_c113 v0 v3 v4 q2.2))))
theorem E_X11_takeOut_c8 {X : p_X} {d : Nat} {Q : p_R → Prop} : ∀ (n : Nat) (v0 : Nat) (v2 : Int32) (v3 : Int32) (v4 : Int32) (v5 : Int32) (μ : p_M) (r : Int32 × p_M) (w1 : Value) (w6 : Value) (w7 : Value) (w8 : Value), F_X11_takeOut_c8 n v0 v2 v3 v4 v5 μ = some r → Q ((0, some (.int r.1)), r.2) → p_Ev X (d + 2) M_X11_takeOut 8 [.ref v0, w1, .int v2, .int v3, .int v4, .int v5, w6, w7, w8] [] μ Q := by
  intro n
  induction n with
  | zero => intro v0 v2 v3 v4 v5 μ r w1 w6 w7 w8 h hQ; rw [F_X11_takeOut_c8] at h; cases h
  | succ n ih =>
    intro v0 v2 v3 v4 v5 μ r w1 w6 w7 w8 h hQ
    rw [F_X11_takeOut_c8] at h
    refine e_iload dX11_takeOut_8 rfl ?_
    refine e_aload_n dX11_takeOut_10 rfl ?_
    obtain ⟨h1, h⟩ := p_ok_some h
    refine e_getI dX11_takeOut_11 rfl rfl h1.1 h1.2 ?_
    refine e_ic_ge dX11_takeOut_14 113 (by decide) (fun hc => ?_) (fun hc => ?_)
    · rw [if_pos hc] at h
      exact E_X11_takeOut_c113 h hQ
    · rw [if_neg hc] at h
      refine e_iload_n dX11_takeOut_17 rfl ?_
      refine e_if_le dX11_takeOut_18 113 (by decide) (fun hc => ?_) (fun hc => ?_)
      · rw [if_pos hc] at h
        exact E_X11_takeOut_c113 h hQ
      · rw [if_neg hc] at h
        refine e_aload_n dX11_takeOut_21 rfl ?_
        refine e_iload_n dX11_takeOut_22 rfl ?_
        obtain ⟨q2, hq2, h⟩ := p_bd h
        refine f_cVi dX11_takeOut_23 rfl rfl ⟨rfl, rfl, by decide⟩ rfl h1 (fun Q' hQ' => E_X11_dirtiest hq2 hQ') ?_
        refine e_istore dX11_takeOut_26 (Nat.le_of_ble_eq_true rfl) rfl ?_
        refine e_iload dX11_takeOut_28 rfl ?_
        refine e_iconst (v := (-1)) dX11_takeOut_30 rfl ?_
        refine e_ic_ne dX11_takeOut_31 37 (by decide) (fun hc => ?_) (fun hc => ?_)
        · rw [if_pos hc] at h
          refine e_iload_n dX11_takeOut_37 rfl ?_
          refine e_aload_n dX11_takeOut_38 rfl ?_
          obtain ⟨h3, h⟩ := p_ok_some h
          obtain ⟨q4, hq4, h⟩ := p_bd h
          refine e_getR dX11_takeOut_39 rfl rfl h3.1 h3.2 hq4 ?_
          refine e_iload dX11_takeOut_42 rfl ?_
          obtain ⟨h5, h⟩ := p_ok_some h
          obtain ⟨h6, h⟩ := p_ok_some h
          refine e_iaG dX11_takeOut_44 h5 h6 ?_
          refine e_min dX11_takeOut_45 rfl (Nat.le_of_ble_eq_true rfl) ?_
          refine e_istore dX11_takeOut_48 (Nat.le_of_ble_eq_true rfl) rfl ?_
          refine e_aload_n dX11_takeOut_50 rfl ?_
          obtain ⟨q7, hq7, h⟩ := p_bd h
          refine e_getR dX11_takeOut_51 rfl rfl h3.1 h3.2 hq7 ?_
          refine e_iload dX11_takeOut_54 rfl ?_
          obtain ⟨h8, h⟩ := p_ok_some h
          obtain ⟨h9, h⟩ := p_ok_some h
          refine e_iaG dX11_takeOut_56 h8 h9 ?_
          refine e_iload dX11_takeOut_57 rfl ?_
          refine e_aload_n dX11_takeOut_59 rfl ?_
          refine e_getR dX11_takeOut_60 rfl rfl h3.1 h3.2 hq4 ?_
          refine e_iload dX11_takeOut_63 rfl ?_
          refine e_iaG dX11_takeOut_65 h5 h6 ?_
          obtain ⟨q10, hq10, h⟩ := p_bd h
          refine f_cSi dX11_takeOut_66 rfl rfl rfl rfl (fun Q' hQ' => E_X11_partUp hq10 hQ') ?_
          refine e_istore dX11_takeOut_69 (Nat.le_of_ble_eq_true rfl) rfl ?_
          refine e_aload_n dX11_takeOut_71 rfl ?_
          obtain ⟨h11, h⟩ := p_ok_some h
          obtain ⟨q12, hq12, h⟩ := p_bd h
          refine e_getR dX11_takeOut_72 rfl rfl h11.1 h11.2 hq12 ?_
          refine e_iload dX11_takeOut_75 rfl ?_
          refine e_dup2 dX11_takeOut_77 ?_
          obtain ⟨h13, h⟩ := p_ok_some h
          obtain ⟨h14, h⟩ := p_ok_some h
          refine e_iaG dX11_takeOut_78 h13 h14 ?_
          refine e_iload dX11_takeOut_79 rfl ?_
          refine e_isub dX11_takeOut_81 ?_
          replace h := p_lt h
          refine e_iaS dX11_takeOut_82 h13 h14 ?_
          refine e_aload_n dX11_takeOut_83 rfl ?_
          obtain ⟨q16, hq16, h⟩ := p_bd h
          refine e_getR dX11_takeOut_84 rfl rfl h11.1 h11.2 hq16 ?_
          refine e_iload dX11_takeOut_87 rfl ?_
          refine e_dup2 dX11_takeOut_89 ?_
          obtain ⟨h17, h⟩ := p_ok_some h
          obtain ⟨h18, h⟩ := p_ok_some h
          refine e_iaG dX11_takeOut_90 h17 h18 ?_
          refine e_iload dX11_takeOut_91 rfl ?_
          refine e_isub dX11_takeOut_93 ?_
          replace h := p_lt h
          refine e_iaS dX11_takeOut_94 h17 h18 ?_
          refine e_iload_n dX11_takeOut_95 rfl ?_
          refine e_iload dX11_takeOut_96 rfl ?_
          refine e_isub dX11_takeOut_98 ?_
          refine e_istore_n dX11_takeOut_99 (Nat.le_of_ble_eq_true rfl) rfl ?_
          refine e_iload dX11_takeOut_100 rfl ?_
          refine e_iload dX11_takeOut_102 rfl ?_
          refine e_iadd dX11_takeOut_104 ?_
          refine e_istore dX11_takeOut_105 (Nat.le_of_ble_eq_true rfl) rfl ?_
          refine e_iinc (v := (1 : Int32)) dX11_takeOut_107 rfl rfl rfl ?_
          refine e_goto dX11_takeOut_110 8 (by decide) ?_
          exact ih _ _ _ _ _ _ _ _ _ _ _ h hQ
        · rw [if_neg hc] at h
          refine e_goto dX11_takeOut_34 113 (by decide) ?_
          exact E_X11_takeOut_c113 h hQ
def F_X11_takeOut (v0 : Nat) (v1 : Int32) (v2 : Int32) (μ : p_M) : Option (Int32 × p_M) :=
  F_X11_takeOut_c8 p_fu v0 v2 v1 (0 : Int32) (0 : Int32) μ
theorem E_X11_takeOut {X : p_X} {d : Nat} {Q : p_R → Prop} {v0 : Nat} {v1 : Int32} {v2 : Int32} {μ : p_M} {r : Int32 × p_M} (h : F_X11_takeOut v0 v1 v2 μ = some r) (hQ : Q ((0, some (.int r.1)), r.2)) : p_Ev X (d + 2) M_X11_takeOut 0 [.ref v0, .int v1, .int v2, .double 0, .double 0, .double 0, .double 0, .double 0, .double 0] [] μ Q := by
  unfold F_X11_takeOut at h
  refine e_iload_n dX11_takeOut_0 rfl ?_
  refine e_istore_n dX11_takeOut_1 (Nat.le_of_ble_eq_true rfl) rfl ?_
  refine e_iconst (v := (0 : Int32)) dX11_takeOut_2 rfl ?_
  refine e_istore dX11_takeOut_3 (Nat.le_of_ble_eq_true rfl) rfl ?_
  refine e_iconst (v := (0 : Int32)) dX11_takeOut_5 rfl ?_
  refine e_istore dX11_takeOut_6 (Nat.le_of_ble_eq_true rfl) rfl ?_
  exact E_X11_takeOut_c8 p_fu _ _ _ _ _ _ _ _ _ _ _ h hQ
/-! X12_finishIfNoneLeft -/
def F_X12_finishIfNoneLeft_c37 (μ : p_M) : Option (Int32 × p_M) :=
  some (0, μ)
theorem E_X12_finishIfNoneLeft_c37 {X : p_X} {d : Nat} {Q : p_R → Prop} {w0 : Value} {w1 : Value} {w2 : Value} {μ : p_M} {r : Int32 × p_M} (h : F_X12_finishIfNoneLeft_c37 μ = some r) (hQ : Q ((0, none), r.2)) : p_Ev X (d + 0) M_X12_finishIfNoneLeft 37 [w0, w1, w2] [] μ Q := by
  unfold F_X12_finishIfNoneLeft_c37 at h
  cases h
  exact e_vret dX12_finishIfNoneLeft_37 rfl hQ
def F_X12_finishIfNoneLeft (v0 : Nat) (v1 : Nat) (v2 : Nat) (μ : p_M) : Option (Int32 × p_M) :=
  p_ok (mK μ v2 = 5 ∧ v2 < mN μ)
  ((mR μ v2 7).bind fun q2 =>
  p_ok (mK μ q2 = 9 ∧ q2 < mN μ)
  (if (mI μ v2 11) < (mI μ q2 2)
  then (F_X12_finishIfNoneLeft_c37 μ)
  else (p_let (sI μ v2 9 (3 : Int32)) fun m4 =>
    p_let (sI m4 v2 10 (-1)) fun m5 =>
    p_ok (mK m5 v0 = 13 ∧ v0 < mN m5)
    (p_let (sI m5 v2 12 (mI m5 v0 15)) fun m7 =>
    p_ok (mK m7 v1 = 6 ∧ v1 < mN m7)
    (p_let (sI m7 v1 3 (-1)) fun m9 =>
    F_X12_finishIfNoneLeft_c37 m9)))))
theorem E_X12_finishIfNoneLeft {X : p_X} {d : Nat} {Q : p_R → Prop} {v0 : Nat} {v1 : Nat} {v2 : Nat} {μ : p_M} {r : Int32 × p_M} (h : F_X12_finishIfNoneLeft v0 v1 v2 μ = some r) (hQ : Q ((0, none), r.2)) : p_Ev X (d + 0) M_X12_finishIfNoneLeft 0 [.ref v0, .ref v1, .ref v2] [] μ Q := by
  unfold F_X12_finishIfNoneLeft at h
  refine e_aload_n dX12_finishIfNoneLeft_0 rfl ?_
  obtain ⟨h1, h⟩ := p_ok_some h
  refine e_getI dX12_finishIfNoneLeft_1 rfl rfl h1.1 h1.2 ?_
  refine e_aload_n dX12_finishIfNoneLeft_4 rfl ?_
  obtain ⟨q2, hq2, h⟩ := p_bd h
  refine e_getR dX12_finishIfNoneLeft_5 rfl rfl h1.1 h1.2 hq2 ?_
  obtain ⟨h3, h⟩ := p_ok_some h
  refine e_getI dX12_finishIfNoneLeft_8 rfl rfl h3.1 h3.2 ?_
  refine e_ic_lt dX12_finishIfNoneLeft_11 37 (by decide) (fun hc => ?_) (fun hc => ?_)
  · rw [if_pos hc] at h
    exact E_X12_finishIfNoneLeft_c37 h hQ
  · rw [if_neg hc] at h
    refine e_aload_n dX12_finishIfNoneLeft_14 rfl ?_
    refine e_iconst (v := (3 : Int32)) dX12_finishIfNoneLeft_15 rfl ?_
    replace h := p_lt h
    refine e_putI dX12_finishIfNoneLeft_16 rfl ⟨rfl, rfl, (fun _ => rfl)⟩ (fun h => by cases h) h1.1 h1.2 ?_
    refine e_aload_n dX12_finishIfNoneLeft_19 rfl ?_
    refine e_iconst (v := (-1)) dX12_finishIfNoneLeft_20 rfl ?_
    replace h := p_lt h
    refine e_putI dX12_finishIfNoneLeft_21 rfl ⟨rfl, rfl, (fun _ => rfl)⟩ (fun h => by cases h) h1.1 h1.2 ?_
    refine e_aload_n dX12_finishIfNoneLeft_24 rfl ?_
    refine e_aload_n dX12_finishIfNoneLeft_25 rfl ?_
    obtain ⟨h6, h⟩ := p_ok_some h
    refine e_getI dX12_finishIfNoneLeft_26 rfl rfl h6.1 h6.2 ?_
    replace h := p_lt h
    refine e_putI dX12_finishIfNoneLeft_29 rfl ⟨rfl, rfl, (fun _ => rfl)⟩ (fun h => by cases h) h1.1 h1.2 ?_
    refine e_aload_n dX12_finishIfNoneLeft_32 rfl ?_
    refine e_iconst (v := (-1)) dX12_finishIfNoneLeft_33 rfl ?_
    obtain ⟨h8, h⟩ := p_ok_some h
    replace h := p_lt h
    refine e_putI dX12_finishIfNoneLeft_34 rfl ⟨rfl, rfl, (fun _ => rfl)⟩ (fun h => by cases h) h8.1 h8.2 ?_
    exact E_X12_finishIfNoneLeft_c37 h hQ
/-! X8_amountAt -/
def F_X8_amountAt_c22 (s0 : Int32) (μ : p_M) : Option (Int32 × p_M) :=
  some (s0, μ)
theorem E_X8_amountAt_c22 {X : p_X} {d : Nat} {Q : p_R → Prop} {s0 : Int32} {w0 : Value} {w1 : Value} {μ : p_M} {r : Int32 × p_M} (h : F_X8_amountAt_c22 s0 μ = some r) (hQ : Q ((0, some (.int r.1)), r.2)) : p_Ev X (d + 0) M_X8_amountAt 22 [w0, w1] [.int s0] μ Q := by
  unfold F_X8_amountAt_c22 at h
  cases h
  exact e_ireti dX8_amountAt_22 rfl hQ
def F_X8_amountAt_c21 (μ : p_M) : Option (Int32 × p_M) :=
  F_X8_amountAt_c22 (1 : Int32) μ
theorem E_X8_amountAt_c21 {X : p_X} {d : Nat} {Q : p_R → Prop} {w0 : Value} {w1 : Value} {μ : p_M} {r : Int32 × p_M} (h : F_X8_amountAt_c21 μ = some r) (hQ : Q ((0, some (.int r.1)), r.2)) : p_Ev X (d + 0) M_X8_amountAt 21 [w0, w1] [] μ Q := by
  unfold F_X8_amountAt_c21 at h
  refine e_iconst (v := (1 : Int32)) dX8_amountAt_21 rfl ?_
  exact E_X8_amountAt_c22 h hQ
def F_X8_amountAt (v0 : Nat) (v1 : Int32) (μ : p_M) : Option (Int32 × p_M) :=
  if v1 < 0
  then (F_X8_amountAt_c21 μ)
  else (p_ok (mK μ v0 = 9 ∧ v0 < mN μ)
    (if (mI μ v0 2) ≤ v1
    then (F_X8_amountAt_c21 μ)
    else ((mR μ v0 1).bind fun q2 =>
      p_ok (q2 < p_E ∧ mK μ q2 = 20 ∧ q2 < mN μ)
      (p_ok (¬ v1 < 0 ∧ v1.toNatClampNeg < mL μ q2)
      (F_X8_amountAt_c22 (mI μ q2 v1.toNatClampNeg) μ)))))
theorem E_X8_amountAt {X : p_X} {d : Nat} {Q : p_R → Prop} {v0 : Nat} {v1 : Int32} {μ : p_M} {r : Int32 × p_M} (h : F_X8_amountAt v0 v1 μ = some r) (hQ : Q ((0, some (.int r.1)), r.2)) : p_Ev X (d + 0) M_X8_amountAt 0 [.ref v0, .int v1] [] μ Q := by
  unfold F_X8_amountAt at h
  refine e_iload_n dX8_amountAt_0 rfl ?_
  refine e_if_lt dX8_amountAt_1 21 (by decide) (fun hc => ?_) (fun hc => ?_)
  · rw [if_pos hc] at h
    exact E_X8_amountAt_c21 h hQ
  · rw [if_neg hc] at h
    refine e_iload_n dX8_amountAt_4 rfl ?_
    refine e_aload_n dX8_amountAt_5 rfl ?_
    obtain ⟨h1, h⟩ := p_ok_some h
    refine e_getI dX8_amountAt_6 rfl rfl h1.1 h1.2 ?_
    refine e_ic_ge dX8_amountAt_9 21 (by decide) (fun hc => ?_) (fun hc => ?_)
    · rw [if_pos hc] at h
      exact E_X8_amountAt_c21 h hQ
    · rw [if_neg hc] at h
      refine e_aload_n dX8_amountAt_12 rfl ?_
      obtain ⟨q2, hq2, h⟩ := p_bd h
      refine e_getR dX8_amountAt_13 rfl rfl h1.1 h1.2 hq2 ?_
      refine e_iload_n dX8_amountAt_16 rfl ?_
      obtain ⟨h3, h⟩ := p_ok_some h
      obtain ⟨h4, h⟩ := p_ok_some h
      refine e_iaG dX8_amountAt_17 h3 h4 ?_
      refine e_goto dX8_amountAt_18 22 (by decide) ?_
      exact E_X8_amountAt_c22 h hQ
/-! X8_bathAt -/
def F_X8_bathAt_c22 (s0 : Int32) (μ : p_M) : Option (Int32 × p_M) :=
  some (s0, μ)
theorem E_X8_bathAt_c22 {X : p_X} {d : Nat} {Q : p_R → Prop} {s0 : Int32} {w0 : Value} {w1 : Value} {μ : p_M} {r : Int32 × p_M} (h : F_X8_bathAt_c22 s0 μ = some r) (hQ : Q ((0, some (.int r.1)), r.2)) : p_Ev X (d + 0) M_X8_bathAt 22 [w0, w1] [.int s0] μ Q := by
  unfold F_X8_bathAt_c22 at h
  cases h
  exact e_ireti dX8_bathAt_22 rfl hQ
def F_X8_bathAt_c21 (μ : p_M) : Option (Int32 × p_M) :=
  F_X8_bathAt_c22 (3 : Int32) μ
theorem E_X8_bathAt_c21 {X : p_X} {d : Nat} {Q : p_R → Prop} {w0 : Value} {w1 : Value} {μ : p_M} {r : Int32 × p_M} (h : F_X8_bathAt_c21 μ = some r) (hQ : Q ((0, some (.int r.1)), r.2)) : p_Ev X (d + 0) M_X8_bathAt 21 [w0, w1] [] μ Q := by
  unfold F_X8_bathAt_c21 at h
  refine e_iconst (v := (3 : Int32)) dX8_bathAt_21 rfl ?_
  exact E_X8_bathAt_c22 h hQ
def F_X8_bathAt (v0 : Nat) (v1 : Int32) (μ : p_M) : Option (Int32 × p_M) :=
  if v1 < 0
  then (F_X8_bathAt_c21 μ)
  else (p_ok (mK μ v0 = 9 ∧ v0 < mN μ)
    (if (mI μ v0 2) ≤ v1
    then (F_X8_bathAt_c21 μ)
    else ((mR μ v0 0).bind fun q2 =>
      p_ok (q2 < p_E ∧ mK μ q2 = 20 ∧ q2 < mN μ)
      (p_ok (¬ v1 < 0 ∧ v1.toNatClampNeg < mL μ q2)
      (F_X8_bathAt_c22 (mI μ q2 v1.toNatClampNeg) μ)))))
theorem E_X8_bathAt {X : p_X} {d : Nat} {Q : p_R → Prop} {v0 : Nat} {v1 : Int32} {μ : p_M} {r : Int32 × p_M} (h : F_X8_bathAt v0 v1 μ = some r) (hQ : Q ((0, some (.int r.1)), r.2)) : p_Ev X (d + 0) M_X8_bathAt 0 [.ref v0, .int v1] [] μ Q := by
  unfold F_X8_bathAt at h
  refine e_iload_n dX8_bathAt_0 rfl ?_
  refine e_if_lt dX8_bathAt_1 21 (by decide) (fun hc => ?_) (fun hc => ?_)
  · rw [if_pos hc] at h
    exact E_X8_bathAt_c21 h hQ
  · rw [if_neg hc] at h
    refine e_iload_n dX8_bathAt_4 rfl ?_
    refine e_aload_n dX8_bathAt_5 rfl ?_
    obtain ⟨h1, h⟩ := p_ok_some h
    refine e_getI dX8_bathAt_6 rfl rfl h1.1 h1.2 ?_
    refine e_ic_ge dX8_bathAt_9 21 (by decide) (fun hc => ?_) (fun hc => ?_)
    · rw [if_pos hc] at h
      exact E_X8_bathAt_c21 h hQ
    · rw [if_neg hc] at h
      refine e_aload_n dX8_bathAt_12 rfl ?_
      obtain ⟨q2, hq2, h⟩ := p_bd h
      refine e_getR dX8_bathAt_13 rfl rfl h1.1 h1.2 hq2 ?_
      refine e_iload_n dX8_bathAt_16 rfl ?_
      obtain ⟨h3, h⟩ := p_ok_some h
      obtain ⟨h4, h⟩ := p_ok_some h
      refine e_iaG dX8_bathAt_17 h3 h4 ?_
      refine e_goto dX8_bathAt_18 22 (by decide) ?_
      exact E_X8_bathAt_c22 h hQ
/-! X8_soil -/
def F_X8_soil (v0 : Int32) (v1 : Int32) (μ : p_M) : Option (Int32 × p_M) :=
  if v0.toInt < 0 ∨ 2 < v0.toInt then (some ((1 : Int32), μ))
  else if v0 = 0 then (some (v1, μ))
  else if v0 = 1 then (some (((2 : Int32) * v1), μ))
  else if v0 = 2 then (some ((((3 : Int32) * v1) + (5 : Int32)), μ))
  else none
theorem E_X8_soil {X : p_X} {d : Nat} {Q : p_R → Prop} {v0 : Int32} {v1 : Int32} {μ : p_M} {r : Int32 × p_M} (h : F_X8_soil v0 v1 μ = some r) (hQ : Q ((0, some (.int r.1)), r.2)) : p_Ev X (d + 0) M_X8_soil 0 [.int v0, .int v1] [] μ Q := by
  unfold F_X8_soil at h
  refine e_iload_n dX8_soil_0 rfl ?_
  by_cases hc : v0.toInt < 0 ∨ 2 < v0.toInt
  · rw [if_pos hc] at h
    refine e_swD dX8_soil_1 hc 40 (by decide) ?_
    refine e_iconst (v := (1 : Int32)) dX8_soil_40 rfl ?_
    cases h
    exact e_ireti dX8_soil_41 rfl hQ
  rw [if_neg hc] at h
  by_cases hc : v0 = 0
  · rw [if_pos hc] at h
    refine e_swK (v := 0) dX8_soil_1 hc (by decide) rfl 28 (by decide) ?_
    refine e_iload_n dX8_soil_28 rfl ?_
    cases h
    exact e_ireti dX8_soil_29 rfl hQ
  rw [if_neg hc] at h
  by_cases hc : v0 = 1
  · rw [if_pos hc] at h
    refine e_swK (v := 1) dX8_soil_1 hc (by decide) rfl 30 (by decide) ?_
    refine e_iconst (v := (2 : Int32)) dX8_soil_30 rfl ?_
    refine e_iload_n dX8_soil_31 rfl ?_
    refine e_imul dX8_soil_32 ?_
    cases h
    exact e_ireti dX8_soil_33 rfl hQ
  rw [if_neg hc] at h
  by_cases hc : v0 = 2
  · rw [if_pos hc] at h
    refine e_swK (v := 2) dX8_soil_1 hc (by decide) rfl 34 (by decide) ?_
    refine e_iconst (v := (3 : Int32)) dX8_soil_34 rfl ?_
    refine e_iload_n dX8_soil_35 rfl ?_
    refine e_imul dX8_soil_36 ?_
    refine e_iconst (v := (5 : Int32)) dX8_soil_37 rfl ?_
    refine e_iadd dX8_soil_38 ?_
    cases h
    exact e_ireti dX8_soil_39 rfl hQ
  rw [if_neg hc] at h
  cases h
/-! X12_doNextBath -/
def F_X12_doNextBath (v0 : Nat) (v1 : Nat) (v2 : Int32) (μ : p_M) : Option (Nat × Int32 × p_M) :=
  p_ok (mK μ v1 = 6 ∧ v1 < mN μ)
  (p_ok (mK μ v0 = 13 ∧ v0 < mN μ)
  ((F_X12_lotAt v0 (mI μ v1 3) μ).bind fun q2 =>
  if q2.1 = 0
  then (p_ok (mK q2.2.2 q2.2.1 = 5 ∧ q2.2.1 < mN q2.2.2)
    ((mR q2.2.2 q2.2.1 7).bind fun q5 =>
    p_ok (mK q2.2.2 q5 = 9 ∧ q5 < mN q2.2.2)
    ((F_X8_bathAt q5 (mI q2.2.2 q2.2.1 11) q2.2.2).bind fun q6 =>
    p_ok (mK q6.2 q2.2.1 = 5 ∧ q2.2.1 < mN q6.2)
    ((mR q6.2 q2.2.1 7).bind fun q9 =>
    p_ok (mK q6.2 q9 = 9 ∧ q9 < mN q6.2)
    ((F_X8_amountAt q9 (mI q6.2 q2.2.1 11) q6.2).bind fun q10 =>
    p_ok (mK q10.2 v0 = 13 ∧ v0 < mN q10.2)
    ((mR q10.2 v0 5).bind fun q13 =>
    p_ok (mK q10.2 q13 = 2 ∧ q13 < mN q10.2)
    ((F_X1_value q13 ((9 : Int32) + q6.1) q10.2).bind fun q14 =>
    if (q14.1 * q10.1) ≤ v2
    then (p_ok (mK q14.2 q2.2.1 = 5 ∧ q2.2.1 < mN q14.2)
      (p_ok (mK q14.2 v0 = 13 ∧ v0 < mN q14.2)
      ((mR q14.2 v0 5).bind fun q18 =>
      p_ok (mK q14.2 q18 = 2 ∧ q18 < mN q14.2)
      ((F_X1_value q18 (8 : Int32) q14.2).bind fun q19 =>
      p_ok (mK q19.2 v0 = 13 ∧ v0 < mN q19.2)
      ((mR q19.2 v0 10).bind fun q22 =>
      (mR q19.2 v0 5).bind fun q23 =>
      p_ok (mK q19.2 q23 = 2 ∧ q23 < mN q19.2)
      ((F_X1_value q23 ((0 : Int32) + q6.1) q19.2).bind fun q24 =>
      p_ok (mK q24.2 q22 = 12 ∧ q22 < mN q24.2)
      ((F_X11_takeOut q22 ((mI q14.2 q2.2.1 1) * q19.1) q24.1 q24.2).bind fun q26 =>
      p_ok (mK q26.2 q2.2.1 = 5 ∧ q2.2.1 < mN q26.2)
      ((mR q26.2 q2.2.1 8).bind fun q29 =>
      p_ok (mK q26.2 q29 = 4 ∧ q29 < mN q26.2)
      ((F_X3_take q29 q6.1 q10.1 q26.2).bind fun q30 =>
      p_ok (mK q30.2 q2.2.1 = 5 ∧ q2.2.1 < mN q30.2)
      (p_let (sI q30.2 q2.2.1 11 ((mI q30.2 q2.2.1 11) + (1 : Int32))) fun m33 =>
      p_ok (mK m33 v0 = 13 ∧ v0 < mN m33)
      ((mR m33 v0 10).bind fun q35 =>
      (mR m33 v0 5).bind fun q36 =>
      p_ok (mK m33 q36 = 2 ∧ q36 < mN m33)
      ((F_X1_value q36 ((4 : Int32) + q6.1) m33).bind fun q37 =>
      p_ok (mK q37.2 q2.2.1 = 5 ∧ q2.2.1 < mN q37.2)
      ((F_X8_soil q6.1 q10.1 q37.2).bind fun q40 =>
      p_ok (mK q40.2 q35 = 12 ∧ q35 < mN q40.2)
      ((F_X11_giveBack q35 q37.1 ((mI q14.2 q2.2.1 1) * q19.1) (q26.1 + ((mI q37.2 q2.2.1 1) * q40.1)) q40.2).bind fun q41 =>
      p_ok (mK q41.2 v1 = 6 ∧ v1 < mN q41.2)
      (p_let (sI q41.2 v1 5 ((mI q41.2 v1 5) + (q14.1 * q10.1))) fun m44 =>
      p_ok (mK m44 v0 = 13 ∧ v0 < mN m44)
      ((F_X12_finishIfNoneLeft v0 v1 q2.2.1 m44).bind fun q45 =>
      some (0, (v2 - (q14.1 * q10.1)), q45.2)))))))))))))))))
    else (some (0, (-1), q14.2)))))))))
  else (some (q2.1, 0, q2.2.2))))
theorem E_X12_doNextBath {X : p_X} {d : Nat} {Q : p_R → Prop} {v0 : Nat} {v1 : Nat} {v2 : Int32} {μ : p_M} {r : Nat × Int32 × p_M} (h : F_X12_doNextBath v0 v1 v2 μ = some r) (hQ : Q (tI r)) : p_Ev X (d + 3) M_X12_doNextBath 0 [.ref v0, .ref v1, .int v2, .double 0, .double 0, .double 0, .double 0, .double 0, .double 0] [] μ Q := by
  unfold F_X12_doNextBath at h
  refine e_aload_n dX12_doNextBath_0 rfl ?_
  refine e_aload_n dX12_doNextBath_1 rfl ?_
  obtain ⟨h1, h⟩ := p_ok_some h
  refine e_getI dX12_doNextBath_2 rfl rfl h1.1 h1.2 ?_
  obtain ⟨h3, h⟩ := p_ok_some h
  obtain ⟨q2, hq2, h⟩ := p_bd h
  refine f_tVr dX12_doNextBath_5 rfl rfl ⟨rfl, rfl, by decide⟩ rfl h3 (by decide) rfl (fun Q' hQ' => E_X12_lotAt hq2 hQ') (fun hc => ?_) (fun hc => ?_)
  · rw [if_pos hc] at h
    refine e_astore_n dX12_doNextBath_8 (Nat.le_of_ble_eq_true rfl) rfl ?_
    refine e_aload_n dX12_doNextBath_9 rfl ?_
    obtain ⟨h4, h⟩ := p_ok_some h
    obtain ⟨q5, hq5, h⟩ := p_bd h
    refine e_getR dX12_doNextBath_10 rfl rfl h4.1 h4.2 hq5 ?_
    refine e_aload_n dX12_doNextBath_13 rfl ?_
    refine e_getI dX12_doNextBath_14 rfl rfl h4.1 h4.2 ?_
    obtain ⟨h7, h⟩ := p_ok_some h
    obtain ⟨q6, hq6, h⟩ := p_bd h
    refine f_cVi dX12_doNextBath_17 rfl rfl ⟨rfl, rfl, by decide⟩ rfl h7 (fun Q' hQ' => E_X8_bathAt hq6 hQ') ?_
    refine e_istore dX12_doNextBath_20 (Nat.le_of_ble_eq_true rfl) rfl ?_
    refine e_aload_n dX12_doNextBath_22 rfl ?_
    obtain ⟨h8, h⟩ := p_ok_some h
    obtain ⟨q9, hq9, h⟩ := p_bd h
    refine e_getR dX12_doNextBath_23 rfl rfl h8.1 h8.2 hq9 ?_
    refine e_aload_n dX12_doNextBath_26 rfl ?_
    refine e_getI dX12_doNextBath_27 rfl rfl h8.1 h8.2 ?_
    obtain ⟨h11, h⟩ := p_ok_some h
    obtain ⟨q10, hq10, h⟩ := p_bd h
    refine f_cVi dX12_doNextBath_30 rfl rfl ⟨rfl, rfl, by decide⟩ rfl h11 (fun Q' hQ' => E_X8_amountAt hq10 hQ') ?_
    refine e_istore dX12_doNextBath_33 (Nat.le_of_ble_eq_true rfl) rfl ?_
    refine e_aload_n dX12_doNextBath_35 rfl ?_
    obtain ⟨h12, h⟩ := p_ok_some h
    obtain ⟨q13, hq13, h⟩ := p_bd h
    refine e_getR dX12_doNextBath_36 rfl rfl h12.1 h12.2 hq13 ?_
    refine e_bipush (v := (9 : Int32)) dX12_doNextBath_39 rfl ?_
    refine e_iload dX12_doNextBath_41 rfl ?_
    refine e_iadd dX12_doNextBath_43 ?_
    obtain ⟨h15, h⟩ := p_ok_some h
    obtain ⟨q14, hq14, h⟩ := p_bd h
    refine f_cVi dX12_doNextBath_44 rfl rfl ⟨rfl, rfl, by decide⟩ rfl h15 (fun Q' hQ' => E_X1_value hq14 hQ') ?_
    refine e_iload dX12_doNextBath_47 rfl ?_
    refine e_imul dX12_doNextBath_49 ?_
    refine e_istore dX12_doNextBath_50 (Nat.le_of_ble_eq_true rfl) rfl ?_
    refine e_iload dX12_doNextBath_52 rfl ?_
    refine e_iload_n dX12_doNextBath_54 rfl ?_
    refine e_ic_le dX12_doNextBath_55 60 (by decide) (fun hc => ?_) (fun hc => ?_)
    · rw [if_pos hc] at h
      refine e_aload_n dX12_doNextBath_60 rfl ?_
      obtain ⟨h16, h⟩ := p_ok_some h
      refine e_getI dX12_doNextBath_61 rfl rfl h16.1 h16.2 ?_
      refine e_aload_n dX12_doNextBath_64 rfl ?_
      obtain ⟨h17, h⟩ := p_ok_some h
      obtain ⟨q18, hq18, h⟩ := p_bd h
      refine e_getR dX12_doNextBath_65 rfl rfl h17.1 h17.2 hq18 ?_
      refine e_bipush (v := (8 : Int32)) dX12_doNextBath_68 rfl ?_
      obtain ⟨h20, h⟩ := p_ok_some h
      obtain ⟨q19, hq19, h⟩ := p_bd h
      refine f_cVi dX12_doNextBath_70 rfl rfl ⟨rfl, rfl, by decide⟩ rfl h20 (fun Q' hQ' => E_X1_value hq19 hQ') ?_
      refine e_imul dX12_doNextBath_73 ?_
      refine e_istore dX12_doNextBath_74 (Nat.le_of_ble_eq_true rfl) rfl ?_
      refine e_aload_n dX12_doNextBath_76 rfl ?_
      obtain ⟨h21, h⟩ := p_ok_some h
      obtain ⟨q22, hq22, h⟩ := p_bd h
      refine e_getR dX12_doNextBath_77 rfl rfl h21.1 h21.2 hq22 ?_
      refine e_iload dX12_doNextBath_80 rfl ?_
      refine e_aload_n dX12_doNextBath_82 rfl ?_
      obtain ⟨q23, hq23, h⟩ := p_bd h
      refine e_getR dX12_doNextBath_83 rfl rfl h21.1 h21.2 hq23 ?_
      refine e_iconst (v := (0 : Int32)) dX12_doNextBath_86 rfl ?_
      refine e_iload dX12_doNextBath_87 rfl ?_
      refine e_iadd dX12_doNextBath_89 ?_
      obtain ⟨h25, h⟩ := p_ok_some h
      obtain ⟨q24, hq24, h⟩ := p_bd h
      refine f_cVi dX12_doNextBath_90 rfl rfl ⟨rfl, rfl, by decide⟩ rfl h25 (fun Q' hQ' => E_X1_value hq24 hQ') ?_
      obtain ⟨h27, h⟩ := p_ok_some h
      obtain ⟨q26, hq26, h⟩ := p_bd h
      refine f_cVi dX12_doNextBath_93 rfl rfl ⟨rfl, rfl, by decide⟩ rfl h27 (fun Q' hQ' => E_X11_takeOut hq26 hQ') ?_
      refine e_istore dX12_doNextBath_96 (Nat.le_of_ble_eq_true rfl) rfl ?_
      refine e_aload_n dX12_doNextBath_98 rfl ?_
      obtain ⟨h28, h⟩ := p_ok_some h
      obtain ⟨q29, hq29, h⟩ := p_bd h
      refine e_getR dX12_doNextBath_99 rfl rfl h28.1 h28.2 hq29 ?_
      refine e_iload dX12_doNextBath_102 rfl ?_
      refine e_iload dX12_doNextBath_104 rfl ?_
      obtain ⟨h31, h⟩ := p_ok_some h
      obtain ⟨q30, hq30, h⟩ := p_bd h
      refine f_cVv dX12_doNextBath_106 rfl rfl ⟨rfl, rfl, by decide⟩ rfl h31 (fun Q' hQ' => E_X3_take hq30 hQ') ?_
      refine e_aload_n dX12_doNextBath_109 rfl ?_
      refine e_dupR dX12_doNextBath_110 ?_
      obtain ⟨h32, h⟩ := p_ok_some h
      refine e_getI dX12_doNextBath_111 rfl rfl h32.1 h32.2 ?_
      refine e_iconst (v := (1 : Int32)) dX12_doNextBath_114 rfl ?_
      refine e_iadd dX12_doNextBath_115 ?_
      replace h := p_lt h
      refine e_putI dX12_doNextBath_116 rfl ⟨rfl, rfl, (fun _ => rfl)⟩ (fun h => by cases h) h32.1 h32.2 ?_
      refine e_aload_n dX12_doNextBath_119 rfl ?_
      obtain ⟨h34, h⟩ := p_ok_some h
      obtain ⟨q35, hq35, h⟩ := p_bd h
      refine e_getR dX12_doNextBath_120 rfl rfl h34.1 h34.2 hq35 ?_
      refine e_aload_n dX12_doNextBath_123 rfl ?_
      obtain ⟨q36, hq36, h⟩ := p_bd h
      refine e_getR dX12_doNextBath_124 rfl rfl h34.1 h34.2 hq36 ?_
      refine e_iconst (v := (4 : Int32)) dX12_doNextBath_127 rfl ?_
      refine e_iload dX12_doNextBath_128 rfl ?_
      refine e_iadd dX12_doNextBath_130 ?_
      obtain ⟨h38, h⟩ := p_ok_some h
      obtain ⟨q37, hq37, h⟩ := p_bd h
      refine f_cVi dX12_doNextBath_131 rfl rfl ⟨rfl, rfl, by decide⟩ rfl h38 (fun Q' hQ' => E_X1_value hq37 hQ') ?_
      refine e_iload dX12_doNextBath_134 rfl ?_
      refine e_iload dX12_doNextBath_136 rfl ?_
      refine e_aload_n dX12_doNextBath_138 rfl ?_
      obtain ⟨h39, h⟩ := p_ok_some h
      refine e_getI dX12_doNextBath_139 rfl rfl h39.1 h39.2 ?_
      refine e_iload dX12_doNextBath_142 rfl ?_
      refine e_iload dX12_doNextBath_144 rfl ?_
      obtain ⟨q40, hq40, h⟩ := p_bd h
      refine f_cSi dX12_doNextBath_146 rfl rfl rfl rfl (fun Q' hQ' => E_X8_soil hq40 hQ') ?_
      refine e_imul dX12_doNextBath_149 ?_
      refine e_iadd dX12_doNextBath_150 ?_
      obtain ⟨h42, h⟩ := p_ok_some h
      obtain ⟨q41, hq41, h⟩ := p_bd h
      refine f_cVv dX12_doNextBath_151 rfl rfl ⟨rfl, rfl, by decide⟩ rfl h42 (fun Q' hQ' => E_X11_giveBack hq41 hQ') ?_
      refine e_aload_n dX12_doNextBath_154 rfl ?_
      refine e_dupR dX12_doNextBath_155 ?_
      obtain ⟨h43, h⟩ := p_ok_some h
      refine e_getI dX12_doNextBath_156 rfl rfl h43.1 h43.2 ?_
      refine e_iload dX12_doNextBath_159 rfl ?_
      refine e_iadd dX12_doNextBath_161 ?_
      replace h := p_lt h
      refine e_putI dX12_doNextBath_162 rfl ⟨rfl, rfl, (fun _ => rfl)⟩ (fun h => by cases h) h43.1 h43.2 ?_
      refine e_aload_n dX12_doNextBath_165 rfl ?_
      refine e_aload_n dX12_doNextBath_166 rfl ?_
      refine e_aload_n dX12_doNextBath_167 rfl ?_
      obtain ⟨h46, h⟩ := p_ok_some h
      obtain ⟨q45, hq45, h⟩ := p_bd h
      refine f_cVv dX12_doNextBath_168 rfl rfl ⟨rfl, rfl, by decide⟩ rfl h46 (fun Q' hQ' => E_X12_finishIfNoneLeft hq45 hQ') ?_
      refine e_iload_n dX12_doNextBath_171 rfl ?_
      refine e_iload dX12_doNextBath_172 rfl ?_
      refine e_isub dX12_doNextBath_174 ?_
      cases h
      exact e_ireti dX12_doNextBath_175 rfl hQ
    · rw [if_neg hc] at h
      refine e_iconst (v := (-1)) dX12_doNextBath_58 rfl ?_
      cases h
      exact e_ireti dX12_doNextBath_59 rfl hQ
  · rw [if_neg hc] at h
    cases h
    exact tI_E hc hQ
/-! X11_washOut -/
def F_X11_washOut (v0 : Nat) (v1 : Int32) (μ : p_M) : Option (Int32 × p_M) :=
  p_ok (mK μ v0 = 12 ∧ v0 < mN μ)
  (p_let (sI μ v0 4 ((mI μ v0 4) + v1)) fun m2 =>
  (F_X11_runOff v0 v1 v1 m2).bind fun q3 =>
  some (0, q3.2))
theorem E_X11_washOut {X : p_X} {d : Nat} {Q : p_R → Prop} {v0 : Nat} {v1 : Int32} {μ : p_M} {r : Int32 × p_M} (h : F_X11_washOut v0 v1 μ = some r) (hQ : Q ((0, none), r.2)) : p_Ev X (d + 1) M_X11_washOut 0 [.ref v0, .int v1] [] μ Q := by
  unfold F_X11_washOut at h
  refine e_aload_n dX11_washOut_0 rfl ?_
  refine e_dupR dX11_washOut_1 ?_
  obtain ⟨h1, h⟩ := p_ok_some h
  refine e_getI dX11_washOut_2 rfl rfl h1.1 h1.2 ?_
  refine e_iload_n dX11_washOut_5 rfl ?_
  refine e_iadd dX11_washOut_6 ?_
  replace h := p_lt h
  refine e_putI dX11_washOut_7 rfl ⟨rfl, rfl, (fun h => by cases h)⟩ (fun h => by cases h) h1.1 h1.2 ?_
  refine e_aload_n dX11_washOut_10 rfl ?_
  refine e_iload_n dX11_washOut_11 rfl ?_
  refine e_iload_n dX11_washOut_12 rfl ?_
  obtain ⟨q3, hq3, h⟩ := p_bd h
  refine f_cVv dX11_washOut_13 rfl rfl ⟨rfl, rfl, by decide⟩ rfl h1 (fun Q' hQ' => E_X11_runOff hq3 hQ') ?_
  cases h
  exact e_vret dX11_washOut_16 rfl hQ
/-! X2_between -/
def F_X2_between_c20 (s0 : Int32) (μ : p_M) : Option (Int32 × p_M) :=
  some (s0, μ)
theorem E_X2_between_c20 {X : p_X} {d : Nat} {Q : p_R → Prop} {s0 : Int32} {w0 : Value} {w1 : Value} {w2 : Value} {μ : p_M} {r : Int32 × p_M} (h : F_X2_between_c20 s0 μ = some r) (hQ : Q ((0, some (.int r.1)), r.2)) : p_Ev X (d + 0) M_X2_between 20 [w0, w1, w2] [.int s0] μ Q := by
  unfold F_X2_between_c20 at h
  cases h
  exact e_ireti dX2_between_20 rfl hQ
def F_X2_between (v0 : Nat) (v1 : Int32) (v2 : Int32) (μ : p_M) : Option (Int32 × p_M) :=
  if ¬ v1 = (-1)
  then (p_ok (mK μ v0 = 3 ∧ v0 < mN μ)
    ((mR μ v0 0).bind fun q2 =>
    p_ok (q2 < p_E ∧ mK μ q2 = 20 ∧ q2 < mN μ)
    (p_ok (¬ ((v1 * (6 : Int32)) + v2) < 0 ∧ ((v1 * (6 : Int32)) + v2).toNatClampNeg < mL μ q2)
    (F_X2_between_c20 (mI μ q2 ((v1 * (6 : Int32)) + v2).toNatClampNeg) μ))))
  else (F_X2_between_c20 (0 : Int32) μ)
theorem E_X2_between {X : p_X} {d : Nat} {Q : p_R → Prop} {v0 : Nat} {v1 : Int32} {v2 : Int32} {μ : p_M} {r : Int32 × p_M} (h : F_X2_between v0 v1 v2 μ = some r) (hQ : Q ((0, some (.int r.1)), r.2)) : p_Ev X (d + 0) M_X2_between 0 [.ref v0, .int v1, .int v2] [] μ Q := by
  unfold F_X2_between at h
  refine e_iload_n dX2_between_0 rfl ?_
  refine e_iconst (v := (-1)) dX2_between_1 rfl ?_
  refine e_ic_ne dX2_between_2 9 (by decide) (fun hc => ?_) (fun hc => ?_)
  · rw [if_pos hc] at h
    refine e_aload_n dX2_between_9 rfl ?_
    obtain ⟨h1, h⟩ := p_ok_some h
    obtain ⟨q2, hq2, h⟩ := p_bd h
    refine e_getR dX2_between_10 rfl rfl h1.1 h1.2 hq2 ?_
    refine e_iload_n dX2_between_13 rfl ?_
    refine e_bipush (v := (6 : Int32)) dX2_between_14 rfl ?_
    refine e_imul dX2_between_16 ?_
    refine e_iload_n dX2_between_17 rfl ?_
    refine e_iadd dX2_between_18 ?_
    obtain ⟨h3, h⟩ := p_ok_some h
    obtain ⟨h4, h⟩ := p_ok_some h
    refine e_iaG dX2_between_19 h3 h4 ?_
    exact E_X2_between_c20 h hQ
  · rw [if_neg hc] at h
    refine e_iconst (v := (0 : Int32)) dX2_between_5 rfl ?_
    refine e_goto dX2_between_6 20 (by decide) ?_
    exact E_X2_between_c20 h hQ
/-! X12_firstNotBarred -/
def F_X12_firstNotBarred_c2 : Nat → Nat → Nat → Int32 → p_M → Option (Nat × Int32 × p_M)
  | 0, _, _, _, _ => none
  | n + 1, v0, v1, v2, μ =>
    p_ok (mK μ v1 = 6 ∧ v1 < mN μ)
    (if (mI μ v1 2) ≤ v2
    then (some (0, (-1), μ))
    else (p_ok (mK μ v0 = 13 ∧ v0 < mN μ)
      ((mR μ v0 9).bind fun q3 =>
      (mR μ v1 1).bind fun q4 =>
      p_ok (q4 < p_E ∧ mK μ q4 = 20 ∧ q4 < mN μ)
      (p_ok (¬ v2 < 0 ∧ v2.toNatClampNeg < mL μ q4)
      ((F_X12_lotAt v0 (mI μ q4 v2.toNatClampNeg) μ).bind fun q7 =>
      if q7.1 = 0
      then (p_ok (mK q7.2.2 q7.2.1 = 5 ∧ q7.2.1 < mN q7.2.2)
        (p_ok (mK q7.2.2 q3 = 3 ∧ q3 < mN q7.2.2)
        ((F_X2_between q3 (mI μ v1 4) (mI q7.2.2 q7.2.1 2) q7.2.2).bind fun q9 =>
        if q9.1 = (-1)
        then (F_X12_firstNotBarred_c2 n v0 v1 (v2 + (1 : Int32)) q9.2)
        else (some (0, v2, q9.2)))))
      else (some (q7.1, 0, q7.2.2)))))))
theorem E_X12_firstNotBarred_c2 {X : p_X} {d : Nat} {Q : p_R → Prop} : ∀ (n : Nat) (v0 : Nat) (v1 : Nat) (v2 : Int32) (μ : p_M) (r : Nat × Int32 × p_M), F_X12_firstNotBarred_c2 n v0 v1 v2 μ = some r → Q (tI r) → p_Ev X (d + 2) M_X12_firstNotBarred 2 [.ref v0, .ref v1, .int v2] [] μ Q := by
  intro n
  induction n with
  | zero => intro v0 v1 v2 μ r h hQ; rw [F_X12_firstNotBarred_c2] at h; cases h
  | succ n ih =>
    intro v0 v1 v2 μ r h hQ
    rw [F_X12_firstNotBarred_c2] at h
    refine e_iload_n dX12_firstNotBarred_2 rfl ?_
    refine e_aload_n dX12_firstNotBarred_3 rfl ?_
    obtain ⟨h1, h⟩ := p_ok_some h
    refine e_getI dX12_firstNotBarred_4 rfl rfl h1.1 h1.2 ?_
    refine e_ic_ge dX12_firstNotBarred_7 46 (by decide) (fun hc => ?_) (fun hc => ?_)
    · rw [if_pos hc] at h
      refine e_iconst (v := (-1)) dX12_firstNotBarred_46 rfl ?_
      cases h
      exact e_ireti dX12_firstNotBarred_47 rfl hQ
    · rw [if_neg hc] at h
      refine e_aload_n dX12_firstNotBarred_10 rfl ?_
      obtain ⟨h2, h⟩ := p_ok_some h
      obtain ⟨q3, hq3, h⟩ := p_bd h
      refine e_getR dX12_firstNotBarred_11 rfl rfl h2.1 h2.2 hq3 ?_
      refine e_aload_n dX12_firstNotBarred_14 rfl ?_
      refine e_getI dX12_firstNotBarred_15 rfl rfl h1.1 h1.2 ?_
      refine e_aload_n dX12_firstNotBarred_18 rfl ?_
      refine e_aload_n dX12_firstNotBarred_19 rfl ?_
      obtain ⟨q4, hq4, h⟩ := p_bd h
      refine e_getR dX12_firstNotBarred_20 rfl rfl h1.1 h1.2 hq4 ?_
      refine e_iload_n dX12_firstNotBarred_23 rfl ?_
      obtain ⟨h5, h⟩ := p_ok_some h
      obtain ⟨h6, h⟩ := p_ok_some h
      refine e_iaG dX12_firstNotBarred_24 h5 h6 ?_
      obtain ⟨q7, hq7, h⟩ := p_bd h
      refine f_tVr dX12_firstNotBarred_25 rfl rfl ⟨rfl, rfl, by decide⟩ rfl h2 (by decide) rfl (fun Q' hQ' => E_X12_lotAt hq7 hQ') (fun hc => ?_) (fun hc => ?_)
      · rw [if_pos hc] at h
        obtain ⟨h8, h⟩ := p_ok_some h
        refine e_getI dX12_firstNotBarred_28 rfl rfl h8.1 h8.2 ?_
        obtain ⟨h10, h⟩ := p_ok_some h
        obtain ⟨q9, hq9, h⟩ := p_bd h
        refine f_cVi dX12_firstNotBarred_31 rfl rfl ⟨rfl, rfl, by decide⟩ rfl h10 (fun Q' hQ' => E_X2_between hq9 hQ') ?_
        refine e_iconst (v := (-1)) dX12_firstNotBarred_34 rfl ?_
        refine e_ic_eq dX12_firstNotBarred_35 40 (by decide) (fun hc => ?_) (fun hc => ?_)
        · rw [if_pos hc] at h
          refine e_iinc (v := (1 : Int32)) dX12_firstNotBarred_40 rfl rfl rfl ?_
          refine e_goto dX12_firstNotBarred_43 2 (by decide) ?_
          exact ih _ _ _ _ _ h hQ
        · rw [if_neg hc] at h
          refine e_iload_n dX12_firstNotBarred_38 rfl ?_
          cases h
          exact e_ireti dX12_firstNotBarred_39 rfl hQ
      · rw [if_neg hc] at h
        cases h
        exact tI_E hc hQ
def F_X12_firstNotBarred (v0 : Nat) (v1 : Nat) (μ : p_M) : Option (Nat × Int32 × p_M) :=
  F_X12_firstNotBarred_c2 p_fu v0 v1 (0 : Int32) μ
theorem E_X12_firstNotBarred {X : p_X} {d : Nat} {Q : p_R → Prop} {v0 : Nat} {v1 : Nat} {μ : p_M} {r : Nat × Int32 × p_M} (h : F_X12_firstNotBarred v0 v1 μ = some r) (hQ : Q (tI r)) : p_Ev X (d + 2) M_X12_firstNotBarred 0 [.ref v0, .ref v1, .double 0] [] μ Q := by
  unfold F_X12_firstNotBarred at h
  refine e_iconst (v := (0 : Int32)) dX12_firstNotBarred_0 rfl ?_
  refine e_istore_n dX12_firstNotBarred_1 (Nat.le_of_ble_eq_true rfl) rfl ?_
  exact E_X12_firstNotBarred_c2 p_fu _ _ _ _ _ h hQ
/-! X5_takeIn -/
def F_X5_takeIn_c27 : Nat → Nat → Int32 → p_M → Option (Int32 × p_M)
  | 0, _, _, _ => none
  | n + 1, v0, v3, μ =>
    p_ok (mK μ v0 = 6 ∧ v0 < mN μ)
    (if (mI μ v0 2) ≤ v3
    then (some (0, μ))
    else ((mR μ v0 1).bind fun q9 =>
      p_ok (q9 < p_E ∧ mK μ q9 = 20 ∧ q9 < mN μ)
      (p_ok (¬ (v3 + (1 : Int32)) < 0 ∧ (v3 + (1 : Int32)).toNatClampNeg < mL μ q9)
      (p_ok (¬ v3 < 0 ∧ v3.toNatClampNeg < mL μ q9)
      (p_let (sI μ q9 v3.toNatClampNeg (mI μ q9 (v3 + (1 : Int32)).toNatClampNeg)) fun m13 =>
      F_X5_takeIn_c27 n v0 (v3 + (1 : Int32)) m13)))))
theorem E_X5_takeIn_c27 {X : p_X} {d : Nat} {Q : p_R → Prop} : ∀ (n : Nat) (v0 : Nat) (v3 : Int32) (μ : p_M) (r : Int32 × p_M) (w1 : Value) (w2 : Value), F_X5_takeIn_c27 n v0 v3 μ = some r → Q ((0, none), r.2) → p_Ev X (d + 0) M_X5_takeIn 27 [.ref v0, w1, w2, .int v3] [] μ Q := by
  intro n
  induction n with
  | zero => intro v0 v3 μ r w1 w2 h hQ; rw [F_X5_takeIn_c27] at h; cases h
  | succ n ih =>
    intro v0 v3 μ r w1 w2 h hQ
    rw [F_X5_takeIn_c27] at h
    refine e_iload_n dX5_takeIn_27 rfl ?_
    refine e_aload_n dX5_takeIn_28 rfl ?_
    obtain ⟨h8, h⟩ := p_ok_some h
    refine e_getI dX5_takeIn_29 rfl rfl h8.1 h8.2 ?_
    refine e_ic_ge dX5_takeIn_32 55 (by decide) (fun hc => ?_) (fun hc => ?_)
    · rw [if_pos hc] at h
      cases h
      exact e_vret dX5_takeIn_55 rfl hQ
    · rw [if_neg hc] at h
      refine e_aload_n dX5_takeIn_35 rfl ?_
      obtain ⟨q9, hq9, h⟩ := p_bd h
      refine e_getR dX5_takeIn_36 rfl rfl h8.1 h8.2 hq9 ?_
      refine e_iload_n dX5_takeIn_39 rfl ?_
      refine e_aload_n dX5_takeIn_40 rfl ?_
      refine e_getR dX5_takeIn_41 rfl rfl h8.1 h8.2 hq9 ?_
      refine e_iload_n dX5_takeIn_44 rfl ?_
      refine e_iconst (v := (1 : Int32)) dX5_takeIn_45 rfl ?_
      refine e_iadd dX5_takeIn_46 ?_
      obtain ⟨h10, h⟩ := p_ok_some h
      obtain ⟨h11, h⟩ := p_ok_some h
      refine e_iaG dX5_takeIn_47 h10 h11 ?_
      obtain ⟨h12, h⟩ := p_ok_some h
      replace h := p_lt h
      refine e_iaS dX5_takeIn_48 h10 h12 ?_
      refine e_iinc (v := (1 : Int32)) dX5_takeIn_49 rfl rfl rfl ?_
      refine e_goto dX5_takeIn_52 27 (by decide) ?_
      exact ih _ _ _ _ _ _ h hQ
def F_X5_takeIn (v0 : Nat) (v1 : Int32) (v2 : Int32) (μ : p_M) : Option (Int32 × p_M) :=
  p_ok (mK μ v0 = 6 ∧ v0 < mN μ)
  ((mR μ v0 1).bind fun q2 =>
  p_ok (q2 < p_E ∧ mK μ q2 = 20 ∧ q2 < mN μ)
  (p_ok (¬ v1 < 0 ∧ v1.toNatClampNeg < mL μ q2)
  (p_let (sI μ v0 3 (mI μ q2 v1.toNatClampNeg)) fun m5 =>
  p_let (sI m5 v0 4 v2) fun m6 =>
  p_let (sI m6 v0 2 ((mI m6 v0 2) - (1 : Int32))) fun m7 =>
  F_X5_takeIn_c27 p_fu v0 v1 m7)))
theorem E_X5_takeIn {X : p_X} {d : Nat} {Q : p_R → Prop} {v0 : Nat} {v1 : Int32} {v2 : Int32} {μ : p_M} {r : Int32 × p_M} (h : F_X5_takeIn v0 v1 v2 μ = some r) (hQ : Q ((0, none), r.2)) : p_Ev X (d + 0) M_X5_takeIn 0 [.ref v0, .int v1, .int v2, .double 0] [] μ Q := by
  unfold F_X5_takeIn at h
  refine e_aload_n dX5_takeIn_0 rfl ?_
  refine e_aload_n dX5_takeIn_1 rfl ?_
  obtain ⟨h1, h⟩ := p_ok_some h
  obtain ⟨q2, hq2, h⟩ := p_bd h
  refine e_getR dX5_takeIn_2 rfl rfl h1.1 h1.2 hq2 ?_
  refine e_iload_n dX5_takeIn_5 rfl ?_
  obtain ⟨h3, h⟩ := p_ok_some h
  obtain ⟨h4, h⟩ := p_ok_some h
  refine e_iaG dX5_takeIn_6 h3 h4 ?_
  replace h := p_lt h
  refine e_putI dX5_takeIn_7 rfl ⟨rfl, rfl, (fun h => by cases h)⟩ (fun h => by cases h) h1.1 h1.2 ?_
  refine e_aload_n dX5_takeIn_10 rfl ?_
  refine e_iload_n dX5_takeIn_11 rfl ?_
  replace h := p_lt h
  refine e_putI dX5_takeIn_12 rfl ⟨rfl, rfl, (fun h => by cases h)⟩ (fun h => by cases h) h1.1 h1.2 ?_
  refine e_aload_n dX5_takeIn_15 rfl ?_
  refine e_dupR dX5_takeIn_16 ?_
  refine e_getI dX5_takeIn_17 rfl rfl h1.1 h1.2 ?_
  refine e_iconst (v := (1 : Int32)) dX5_takeIn_20 rfl ?_
  refine e_isub dX5_takeIn_21 ?_
  replace h := p_lt h
  refine e_putI dX5_takeIn_22 rfl ⟨rfl, rfl, (fun h => by cases h)⟩ (fun h => by cases h) h1.1 h1.2 ?_
  refine e_iload_n dX5_takeIn_25 rfl ?_
  refine e_istore_n dX5_takeIn_26 (Nat.le_of_ble_eq_true rfl) rfl ?_
  exact E_X5_takeIn_c27 p_fu _ _ _ _ _ _ h hQ
/-! X12_takeNext -/
def F_X12_takeNext (v0 : Nat) (v1 : Nat) (v2 : Int32) (μ : p_M) : Option (Nat × Int32 × p_M) :=
  p_ok (mK μ v0 = 13 ∧ v0 < mN μ)
  ((F_X12_firstNotBarred v0 v1 μ).bind fun q1 =>
  if q1.1 = 0
  then (if ¬ q1.2.1 = (-1)
    then (p_ok (mK q1.2.2 v1 = 6 ∧ v1 < mN q1.2.2)
      ((mR q1.2.2 v1 1).bind fun q4 =>
      p_ok (q4 < p_E ∧ mK q1.2.2 q4 = 20 ∧ q4 < mN q1.2.2)
      (p_ok (¬ q1.2.1 < 0 ∧ q1.2.1.toNatClampNeg < mL q1.2.2 q4)
      (p_ok (mK q1.2.2 v0 = 13 ∧ v0 < mN q1.2.2)
      ((F_X12_lotAt v0 (mI q1.2.2 q4 q1.2.1.toNatClampNeg) q1.2.2).bind fun q7 =>
      if q7.1 = 0
      then (p_ok (mK q7.2.2 v0 = 13 ∧ v0 < mN q7.2.2)
        ((mR q7.2.2 v0 9).bind fun q10 =>
        p_ok (mK q7.2.2 v1 = 6 ∧ v1 < mN q7.2.2)
        (p_ok (mK q7.2.2 q7.2.1 = 5 ∧ q7.2.1 < mN q7.2.2)
        (p_ok (mK q7.2.2 q10 = 3 ∧ q10 < mN q7.2.2)
        ((F_X2_between q10 (mI q7.2.2 v1 4) (mI q7.2.2 q7.2.1 2) q7.2.2).bind fun q13 =>
        if q13.1 ≤ v2
        then (p_ok (mK q13.2 q7.2.1 = 5 ∧ q7.2.1 < mN q13.2)
          (p_ok (mK q13.2 v1 = 6 ∧ v1 < mN q13.2)
          ((F_X5_takeIn v1 q1.2.1 (mI q13.2 q7.2.1 2) q13.2).bind fun q16 =>
          p_ok (mK q16.2 v1 = 6 ∧ v1 < mN q16.2)
          (p_let (sI q16.2 v1 5 ((mI q16.2 v1 5) + q13.1)) fun m19 =>
          p_ok (mK m19 v0 = 13 ∧ v0 < mN m19)
          ((mR m19 v0 10).bind fun q21 =>
          p_ok (mK m19 q21 = 12 ∧ q21 < mN m19)
          ((F_X11_washOut q21 q13.1 m19).bind fun q22 =>
          p_ok (mK q22.2 q7.2.1 = 5 ∧ q7.2.1 < mN q22.2)
          (p_let (sI q22.2 q7.2.1 9 (2 : Int32)) fun m25 =>
          p_ok (mK m25 v0 = 13 ∧ v0 < mN m25)
          ((F_X12_finishIfNoneLeft v0 v1 q7.2.1 m25).bind fun q26 =>
          some (0, (v2 - q13.1), q26.2)))))))))
        else (some (0, (-1), q13.2)))))))
      else (some (q7.1, 0, q7.2.2)))))))
    else (some (0, (-1), q1.2.2)))
  else (some (q1.1, 0, q1.2.2)))
theorem E_X12_takeNext {X : p_X} {d : Nat} {Q : p_R → Prop} {v0 : Nat} {v1 : Nat} {v2 : Int32} {μ : p_M} {r : Nat × Int32 × p_M} (h : F_X12_takeNext v0 v1 v2 μ = some r) (hQ : Q (tI r)) : p_Ev X (d + 3) M_X12_takeNext 0 [.ref v0, .ref v1, .int v2, .double 0, .double 0, .double 0] [] μ Q := by
  unfold F_X12_takeNext at h
  refine e_aload_n dX12_takeNext_0 rfl ?_
  refine e_aload_n dX12_takeNext_1 rfl ?_
  obtain ⟨h2, h⟩ := p_ok_some h
  obtain ⟨q1, hq1, h⟩ := p_bd h
  refine f_tVi dX12_takeNext_2 rfl rfl ⟨rfl, rfl, by decide⟩ rfl h2 (by decide) rfl (fun Q' hQ' => E_X12_firstNotBarred hq1 hQ') (fun hc => ?_) (fun hc => ?_)
  · rw [if_pos hc] at h
    refine e_istore_n dX12_takeNext_5 (Nat.le_of_ble_eq_true rfl) rfl ?_
    refine e_iload_n dX12_takeNext_6 rfl ?_
    refine e_iconst (v := (-1)) dX12_takeNext_7 rfl ?_
    refine e_ic_ne dX12_takeNext_8 13 (by decide) (fun hc => ?_) (fun hc => ?_)
    · rw [if_pos hc] at h
      refine e_aload_n dX12_takeNext_13 rfl ?_
      refine e_aload_n dX12_takeNext_14 rfl ?_
      obtain ⟨h3, h⟩ := p_ok_some h
      obtain ⟨q4, hq4, h⟩ := p_bd h
      refine e_getR dX12_takeNext_15 rfl rfl h3.1 h3.2 hq4 ?_
      refine e_iload_n dX12_takeNext_18 rfl ?_
      obtain ⟨h5, h⟩ := p_ok_some h
      obtain ⟨h6, h⟩ := p_ok_some h
      refine e_iaG dX12_takeNext_19 h5 h6 ?_
      obtain ⟨h8, h⟩ := p_ok_some h
      obtain ⟨q7, hq7, h⟩ := p_bd h
      refine f_tVr dX12_takeNext_20 rfl rfl ⟨rfl, rfl, by decide⟩ rfl h8 (by decide) rfl (fun Q' hQ' => E_X12_lotAt hq7 hQ') (fun hc => ?_) (fun hc => ?_)
      · rw [if_pos hc] at h
        refine e_astore dX12_takeNext_23 (Nat.le_of_ble_eq_true rfl) rfl ?_
        refine e_aload_n dX12_takeNext_25 rfl ?_
        obtain ⟨h9, h⟩ := p_ok_some h
        obtain ⟨q10, hq10, h⟩ := p_bd h
        refine e_getR dX12_takeNext_26 rfl rfl h9.1 h9.2 hq10 ?_
        refine e_aload_n dX12_takeNext_29 rfl ?_
        obtain ⟨h11, h⟩ := p_ok_some h
        refine e_getI dX12_takeNext_30 rfl rfl h11.1 h11.2 ?_
        refine e_aload dX12_takeNext_33 rfl ?_
        obtain ⟨h12, h⟩ := p_ok_some h
        refine e_getI dX12_takeNext_35 rfl rfl h12.1 h12.2 ?_
        obtain ⟨h14, h⟩ := p_ok_some h
        obtain ⟨q13, hq13, h⟩ := p_bd h
        refine f_cVi dX12_takeNext_38 rfl rfl ⟨rfl, rfl, by decide⟩ rfl h14 (fun Q' hQ' => E_X2_between hq13 hQ') ?_
        refine e_istore dX12_takeNext_41 (Nat.le_of_ble_eq_true rfl) rfl ?_
        refine e_iload dX12_takeNext_43 rfl ?_
        refine e_iload_n dX12_takeNext_45 rfl ?_
        refine e_ic_le dX12_takeNext_46 51 (by decide) (fun hc => ?_) (fun hc => ?_)
        · rw [if_pos hc] at h
          refine e_aload_n dX12_takeNext_51 rfl ?_
          refine e_iload_n dX12_takeNext_52 rfl ?_
          refine e_aload dX12_takeNext_53 rfl ?_
          obtain ⟨h15, h⟩ := p_ok_some h
          refine e_getI dX12_takeNext_55 rfl rfl h15.1 h15.2 ?_
          obtain ⟨h17, h⟩ := p_ok_some h
          obtain ⟨q16, hq16, h⟩ := p_bd h
          refine f_cVv dX12_takeNext_58 rfl rfl ⟨rfl, rfl, by decide⟩ rfl h17 (fun Q' hQ' => E_X5_takeIn hq16 hQ') ?_
          refine e_aload_n dX12_takeNext_61 rfl ?_
          refine e_dupR dX12_takeNext_62 ?_
          obtain ⟨h18, h⟩ := p_ok_some h
          refine e_getI dX12_takeNext_63 rfl rfl h18.1 h18.2 ?_
          refine e_iload dX12_takeNext_66 rfl ?_
          refine e_iadd dX12_takeNext_68 ?_
          replace h := p_lt h
          refine e_putI dX12_takeNext_69 rfl ⟨rfl, rfl, (fun _ => rfl)⟩ (fun h => by cases h) h18.1 h18.2 ?_
          refine e_aload_n dX12_takeNext_72 rfl ?_
          obtain ⟨h20, h⟩ := p_ok_some h
          obtain ⟨q21, hq21, h⟩ := p_bd h
          refine e_getR dX12_takeNext_73 rfl rfl h20.1 h20.2 hq21 ?_
          refine e_iload dX12_takeNext_76 rfl ?_
          obtain ⟨h23, h⟩ := p_ok_some h
          obtain ⟨q22, hq22, h⟩ := p_bd h
          refine f_cVv dX12_takeNext_78 rfl rfl ⟨rfl, rfl, by decide⟩ rfl h23 (fun Q' hQ' => E_X11_washOut hq22 hQ') ?_
          refine e_aload dX12_takeNext_81 rfl ?_
          refine e_iconst (v := (2 : Int32)) dX12_takeNext_83 rfl ?_
          obtain ⟨h24, h⟩ := p_ok_some h
          replace h := p_lt h
          refine e_putI dX12_takeNext_84 rfl ⟨rfl, rfl, (fun _ => rfl)⟩ (fun h => by cases h) h24.1 h24.2 ?_
          refine e_aload_n dX12_takeNext_87 rfl ?_
          refine e_aload_n dX12_takeNext_88 rfl ?_
          refine e_aload dX12_takeNext_89 rfl ?_
          obtain ⟨h27, h⟩ := p_ok_some h
          obtain ⟨q26, hq26, h⟩ := p_bd h
          refine f_cVv dX12_takeNext_91 rfl rfl ⟨rfl, rfl, by decide⟩ rfl h27 (fun Q' hQ' => E_X12_finishIfNoneLeft hq26 hQ') ?_
          refine e_iload_n dX12_takeNext_94 rfl ?_
          refine e_iload dX12_takeNext_95 rfl ?_
          refine e_isub dX12_takeNext_97 ?_
          cases h
          exact e_ireti dX12_takeNext_98 rfl hQ
        · rw [if_neg hc] at h
          refine e_iconst (v := (-1)) dX12_takeNext_49 rfl ?_
          cases h
          exact e_ireti dX12_takeNext_50 rfl hQ
      · rw [if_neg hc] at h
        cases h
        exact tI_E hc hQ
    · rw [if_neg hc] at h
      refine e_iconst (v := (-1)) dX12_takeNext_11 rfl ?_
      cases h
      exact e_ireti dX12_takeNext_12 rfl hQ
  · rw [if_neg hc] at h
    cases h
    exact tI_E hc hQ
