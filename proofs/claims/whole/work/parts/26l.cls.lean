/-! X12_order -/
def F_X12_order (v0 : Nat) (μ : p_M) : Option (Int32 × p_M) :=
  p_ok (mK μ v0 = 13 ∧ v0 < mN μ)
  ((mR μ v0 9).bind fun q2 =>
  p_ok (mK μ q2 = 3 ∧ q2 < mN μ)
  ((F_X2_leastSum q2 μ).bind fun q3 =>
  some (q3.1, q3.2)))
theorem E_X12_order {X : p_X} {d : Nat} {Q : p_R → Prop} {v0 : Nat} {μ : p_M} {r : Int32 × p_M} (h : F_X12_order v0 μ = some r) (hQ : Q ((0, some (.int r.1)), r.2)) : p_Ev X (d + 3) M_X12_order 0 [.ref v0] [] μ Q := by
  unfold F_X12_order at h
  refine e_aload_n dX12_order_0 rfl ?_
  obtain ⟨h1, h⟩ := p_ok_some h
  obtain ⟨q2, hq2, h⟩ := p_bd h
  refine e_getR dX12_order_1 rfl rfl h1.1 h1.2 hq2 ?_
  obtain ⟨h4, h⟩ := p_ok_some h
  obtain ⟨q3, hq3, h⟩ := p_bd h
  refine f_cVi dX12_order_4 rfl rfl ⟨rfl, rfl, by decide⟩ rfl h4 (fun Q' hQ' => E_X2_leastSum hq3 hQ') ?_
  cases h
  exact e_ireti dX12_order_7 rfl hQ
/-! X7_bestTurn -/
def F_X7_bestTurn_c25 (K4 : Nat → Int32 → Int32 → p_M → Option (Int32 × p_M)) (v0 : Nat) (v1 : Int32) (v2 : Int32) (μ : p_M) : Option (Int32 × p_M) :=
  K4 v0 v1 (v2 + (1 : Int32)) μ
theorem E_X7_bestTurn_c25 {X : p_X} {d : Nat} {Q : p_R → Prop} {K4 : Nat → Int32 → Int32 → p_M → Option (Int32 × p_M)} (hK4 : ∀ (v0 : Nat) (v1 : Int32) (v2 : Int32) (μ : p_M) (r : Int32 × p_M), K4 v0 v1 v2 μ = some r → Q ((0, some (.int r.1)), r.2) → p_Ev X (d + 1) M_X7_bestTurn 4 [.ref v0, .int v1, .int v2] [] μ Q) {v0 : Nat} {v1 : Int32} {v2 : Int32} {μ : p_M} {r : Int32 × p_M} (h : F_X7_bestTurn_c25 K4 v0 v1 v2 μ = some r) (hQ : Q ((0, some (.int r.1)), r.2)) : p_Ev X (d + 1) M_X7_bestTurn 25 [.ref v0, .int v1, .int v2] [] μ Q := by
  unfold F_X7_bestTurn_c25 at h
  refine e_iinc (v := (1 : Int32)) dX7_bestTurn_25 rfl rfl rfl ?_
  refine e_goto dX7_bestTurn_28 4 (by decide) ?_
  exact hK4 _ _ _ _ _ h hQ
def F_X7_bestTurn_c4 : Nat → Nat → Int32 → Int32 → p_M → Option (Int32 × p_M)
  | 0, _, _, _, _ => none
  | n + 1, v0, v1, v2, μ =>
    if (8 : Int32) ≤ v2
    then (some (v1, μ))
    else (p_ok (mK μ v0 = 8 ∧ v0 < mN μ)
      ((F_X7_unlike v0 v2 μ).bind fun q1 =>
      p_ok (mK q1.2 v0 = 8 ∧ v0 < mN q1.2)
      ((F_X7_unlike v0 v1 q1.2).bind fun q3 =>
      if q3.1 ≤ q1.1
      then (F_X7_bestTurn_c25 (F_X7_bestTurn_c4 n) v0 v1 v2 q3.2)
      else (F_X7_bestTurn_c25 (F_X7_bestTurn_c4 n) v0 v2 v2 q3.2))))
theorem E_X7_bestTurn_c4 {X : p_X} {d : Nat} {Q : p_R → Prop} : ∀ (n : Nat) (v0 : Nat) (v1 : Int32) (v2 : Int32) (μ : p_M) (r : Int32 × p_M), F_X7_bestTurn_c4 n v0 v1 v2 μ = some r → Q ((0, some (.int r.1)), r.2) → p_Ev X (d + 1) M_X7_bestTurn 4 [.ref v0, .int v1, .int v2] [] μ Q := by
  intro n
  induction n with
  | zero => intro v0 v1 v2 μ r h hQ; rw [F_X7_bestTurn_c4] at h; cases h
  | succ n ih =>
    intro v0 v1 v2 μ r h hQ
    rw [F_X7_bestTurn_c4] at h
    refine e_iload_n dX7_bestTurn_4 rfl ?_
    refine e_bipush (v := (8 : Int32)) dX7_bestTurn_5 rfl ?_
    refine e_ic_ge dX7_bestTurn_7 31 (by decide) (fun hc => ?_) (fun hc => ?_)
    · rw [if_pos hc] at h
      refine e_iload_n dX7_bestTurn_31 rfl ?_
      cases h
      exact e_ireti dX7_bestTurn_32 rfl hQ
    · rw [if_neg hc] at h
      refine e_aload_n dX7_bestTurn_10 rfl ?_
      refine e_iload_n dX7_bestTurn_11 rfl ?_
      obtain ⟨h2, h⟩ := p_ok_some h
      obtain ⟨q1, hq1, h⟩ := p_bd h
      refine f_cVi dX7_bestTurn_12 rfl rfl ⟨rfl, rfl, by decide⟩ rfl h2 (fun Q' hQ' => E_X7_unlike hq1 hQ') ?_
      refine e_aload_n dX7_bestTurn_15 rfl ?_
      refine e_iload_n dX7_bestTurn_16 rfl ?_
      obtain ⟨h4, h⟩ := p_ok_some h
      obtain ⟨q3, hq3, h⟩ := p_bd h
      refine f_cVi dX7_bestTurn_17 rfl rfl ⟨rfl, rfl, by decide⟩ rfl h4 (fun Q' hQ' => E_X7_unlike hq3 hQ') ?_
      refine e_ic_ge dX7_bestTurn_20 25 (by decide) (fun hc => ?_) (fun hc => ?_)
      · rw [if_pos hc] at h
        exact E_X7_bestTurn_c25 ih h hQ
      · rw [if_neg hc] at h
        refine e_iload_n dX7_bestTurn_23 rfl ?_
        refine e_istore_n dX7_bestTurn_24 (Nat.le_of_ble_eq_true rfl) rfl ?_
        exact E_X7_bestTurn_c25 ih h hQ
def F_X7_bestTurn (v0 : Nat) (μ : p_M) : Option (Int32 × p_M) :=
  F_X7_bestTurn_c4 p_fu v0 (0 : Int32) (1 : Int32) μ
theorem E_X7_bestTurn {X : p_X} {d : Nat} {Q : p_R → Prop} {v0 : Nat} {μ : p_M} {r : Int32 × p_M} (h : F_X7_bestTurn v0 μ = some r) (hQ : Q ((0, some (.int r.1)), r.2)) : p_Ev X (d + 1) M_X7_bestTurn 0 [.ref v0, .double 0, .double 0] [] μ Q := by
  unfold F_X7_bestTurn at h
  refine e_iconst (v := (0 : Int32)) dX7_bestTurn_0 rfl ?_
  refine e_istore_n dX7_bestTurn_1 (Nat.le_of_ble_eq_true rfl) rfl ?_
  refine e_iconst (v := (1 : Int32)) dX7_bestTurn_2 rfl ?_
  refine e_istore_n dX7_bestTurn_3 (Nat.le_of_ble_eq_true rfl) rfl ?_
  exact E_X7_bestTurn_c4 p_fu _ _ _ _ _ h hQ
/-! X12_shift -/
def F_X12_shift (v0 : Nat) (μ : p_M) : Option (Int32 × p_M) :=
  p_ok (mK μ v0 = 13 ∧ v0 < mN μ)
  ((mR μ v0 19).bind fun q2 =>
  p_ok (mK μ q2 = 8 ∧ q2 < mN μ)
  ((F_X7_bestTurn q2 μ).bind fun q3 =>
  some (q3.1, q3.2)))
theorem E_X12_shift {X : p_X} {d : Nat} {Q : p_R → Prop} {v0 : Nat} {μ : p_M} {r : Int32 × p_M} (h : F_X12_shift v0 μ = some r) (hQ : Q ((0, some (.int r.1)), r.2)) : p_Ev X (d + 2) M_X12_shift 0 [.ref v0] [] μ Q := by
  unfold F_X12_shift at h
  refine e_aload_n dX12_shift_0 rfl ?_
  obtain ⟨h1, h⟩ := p_ok_some h
  obtain ⟨q2, hq2, h⟩ := p_bd h
  refine e_getR dX12_shift_1 rfl rfl h1.1 h1.2 hq2 ?_
  obtain ⟨h4, h⟩ := p_ok_some h
  obtain ⟨q3, hq3, h⟩ := p_bd h
  refine f_cVi dX12_shift_4 rfl rfl ⟨rfl, rfl, by decide⟩ rfl h4 (fun Q' hQ' => E_X7_bestTurn hq3 hQ') ?_
  cases h
  exact e_ireti dX12_shift_7 rfl hQ
