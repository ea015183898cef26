/-! TEXT: fault, end -/
def RText (μ : p_M) : Prop := mI μ 2 = mI μ 66 ∧ mI μ 1 3 = mI μ 65 6 ∧ ∃ n : Nat, n ≤ 400 ∧ mI μ 1 1 = nI n ∧ mI μ 65 2 = nI n
theorem RText_fr {cs ss : List Nat} {μ μ' : p_M} (f : Fr cs ss μ μ') (d : dj cs ss [1, 2, 66] [2, 6] = true) (h : RText μ) : RText μ' := by
  unfold RText at *
  simpa only [f.1, Fr_row f 1 (dj1 d (by decide)), Fr_row f 2 (dj1 d (by decide)), Fr_row f 66 (dj1 d (by decide)), Fr_sc f 2 (dj2 d (by decide)), Fr_sc f 6 (dj2 d (by decide))] using h
theorem A_fault {μ : p_M} (hS : Sh μ) (hR : RText μ) : wp (F_X12_fault 0 μ) fun a μ1 => wp (F_X13_fault μ1) fun b μ2 => a = b ∧ Cn μ μ2 ∧ RText μ2 ∧ Fr [] [0] μ μ2 := by
  have hR0 := hR
  obtain ⟨r1, r2, r3⟩ := hR
  simp only [bd_some, p_let_eq, p_ok, mI_sI, mR_sI, mK_sI, mN_sI, mL_sI, mI_sG, mR_sG, mK_sG, mN_sG, mL_sG, mI_sJ, mR_sJ, mK_sJ, mN_sJ, mL_sJ, z_up, ↓reduceIte, and_self, true_and, and_true, false_and, and_false, not_true_eq_false, not_false_eq_true, Nat.reduceEqDiff, i_10, i_20, i_30, w_in, w_need1, w_need0, m_in, m_thr0, m_thr1, tM, aM, nI_1, nI_pred, reduceIte, wp_some, eq_self, bI_T, bI_F, F_X12_fault, F_X13_fault, s_o0 hS, s_r0_0 hS, s_r0_1 hS, s_r0_10 hS, s_r0_11 hS, s_r0_12 hS, s_r0_14 hS, s_r0_16 hS, s_r0_19 hS, s_r0_7 hS, s_r0_8 hS, s_r0_9 hS, s_o1 hS, s_r1_0 hS, r2]
  have f : Fr [] [0] μ (sI μ 65 0 0) := by repeat (first | exact Fr_refl _ | refine Fr_s65 ?_ (by decide) | refine Fr_sI ?_ (by decide) | refine Fr_sA ?_ (by decide) | refine Fr_sJ ?_ | refine Fr_sG ?_)
  exact ⟨Cn_eq rfl rfl, RText_fr f (by decide) hR0, f⟩
theorem A_end {μ : p_M} (hS : Sh μ) (hR : RText μ) (v : Int32) : wp (F_X12_end 0 v μ) fun a μ1 => wp (F_X13_end v μ1) fun b μ2 => a = b ∧ Cn μ μ2 ∧ RText μ2 ∧ Fr [1] [0, 2] μ μ2 := by
  have hR0 := hR
  obtain ⟨r1, r2, n, hn, e1, e2⟩ := hR
  have f : Fr [] [0] μ (sI μ 65 0 0) := by repeat (first | exact Fr_refl _ | refine Fr_s65 ?_ (by decide) | refine Fr_sI ?_ (by decide) | refine Fr_sA ?_ (by decide) | refine Fr_sJ ?_ | refine Fr_sG ?_)
  by_cases c : 0 ≤ v ∧ v ≤ nI n
  · have c0 : ¬ v < 0 := i_nlt.mpr c.1
    simp only [bd_some, p_let_eq, p_ok, mI_sI, mR_sI, mK_sI, mN_sI, mL_sI, mI_sG, mR_sG, mK_sG, mN_sG, mL_sG, mI_sJ, mR_sJ, mK_sJ, mN_sJ, mL_sJ, z_up, ↓reduceIte, and_self, true_and, and_true, false_and, and_false, not_true_eq_false, not_false_eq_true, Nat.reduceEqDiff, i_10, i_20, i_30, w_in, w_need1, w_need0, m_in, m_thr0, m_thr1, tM, aM, nI_1, nI_pred, reduceIte, wp_some, eq_self, bI_T, bI_F, F_X12_end, F_X13_end, F_X13_end_c17, s_o0 hS, s_r0_0 hS, s_r0_1 hS, s_r0_10 hS, s_r0_11 hS, s_r0_12 hS, s_r0_14 hS, s_r0_16 hS, s_r0_19 hS, s_r0_7 hS, s_r0_8 hS, s_r0_9 hS, s_o1 hS, s_r1_0 hS, e1, e2, c, c0]
    refine ⟨Cn_eq rfl rfl, ?_, ?_⟩
    · unfold RText
      simp only [mI_sI, mR_sI, mK_sI, mN_sI, mL_sI, mI_sG, mR_sG, mK_sG, mN_sG, mL_sG, mI_sJ, mR_sJ, mK_sJ, mN_sJ, mL_sJ, mI_sA, mR_sA, mK_sA, mN_sA, mL_sA, z_up, ↓reduceIte, reduceIte, Nat.reduceEqDiff, true_and, and_true, r1, r2]
      obtain ⟨j, -, hj, rfl⟩ := rg3 v 0 n 0 (nI n) rfl rfl (by omega) (by decide) c
      exact ⟨j, by omega, rfl, rfl⟩
    · repeat (first | exact Fr_refl _ | refine Fr_s65 ?_ (by decide) | refine Fr_sI ?_ (by decide) | refine Fr_sA ?_ (by decide) | refine Fr_sJ ?_ | refine Fr_sG ?_)
  · by_cases c0 : v < 0
    · simp only [bd_some, p_let_eq, p_ok, mI_sI, mR_sI, mK_sI, mN_sI, mL_sI, mI_sG, mR_sG, mK_sG, mN_sG, mL_sG, mI_sJ, mR_sJ, mK_sJ, mN_sJ, mL_sJ, z_up, ↓reduceIte, and_self, true_and, and_true, false_and, and_false, not_true_eq_false, not_false_eq_true, Nat.reduceEqDiff, i_10, i_20, i_30, w_in, w_need1, w_need0, m_in, m_thr0, m_thr1, tM, aM, nI_1, nI_pred, reduceIte, wp_some, eq_self, bI_T, bI_F, F_X12_end, F_X13_end, F_X13_end_c17, s_o0 hS, s_r0_0 hS, s_r0_1 hS, s_r0_10 hS, s_r0_11 hS, s_r0_12 hS, s_r0_14 hS, s_r0_16 hS, s_r0_19 hS, s_r0_7 hS, s_r0_8 hS, s_r0_9 hS, s_o1 hS, s_r1_0 hS, e1, e2, c, c0]
      exact ⟨Cn_eq rfl rfl, RText_fr f (by decide) hR0, Fr_mono f (by decide) (by decide)⟩
    · have c2 : ¬ v ≤ nI n := fun e => c ⟨i_nlt.mp c0, e⟩
      simp only [bd_some, p_let_eq, p_ok, mI_sI, mR_sI, mK_sI, mN_sI, mL_sI, mI_sG, mR_sG, mK_sG, mN_sG, mL_sG, mI_sJ, mR_sJ, mK_sJ, mN_sJ, mL_sJ, z_up, ↓reduceIte, and_self, true_and, and_true, false_and, and_false, not_true_eq_false, not_false_eq_true, Nat.reduceEqDiff, i_10, i_20, i_30, w_in, w_need1, w_need0, m_in, m_thr0, m_thr1, tM, aM, nI_1, nI_pred, reduceIte, wp_some, eq_self, bI_T, bI_F, F_X12_end, F_X13_end, F_X13_end_c17, s_o0 hS, s_r0_0 hS, s_r0_1 hS, s_r0_10 hS, s_r0_11 hS, s_r0_12 hS, s_r0_14 hS, s_r0_16 hS, s_r0_19 hS, s_r0_7 hS, s_r0_8 hS, s_r0_9 hS, s_o1 hS, s_r1_0 hS, e1, e2, c, c0, c2]
      exact ⟨Cn_eq rfl rfl, RText_fr f (by decide) hR0, Fr_mono f (by decide) (by decide)⟩
