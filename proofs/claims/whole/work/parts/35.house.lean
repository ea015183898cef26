/-! HOUSE: tells -/
def okS (f : Nat → Int32) : Prop := (∀ j, j < 4 → ∃ x : Nat, x ≤ 100 ∧ f j = nI x) ∧ (∀ j, j < 4 → f (4 + j) = -1 ∨ ∃ x : Nat, x ≤ 4 ∧ f (4 + j) = nI x) ∧ (∃ x : Nat, 1 ≤ x ∧ x ≤ 20 ∧ f 8 = nI x) ∧ (∀ j, j < 4 → ∃ x : Nat, 1 ≤ x ∧ x ≤ 60 ∧ f (9 + j) = nI x) ∧ (∃ x : Nat, x ≤ 5 ∧ f 13 = nI x) ∧ (∃ x : Nat, x ≤ 2 ∧ f 14 = nI x) ∧ (∃ x : Nat, 1 ≤ x ∧ x ≤ 20 ∧ f 15 = nI x) ∧ (∃ x : Nat, 1 ≤ x ∧ x ≤ 20 ∧ f 16 = nI x) ∧ (∃ x : Nat, x ≤ 50 ∧ f 17 = nI x)
def HouseR (t s : Nat → Int32) (h m : Int32) : Prop := (∀ j, j < 18 → t j = s j) ∧ okS s ∧ ∃ n : Nat, n ≤ 24 ∧ h = nI n ∧ m = nI n
def RHouse (μ : p_M) : Prop := (mR μ 0 5 = some 10 ∧ mR μ 0 6 = some 12 ∧ HouseR (mI μ 11) (mI μ 84) (mI μ 10 1) (mI μ 65 41)) ∨ (mR μ 0 5 = some 12 ∧ mR μ 0 6 = some 10 ∧ HouseR (mI μ 13) (mI μ 84) (mI μ 12 1) (mI μ 65 41))
theorem RHouse_fr {cs ss : List Nat} {μ μ' : p_M} (f : Fr cs ss μ μ') (d : dj cs ss [10, 11, 12, 13, 84] [41] = true) (h : RHouse μ) : RHouse μ' := by
  unfold RHouse at *
  simpa only [f.1, Fr_row f 10 (dj1 d (by decide)), Fr_row f 11 (dj1 d (by decide)), Fr_row f 12 (dj1 d (by decide)), Fr_row f 13 (dj1 d (by decide)), Fr_row f 84 (dj1 d (by decide)), Fr_sc f 41 (dj2 d (by decide))] using h
/-- what the house says, on both sides -/
theorem h_value {μ : p_M} (hS : Sh μ) (hR : RHouse μ) : ∃ r, mR μ 0 5 = some r ∧ (mK μ r = 2 ∧ r < mN μ) ∧ ∀ j : Nat, j < 18 → ∀ v, v = nI j → F_X1_value r v μ = some (mI μ 84 j, μ) := by
  rcases hR with ⟨h1, h2, h3, -⟩ | ⟨h1, h2, h3, -⟩
  · refine ⟨10, h1, s_o10 hS, fun j hj v hv => ?_⟩
    subst hv
    have c1 := nI_pos (show j < 2 ^ 31 by omega)
    have c2 : ¬ nI 18 ≤ nI j := nI_ge hj (by decide)
    have c3 := ix_nI hj (by decide)
    have c4 := nI_clamp (show j < 2 ^ 31 by omega)
    have c5 : 20 ≤ 20 ∧ 20 ≤ 26 := by decide
    simp only [bd_some, p_let_eq, p_ok, mI_sI, mR_sI, mK_sI, mN_sI, mL_sI, mI_sG, mR_sG, mK_sG, mN_sG, mL_sG, mI_sJ, mR_sJ, mK_sJ, mN_sJ, mL_sJ, z_up, ↓reduceIte, and_self, true_and, and_true, false_and, and_false, not_true_eq_false, not_false_eq_true, Nat.reduceEqDiff, i_10, i_20, i_30, w_in, w_need1, w_need0, m_in, m_thr0, m_thr1, tM, aM, nI_1, nI_pred, reduceIte, wp_some, eq_self, bI_T, bI_F, F_X1_value, F_X1_value_c22, F_X1_value_c23, s_o10 hS, s_r10_0 hS, s_a11 hS, s_l11 hS, s_o11 hS, c1, c2, c3, c4, c5, hj, h3 j hj]
  · refine ⟨12, h1, s_o12 hS, fun j hj v hv => ?_⟩
    subst hv
    have c1 := nI_pos (show j < 2 ^ 31 by omega)
    have c2 : ¬ nI 18 ≤ nI j := nI_ge hj (by decide)
    have c3 := ix_nI hj (by decide)
    have c4 := nI_clamp (show j < 2 ^ 31 by omega)
    have c5 : 20 ≤ 20 ∧ 20 ≤ 26 := by decide
    simp only [bd_some, p_let_eq, p_ok, mI_sI, mR_sI, mK_sI, mN_sI, mL_sI, mI_sG, mR_sG, mK_sG, mN_sG, mL_sG, mI_sJ, mR_sJ, mK_sJ, mN_sJ, mL_sJ, z_up, ↓reduceIte, and_self, true_and, and_true, false_and, and_false, not_true_eq_false, not_false_eq_true, Nat.reduceEqDiff, i_10, i_20, i_30, w_in, w_need1, w_need0, m_in, m_thr0, m_thr1, tM, aM, nI_1, nI_pred, reduceIte, wp_some, eq_self, bI_T, bI_F, F_X1_value, F_X1_value_c22, F_X1_value_c23, s_o12 hS, s_r12_0 hS, s_a13 hS, s_l13 hS, s_o13 hS, c1, c2, c3, c4, c5, hj, h3 j hj]
theorem A_tells {μ : p_M} (hS : Sh μ) (hR : RHouse μ) (v : Int32) : wp (F_L_tells 0 v 112 μ) fun k μ1 => wp (F_X13_tells v μ1) fun b μ2 => Post k b μ μ2 ∧ RHouse μ2 ∧ Fr [] [0] μ μ2 := by
  obtain ⟨r, e1, e2, e3⟩ := h_value hS hR
  by_cases c : 0 ≤ v ∧ v ≤ 17
  · obtain ⟨j, -, hj, rfl⟩ := rg3 v 0 17 0 17 rfl rfl (by decide) (by decide) c
    have c3 := ix_nI (show j < 36 by omega) (by decide)
    have c4 := nI_clamp (show j < 2 ^ 31 by omega)
    have c5 : j < 36 := by omega
    simp only [bd_some, p_let_eq, p_ok, mI_sI, mR_sI, mK_sI, mN_sI, mL_sI, mI_sG, mR_sG, mK_sG, mN_sG, mL_sG, mI_sJ, mR_sJ, mK_sJ, mN_sJ, mL_sJ, z_up, ↓reduceIte, and_self, true_and, and_true, false_and, and_false, not_true_eq_false, not_false_eq_true, Nat.reduceEqDiff, i_10, i_20, i_30, w_in, w_need1, w_need0, m_in, m_thr0, m_thr1, tM, aM, nI_1, nI_pred, reduceIte, wp_some, eq_self, bI_T, bI_F, F_L_tells, F_X12_tells, F_X13_tells, F_X13_tells_c21, F_X13_tells_c38, w_what, s_o0 hS, s_r0_0 hS, s_r0_1 hS, s_r0_10 hS, s_r0_11 hS, s_r0_12 hS, s_r0_14 hS, s_r0_16 hS, s_r0_19 hS, s_r0_7 hS, s_r0_8 hS, s_r0_9 hS, s_o112 hS, c, c3, c4, c5, e1, e2, e3 j (by omega) _ rfl]
    have f : Fr [] [0] μ (sI (sJ μ 112 (Int32.toNatClampNeg 0) (mI μ 84 j).toInt64) 65 0 0) := by repeat (first | exact Fr_refl _ | refine Fr_s65 ?_ (by decide) | refine Fr_sI ?_ (by decide) | refine Fr_sA ?_ (by decide) | refine Fr_sJ ?_ | refine Fr_sG ?_)
    exact ⟨⟨rfl, fun _ => rfl, Cn_eq rfl rfl⟩, RHouse_fr f (by decide) hR, f⟩
  · simp only [bd_some, p_let_eq, p_ok, mI_sI, mR_sI, mK_sI, mN_sI, mL_sI, mI_sG, mR_sG, mK_sG, mN_sG, mL_sG, mI_sJ, mR_sJ, mK_sJ, mN_sJ, mL_sJ, z_up, ↓reduceIte, and_self, true_and, and_true, false_and, and_false, not_true_eq_false, not_false_eq_true, Nat.reduceEqDiff, i_10, i_20, i_30, w_in, w_need1, w_need0, m_in, m_thr0, m_thr1, tM, aM, nI_1, nI_pred, reduceIte, wp_some, eq_self, bI_T, bI_F, F_L_tells, F_X12_tells, F_X13_tells, F_X13_tells_c21, F_X13_tells_c38, w_what, s_o0 hS, s_r0_0 hS, s_r0_1 hS, s_r0_10 hS, s_r0_11 hS, s_r0_12 hS, s_r0_14 hS, s_r0_16 hS, s_r0_19 hS, s_r0_7 hS, s_r0_8 hS, s_r0_9 hS, s_o112 hS, c]
    exact ⟨thr_post (by decide), RHouse_fr thr_fr (by decide) hR, thr_fr⟩
