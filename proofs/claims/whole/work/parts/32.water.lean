/-! WATER -/
def RWater (μ : p_M) : Prop := ∃ n : Nat, n ≤ 5 ∧ mI μ 30 3 = nI n ∧ mI μ 65 30 = nI n ∧ mI μ 31 = mI μ 80 ∧ mI μ 32 = mI μ 81 ∧ mI μ 33 = mI μ 82 ∧ mI μ 30 4 = mI μ 65 31 ∧ mI μ 30 6 = mI μ 65 32 ∧ mI μ 30 7 = mI μ 65 33 ∧ mI μ 30 8 = mI μ 65 34 ∧ (∀ j, j < 5 → ∃ w h : Nat, mI μ 32 j = nI w ∧ mI μ 31 j = nI h ∧ w ≤ h ∧ h ≤ 1000 ∧ (n ≤ j → w = 0))
theorem RWater_fr {cs ss : List Nat} {μ μ' : p_M} (f : Fr cs ss μ μ') (d : dj cs ss [30, 31, 32, 33, 80, 81, 82] [30, 31, 32, 33, 34] = true) (h : RWater μ) : RWater μ' := by
  unfold RWater at *
  simpa only [f.1, Fr_row f 30 (dj1 d (by decide)), Fr_row f 31 (dj1 d (by decide)), Fr_row f 32 (dj1 d (by decide)), Fr_row f 33 (dj1 d (by decide)), Fr_row f 80 (dj1 d (by decide)), Fr_row f 81 (dj1 d (by decide)), Fr_row f 82 (dj1 d (by decide)), Fr_sc f 30 (dj2 d (by decide)), Fr_sc f 31 (dj2 d (by decide)), Fr_sc f 32 (dj2 d (by decide)), Fr_sc f 33 (dj2 d (by decide)), Fr_sc f 34 (dj2 d (by decide))] using h
theorem A_tank {μ : p_M} (hS : Sh μ) (hR : RWater μ) (v : Int32) : wp (F_L_tank 0 v 112 μ) fun k μ1 => wp (F_X13_tank v μ1) fun b μ2 => Post k b μ μ2 ∧ RWater μ2 ∧ Fr [30, 31, 80] [0, 30] μ μ2 := by
  have hR0 := hR
  obtain ⟨n, hn, e1, e2, e3, e4, e5, e6, e7, e8, e9, hb⟩ := hR
  by_cases c1 : 1 ≤ v ∧ v ≤ 1000
  · by_cases c2 : n < 5
    · have hi := ix_nI c2 (by decide)
      have hc := nI_clamp (show n < 2 ^ 31 by omega)
      have hlt : nI n < 5 := nI_lt c2 (by decide)
      have hne : ¬ nI n = 5 := fun e => by have := (nI_eq (show n < 2 ^ 31 by omega) (show 5 < 2 ^ 31 by decide)).mp e; omega
      simp only [bd_some, p_let_eq, p_ok, mI_sI, mR_sI, mK_sI, mN_sI, mL_sI, mI_sG, mR_sG, mK_sG, mN_sG, mL_sG, mI_sJ, mR_sJ, mK_sJ, mN_sJ, mL_sJ, z_up, ↓reduceIte, and_self, true_and, and_true, false_and, and_false, not_true_eq_false, not_false_eq_true, Nat.reduceEqDiff, i_10, i_20, i_30, w_in, w_need1, w_need0, m_in, m_thr0, m_thr1, tM, aM, nI_1, nI_pred, reduceIte, wp_some, eq_self, bI_T, bI_F, F_L_tank, F_X12_tank, F_X11_add, F_X13_tank, F_X13_tank_c22, F_X13_tank_c43, F_X13_tank_c50, w_room, s_o0 hS, s_o30 hS, s_r0_10 hS, s_r30_0 hS, s_a31 hS, s_l31 hS, s_o112 hS, bI_pos c1, e1, e2, hi, hc, hlt, hne, c2]
      refine ⟨⟨rfl, fun _ => rfl, Cn_eq rfl rfl⟩, ?_, ?_⟩
      · unfold RWater
        simp only [mI_sI, mR_sI, mK_sI, mN_sI, mL_sI, mI_sG, mR_sG, mK_sG, mN_sG, mL_sG, mI_sJ, mR_sJ, mK_sJ, mN_sJ, mL_sJ, mI_sA, mR_sA, mK_sA, mN_sA, mL_sA, z_up, ↓reduceIte, reduceIte, Nat.reduceEqDiff, true_and, and_true, e3, e4, e5, e6, e7, e8, e9]
        refine ⟨n + 1, by omega, rfl, rfl, fun j hj => ?_⟩
        obtain ⟨w, h, g1, g2, g3, g4, g5⟩ := hb j hj
        rw [e4] at g1
        rw [e3] at g2
        by_cases ej : j = n
        · subst ej
          rw [if_pos rfl]
          obtain ⟨u, hu, rfl⟩ := nI_of2 (n := 1000) (by decide) (i_nlt.mpr (by rw [Int32.le_iff_toInt_le] at *; exact Int.le_trans (by decide) c1.1)) c1.2
          exact ⟨w, u, g1, rfl, by have := g5 (Nat.le_refl _); omega, hu, fun e => by omega⟩
        · rw [if_neg ej]
          exact ⟨w, h, g1, g2, g3, g4, fun e => g5 (by omega)⟩
      · repeat (first | exact Fr_refl _ | refine Fr_s65 ?_ (by decide) | refine Fr_sI ?_ (by decide) | refine Fr_sA ?_ (by decide) | refine Fr_sJ ?_ | refine Fr_sG ?_)
    · have hn5 : n = 5 := by omega
      subst hn5
      have e1 : mI μ 30 3 = 5 := e1
      have e2 : mI μ 65 30 = 5 := e2
      have hlt : ¬ (5 : Int32) < 5 := by decide
      simp only [bd_some, p_let_eq, p_ok, mI_sI, mR_sI, mK_sI, mN_sI, mL_sI, mI_sG, mR_sG, mK_sG, mN_sG, mL_sG, mI_sJ, mR_sJ, mK_sJ, mN_sJ, mL_sJ, z_up, ↓reduceIte, and_self, true_and, and_true, false_and, and_false, not_true_eq_false, not_false_eq_true, Nat.reduceEqDiff, i_10, i_20, i_30, w_in, w_need1, w_need0, m_in, m_thr0, m_thr1, tM, aM, nI_1, nI_pred, reduceIte, wp_some, eq_self, bI_T, bI_F, F_L_tank, F_X12_tank, F_X11_add, F_X13_tank, F_X13_tank_c22, F_X13_tank_c43, F_X13_tank_c50, w_room, s_o0 hS, s_o30 hS, s_r0_10 hS, s_r30_0 hS, s_a31 hS, s_l31 hS, s_o112 hS, bI_pos c1, e1, e2, hlt]
      exact ⟨thr_post (by decide), RWater_fr thr_fr (by decide) hR0, Fr_mono thr_fr (by decide) (by decide)⟩
  · simp only [bd_some, p_let_eq, p_ok, mI_sI, mR_sI, mK_sI, mN_sI, mL_sI, mI_sG, mR_sG, mK_sG, mN_sG, mL_sG, mI_sJ, mR_sJ, mK_sJ, mN_sJ, mL_sJ, z_up, ↓reduceIte, and_self, true_and, and_true, false_and, and_false, not_true_eq_false, not_false_eq_true, Nat.reduceEqDiff, i_10, i_20, i_30, w_in, w_need1, w_need0, m_in, m_thr0, m_thr1, tM, aM, nI_1, nI_pred, reduceIte, wp_some, eq_self, bI_T, bI_F, F_L_tank, F_X12_tank, F_X11_add, F_X13_tank, F_X13_tank_c22, F_X13_tank_c43, F_X13_tank_c50, w_room, s_o0 hS, bI_neg c1]
    exact ⟨thr_post (by decide), RWater_fr thr_fr (by decide) hR0, Fr_mono thr_fr (by decide) (by decide)⟩
