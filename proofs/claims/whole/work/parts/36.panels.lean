/-! PANELS -/
def RPan (μ : p_M) : Prop := (∃ w h : Nat, 1 ≤ w ∧ w ≤ 6 ∧ 1 ≤ h ∧ h ≤ 4 ∧ mI μ 46 1 = nI w ∧ mI μ 65 76 = nI w ∧ mI μ 46 2 = nI h ∧ mI μ 65 77 = nI h) ∧ mI μ 47 = mI μ 110 ∧ ∀ j, j < 96 → mI μ 49 j = mI μ 111 j ∧ mI μ 50 j = mI μ 111 (96 + j)
theorem RPan_fr {cs ss : List Nat} {μ μ' : p_M} (f : Fr cs ss μ μ') (d : dj cs ss [46, 47, 49, 50, 110, 111] [76, 77] = true) (h : RPan μ) : RPan μ' := by
  unfold RPan at *
  simpa only [f.1, Fr_row f 46 (dj1 d (by decide)), Fr_row f 47 (dj1 d (by decide)), Fr_row f 49 (dj1 d (by decide)), Fr_row f 50 (dj1 d (by decide)), Fr_row f 110 (dj1 d (by decide)), Fr_row f 111 (dj1 d (by decide)), Fr_sc f 76 (dj2 d (by decide)), Fr_sc f 77 (dj2 d (by decide))] using h
theorem mul2 (k a b : Nat) : nI k * nI a + nI b = nI (k * a + b) := by rw [pk_mul, nI_add]
theorem mul2' (k a b : Nat) : nI a * nI k + nI b = nI (k * a + b) := by rw [pk_mul, nI_add, Nat.mul_comm]
theorem A_heat {μ : p_M} (hS : Sh μ) (hR : RPan μ) (x y v : Int32) : wp (F_L_heat 0 x y v 112 μ) fun k μ1 => wp (F_X13_heat x y v μ1) fun b μ2 => PostZ k b μ μ2 ∧ RPan μ2 ∧ Fr [47, 110] [0] μ μ2 := by
  have hR0 := hR
  obtain ⟨⟨w, h, w1, w2, h1, h2, e1, e2, e3, e4⟩, e5, e6⟩ := hR
  by_cases c1 : 0 ≤ x ∧ x ≤ nI w - 1
  · by_cases c2 : 0 ≤ y ∧ y ≤ nI h - 1
    · by_cases c3 : 0 ≤ v ∧ v ≤ 9
      · rcases ix3 x (nI w) (nI w - 1) w (by omega) rfl rfl with ⟨-, d⟩ | ⟨i, hi, rfl, -, -, -, -⟩
        · exact absurd c1 d
        rcases ix3 y (nI h) (nI h - 1) h (by omega) rfl rfl with ⟨-, d⟩ | ⟨j, hj, rfl, -, -, -, -⟩
        · exact absurd c2 d
        have m1 : nI j * 6 + nI i = nI (6 * j + i) := mul2' 6 j i
        have m2 : 6 * nI j + nI i = nI (6 * j + i) := mul2 6 j i
        have hx := ix_nI (show 6 * j + i < 24 by omega) (by decide)
        have hc := nI_clamp (show 6 * j + i < 2 ^ 31 by omega)
        have hlt : 6 * j + i < 24 := by omega
        have ho : (0 : Int32) = 0 ∨ (0 : Int32) = 1 := by decide
        have ho1 : (1 : Int32) = 0 ∨ (1 : Int32) = 1 := by decide
        by_cases cv : mI μ 110 (6 * j + i) = v
        · simp only [bd_some, p_let_eq, p_ok, mI_sI, mR_sI, mK_sI, mN_sI, mL_sI, mI_sG, mR_sG, mK_sG, mN_sG, mL_sG, mI_sJ, mR_sJ, mK_sJ, mN_sJ, mL_sJ, z_up, ↓reduceIte, and_self, true_and, and_true, false_and, and_false, not_true_eq_false, not_false_eq_true, Nat.reduceEqDiff, i_10, i_20, i_30, w_in, w_need1, w_need0, m_in, m_thr0, m_thr1, tM, aM, nI_1, nI_pred, reduceIte, wp_some, eq_self, bI_T, bI_F, F_L_heat, F_L_heat_c18, F_X12_heat, F_X12_heat_c48, F_X12_heat_c49, F_X13_heat, F_X13_heat_c44, F_X13_heat_c49, F_X13_heat_c78, F_X7_setHeat, F_X7_setHeat_c24, s_o0 hS, s_r0_0 hS, s_r0_1 hS, s_r0_10 hS, s_r0_11 hS, s_r0_12 hS, s_r0_14 hS, s_r0_16 hS, s_r0_19 hS, s_r0_7 hS, s_r0_8 hS, s_r0_9 hS, s_o46 hS, s_r46_0 hS, s_r46_3 hS, s_a47 hS, s_l47 hS, s_o47 hS, s_o112 hS, e1, e2, e3, e4, e5, c1, c2, c3, m1, m2, hx, hc, hlt, cv, ho, ho1, or_true, true_or]
          refine ⟨⟨rfl, fun _ => rfl, Cn_eq rfl rfl⟩, ?_, ?_⟩
          · unfold RPan
            simp only [mI_sI, mR_sI, mK_sI, mN_sI, mL_sI, mI_sG, mR_sG, mK_sG, mN_sG, mL_sG, mI_sJ, mR_sJ, mK_sJ, mN_sJ, mL_sJ, mI_sA, mR_sA, mK_sA, mN_sA, mL_sA, z_up, ↓reduceIte, reduceIte, Nat.reduceEqDiff, true_and, and_true, e1, e2, e3, e4, e5]
            exact ⟨⟨w, h, w1, w2, h1, h2, rfl, rfl, rfl, rfl⟩, e6⟩
          · repeat (first | exact Fr_refl _ | refine Fr_s65 ?_ (by decide) | refine Fr_sI ?_ (by decide) | refine Fr_sA ?_ (by decide) | refine Fr_sJ ?_ | refine Fr_sG ?_)
        · simp only [bd_some, p_let_eq, p_ok, mI_sI, mR_sI, mK_sI, mN_sI, mL_sI, mI_sG, mR_sG, mK_sG, mN_sG, mL_sG, mI_sJ, mR_sJ, mK_sJ, mN_sJ, mL_sJ, z_up, ↓reduceIte, and_self, true_and, and_true, false_and, and_false, not_true_eq_false, not_false_eq_true, Nat.reduceEqDiff, i_10, i_20, i_30, w_in, w_need1, w_need0, m_in, m_thr0, m_thr1, tM, aM, nI_1, nI_pred, reduceIte, wp_some, eq_self, bI_T, bI_F, F_L_heat, F_L_heat_c18, F_X12_heat, F_X12_heat_c48, F_X12_heat_c49, F_X13_heat, F_X13_heat_c44, F_X13_heat_c49, F_X13_heat_c78, F_X7_setHeat, F_X7_setHeat_c24, s_o0 hS, s_r0_0 hS, s_r0_1 hS, s_r0_10 hS, s_r0_11 hS, s_r0_12 hS, s_r0_14 hS, s_r0_16 hS, s_r0_19 hS, s_r0_7 hS, s_r0_8 hS, s_r0_9 hS, s_o46 hS, s_r46_0 hS, s_r46_3 hS, s_a47 hS, s_l47 hS, s_o47 hS, s_o112 hS, e1, e2, e3, e4, e5, c1, c2, c3, m1, m2, hx, hc, hlt, cv, ho, ho1, or_true, true_or]
          refine ⟨⟨rfl, fun _ => rfl, Cn_eq rfl rfl⟩, ?_, ?_⟩
          · unfold RPan
            simp only [mI_sI, mR_sI, mK_sI, mN_sI, mL_sI, mI_sG, mR_sG, mK_sG, mN_sG, mL_sG, mI_sJ, mR_sJ, mK_sJ, mN_sJ, mL_sJ, mI_sA, mR_sA, mK_sA, mN_sA, mL_sA, z_up, ↓reduceIte, reduceIte, Nat.reduceEqDiff, true_and, and_true, e1, e2, e3, e4, e5]
            exact ⟨⟨w, h, w1, w2, h1, h2, rfl, rfl, rfl, rfl⟩, e6⟩
          · repeat (first | exact Fr_refl _ | refine Fr_s65 ?_ (by decide) | refine Fr_sI ?_ (by decide) | refine Fr_sA ?_ (by decide) | refine Fr_sJ ?_ | refine Fr_sG ?_)
      · simp only [bd_some, p_let_eq, p_ok, mI_sI, mR_sI, mK_sI, mN_sI, mL_sI, mI_sG, mR_sG, mK_sG, mN_sG, mL_sG, mI_sJ, mR_sJ, mK_sJ, mN_sJ, mL_sJ, z_up, ↓reduceIte, and_self, true_and, and_true, false_and, and_false, not_true_eq_false, not_false_eq_true, Nat.reduceEqDiff, i_10, i_20, i_30, w_in, w_need1, w_need0, m_in, m_thr0, m_thr1, tM, aM, nI_1, nI_pred, reduceIte, wp_some, eq_self, bI_T, bI_F, F_L_heat, F_L_heat_c18, F_X12_heat, F_X12_heat_c48, F_X12_heat_c49, F_X13_heat, F_X13_heat_c44, F_X13_heat_c49, F_X13_heat_c78, F_X7_setHeat, F_X7_setHeat_c24, s_o0 hS, s_r0_0 hS, s_r0_1 hS, s_r0_10 hS, s_r0_11 hS, s_r0_12 hS, s_r0_14 hS, s_r0_16 hS, s_r0_19 hS, s_r0_7 hS, s_r0_8 hS, s_r0_9 hS, s_o46 hS, s_r46_0 hS, s_r46_3 hS, s_a47 hS, s_l47 hS, s_o47 hS, s_o112 hS, e1, e2, e3, e4, e5, c1, c2, c3]
        exact ⟨thr_postZ (by decide), RPan_fr thr_fr (by decide) hR0, Fr_mono thr_fr (by decide) (by decide)⟩
    · simp only [bd_some, p_let_eq, p_ok, mI_sI, mR_sI, mK_sI, mN_sI, mL_sI, mI_sG, mR_sG, mK_sG, mN_sG, mL_sG, mI_sJ, mR_sJ, mK_sJ, mN_sJ, mL_sJ, z_up, ↓reduceIte, and_self, true_and, and_true, false_and, and_false, not_true_eq_false, not_false_eq_true, Nat.reduceEqDiff, i_10, i_20, i_30, w_in, w_need1, w_need0, m_in, m_thr0, m_thr1, tM, aM, nI_1, nI_pred, reduceIte, wp_some, eq_self, bI_T, bI_F, F_L_heat, F_L_heat_c18, F_X12_heat, F_X12_heat_c48, F_X12_heat_c49, F_X13_heat, F_X13_heat_c44, F_X13_heat_c49, F_X13_heat_c78, F_X7_setHeat, F_X7_setHeat_c24, s_o0 hS, s_r0_0 hS, s_r0_1 hS, s_r0_10 hS, s_r0_11 hS, s_r0_12 hS, s_r0_14 hS, s_r0_16 hS, s_r0_19 hS, s_r0_7 hS, s_r0_8 hS, s_r0_9 hS, s_o46 hS, s_r46_0 hS, s_r46_3 hS, s_a47 hS, s_l47 hS, s_o47 hS, s_o112 hS, e1, e2, e3, e4, e5, c1, c2]
      exact ⟨thr_postZ (by decide), RPan_fr thr_fr (by decide) hR0, Fr_mono thr_fr (by decide) (by decide)⟩
  · simp only [bd_some, p_let_eq, p_ok, mI_sI, mR_sI, mK_sI, mN_sI, mL_sI, mI_sG, mR_sG, mK_sG, mN_sG, mL_sG, mI_sJ, mR_sJ, mK_sJ, mN_sJ, mL_sJ, z_up, ↓reduceIte, and_self, true_and, and_true, false_and, and_false, not_true_eq_false, not_false_eq_true, Nat.reduceEqDiff, i_10, i_20, i_30, w_in, w_need1, w_need0, m_in, m_thr0, m_thr1, tM, aM, nI_1, nI_pred, reduceIte, wp_some, eq_self, bI_T, bI_F, F_L_heat, F_L_heat_c18, F_X12_heat, F_X12_heat_c48, F_X12_heat_c49, F_X13_heat, F_X13_heat_c44, F_X13_heat_c49, F_X13_heat_c78, F_X7_setHeat, F_X7_setHeat_c24, s_o0 hS, s_r0_0 hS, s_r0_1 hS, s_r0_10 hS, s_r0_11 hS, s_r0_12 hS, s_r0_14 hS, s_r0_16 hS, s_r0_19 hS, s_r0_7 hS, s_r0_8 hS, s_r0_9 hS, s_o46 hS, s_r46_0 hS, s_r46_3 hS, s_a47 hS, s_l47 hS, s_o47 hS, s_o112 hS, e1, e2, e3, e4, e5, c1]
    exact ⟨thr_postZ (by decide), RPan_fr thr_fr (by decide) hR0, Fr_mono thr_fr (by decide) (by decide)⟩
theorem A_burned {μ : p_M} (hS : Sh μ) (hR : RPan μ) (p x y : Int32) : wp (F_L_burned 0 p x y 112 μ) fun k μ1 => wp (F_X13_burned p x y μ1) fun b μ2 => Post k b μ μ2 ∧ RPan μ2 ∧ Fr [] [0] μ μ2 := by
  have hR0 := hR
  obtain ⟨-, -, e6⟩ := hR
  rcases ix3 p 2 1 2 (by decide) rfl rfl with ⟨c1, c2⟩ | ⟨q, hq, rfl, c1, c2, c3, c4⟩
  · simp only [bd_some, p_let_eq, p_ok, mI_sI, mR_sI, mK_sI, mN_sI, mL_sI, mI_sG, mR_sG, mK_sG, mN_sG, mL_sG, mI_sJ, mR_sJ, mK_sJ, mN_sJ, mL_sJ, z_up, ↓reduceIte, and_self, true_and, and_true, false_and, and_false, not_true_eq_false, not_false_eq_true, Nat.reduceEqDiff, i_10, i_20, i_30, w_in, w_need1, w_need0, m_in, m_thr0, m_thr1, tM, aM, nI_1, nI_pred, reduceIte, wp_some, eq_self, bI_T, bI_F, F_L_burned, F_X12_burned, F_X12_burned_c29, F_X12_burned_c30, F_X13_burned, F_X13_burned_c20, F_X13_burned_c48, F_X13_burned_c53, F_X13_burned_c60, w_ix, s_o0 hS, s_r0_0 hS, s_r0_1 hS, s_r0_10 hS, s_r0_11 hS, s_r0_12 hS, s_r0_14 hS, s_r0_16 hS, s_r0_19 hS, s_r0_7 hS, s_r0_8 hS, s_r0_9 hS, s_o46 hS, s_r46_0 hS, s_r46_3 hS, s_o112 hS, c1, c2]
    exact ⟨thr_post (by decide), RPan_fr thr_fr (by decide) hR0, thr_fr⟩
  · by_cases d1 : 0 ≤ x ∧ x ≤ 11
    · by_cases d2 : 0 ≤ y ∧ y ≤ 7
      · obtain ⟨i, -, hi, rfl⟩ := rg3 x 0 11 0 11 rfl rfl (by decide) (by decide) d1
        obtain ⟨j, -, hj, rfl⟩ := rg3 y 0 7 0 7 rfl rfl (by decide) (by decide) d2
        have m1 : nI j * 12 + nI i = nI (12 * j + i) := mul2' 12 j i
        have m2 : 12 * (8 * nI q + nI j) + nI i = nI (12 * (8 * q + j) + i) := by
          show nI 12 * (nI 8 * nI q + nI j) + nI i = _
          rw [mul2, mul2]
        have hx := ix_nI (show 12 * j + i < 96 by omega) (by decide)
        have hc := nI_clamp (show 12 * j + i < 2 ^ 31 by omega)
        have hlt : 12 * j + i < 96 := by omega
        have hx2 := ix_nI (show 12 * (8 * q + j) + i < 192 by omega) (by decide)
        have hc2 := nI_clamp (show 12 * (8 * q + j) + i < 2 ^ 31 by omega)
        have hlt2 : 12 * (8 * q + j) + i < 192 := by omega
        have k1 : 23 ≤ 26 := by decide
        have f : ∀ z, Fr [] [0] μ (sI (sJ μ 112 (Int32.toNatClampNeg 0) z) 65 0 0) := fun z => by repeat (first | exact Fr_refl _ | refine Fr_s65 ?_ (by decide) | refine Fr_sI ?_ (by decide) | refine Fr_sA ?_ (by decide) | refine Fr_sJ ?_ | refine Fr_sG ?_)
        have hq2 : q = 0 ∨ q = 1 := by omega
        rcases hq2 with rfl | rfl
        · have ev : mI μ 49 (12 * j + i) = mI μ 111 (12 * (8 * 0 + j) + i) := by rw [(e6 _ hlt).1]; congr 1; omega
          simp only [bd_some, p_let_eq, p_ok, mI_sI, mR_sI, mK_sI, mN_sI, mL_sI, mI_sG, mR_sG, mK_sG, mN_sG, mL_sG, mI_sJ, mR_sJ, mK_sJ, mN_sJ, mL_sJ, z_up, ↓reduceIte, and_self, true_and, and_true, false_and, and_false, not_true_eq_false, not_false_eq_true, Nat.reduceEqDiff, i_10, i_20, i_30, w_in, w_need1, w_need0, m_in, m_thr0, m_thr1, tM, aM, nI_1, nI_pred, reduceIte, wp_some, eq_self, bI_T, bI_F, F_L_burned, F_X12_burned, F_X12_burned_c29, F_X12_burned_c30, F_X13_burned, F_X13_burned_c20, F_X13_burned_c48, F_X13_burned_c53, F_X13_burned_c60, w_ix, s_o0 hS, s_r0_0 hS, s_r0_1 hS, s_r0_10 hS, s_r0_11 hS, s_r0_12 hS, s_r0_14 hS, s_r0_16 hS, s_r0_19 hS, s_r0_7 hS, s_r0_8 hS, s_r0_9 hS, s_o46 hS, s_r46_0 hS, s_r46_3 hS, s_a48 hS, s_l48 hS, s_o48 hS, s_r48_0 hS, s_r48_1 hS, s_a49 hS, s_l49 hS, s_o49 hS, s_a50 hS, s_l50 hS, s_o50 hS, s_o112 hS, c1, c2, c3, c4, d1, d2, m1, m2, hx, hc, hlt, hx2, hc2, hlt2, k1, ev, Nat.le_refl, show (0 : Nat) < 2 from by decide]
          exact ⟨⟨rfl, fun _ => rfl, Cn_eq rfl rfl⟩, RPan_fr (f _) (by decide) hR0, f _⟩
        · have ev : mI μ 50 (12 * j + i) = mI μ 111 (12 * (8 * 1 + j) + i) := by rw [(e6 _ hlt).2]; congr 1; omega
          simp only [bd_some, p_let_eq, p_ok, mI_sI, mR_sI, mK_sI, mN_sI, mL_sI, mI_sG, mR_sG, mK_sG, mN_sG, mL_sG, mI_sJ, mR_sJ, mK_sJ, mN_sJ, mL_sJ, z_up, ↓reduceIte, and_self, true_and, and_true, false_and, and_false, not_true_eq_false, not_false_eq_true, Nat.reduceEqDiff, i_10, i_20, i_30, w_in, w_need1, w_need0, m_in, m_thr0, m_thr1, tM, aM, nI_1, nI_pred, reduceIte, wp_some, eq_self, bI_T, bI_F, F_L_burned, F_X12_burned, F_X12_burned_c29, F_X12_burned_c30, F_X13_burned, F_X13_burned_c20, F_X13_burned_c48, F_X13_burned_c53, F_X13_burned_c60, w_ix, s_o0 hS, s_r0_0 hS, s_r0_1 hS, s_r0_10 hS, s_r0_11 hS, s_r0_12 hS, s_r0_14 hS, s_r0_16 hS, s_r0_19 hS, s_r0_7 hS, s_r0_8 hS, s_r0_9 hS, s_o46 hS, s_r46_0 hS, s_r46_3 hS, s_a48 hS, s_l48 hS, s_o48 hS, s_r48_0 hS, s_r48_1 hS, s_a49 hS, s_l49 hS, s_o49 hS, s_a50 hS, s_l50 hS, s_o50 hS, s_o112 hS, c1, c2, c3, c4, d1, d2, m1, m2, hx, hc, hlt, hx2, hc2, hlt2, k1, ev, Nat.le_refl, show (1 : Nat) < 2 from by decide]
          exact ⟨⟨rfl, fun _ => rfl, Cn_eq rfl rfl⟩, RPan_fr (f _) (by decide) hR0, f _⟩
      · simp only [bd_some, p_let_eq, p_ok, mI_sI, mR_sI, mK_sI, mN_sI, mL_sI, mI_sG, mR_sG, mK_sG, mN_sG, mL_sG, mI_sJ, mR_sJ, mK_sJ, mN_sJ, mL_sJ, z_up, ↓reduceIte, and_self, true_and, and_true, false_and, and_false, not_true_eq_false, not_false_eq_true, Nat.reduceEqDiff, i_10, i_20, i_30, w_in, w_need1, w_need0, m_in, m_thr0, m_thr1, tM, aM, nI_1, nI_pred, reduceIte, wp_some, eq_self, bI_T, bI_F, F_L_burned, F_X12_burned, F_X12_burned_c29, F_X12_burned_c30, F_X13_burned, F_X13_burned_c20, F_X13_burned_c48, F_X13_burned_c53, F_X13_burned_c60, w_ix, s_o0 hS, s_r0_0 hS, s_r0_1 hS, s_r0_10 hS, s_r0_11 hS, s_r0_12 hS, s_r0_14 hS, s_r0_16 hS, s_r0_19 hS, s_r0_7 hS, s_r0_8 hS, s_r0_9 hS, s_o46 hS, s_r46_0 hS, s_r46_3 hS, s_o112 hS, c1, c2, d1, d2]
        exact ⟨thr_post (by decide), RPan_fr thr_fr (by decide) hR0, thr_fr⟩
    · simp only [bd_some, p_let_eq, p_ok, mI_sI, mR_sI, mK_sI, mN_sI, mL_sI, mI_sG, mR_sG, mK_sG, mN_sG, mL_sG, mI_sJ, mR_sJ, mK_sJ, mN_sJ, mL_sJ, z_up, ↓reduceIte, and_self, true_and, and_true, false_and, and_false, not_true_eq_false, not_false_eq_true, Nat.reduceEqDiff, i_10, i_20, i_30, w_in, w_need1, w_need0, m_in, m_thr0, m_thr1, tM, aM, nI_1, nI_pred, reduceIte, wp_some, eq_self, bI_T, bI_F, F_L_burned, F_X12_burned, F_X12_burned_c29, F_X12_burned_c30, F_X13_burned, F_X13_burned_c20, F_X13_burned_c48, F_X13_burned_c53, F_X13_burned_c60, w_ix, s_o0 hS, s_r0_0 hS, s_r0_1 hS, s_r0_10 hS, s_r0_11 hS, s_r0_12 hS, s_r0_14 hS, s_r0_16 hS, s_r0_19 hS, s_r0_7 hS, s_r0_8 hS, s_r0_9 hS, s_o46 hS, s_r46_0 hS, s_r46_3 hS, s_o112 hS, c1, c2, d1]
      exact ⟨thr_post (by decide), RPan_fr thr_fr (by decide) hR0, thr_fr⟩
