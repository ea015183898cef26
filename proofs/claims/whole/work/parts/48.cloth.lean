/-! CLOTHS and the RECIPE: cloth, look, cost, meets -/
def ClothR (f : Nat → Nat → Int32) (s t h : Nat → Int32) (n : Nat) : Prop := ∀ j, j < n → ∃ x y z : Nat, x ≤ 255 ∧ y ≤ 255 ∧ z ≤ 9 ∧ s j = nI x ∧ t j = nI y ∧ h j = nI z ∧ isL (f j) (x, x, y, y, 0) z
def cf (μ : p_M) : Nat → Nat → Int32 := fun j => match j with
  | 0 => mI μ 51
  | 1 => mI μ 52
  | 2 => mI μ 53
  | 3 => mI μ 54
  | 4 => mI μ 55
  | _ => mI μ 56
theorem cf_eq {μ : p_M} {j : Nat} (h : j < 6) : cf μ j = mI μ (51 + j) := by
  have : j = 0 ∨ j = 1 ∨ j = 2 ∨ j = 3 ∨ j = 4 ∨ j = 5 := by omega
  rcases this with rfl | rfl | rfl | rfl | rfl | rfl <;> rfl
theorem cf_ext {μ μ' : p_M} (h1 : mI μ' 51 = mI μ 51) (h2 : mI μ' 52 = mI μ 52) (h3 : mI μ' 53 = mI μ 53) (h4 : mI μ' 54 = mI μ 54) (h5 : mI μ' 55 = mI μ 55) (h6 : mI μ' 56 = mI μ 56) : cf μ' = cf μ := by
  funext j
  unfold cf
  rw [h1, h2, h3, h4, h5, h6]
def RCloth (μ : p_M) : Prop := ∃ n : Nat, n ≤ 6 ∧ mI μ 0 2 = nI n ∧ mI μ 65 14 = nI n ∧ ClothR (cf μ) (mI μ 71) (mI μ 72) (mI μ 73) n
theorem RCloth_of {μ μ' : p_M} (h0 : mI μ' 0 2 = mI μ 0 2) (h14 : mI μ' 65 14 = mI μ 65 14) (h1 : mI μ' 51 = mI μ 51) (h2 : mI μ' 52 = mI μ 52) (h3 : mI μ' 53 = mI μ 53) (h4 : mI μ' 54 = mI μ 54) (h5 : mI μ' 55 = mI μ 55) (h6 : mI μ' 56 = mI μ 56) (g1 : mI μ' 71 = mI μ 71) (g2 : mI μ' 72 = mI μ 72) (g3 : mI μ' 73 = mI μ 73) (h : RCloth μ) : RCloth μ' := by
  unfold RCloth at *
  rw [h0, h14, cf_ext h1 h2 h3 h4 h5 h6, g1, g2, g3]
  exact h
theorem RCloth_fr {cs ss : List Nat} {μ μ' : p_M} (f : Fr cs ss μ μ') (d : dj cs ss [0, 51, 52, 53, 54, 55, 56, 71, 72, 73] [14] = true) (h : RCloth μ) : RCloth μ' :=
  RCloth_of (by rw [Fr_row f 0 (dj1 d (by decide))]) (Fr_sc f 14 (dj2 d (by decide))) (Fr_row f 51 (dj1 d (by decide))) (Fr_row f 52 (dj1 d (by decide))) (Fr_row f 53 (dj1 d (by decide))) (Fr_row f 54 (dj1 d (by decide))) (Fr_row f 55 (dj1 d (by decide))) (Fr_row f 56 (dj1 d (by decide))) (Fr_row f 71 (dj1 d (by decide))) (Fr_row f 72 (dj1 d (by decide))) (Fr_row f 73 (dj1 d (by decide))) h
theorem s_r3 {μ : p_M} (h : Sh μ) {j : Nat} (hj : j < 6) : mR μ 3 j = some (51 + j) := by
  have : j = 0 ∨ j = 1 ∨ j = 2 ∨ j = 3 ∨ j = 4 ∨ j = 5 := by omega
  rcases this with rfl | rfl | rfl | rfl | rfl | rfl
  · exact s_r3_0 h
  · exact s_r3_1 h
  · exact s_r3_2 h
  · exact s_r3_3 h
  · exact s_r3_4 h
  · exact s_r3_5 h
theorem s_o51v {μ : p_M} (h : Sh μ) {j : Nat} (hj : j < 6) : mK μ (51 + j) = 4 ∧ 51 + j < mN μ := by
  have : j = 0 ∨ j = 1 ∨ j = 2 ∨ j = 3 ∨ j = 4 ∨ j = 5 := by omega
  rcases this with rfl | rfl | rfl | rfl | rfl | rfl
  · exact s_o51 h
  · exact s_o52 h
  · exact s_o53 h
  · exact s_o54 h
  · exact s_o55 h
  · exact s_o56 h
theorem A_cloth {μ : p_M} (hS : Sh μ) (hR : RCloth μ) (a b c : Int32) : wp (F_L_cloth 0 a b c 112 μ) fun k μ1 => wp (F_X13_cloth a b c μ1) fun z μ2 => Post k z μ μ2 ∧ RCloth μ2 ∧ (∀ j, j ≠ 2 → mI μ2 0 j = mI μ 0 j) ∧ Fr [0, 51, 52, 53, 54, 55, 56, 71, 72, 73] [0, 14] μ μ2 := by
  have hR0 := hR
  obtain ⟨n, hn, e1, e2, e3⟩ := hR
  have thr : ∀ v : Int32, ¬ v = 0 → Post v 0 μ (sI (sI (sG μ 1 6) 65 0 0) 65 0 v) ∧ RCloth (sI (sI (sG μ 1 6) 65 0 0) 65 0 v) ∧ (∀ j, j ≠ 2 → mI (sI (sI (sG μ 1 6) 65 0 0) 65 0 v) 0 j = mI μ 0 j) ∧ Fr [0, 51, 52, 53, 54, 55, 56, 71, 72, 73] [0, 14] μ (sI (sI (sG μ 1 6) 65 0 0) 65 0 v) := fun v hv => ⟨thr_post hv, RCloth_fr thr_fr (by decide) hR0, fun j _ => by simp only [mI_sI, mR_sI, mK_sI, mN_sI, mL_sI, mI_sG, mR_sG, mK_sG, mN_sG, mL_sG, mI_sJ, mR_sJ, mK_sJ, mN_sJ, mL_sJ, mI_sA, mR_sA, mK_sA, mN_sA, mL_sA, z_up, ↓reduceIte, reduceIte, Nat.reduceEqDiff, true_and, and_true], Fr_mono thr_fr (by decide) (by decide)⟩
  by_cases c1 : 0 ≤ a ∧ a ≤ 255
  · by_cases c2 : 0 ≤ b ∧ b ≤ 255
    · by_cases c3 : 0 ≤ c ∧ c ≤ 9
      · by_cases cn : n < 6
        · obtain ⟨x, -, hx, rfl⟩ := rg3 a 0 255 0 255 rfl rfl (by decide) (by decide) c1
          obtain ⟨y, -, hy, rfl⟩ := rg3 b 0 255 0 255 rfl rfl (by decide) (by decide) c2
          obtain ⟨w, -, hw, rfl⟩ := rg3 c 0 9 0 9 rfl rfl (by decide) (by decide) c3
          have i1 := ix_nI cn (by decide)
          have k1 := nI_clamp (show n < 2 ^ 31 by omega)
          have hlt : nI n < 6 := nI_lt cn (by decide)
          have hne : ¬ nI n = 6 := fun e => by have := (nI_eq (show n < 2 ^ 31 by omega) (show 6 < 2 ^ 31 by decide)).mp e; omega
          have n0 : ¬ 0 = 51 + n := by omega
          have n65 : ¬ 65 = 51 + n := by omega
          have n71 : ¬ 71 = 51 + n := by omega
          have n72 : ¬ 72 = 51 + n := by omega
          have n73 : ¬ 73 = 51 + n := by omega
          simp only [bd_some, p_let_eq, p_ok, mI_sI, mR_sI, mK_sI, mN_sI, mL_sI, mI_sG, mR_sG, mK_sG, mN_sG, mL_sG, mI_sJ, mR_sJ, mK_sJ, mN_sJ, mL_sJ, z_up, ↓reduceIte, and_self, true_and, and_true, false_and, and_false, not_true_eq_false, not_false_eq_true, Nat.reduceEqDiff, i_10, i_20, i_30, w_in, w_need1, w_need0, m_in, m_thr0, m_thr1, tM, aM, nI_1, nI_pred, reduceIte, wp_some, eq_self, bI_T, bI_F, F_L_cloth, F_X12_cloth, F_X12_cloth_c36, F_X12_cloth_c37, F_X13_cloth, F_X13_cloth_c38, F_X13_cloth_c43, F_X13_cloth_c65, F_X13_cloth_c72, F_X3_begin, s_o0 hS, s_r0_0 hS, s_r0_1 hS, s_r0_10 hS, s_r0_11 hS, s_r0_12 hS, s_r0_14 hS, s_r0_16 hS, s_r0_19 hS, s_r0_7 hS, s_r0_8 hS, s_r0_9 hS, s_a3 hS, s_l3 hS, s_o3 hS, s_r3_0 hS, s_r3_1 hS, s_r3_2 hS, s_r3_3 hS, s_r3_4 hS, s_r3_5 hS, s_o112 hS, w_room, s_r3 hS cn, s_o51v hS cn, e1, e2, c1, c2, c3, i1, k1, cn, hlt, hne, n0, n65, Nat.le_refl, show 23 ≤ 26 from by decide]
          refine ⟨⟨rfl, fun _ => rfl, Cn_eq rfl rfl⟩, ?_, ?_, ?_⟩
          · refine ⟨n + 1, by omega, by simp only [mI_sI, mR_sI, mK_sI, mN_sI, mL_sI, mI_sG, mR_sG, mK_sG, mN_sG, mL_sG, mI_sJ, mR_sJ, mK_sJ, mN_sJ, mL_sJ, mI_sA, mR_sA, mK_sA, mN_sA, mL_sA, z_up, ↓reduceIte, reduceIte, Nat.reduceEqDiff, true_and, and_true], by simp only [mI_sI, mR_sI, mK_sI, mN_sI, mL_sI, mI_sG, mR_sG, mK_sG, mN_sG, mL_sG, mI_sJ, mR_sJ, mK_sJ, mN_sJ, mL_sJ, mI_sA, mR_sA, mK_sA, mN_sA, mL_sA, z_up, ↓reduceIte, reduceIte, Nat.reduceEqDiff, true_and, and_true], fun j hj => ?_⟩
            rw [cf_eq (show j < 6 by omega)]
            have j0 : ¬ 51 + j = 0 := by omega
            have j65 : ¬ 51 + j = 65 := by omega
            have j71 : ¬ 51 + j = 71 := by omega
            have j72 : ¬ 51 + j = 72 := by omega
            have j73 : ¬ 51 + j = 73 := by omega
            by_cases ej : j = n
            · subst ej
              refine ⟨x, y, w, hx, hy, hw, ?_, ?_, ?_, ?_⟩
              · simp only [mI_sI, mR_sI, mK_sI, mN_sI, mL_sI, mI_sG, mR_sG, mK_sG, mN_sG, mL_sG, mI_sJ, mR_sJ, mK_sJ, mN_sJ, mL_sJ, mI_sA, mR_sA, mK_sA, mN_sA, mL_sA, z_up, ↓reduceIte, reduceIte, Nat.reduceEqDiff, true_and, and_true, n71]
              · simp only [mI_sI, mR_sI, mK_sI, mN_sI, mL_sI, mI_sG, mR_sG, mK_sG, mN_sG, mL_sG, mI_sJ, mR_sJ, mK_sJ, mN_sJ, mL_sJ, mI_sA, mR_sA, mK_sA, mN_sA, mL_sA, z_up, ↓reduceIte, reduceIte, Nat.reduceEqDiff, true_and, and_true, n72]
              · simp only [mI_sI, mR_sI, mK_sI, mN_sI, mL_sI, mI_sG, mR_sG, mK_sG, mN_sG, mL_sG, mI_sJ, mR_sJ, mK_sJ, mN_sJ, mL_sJ, mI_sA, mR_sA, mK_sA, mN_sA, mL_sA, z_up, ↓reduceIte, reduceIte, Nat.reduceEqDiff, true_and, and_true, n73]
              · unfold isL
                simp only [mI_sI, mR_sI, mK_sI, mN_sI, mL_sI, mI_sG, mR_sG, mK_sG, mN_sG, mL_sG, mI_sJ, mR_sJ, mK_sJ, mN_sJ, mL_sJ, mI_sA, mR_sA, mK_sA, mN_sA, mL_sA, z_up, ↓reduceIte, reduceIte, Nat.reduceEqDiff, true_and, and_true, j0, j65, j71, j72, j73]
                rfl
            · obtain ⟨x', y', z', g1, g2, g3, g4, g5, g6, g7⟩ := e3 j (by omega)
              rw [cf_eq (show j < 6 by omega)] at g7
              have jn : ¬ 51 + j = 51 + n := by omega
              refine ⟨x', y', z', g1, g2, g3, ?_, ?_, ?_, ?_⟩
              · simp only [mI_sI, mR_sI, mK_sI, mN_sI, mL_sI, mI_sG, mR_sG, mK_sG, mN_sG, mL_sG, mI_sJ, mR_sJ, mK_sJ, mN_sJ, mL_sJ, mI_sA, mR_sA, mK_sA, mN_sA, mL_sA, z_up, ↓reduceIte, reduceIte, Nat.reduceEqDiff, true_and, and_true, n71, ej]; exact g4
              · simp only [mI_sI, mR_sI, mK_sI, mN_sI, mL_sI, mI_sG, mR_sG, mK_sG, mN_sG, mL_sG, mI_sJ, mR_sJ, mK_sJ, mN_sJ, mL_sJ, mI_sA, mR_sA, mK_sA, mN_sA, mL_sA, z_up, ↓reduceIte, reduceIte, Nat.reduceEqDiff, true_and, and_true, n72, ej]; exact g5
              · simp only [mI_sI, mR_sI, mK_sI, mN_sI, mL_sI, mI_sG, mR_sG, mK_sG, mN_sG, mL_sG, mI_sJ, mR_sJ, mK_sJ, mN_sJ, mL_sJ, mI_sA, mR_sA, mK_sA, mN_sA, mL_sA, z_up, ↓reduceIte, reduceIte, Nat.reduceEqDiff, true_and, and_true, n73, ej]; exact g6
              · unfold isL at g7 ⊢
                simp only [mI_sI, mR_sI, mK_sI, mN_sI, mL_sI, mI_sG, mR_sG, mK_sG, mN_sG, mL_sG, mI_sJ, mR_sJ, mK_sJ, mN_sJ, mL_sJ, mI_sA, mR_sA, mK_sA, mN_sA, mL_sA, z_up, ↓reduceIte, reduceIte, Nat.reduceEqDiff, true_and, and_true, j0, j65, j71, j72, j73, jn]
                exact g7
          · intro j hj
            simp only [mI_sI, mR_sI, mK_sI, mN_sI, mL_sI, mI_sG, mR_sG, mK_sG, mN_sG, mL_sG, mI_sJ, mR_sJ, mK_sJ, mN_sJ, mL_sJ, mI_sA, mR_sA, mK_sA, mN_sA, mL_sA, z_up, ↓reduceIte, reduceIte, Nat.reduceEqDiff, true_and, and_true, n0, hj]
          · have hmem : 51 + n ∈ [0, 51, 52, 53, 54, 55, 56, 71, 72, 73] ∧ 51 + n ≠ 65 := by
              have : n = 0 ∨ n = 1 ∨ n = 2 ∨ n = 3 ∨ n = 4 ∨ n = 5 := by omega
              rcases this with rfl | rfl | rfl | rfl | rfl | rfl <;> decide
            repeat (first | exact Fr_refl _ | refine Fr_s65 ?_ (by decide) | refine Fr_sI ?_ hmem | refine Fr_sI ?_ (by decide) | refine Fr_sJ ?_)
        · have hn5 : n = 6 := by omega
          subst hn5
          have e1 : mI μ 0 2 = 6 := e1
          have e2 : mI μ 65 14 = 6 := e2
          have hlt : ¬ (6 : Int32) < 6 := by decide
          simp only [bd_some, p_let_eq, p_ok, mI_sI, mR_sI, mK_sI, mN_sI, mL_sI, mI_sG, mR_sG, mK_sG, mN_sG, mL_sG, mI_sJ, mR_sJ, mK_sJ, mN_sJ, mL_sJ, z_up, ↓reduceIte, and_self, true_and, and_true, false_and, and_false, not_true_eq_false, not_false_eq_true, Nat.reduceEqDiff, i_10, i_20, i_30, w_in, w_need1, w_need0, m_in, m_thr0, m_thr1, tM, aM, nI_1, nI_pred, reduceIte, wp_some, eq_self, bI_T, bI_F, F_L_cloth, F_X12_cloth, F_X12_cloth_c36, F_X12_cloth_c37, F_X13_cloth, F_X13_cloth_c38, F_X13_cloth_c43, F_X13_cloth_c65, F_X13_cloth_c72, F_X3_begin, s_o0 hS, s_r0_0 hS, s_r0_1 hS, s_r0_10 hS, s_r0_11 hS, s_r0_12 hS, s_r0_14 hS, s_r0_16 hS, s_r0_19 hS, s_r0_7 hS, s_r0_8 hS, s_r0_9 hS, s_a3 hS, s_l3 hS, s_o3 hS, s_r3_0 hS, s_r3_1 hS, s_r3_2 hS, s_r3_3 hS, s_r3_4 hS, s_r3_5 hS, s_o112 hS, w_room, e1, e2, c1, c2, c3, hlt]
          refine ⟨(thr 2 (by decide)).1, (thr 2 (by decide)).2.1, fun _ _ => trivial, (thr 2 (by decide)).2.2.2⟩
      · simp only [bd_some, p_let_eq, p_ok, mI_sI, mR_sI, mK_sI, mN_sI, mL_sI, mI_sG, mR_sG, mK_sG, mN_sG, mL_sG, mI_sJ, mR_sJ, mK_sJ, mN_sJ, mL_sJ, z_up, ↓reduceIte, and_self, true_and, and_true, false_and, and_false, not_true_eq_false, not_false_eq_true, Nat.reduceEqDiff, i_10, i_20, i_30, w_in, w_need1, w_need0, m_in, m_thr0, m_thr1, tM, aM, nI_1, nI_pred, reduceIte, wp_some, eq_self, bI_T, bI_F, F_L_cloth, F_X12_cloth, F_X12_cloth_c36, F_X12_cloth_c37, F_X13_cloth, F_X13_cloth_c38, F_X13_cloth_c43, F_X13_cloth_c65, F_X13_cloth_c72, F_X3_begin, s_o0 hS, s_r0_0 hS, s_r0_1 hS, s_r0_10 hS, s_r0_11 hS, s_r0_12 hS, s_r0_14 hS, s_r0_16 hS, s_r0_19 hS, s_r0_7 hS, s_r0_8 hS, s_r0_9 hS, s_a3 hS, s_l3 hS, s_o3 hS, s_r3_0 hS, s_r3_1 hS, s_r3_2 hS, s_r3_3 hS, s_r3_4 hS, s_r3_5 hS, s_o112 hS, c1, c2, c3]
        refine ⟨(thr 1 (by decide)).1, (thr 1 (by decide)).2.1, fun _ _ => trivial, (thr 1 (by decide)).2.2.2⟩
    · simp only [bd_some, p_let_eq, p_ok, mI_sI, mR_sI, mK_sI, mN_sI, mL_sI, mI_sG, mR_sG, mK_sG, mN_sG, mL_sG, mI_sJ, mR_sJ, mK_sJ, mN_sJ, mL_sJ, z_up, ↓reduceIte, and_self, true_and, and_true, false_and, and_false, not_true_eq_false, not_false_eq_true, Nat.reduceEqDiff, i_10, i_20, i_30, w_in, w_need1, w_need0, m_in, m_thr0, m_thr1, tM, aM, nI_1, nI_pred, reduceIte, wp_some, eq_self, bI_T, bI_F, F_L_cloth, F_X12_cloth, F_X12_cloth_c36, F_X12_cloth_c37, F_X13_cloth, F_X13_cloth_c38, F_X13_cloth_c43, F_X13_cloth_c65, F_X13_cloth_c72, F_X3_begin, s_o0 hS, s_r0_0 hS, s_r0_1 hS, s_r0_10 hS, s_r0_11 hS, s_r0_12 hS, s_r0_14 hS, s_r0_16 hS, s_r0_19 hS, s_r0_7 hS, s_r0_8 hS, s_r0_9 hS, s_a3 hS, s_l3 hS, s_o3 hS, s_r3_0 hS, s_r3_1 hS, s_r3_2 hS, s_r3_3 hS, s_r3_4 hS, s_r3_5 hS, s_o112 hS, c1, c2]
      refine ⟨(thr 1 (by decide)).1, (thr 1 (by decide)).2.1, fun _ _ => trivial, (thr 1 (by decide)).2.2.2⟩
  · simp only [bd_some, p_let_eq, p_ok, mI_sI, mR_sI, mK_sI, mN_sI, mL_sI, mI_sG, mR_sG, mK_sG, mN_sG, mL_sG, mI_sJ, mR_sJ, mK_sJ, mN_sJ, mL_sJ, z_up, ↓reduceIte, and_self, true_and, and_true, false_and, and_false, not_true_eq_false, not_false_eq_true, Nat.reduceEqDiff, i_10, i_20, i_30, w_in, w_need1, w_need0, m_in, m_thr0, m_thr1, tM, aM, nI_1, nI_pred, reduceIte, wp_some, eq_self, bI_T, bI_F, F_L_cloth, F_X12_cloth, F_X12_cloth_c36, F_X12_cloth_c37, F_X13_cloth, F_X13_cloth_c38, F_X13_cloth_c43, F_X13_cloth_c65, F_X13_cloth_c72, F_X3_begin, s_o0 hS, s_r0_0 hS, s_r0_1 hS, s_r0_10 hS, s_r0_11 hS, s_r0_12 hS, s_r0_14 hS, s_r0_16 hS, s_r0_19 hS, s_r0_7 hS, s_r0_8 hS, s_r0_9 hS, s_a3 hS, s_l3 hS, s_o3 hS, s_r3_0 hS, s_r3_1 hS, s_r3_2 hS, s_r3_3 hS, s_r3_4 hS, s_r3_5 hS, s_o112 hS, c1]
    refine ⟨(thr 1 (by decide)).1, (thr 1 (by decide)).2.1, fun _ _ => trivial, (thr 1 (by decide)).2.2.2⟩
