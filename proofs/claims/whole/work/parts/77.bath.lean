/-! bath -/
theorem A_bath {X : p_X} (hX : oX2 X) {μ : p_M} (hS : Sh μ) (hC : RCloth μ) (v1 v2 v3 v4 v5 v6 : Int32) : wp (F_L_bath X 0 v1 v2 v3 v4 v5 v6 112 μ) fun k μ1 => wp (F_X13_bath v1 v2 v3 v4 v5 v6 μ1) fun b μ2 => Post k b μ μ2 ∧ (∀ k, k < 205 → mI μ2 74 k = mI μ 74 k) ∧ Fr chC chS μ μ2 := by
  have hC0 := hC
  obtain ⟨n, hn, e1, e2, -⟩ := hC0
  have thr : ∀ v : Int32, ¬ v = 0 → Post v 0 μ (sI (sI (sG μ 1 6) 65 0 0) 65 0 v) ∧ Fr chC chS μ (sI (sI (sG μ 1 6) 65 0 0) 65 0 v) := fun v hv => ⟨thr_post hv, Fr_mono thr_fr (by decide) (by decide)⟩
  rcases ix3 v1 (mI μ 0 2) (mI μ 65 14 - 1) n (by omega) e1 (by rw [e2]) with ⟨c1, c2⟩ | ⟨j, hj, rfl, c1, c2, c3, c4⟩
  · simp only [bd_some, p_let_eq, p_ok, mI_sI, mR_sI, mK_sI, mN_sI, mL_sI, mI_sG, mR_sG, mK_sG, mN_sG, mL_sG, mI_sJ, mR_sJ, mK_sJ, mN_sJ, mL_sJ, z_up, ↓reduceIte, and_self, true_and, and_true, false_and, and_false, not_true_eq_false, not_false_eq_true, Nat.reduceEqDiff, i_10, i_20, i_30, w_in, w_need1, w_need0, m_in, m_thr0, m_thr1, tM, aM, nI_1, nI_pred, reduceIte, wp_some, eq_self, bI_T, bI_F, F_L_bath, F_X12_bath, F_X12_searchFor, F_X13_bath, F_X13_bath_c52, w_ix, m_noCloth, s_o0 hS, s_r0_0 hS, s_r0_1 hS, s_r0_10 hS, s_r0_11 hS, s_r0_12 hS, s_r0_14 hS, s_r0_16 hS, s_r0_19 hS, s_r0_7 hS, s_r0_8 hS, s_r0_9 hS, s_o112 hS, c1, c2]
    exact ⟨(thr 1 (by decide)).1, fun _ _ => trivial, (thr 1 (by decide)).2⟩
  · by_cases c5 : wish v2 v3 v4
    · have w5 : wish v2 v3 v4 = True := eq_true c5
      by_cases c6 : 0 ≤ v5 ∧ v5 ≤ 6
      · obtain ⟨d1, d2, d3, d4, d5⟩ := c5
        obtain ⟨y, -, hy, ey⟩ := rg3 v3 0 255 0 255 rfl rfl (by decide) (by decide) ⟨Int32.le_iff_toInt_le.mpr (Int.le_trans (Int32.le_iff_toInt_le.mp d1) (Int32.le_iff_toInt_le.mp d2)), d3⟩
        subst ey
        obtain ⟨x, -, hx, ex⟩ := rg3 v2 0 y 0 (nI y) rfl rfl (by omega) (by decide) ⟨d1, d2⟩
        subst ex
        obtain ⟨z, -, hz, ez⟩ := rg3 v4 0 255 0 255 rfl rfl (by decide) (by decide) ⟨d4, d5⟩
        subst ez
        obtain ⟨most, -, hm, em⟩ := rg3 v5 0 6 0 6 rfl rfl (by decide) (by decide) c6
        subst em
        obtain ⟨B, μ1, t1, t2, t3, t4⟩ := b_search hX hS hC e1 hn hj hx hy hz hm
        have hS1 := Sh_q t3 hS
        have m14 : mI μ1 65 14 = mI μ 65 14 := Fq_sc t3 14 rfl
        have fin : ∀ (b : Int32) (μ3 : p_M), (∀ k, k < 205 → mI μ3 74 k = mI (sI (sJ μ1 112 (Int32.toNatClampNeg 0) b.toInt64) 65 0 0) 74 k) → Fq [74, 75, 76] [18, 19, 20, 21, 22] (sI (sJ μ1 112 (Int32.toNatClampNeg 0) b.toInt64) 65 0 0) μ3 → Post 0 b μ μ3 ∧ (∀ k, k < 205 → mI μ3 74 k = mI μ 74 k) ∧ Fr chC chS μ μ3 := by
          intro b μ3 u3 u4
          refine ⟨⟨?_, fun _ => ?_, ?_⟩, fun k hk => ?_, ?_⟩
          · rw [Fq_sc u4 0 rfl]; simp only [mI_sI, mR_sI, mK_sI, mN_sI, mL_sI, mI_sG, mR_sG, mK_sG, mN_sG, mL_sG, mI_sJ, mR_sJ, mK_sJ, mN_sJ, mL_sJ, mI_sA, mR_sA, mK_sA, mN_sA, mL_sA, z_up, ↓reduceIte, reduceIte, Nat.reduceEqDiff, true_and, and_true]
          · rw [Fq_J u4]; rfl
          · refine Cn_eq ?_ ?_
            · rw [Fq_C u4]; exact (show mC μ1 = mC μ from Fq_C t3)
            · rw [Fq_S u4]; exact (show mS μ1 = mS μ from Fq_S t3)
          · rw [u3 k hk]
            show mI μ1 74 k = mI μ 74 k
            rw [Fq_row t3 74 (by decide)]
          · exact Fr_trans (Fr_s65 (Fr_sJ (Fr_mono (Fq_fr t3) (by decide) (by decide))) (by decide)) (Fr_mono (Fq_fr u4) (by decide) (by decide))
        have go : ∀ b : Int32, Fr sCl [0] μ (sI (sJ μ1 112 (Int32.toNatClampNeg 0) b.toInt64) 65 0 0) := fun b => Fr_s65 (Fr_sJ (Fr_mono (Fq_fr t3) (by decide) (by decide))) (by decide)
        have o15 := s_o15 hS1
        cases B with
        | none =>
          have t2 : mI μ1 15 3 = -1 := t2
          have bb : F_X9_bestBath 15 v6 μ1 = some (-1, μ1) := by
            simp only [F_X9_bestBath, F_X9_bestBath_c29, F_X9_bestBath_c30, p_ok, o15, t2, and_self, ↓reduceIte]
          obtain ⟨μ3, u1, u2, u3, u4⟩ := t4 _ (go (-1))
          simp only [Option.isSome_none, Bool.false_eq_true, ↓reduceIte] at u1
          simp only [bd_some, p_let_eq, p_ok, mI_sI, mR_sI, mK_sI, mN_sI, mL_sI, mI_sG, mR_sG, mK_sG, mN_sG, mL_sG, mI_sJ, mR_sJ, mK_sJ, mN_sJ, mL_sJ, z_up, ↓reduceIte, and_self, true_and, and_true, false_and, and_false, not_true_eq_false, not_false_eq_true, Nat.reduceEqDiff, i_10, i_20, i_30, w_in, w_need1, w_need0, m_in, m_thr0, m_thr1, tM, aM, nI_1, nI_pred, reduceIte, wp_some, eq_self, bI_T, bI_F, F_L_bath, F_X12_bath, F_X13_bath, F_X13_bath_c45, F_X13_bath_c93, F_X13_bath_c94, m_noCloth, m_noWish, s_o0 hS, s_r0_0 hS, s_r0_1 hS, s_r0_10 hS, s_r0_11 hS, s_r0_12 hS, s_r0_14 hS, s_r0_16 hS, s_r0_19 hS, s_r0_7 hS, s_r0_8 hS, s_r0_9 hS, s_o112 hS, s_o0 hS1, s_r0_0 hS1, s_r0_1 hS1, s_r0_10 hS1, s_r0_11 hS1, s_r0_12 hS1, s_r0_14 hS1, s_r0_16 hS1, s_r0_19 hS1, s_r0_7 hS1, s_r0_8 hS1, s_r0_9 hS1, s_o15 hS1, s_r15_0 hS1, s_r15_1 hS1, s_r15_2 hS1, s_o112 hS1, c2, w5, c6, t1, m14, bb, u1]
          exact fin (-1) μ3 u3 u4
        | some q =>
          obtain ⟨f1, f2, f3, f4, f5, f6⟩ := t2
          have n1 : ¬ nI q.1 = -1 := nI_n1 (by omega)
          rcases ix3 v6 (nI q.2.1) (nI q.2.1 - 1) q.2.1 (by omega) rfl rfl with ⟨k1, k2⟩ | ⟨i, hi, rfl, k1, k2, k3, k4⟩
          · have bb : F_X9_bestBath 15 v6 μ1 = some (-1, μ1) := by
              by_cases z : v6 < 0
              · simp only [F_X9_bestBath, F_X9_bestBath_c29, F_X9_bestBath_c30, p_ok, o15, f1, n1, z, and_self, ↓reduceIte]
              · have z2 : nI q.2.1 ≤ v6 := i_nlt.mp (fun h => k1 ⟨i_nlt.mp z, h⟩)
                simp only [F_X9_bestBath, F_X9_bestBath_c29, F_X9_bestBath_c30, p_ok, o15, f1, f2, n1, z, z2, and_self, ↓reduceIte]
            obtain ⟨μ3, u1, u2, u3, u4⟩ := t4 _ (go (-1))
            obtain ⟨y1, y2, -⟩ := u2
            simp only [Option.isSome_some, ↓reduceIte] at u1
            have mi : F_X13_in v6 0 (nI q.2.1 - 1) μ3 = some (0, μ3) := by rw [m_in, bI_neg k2]
            simp only [bd_some, p_let_eq, p_ok, mI_sI, mR_sI, mK_sI, mN_sI, mL_sI, mI_sG, mR_sG, mK_sG, mN_sG, mL_sG, mI_sJ, mR_sJ, mK_sJ, mN_sJ, mL_sJ, z_up, ↓reduceIte, and_self, true_and, and_true, false_and, and_false, not_true_eq_false, not_false_eq_true, Nat.reduceEqDiff, i_10, i_20, i_30, w_in, w_need1, w_need0, m_thr0, m_thr1, tM, aM, reduceIte, wp_some, eq_self, bI_T, bI_F, F_L_bath, F_X12_bath, F_X13_bath, F_X13_bath_c45, F_X13_bath_c93, F_X13_bath_c94, m_noCloth, m_noWish, s_o0 hS, s_r0_0 hS, s_r0_1 hS, s_r0_10 hS, s_r0_11 hS, s_r0_12 hS, s_r0_14 hS, s_r0_16 hS, s_r0_19 hS, s_r0_7 hS, s_r0_8 hS, s_r0_9 hS, s_o112 hS, s_o0 hS1, s_r0_0 hS1, s_r0_1 hS1, s_r0_10 hS1, s_r0_11 hS1, s_r0_12 hS1, s_r0_14 hS1, s_r0_16 hS1, s_r0_19 hS1, s_r0_7 hS1, s_r0_8 hS1, s_r0_9 hS1, s_o15 hS1, s_r15_0 hS1, s_r15_1 hS1, s_r15_2 hS1, s_o112 hS1, c2, w5, t1, m14, bb, u1, y2, mi, show F_X13_in (nI most) 0 6 = fun μ => some (1, μ) from funext fun μ => by rw [m_in, bI_pos c6]]
            exact fin (-1) μ3 u3 u4
          · have i6 : i < 6 := by omega
            have x6 := ix_nI i6 (by decide)
            have z2 : ¬ nI q.2.1 ≤ nI i := nI_ge hi (by omega)
            have bb : F_X9_bestBath 15 (nI i) μ1 = some (nI (q.2.2 i), μ1) := by
              simp only [F_X9_bestBath, F_X9_bestBath_c30, bd_some, p_ok, s_o15 hS1, s_r15_0 hS1, s_r15_1 hS1, s_r15_2 hS1, s_a18 hS1, s_l18 hS1, s_o18 hS1, f1, f2, n1, k3, z2, x6, k4, i6, f5 i hi, and_self, true_and, not_false_eq_true, ↓reduceIte]
            obtain ⟨μ3, u1, u2, u3, u4⟩ := t4 _ (go (nI (q.2.2 i)))
            obtain ⟨y1, y2, y3, y4, y5⟩ := u2
            simp only [Option.isSome_some, ↓reduceIte] at u1
            have mi : F_X13_in (nI i) 0 (nI q.2.1 - 1) μ3 = some (1, μ3) := by rw [m_in, bI_pos k2]
            simp only [bd_some, p_let_eq, p_ok, mI_sI, mR_sI, mK_sI, mN_sI, mL_sI, mI_sG, mR_sG, mK_sG, mN_sG, mL_sG, mI_sJ, mR_sJ, mK_sJ, mN_sJ, mL_sJ, z_up, ↓reduceIte, and_self, true_and, and_true, false_and, and_false, not_true_eq_false, not_false_eq_true, Nat.reduceEqDiff, i_10, i_20, i_30, w_in, w_need1, w_need0, m_thr0, m_thr1, tM, aM, reduceIte, wp_some, eq_self, bI_T, bI_F, F_L_bath, F_X12_bath, F_X13_bath, F_X13_bath_c45, F_X13_bath_c93, F_X13_bath_c94, m_noCloth, m_noWish, s_o0 hS, s_r0_0 hS, s_r0_1 hS, s_r0_10 hS, s_r0_11 hS, s_r0_12 hS, s_r0_14 hS, s_r0_16 hS, s_r0_19 hS, s_r0_7 hS, s_r0_8 hS, s_r0_9 hS, s_o112 hS, s_o0 hS1, s_r0_0 hS1, s_r0_1 hS1, s_r0_10 hS1, s_r0_11 hS1, s_r0_12 hS1, s_r0_14 hS1, s_r0_16 hS1, s_r0_19 hS1, s_r0_7 hS1, s_r0_8 hS1, s_r0_9 hS1, s_o15 hS1, s_r15_0 hS1, s_r15_1 hS1, s_r15_2 hS1, s_o112 hS1, c2, w5, t1, m14, bb, u1, y2, mi, k3, x6, k4, i6, y5 i hi, show F_X13_in (nI most) 0 6 = fun μ => some (1, μ) from funext fun μ => by rw [m_in, bI_pos c6]]
            exact fin _ μ3 u3 u4
      · simp only [bd_some, p_let_eq, p_ok, mI_sI, mR_sI, mK_sI, mN_sI, mL_sI, mI_sG, mR_sG, mK_sG, mN_sG, mL_sG, mI_sJ, mR_sJ, mK_sJ, mN_sJ, mL_sJ, z_up, ↓reduceIte, and_self, true_and, and_true, false_and, and_false, not_true_eq_false, not_false_eq_true, Nat.reduceEqDiff, i_10, i_20, i_30, w_in, w_need1, w_need0, m_in, m_thr0, m_thr1, tM, aM, nI_1, nI_pred, reduceIte, wp_some, eq_self, bI_T, bI_F, F_L_bath, F_X12_bath, F_X12_searchFor, F_X13_bath, F_X13_bath_c40, F_X13_bath_c45, F_X13_bath_c52, w_ix, w_wish, m_noWish, m_noCloth, s_o0 hS, s_r0_0 hS, s_r0_1 hS, s_r0_10 hS, s_r0_11 hS, s_r0_12 hS, s_r0_14 hS, s_r0_16 hS, s_r0_19 hS, s_r0_7 hS, s_r0_8 hS, s_r0_9 hS, s_o112 hS, c1, c2, w5, c6]
        exact ⟨(thr 2 (by decide)).1, fun _ _ => trivial, (thr 2 (by decide)).2⟩
    · have w5 : wish v2 v3 v4 = False := eq_false c5
      simp only [bd_some, p_let_eq, p_ok, mI_sI, mR_sI, mK_sI, mN_sI, mL_sI, mI_sG, mR_sG, mK_sG, mN_sG, mL_sG, mI_sJ, mR_sJ, mK_sJ, mN_sJ, mL_sJ, z_up, ↓reduceIte, and_self, true_and, and_true, false_and, and_false, not_true_eq_false, not_false_eq_true, Nat.reduceEqDiff, i_10, i_20, i_30, w_in, w_need1, w_need0, m_in, m_thr0, m_thr1, tM, aM, nI_1, nI_pred, reduceIte, wp_some, eq_self, bI_T, bI_F, F_L_bath, F_X12_bath, F_X12_searchFor, F_X13_bath, F_X13_bath_c40, F_X13_bath_c45, F_X13_bath_c52, w_ix, w_wish, m_noWish, m_noCloth, s_o0 hS, s_r0_0 hS, s_r0_1 hS, s_r0_10 hS, s_r0_11 hS, s_r0_12 hS, s_r0_14 hS, s_r0_16 hS, s_r0_19 hS, s_r0_7 hS, s_r0_8 hS, s_r0_9 hS, s_o112 hS, c1, c2, w5]
      exact ⟨(thr 2 (by decide)).1, fun _ _ => trivial, (thr 2 (by decide)).2⟩
