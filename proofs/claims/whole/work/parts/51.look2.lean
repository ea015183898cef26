theorem A_look {μ : p_M} (hS : Sh μ) (hC : RCloth μ) (hR : RRec μ) (v1 v2 v3 : Int32) : wp (F_L_look 0 v1 v2 v3 112 μ) fun k μ1 => wp (F_X13_look v1 v2 v3 μ1) fun b μ2 => Post k b μ μ2 ∧ (∀ k, k < 200 ∨ 205 ≤ k → mI μ2 74 k = mI μ 74 k) ∧ Fr [14, 74] [0] μ μ2 := by
  have hC0 := hC
  obtain ⟨n, hn, e1, e2, -⟩ := hC0
  have thr : ∀ v : Int32, ¬ v = 0 → Post v 0 μ (sI (sI (sG μ 1 6) 65 0 0) 65 0 v) ∧ Fr [14, 74] [0] μ (sI (sI (sG μ 1 6) 65 0 0) 65 0 v) := fun v hv => ⟨thr_post hv, Fr_mono thr_fr (by decide) (by decide)⟩
  rcases ix3 v1 (mI μ 0 2) (mI μ 65 14 - 1) n (by omega) e1 (by rw [e2]) with ⟨c1, c2⟩ | ⟨j, hj, rfl, c1, c2, c3, c4⟩
  · simp only [bd_some, p_let_eq, p_ok, mI_sI, mR_sI, mK_sI, mN_sI, mL_sI, mI_sG, mR_sG, mK_sG, mN_sG, mL_sG, mI_sJ, mR_sJ, mK_sJ, mN_sJ, mL_sJ, z_up, ↓reduceIte, and_self, true_and, and_true, false_and, and_false, not_true_eq_false, not_false_eq_true, Nat.reduceEqDiff, i_10, i_20, i_30, w_in, w_need1, w_need0, m_in, m_thr0, m_thr1, tM, aM, nI_1, nI_pred, reduceIte, wp_some, eq_self, bI_T, bI_F, F_L_look, F_X12_look, F_X13_look, F_X13_look_c57, w_ix, m_noCloth, s_o0 hS, s_r0_0 hS, s_r0_1 hS, s_r0_10 hS, s_r0_11 hS, s_r0_12 hS, s_r0_14 hS, s_r0_16 hS, s_r0_19 hS, s_r0_7 hS, s_r0_8 hS, s_r0_9 hS, s_o112 hS, c1, c2]
    exact ⟨(thr 1 (by decide)).1, fun _ _ => trivial, (thr 1 (by decide)).2⟩
  · by_cases c5 : 0 ≤ v2
    · obtain ⟨q, hq, rfl⟩ := nI_of (i_nlt.mpr c5)
      have c5' : ¬ nI q < 0 := i_nlt.mpr c5
      by_cases c6 : 0 ≤ v3 ∧ v3 ≤ 4
      · obtain ⟨w, -, hw, rfl⟩ := rg3 v3 0 4 0 4 rfl rfl (by decide) (by decide) c6
        obtain ⟨L, h, μ1, ok, t1, t2, t3, t4⟩ := b_tries (q2 := q) hS hC hR e1 hn hj hq hq (fun _ _ _ => rfl)
        have hS1 := Sh_q t3 hS
        have pa := c_part (s_o14 hS1) t2 ok hw
        obtain ⟨μ3, u1, u2, u3, u4⟩ := t4 (sI (sJ μ1 112 (Int32.toNatClampNeg 0) (nI (partL L w)).toInt64) 65 0 0) (Fr_s65 (Fr_sJ (Fr_mono (Fq_fr t3) (by decide) (by decide))) (by decide))
        have a2 : 200 + nI w = nI (200 + w) := nI_add 200 w
        have i2 := ix_nI (show 200 + w < 240 by omega) (by decide)
        have k2 := nI_clamp (show 200 + w < 2 ^ 31 by omega)
        have l2 : 200 + w < 240 := by omega
        have r2 : mI μ3 74 (200 + w) = nI (partL L w) := r_part u2 hw
        have g0 : Fq [14] [] μ μ1 := t3
        have m14 : mI μ1 65 14 = mI μ 65 14 := Fq_sc t3 14 rfl
        simp only [bd_some, p_let_eq, p_ok, mI_sI, mR_sI, mK_sI, mN_sI, mL_sI, mI_sG, mR_sG, mK_sG, mN_sG, mL_sG, mI_sJ, mR_sJ, mK_sJ, mN_sJ, mL_sJ, z_up, ↓reduceIte, and_self, true_and, and_true, false_and, and_false, not_true_eq_false, not_false_eq_true, Nat.reduceEqDiff, i_10, i_20, i_30, w_in, w_need1, w_need0, m_in, m_thr0, m_thr1, tM, aM, nI_1, nI_pred, reduceIte, wp_some, eq_self, bI_T, bI_F, F_L_look, F_X12_look, F_X12_look_c17, F_X13_look, F_X13_look_c28, F_X13_look_c50, F_X13_look_c57, w_ix, w_what, m_noCloth, s_o0 hS, s_r0_0 hS, s_r0_1 hS, s_r0_10 hS, s_r0_11 hS, s_r0_12 hS, s_r0_14 hS, s_r0_16 hS, s_r0_19 hS, s_r0_7 hS, s_r0_8 hS, s_r0_9 hS, s_o112 hS, s_o0 hS1, s_r0_0 hS1, s_r0_1 hS1, s_r0_10 hS1, s_r0_11 hS1, s_r0_12 hS1, s_r0_14 hS1, s_r0_16 hS1, s_r0_19 hS1, s_r0_7 hS1, s_r0_8 hS1, s_r0_9 hS1, s_o14 hS1, s_o112 hS1, c1, c2, c5, c5', c6, t1, pa, m14, u1, a2, i2, k2, l2, r2]
        refine ⟨⟨?_, fun _ => ?_, ?_⟩, fun k hk => ?_, ?_⟩
        · rw [Fq_sc u4 0 rfl]; simp only [mI_sI, mR_sI, mK_sI, mN_sI, mL_sI, mI_sG, mR_sG, mK_sG, mN_sG, mL_sG, mI_sJ, mR_sJ, mK_sJ, mN_sJ, mL_sJ, mI_sA, mR_sA, mK_sA, mN_sA, mL_sA, z_up, ↓reduceIte, reduceIte, Nat.reduceEqDiff, true_and, and_true]
        · rw [Fq_J u4]; rfl
        · refine Cn_eq ?_ ?_
          · rw [Fq_C u4]; exact (show mC μ1 = mC μ from Fq_C t3)
          · rw [Fq_S u4]; exact (show mS μ1 = mS μ from Fq_S t3)
        · rw [u3 k hk]
          show mI μ1 74 k = mI μ 74 k
          rw [Fq_row t3 74 (by decide)]
        · refine Fr_trans (Fr_s65 (Fr_sJ (Fr_mono (Fq_fr t3) (by decide) (by decide))) (by decide)) (Fr_mono (Fq_fr u4) (by decide) (by decide))
      · simp only [bd_some, p_let_eq, p_ok, mI_sI, mR_sI, mK_sI, mN_sI, mL_sI, mI_sG, mR_sG, mK_sG, mN_sG, mL_sG, mI_sJ, mR_sJ, mK_sJ, mN_sJ, mL_sJ, z_up, ↓reduceIte, and_self, true_and, and_true, false_and, and_false, not_true_eq_false, not_false_eq_true, Nat.reduceEqDiff, i_10, i_20, i_30, w_in, w_need1, w_need0, m_in, m_thr0, m_thr1, tM, aM, nI_1, nI_pred, reduceIte, wp_some, eq_self, bI_T, bI_F, F_L_look, F_X12_look, F_X12_look_c17, F_X13_look, F_X13_look_c28, F_X13_look_c50, F_X13_look_c57, w_ix, w_what, m_noCloth, s_o0 hS, s_r0_0 hS, s_r0_1 hS, s_r0_10 hS, s_r0_11 hS, s_r0_12 hS, s_r0_14 hS, s_r0_16 hS, s_r0_19 hS, s_r0_7 hS, s_r0_8 hS, s_r0_9 hS, s_o112 hS, c1, c2, c5, c5', c6]
        exact ⟨(thr 3 (by decide)).1, fun _ _ => trivial, (thr 3 (by decide)).2⟩
    · have c5' : v2 < 0 := i_nle.mp c5
      simp only [bd_some, p_let_eq, p_ok, mI_sI, mR_sI, mK_sI, mN_sI, mL_sI, mI_sG, mR_sG, mK_sG, mN_sG, mL_sG, mI_sJ, mR_sJ, mK_sJ, mN_sJ, mL_sJ, z_up, ↓reduceIte, and_self, true_and, and_true, false_and, and_false, not_true_eq_false, not_false_eq_true, Nat.reduceEqDiff, i_10, i_20, i_30, w_in, w_need1, w_need0, m_in, m_thr0, m_thr1, tM, aM, nI_1, nI_pred, reduceIte, wp_some, eq_self, bI_T, bI_F, F_L_look, F_X12_look, F_X12_look_c17, F_X13_look, F_X13_look_c28, F_X13_look_c50, F_X13_look_c57, w_ix, w_what, m_noCloth, s_o0 hS, s_r0_0 hS, s_r0_1 hS, s_r0_10 hS, s_r0_11 hS, s_r0_12 hS, s_r0_14 hS, s_r0_16 hS, s_r0_19 hS, s_r0_7 hS, s_r0_8 hS, s_r0_9 hS, s_o112 hS, c1, c2, c5, c5']
      exact ⟨(thr 2 (by decide)).1, fun _ _ => trivial, (thr 2 (by decide)).2⟩
theorem A_meets {μ : p_M} (hS : Sh μ) (hC : RCloth μ) (hR : RRec μ) (v1 v2 v3 v4 : Int32) : wp (F_L_meets 0 v1 v2 v3 v4 112 μ) fun k μ1 => wp (F_X13_meets v1 v2 v3 v4 μ1) fun b μ2 => PostZ k b μ μ2 ∧ (∀ k, k < 200 ∨ 205 ≤ k → mI μ2 74 k = mI μ 74 k) ∧ Fr [14, 74] [0] μ μ2 := by
  have hC0 := hC
  obtain ⟨n, hn, e1, e2, -⟩ := hC0
  have thr : ∀ v : Int32, ¬ v = 0 → PostZ v 0 μ (sI (sI (sG μ 1 6) 65 0 0) 65 0 v) ∧ Fr [14, 74] [0] μ (sI (sI (sG μ 1 6) 65 0 0) 65 0 v) := fun v hv => ⟨thr_postZ hv, Fr_mono thr_fr (by decide) (by decide)⟩
  rcases ix3 v1 (mI μ 0 2) (mI μ 65 14 - 1) n (by omega) e1 (by rw [e2]) with ⟨c1, c2⟩ | ⟨j, hj, rfl, c1, c2, c3, c4⟩
  · simp only [bd_some, p_let_eq, p_ok, mI_sI, mR_sI, mK_sI, mN_sI, mL_sI, mI_sG, mR_sG, mK_sG, mN_sG, mL_sG, mI_sJ, mR_sJ, mK_sJ, mN_sJ, mL_sJ, z_up, ↓reduceIte, and_self, true_and, and_true, false_and, and_false, not_true_eq_false, not_false_eq_true, Nat.reduceEqDiff, i_10, i_20, i_30, w_in, w_need1, w_need0, m_in, m_thr0, m_thr1, tM, aM, nI_1, nI_pred, reduceIte, wp_some, eq_self, bI_T, bI_F, F_L_meets, F_L_meets_c20, F_X12_meets, F_X13_meets, F_X13_meets_c33, w_ix, m_noCloth, s_o0 hS, s_r0_0 hS, s_r0_1 hS, s_r0_10 hS, s_r0_11 hS, s_r0_12 hS, s_r0_14 hS, s_r0_16 hS, s_r0_19 hS, s_r0_7 hS, s_r0_8 hS, s_r0_9 hS, s_o112 hS, c1, c2]
    exact ⟨(thr 1 (by decide)).1, fun _ _ => trivial, (thr 1 (by decide)).2⟩
  · by_cases c5 : wish v2 v3 v4
    · have hR0 := hR
      have w5 : wish v2 v3 v4 = True := eq_true c5
      obtain ⟨R, B, A, m, hm, h3, hi, hc, em, -⟩ := rec_get hS hR0
      have hq : ∀ m', m' ≤ 20 → mI μ 68 40 = nI m' → min m m' = min 20 m' := fun m' h1 h2 => by
        rw [em] at h2
        have := (nI_eq (show m < 2 ^ 31 by omega) (show m' < 2 ^ 31 by omega)).mp h2
        omega
      obtain ⟨L, h, μ1, ok, t1, t2, t3, t4⟩ := b_tries (q := m) (q2 := 20) hS hC hR e1 hn hj (by omega) (by decide) hq
      have hS1 := Sh_q t3 hS
      have pa := c_meets (s_o14 hS1) t2 v2 v3 v4
      obtain ⟨μ3, u1, u2, u3, u4⟩ := t4 (sI (sJ μ1 112 (Int32.toNatClampNeg 0) (if mtc L v2 v3 v4 = 0 then 0 else 1)) 65 0 0) (Fr_s65 (Fr_sJ (Fr_mono (Fq_fr t3) (by decide) (by decide))) (by decide))
      have u1 : F_X13_tries (nI j) 20 _ = _ := u1
      have pb := m_meets (r := 40) (by decide) u2 v2 v3 v4
      have pb : F_X13_meetsIt 40 v2 v3 v4 μ3 = _ := pb
      have m14 : mI μ1 65 14 = mI μ 65 14 := Fq_sc t3 14 rfl
      have fin : ∀ b : Int32, mtc L v2 v3 v4 = b → (PostZ 0 b μ μ3 ∧ (∀ k, k < 200 ∨ 205 ≤ k → mI μ3 74 k = mI μ 74 k) ∧ Fr [14, 74] [0] μ μ3) := by
        intro b hb
        refine ⟨⟨?_, fun _ => ?_, ?_⟩, fun k hk => ?_, ?_⟩
        · rw [Fq_sc u4 0 rfl]; simp only [mI_sI, mR_sI, mK_sI, mN_sI, mL_sI, mI_sG, mR_sG, mK_sG, mN_sG, mL_sG, mI_sJ, mR_sJ, mK_sJ, mN_sJ, mL_sJ, mI_sA, mR_sA, mK_sA, mN_sA, mL_sA, z_up, ↓reduceIte, reduceIte, Nat.reduceEqDiff, true_and, and_true]
        · rw [Fq_J u4, ← hb]; rfl
        · refine Cn_eq ?_ ?_
          · rw [Fq_C u4]; exact (show mC μ1 = mC μ from Fq_C t3)
          · rw [Fq_S u4]; exact (show mS μ1 = mS μ from Fq_S t3)
        · rw [u3 k hk]
          show mI μ1 74 k = mI μ 74 k
          rw [Fq_row t3 74 (by decide)]
        · refine Fr_trans (Fr_s65 (Fr_sJ (Fr_mono (Fq_fr t3) (by decide) (by decide))) (by decide)) (Fr_mono (Fq_fr u4) (by decide) (by decide))
      rcases mtc01 L v2 v3 v4 with hb | hb
      · rw [hb] at pa pb u1
        simp only [bd_some, p_let_eq, p_ok, mI_sI, mR_sI, mK_sI, mN_sI, mL_sI, mI_sG, mR_sG, mK_sG, mN_sG, mL_sG, mI_sJ, mR_sJ, mK_sJ, mN_sJ, mL_sJ, z_up, ↓reduceIte, and_self, true_and, and_true, false_and, and_false, not_true_eq_false, not_false_eq_true, Nat.reduceEqDiff, i_10, i_20, i_30, w_in, w_need1, w_need0, m_in, m_thr0, m_thr1, tM, aM, nI_1, nI_pred, reduceIte, wp_some, eq_self, bI_T, bI_F, F_L_meets, F_L_meets_c20, F_X12_meets, F_X13_meets, F_X13_meets_c33, w_ix, w_wish, m_noWish, m_noCloth, s_o0 hS, s_r0_0 hS, s_r0_1 hS, s_r0_10 hS, s_r0_11 hS, s_r0_12 hS, s_r0_14 hS, s_r0_16 hS, s_r0_19 hS, s_r0_7 hS, s_r0_8 hS, s_r0_9 hS, s_o112 hS, s_o0 hS1, s_r0_0 hS1, s_r0_1 hS1, s_r0_10 hS1, s_r0_11 hS1, s_r0_12 hS1, s_r0_14 hS1, s_r0_16 hS1, s_r0_19 hS1, s_r0_7 hS1, s_r0_8 hS1, s_r0_9 hS1, s_o14 hS1, s_o112 hS1, c1, c2, w5, h3, hi.1, hc.1, t1, pa, m14, true_or]
        simp only [↓reduceIte] at u1
        rw [u1]
        simp only [bd_some, p_let_eq, p_ok, mI_sI, mR_sI, mK_sI, mN_sI, mL_sI, mI_sG, mR_sG, mK_sG, mN_sG, mL_sG, mI_sJ, mR_sJ, mK_sJ, mN_sJ, mL_sJ, z_up, ↓reduceIte, and_self, true_and, and_true, false_and, and_false, not_true_eq_false, not_false_eq_true, Nat.reduceEqDiff, i_10, i_20, i_30, w_in, w_need1, w_need0, m_in, m_thr0, m_thr1, tM, aM, nI_1, nI_pred, reduceIte, wp_some, eq_self, bI_T, bI_F, pb, true_or]
        exact fin 0 hb
      · rw [hb] at pa pb u1
        simp only [bd_some, p_let_eq, p_ok, mI_sI, mR_sI, mK_sI, mN_sI, mL_sI, mI_sG, mR_sG, mK_sG, mN_sG, mL_sG, mI_sJ, mR_sJ, mK_sJ, mN_sJ, mL_sJ, z_up, ↓reduceIte, and_self, true_and, and_true, false_and, and_false, not_true_eq_false, not_false_eq_true, Nat.reduceEqDiff, i_10, i_20, i_30, w_in, w_need1, w_need0, m_in, m_thr0, m_thr1, tM, aM, nI_1, nI_pred, reduceIte, wp_some, eq_self, bI_T, bI_F, F_L_meets, F_L_meets_c20, F_X12_meets, F_X13_meets, F_X13_meets_c33, w_ix, w_wish, m_noWish, m_noCloth, s_o0 hS, s_r0_0 hS, s_r0_1 hS, s_r0_10 hS, s_r0_11 hS, s_r0_12 hS, s_r0_14 hS, s_r0_16 hS, s_r0_19 hS, s_r0_7 hS, s_r0_8 hS, s_r0_9 hS, s_o112 hS, s_o0 hS1, s_r0_0 hS1, s_r0_1 hS1, s_r0_10 hS1, s_r0_11 hS1, s_r0_12 hS1, s_r0_14 hS1, s_r0_16 hS1, s_r0_19 hS1, s_r0_7 hS1, s_r0_8 hS1, s_r0_9 hS1, s_o14 hS1, s_o112 hS1, c1, c2, w5, h3, hi.1, hc.1, t1, pa, m14, or_true]
        simp only [i_10, ↓reduceIte] at u1
        rw [u1]
        simp only [bd_some, p_let_eq, p_ok, mI_sI, mR_sI, mK_sI, mN_sI, mL_sI, mI_sG, mR_sG, mK_sG, mN_sG, mL_sG, mI_sJ, mR_sJ, mK_sJ, mN_sJ, mL_sJ, z_up, ↓reduceIte, and_self, true_and, and_true, false_and, and_false, not_true_eq_false, not_false_eq_true, Nat.reduceEqDiff, i_10, i_20, i_30, w_in, w_need1, w_need0, m_in, m_thr0, m_thr1, tM, aM, nI_1, nI_pred, reduceIte, wp_some, eq_self, bI_T, bI_F, pb, or_true]
        exact fin 1 hb
    · have w5 : wish v2 v3 v4 = False := eq_false c5
      simp only [bd_some, p_let_eq, p_ok, mI_sI, mR_sI, mK_sI, mN_sI, mL_sI, mI_sG, mR_sG, mK_sG, mN_sG, mL_sG, mI_sJ, mR_sJ, mK_sJ, mN_sJ, mL_sJ, z_up, ↓reduceIte, and_self, true_and, and_true, false_and, and_false, not_true_eq_false, not_false_eq_true, Nat.reduceEqDiff, i_10, i_20, i_30, w_in, w_need1, w_need0, m_in, m_thr0, m_thr1, tM, aM, nI_1, nI_pred, reduceIte, wp_some, eq_self, bI_T, bI_F, F_L_meets, F_L_meets_c20, F_X12_meets, F_X13_meets, F_X13_meets_c33, w_ix, w_wish, m_noWish, m_noCloth, s_o0 hS, s_r0_0 hS, s_r0_1 hS, s_r0_10 hS, s_r0_11 hS, s_r0_12 hS, s_r0_14 hS, s_r0_16 hS, s_r0_19 hS, s_r0_7 hS, s_r0_8 hS, s_r0_9 hS, s_o112 hS, c1, c2, w5]
      exact ⟨(thr 2 (by decide)).1, fun _ _ => trivial, (thr 2 (by decide)).2⟩
