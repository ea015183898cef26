/-! pour -/
theorem ab_c {w h n : Nat} (hw : w ≤ h) (hh : h ≤ 1000) (hn : n ≤ 5000) : (if (0 : Int32) < nI w + nI n - nI h then nI w + nI n - nI h else 0) = nI (w + n - h) := by
  rw [nI_add]
  by_cases c : h < w + n
  · rw [pk_sub (by omega), if_pos (i_nle.mp (nI_nle (by omega) (by omega)))]
  · rw [show w + n - h = 0 by omega]
    have q : ¬ (0 : Int32) < nI (w + n) - nI h := by
      rw [Int32.lt_iff_toInt_lt, pk_sub_toInt (by omega) (by omega)]
      have : (0 : Int32).toInt = 0 := rfl
      omega
    rw [if_neg q]
    rfl
theorem ab_m {w h n : Nat} (hw : w ≤ h) (hh : h ≤ 1000) (hn : n ≤ 5000) : (if nI h - nI w < nI n then nI h - nI w else nI n) = nI (n - (w + n - h)) := by
  rw [pk_sub hw]
  by_cases c : h - w < n
  · rw [if_pos (nI_lt c (by omega))]
    congr 1
    omega
  · rw [if_neg (nI_nlt (by omega) (by omega))]
    congr 1
    omega
theorem c_putIn {μ : p_M} (hS : Sh μ) {t w h n : Nat} (ht : t < 5) (hw : w ≤ h) (hh : h ≤ 1000) (h1 : 1 ≤ n) (h2 : n ≤ 5000) (ew : mI μ 32 t = nI w) (eh : mI μ 31 t = nI h) (v : Int32) : F_X11_putIn 30 (nI t) (nI n) v μ = some (nI (w + n - h), sI (sI (sI (sI μ 32 t (nI (w + (n - (w + n - h))))) 33 t (mI μ 33 t + (v - pu v (nI (w + n - h)) (nI n)))) 30 6 (mI μ 30 6 + nI (w + n - h))) 30 8 (mI μ 30 8 + pu v (nI (w + n - h)) (nI n))) := by
  have i1 := ix_nI ht (by decide)
  have k1 := nI_clamp (show t < 2 ^ 31 by omega)
  have n0 : 0 < nI n := i_nle.mp (nI_nle (by omega) (by omega))
  have z6 := i64_ne0 n0
  have hpu : F_X11_partUp v (nI (w + n - h)) (nI n) μ = some (pu v (nI (w + n - h)) (nI n), μ) := by
    simp only [bd_some, p_let_eq, p_ok, mI_sI, mR_sI, mK_sI, mN_sI, mL_sI, mI_sG, mR_sG, mK_sG, mN_sG, mL_sG, mI_sJ, mR_sJ, mK_sJ, mN_sJ, mL_sJ, z_up, ↓reduceIte, and_self, true_and, and_true, false_and, and_false, not_true_eq_false, not_false_eq_true, Nat.reduceEqDiff, i_10, i_20, i_30, w_in, w_need1, w_need0, m_in, m_thr0, m_thr1, tM, aM, nI_1, nI_pred, reduceIte, wp_some, eq_self, bI_T, bI_F, F_X11_partUp, F_X11_partUp_c22, n0, z6]
    rfl
  have s1 : nI w + (nI n - nI (w + n - h)) = nI (w + (n - (w + n - h))) := by rw [pk_sub (by omega), nI_add]
  simp only [bd_some, p_let_eq, p_ok, mI_sI, mR_sI, mK_sI, mN_sI, mL_sI, mI_sG, mR_sG, mK_sG, mN_sG, mL_sG, mI_sJ, mR_sJ, mK_sJ, mN_sJ, mL_sJ, z_up, ↓reduceIte, and_self, true_and, and_true, false_and, and_false, not_true_eq_false, not_false_eq_true, Nat.reduceEqDiff, i_10, i_20, i_30, w_in, w_need1, w_need0, m_in, m_thr0, m_thr1, tM, aM, nI_1, nI_pred, reduceIte, wp_some, eq_self, bI_T, bI_F, F_X11_putIn, F_X11_runOff, s_o30 hS, s_r30_0 hS, s_r30_1 hS, s_r30_2 hS, s_a31 hS, s_l31 hS, s_o31 hS, s_a32 hS, s_l32 hS, s_o32 hS, s_a33 hS, s_l33 hS, s_o33 hS, i1, k1, ht, ew, eh, ab_c hw hh h2, hpu, s1]
theorem m_pours {μ : p_M} {t w h n : Nat} (ht : t < 5) (hw : w ≤ h) (hh : h ≤ 1000) (h1 : 1 ≤ n) (h2 : n ≤ 5000) (ew : mI μ 81 t = nI w) (eh : mI μ 80 t = nI h) (v : Int32) : F_X13_pours (nI t) (nI n) v μ = some (0, sI (sI (sI (sI (sI μ 65 37 (nI (w + n - h))) 81 t (nI (w + (n - (w + n - h))))) 82 t (mI μ 82 t + (v - pu v (nI (w + n - h)) (nI n)))) 65 32 (mI μ 65 32 + nI (w + n - h))) 65 34 (mI μ 65 34 + pu v (nI (w + n - h)) (nI n))) := by
  have i1 := ix_nI ht (by decide)
  have k1 := nI_clamp (show t < 2 ^ 31 by omega)
  have n0 : 0 < nI n := i_nle.mp (nI_nle (by omega) (by omega))
  have z6 := i64_ne0 n0
  have s1 : nI n - nI (n - (w + n - h)) = nI (w + n - h) := by rw [pk_sub (by omega)]; congr 1; omega
  have hpu : ((v.toInt64 * (nI (w + n - h)).toInt64 + (nI n).toInt64 - 1) / (nI n).toInt64).toInt32 = pu v (nI (w + n - h)) (nI n) := rfl
  unfold F_X13_pours
  simp only [p_ok, mI_sI, z_up, ↓reduceIte, reduceIte, Nat.reduceEqDiff, tM, aM, k1, i1.1, ht, z6, not_false_eq_true, and_self, ew, eh, ab_m hw hh h2, s1, hpu, nI_add]
theorem A_pour {μ : p_M} (hS : Sh μ) (hR : RWater μ) (t n v : Int32) : wp (F_L_pour 0 t n v 112 μ) fun k μ1 => wp (F_X13_pour t n v μ1) fun z μ2 => Post k z μ μ2 ∧ RWater μ2 ∧ Fr [30, 32, 33, 81, 82] [0, 32, 34, 37] μ μ2 := by
  have hR0 := hR
  obtain ⟨m, hm, e1, e2, e3, e4, e5, e6, e7, e8, e9, hb⟩ := hR
  rcases ix3 t (nI m) (nI m - 1) m (by omega) rfl rfl with ⟨c1, c2⟩ | ⟨j, hj, rfl, c1, c2, c3, c4⟩
  · simp only [bd_some, p_let_eq, p_ok, mI_sI, mR_sI, mK_sI, mN_sI, mL_sI, mI_sG, mR_sG, mK_sG, mN_sG, mL_sG, mI_sJ, mR_sJ, mK_sJ, mN_sJ, mL_sJ, z_up, ↓reduceIte, and_self, true_and, and_true, false_and, and_false, not_true_eq_false, not_false_eq_true, Nat.reduceEqDiff, i_10, i_20, i_30, w_in, w_need1, w_need0, m_in, m_thr0, m_thr1, tM, aM, nI_1, nI_pred, reduceIte, wp_some, eq_self, bI_T, bI_F, F_L_pour, F_X12_pour, F_X12_pour_c36, F_X12_pour_c37, F_X13_pour, F_X13_pour_c25, F_X13_pour_c55, F_X13_pour_c60, F_X13_pour_c67, w_ix, s_o0 hS, s_r0_0 hS, s_r0_1 hS, s_r0_10 hS, s_r0_11 hS, s_r0_12 hS, s_r0_14 hS, s_r0_16 hS, s_r0_19 hS, s_r0_7 hS, s_r0_8 hS, s_r0_9 hS, s_o30 hS, s_r30_0 hS, s_r30_1 hS, s_r30_2 hS, e1, e2, c1, c2]
    exact ⟨thr_post (by decide), RWater_fr thr_fr (by decide) hR0, Fr_mono thr_fr (by decide) (by decide)⟩
  · by_cases d1 : 1 ≤ n ∧ n ≤ 1000
    · by_cases d2 : 0 ≤ v ∧ v ≤ 100000
      · obtain ⟨N, hN1, hN2, rfl⟩ := rg3 n 1 1000 1 1000 rfl rfl (by decide) (by decide) d1
        obtain ⟨w, h, q1, q2, q3, q4, q5⟩ := hb j (by omega)
        have g1 := c_putIn hS (show j < 5 by omega) q3 q4 hN1 (show N ≤ 5000 by omega) q1 q2 v
        rw [e4] at q1
        rw [e3] at q2
        have hm := fun (ν : p_M) (a1 : mI ν 81 = mI μ 81) (a2 : mI ν 80 = mI μ 80) => m_pours (μ := ν) (show j < 5 by omega) q3 q4 hN1 (show N ≤ 5000 by omega) (by rw [a1]; exact q1) (by rw [a2]; exact q2) v
        simp only [bd_some, p_let_eq, p_ok, mI_sI, mR_sI, mK_sI, mN_sI, mL_sI, mI_sG, mR_sG, mK_sG, mN_sG, mL_sG, mI_sJ, mR_sJ, mK_sJ, mN_sJ, mL_sJ, z_up, ↓reduceIte, and_self, true_and, and_true, false_and, and_false, not_true_eq_false, not_false_eq_true, Nat.reduceEqDiff, i_10, i_20, i_30, w_in, w_need1, w_need0, m_in, m_thr0, m_thr1, tM, aM, nI_1, nI_pred, reduceIte, wp_some, eq_self, bI_T, bI_F, F_L_pour, F_X12_pour, F_X12_pour_c36, F_X12_pour_c37, F_X13_pour, F_X13_pour_c25, F_X13_pour_c55, F_X13_pour_c60, F_X13_pour_c67, w_ix, s_o0 hS, s_r0_0 hS, s_r0_1 hS, s_r0_10 hS, s_r0_11 hS, s_r0_12 hS, s_r0_14 hS, s_r0_16 hS, s_r0_19 hS, s_r0_7 hS, s_r0_8 hS, s_r0_9 hS, s_o30 hS, s_r30_0 hS, s_r30_1 hS, s_r30_2 hS, s_o112 hS, e1, e2, c1, c2, d1, d2, g1]
        rw [hm _ (by simp only [mI_sI, mR_sI, mK_sI, mN_sI, mL_sI, mI_sG, mR_sG, mK_sG, mN_sG, mL_sG, mI_sJ, mR_sJ, mK_sJ, mN_sJ, mL_sJ, mI_sA, mR_sA, mK_sA, mN_sA, mL_sA, z_up, ↓reduceIte, reduceIte, Nat.reduceEqDiff, true_and, and_true]) (by simp only [mI_sI, mR_sI, mK_sI, mN_sI, mL_sI, mI_sG, mR_sG, mK_sG, mN_sG, mL_sG, mI_sJ, mR_sJ, mK_sJ, mN_sJ, mL_sJ, mI_sA, mR_sA, mK_sA, mN_sA, mL_sA, z_up, ↓reduceIte, reduceIte, Nat.reduceEqDiff, true_and, and_true])]
        simp only [bd_some, p_let_eq, p_ok, mI_sI, mR_sI, mK_sI, mN_sI, mL_sI, mI_sG, mR_sG, mK_sG, mN_sG, mL_sG, mI_sJ, mR_sJ, mK_sJ, mN_sJ, mL_sJ, z_up, ↓reduceIte, and_self, true_and, and_true, false_and, and_false, not_true_eq_false, not_false_eq_true, Nat.reduceEqDiff, i_10, i_20, i_30, w_in, w_need1, w_need0, m_in, m_thr0, m_thr1, tM, aM, nI_1, nI_pred, reduceIte, wp_some, eq_self, bI_T, bI_F, e5, e7, e9]
        refine ⟨⟨rfl, fun _ => rfl, Cn_eq rfl rfl⟩, ?_, ?_⟩
        · unfold RWater
          simp only [mI_sI, mR_sI, mK_sI, mN_sI, mL_sI, mI_sG, mR_sG, mK_sG, mN_sG, mL_sG, mI_sJ, mR_sJ, mK_sJ, mN_sJ, mL_sJ, mI_sA, mR_sA, mK_sA, mN_sA, mL_sA, z_up, ↓reduceIte, reduceIte, Nat.reduceEqDiff, true_and, and_true, e1, e2, e3, e4, e5, e6, e8]
          refine ⟨m, by omega, rfl, rfl, fun i hi => ?_⟩
          by_cases ei : i = j
          · rw [if_pos ei, ei]
            exact ⟨w + (N - (w + N - h)), h, rfl, q2, by omega, q4, fun e => by omega⟩
          · rw [if_neg ei]
            obtain ⟨w', h', z1, z2, z3, z4, z5⟩ := hb i hi
            rw [e4] at z1
            rw [e3] at z2
            exact ⟨w', h', z1, z2, z3, z4, z5⟩
        · repeat (first | exact Fr_refl _ | refine Fr_s65 ?_ (by decide) | refine Fr_sI ?_ (by decide) | refine Fr_sA ?_ (by decide) | refine Fr_sJ ?_ | refine Fr_sG ?_)
      · simp only [bd_some, p_let_eq, p_ok, mI_sI, mR_sI, mK_sI, mN_sI, mL_sI, mI_sG, mR_sG, mK_sG, mN_sG, mL_sG, mI_sJ, mR_sJ, mK_sJ, mN_sJ, mL_sJ, z_up, ↓reduceIte, and_self, true_and, and_true, false_and, and_false, not_true_eq_false, not_false_eq_true, Nat.reduceEqDiff, i_10, i_20, i_30, w_in, w_need1, w_need0, m_in, m_thr0, m_thr1, tM, aM, nI_1, nI_pred, reduceIte, wp_some, eq_self, bI_T, bI_F, F_L_pour, F_X12_pour, F_X12_pour_c36, F_X12_pour_c37, F_X13_pour, F_X13_pour_c25, F_X13_pour_c55, F_X13_pour_c60, F_X13_pour_c67, w_ix, s_o0 hS, s_r0_0 hS, s_r0_1 hS, s_r0_10 hS, s_r0_11 hS, s_r0_12 hS, s_r0_14 hS, s_r0_16 hS, s_r0_19 hS, s_r0_7 hS, s_r0_8 hS, s_r0_9 hS, s_o30 hS, s_r30_0 hS, s_r30_1 hS, s_r30_2 hS, e1, e2, c1, c2, d1, d2]
        exact ⟨thr_post (by decide), RWater_fr thr_fr (by decide) hR0, Fr_mono thr_fr (by decide) (by decide)⟩
    · simp only [bd_some, p_let_eq, p_ok, mI_sI, mR_sI, mK_sI, mN_sI, mL_sI, mI_sG, mR_sG, mK_sG, mN_sG, mL_sG, mI_sJ, mR_sJ, mK_sJ, mN_sJ, mL_sJ, z_up, ↓reduceIte, and_self, true_and, and_true, false_and, and_false, not_true_eq_false, not_false_eq_true, Nat.reduceEqDiff, i_10, i_20, i_30, w_in, w_need1, w_need0, m_in, m_thr0, m_thr1, tM, aM, nI_1, nI_pred, reduceIte, wp_some, eq_self, bI_T, bI_F, F_L_pour, F_X12_pour, F_X12_pour_c36, F_X12_pour_c37, F_X13_pour, F_X13_pour_c25, F_X13_pour_c55, F_X13_pour_c60, F_X13_pour_c67, w_ix, s_o0 hS, s_r0_0 hS, s_r0_1 hS, s_r0_10 hS, s_r0_11 hS, s_r0_12 hS, s_r0_14 hS, s_r0_16 hS, s_r0_19 hS, s_r0_7 hS, s_r0_8 hS, s_r0_9 hS, s_o30 hS, s_r30_0 hS, s_r30_1 hS, s_r30_2 hS, e1, e2, c1, c2, d1]
      exact ⟨thr_post (by decide), RWater_fr thr_fr (by decide) hR0, Fr_mono thr_fr (by decide) (by decide)⟩
