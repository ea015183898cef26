/-! works, machine -/
theorem s_r36 {μ : p_M} (h : Sh μ) {i : Nat} (hi : i < 4) : mR μ 36 i = some (57 + 2 * i) := by
  rcases (show i = 0 ∨ i = 1 ∨ i = 2 ∨ i = 3 by omega) with rfl | rfl | rfl | rfl
  · exact s_r36_0 h
  · exact s_r36_1 h
  · exact s_r36_2 h
  · exact s_r36_3 h
theorem s_o57v {μ : p_M} (h : Sh μ) {i : Nat} (hi : i < 4) : mK μ (57 + 2 * i) = 6 ∧ 57 + 2 * i < mN μ := by
  rcases (show i = 0 ∨ i = 1 ∨ i = 2 ∨ i = 3 by omega) with rfl | rfl | rfl | rfl
  · exact s_o57 h
  · exact s_o59 h
  · exact s_o61 h
  · exact s_o63 h
theorem s_q57v {μ : p_M} (h : Sh μ) {i : Nat} (hi : i < 4) : mR μ (57 + 2 * i) 1 = some (58 + 2 * i) ∧ (58 + 2 * i < p_E ∧ mK μ (58 + 2 * i) = 20 ∧ 58 + 2 * i < mN μ) ∧ mL μ (58 + 2 * i) = 40 := by
  rcases (show i = 0 ∨ i = 1 ∨ i = 2 ∨ i = 3 by omega) with rfl | rfl | rfl | rfl
  · exact ⟨s_r57_1 h, s_a58 h, s_l58 h⟩
  · exact ⟨s_r59_1 h, s_a60 h, s_l60 h⟩
  · exact ⟨s_r61_1 h, s_a62 h, s_l62 h⟩
  · exact ⟨s_r63_1 h, s_a64 h, s_l64 h⟩
theorem m_wcnt {μ : p_M} {N i : Nat} (hN : N ≤ 40) (e62 : mI μ 65 62 = nI N) : ∀ (r k m : Nat), k + r = N → r < m → F_X13_works_c73 m (nI i) (nI (cnt (wt μ i) k)) (nI k) μ = some (nI (cnt (wt μ i) N), μ) := by
  intro r
  induction r with
  | zero =>
    intro k m hk hm
    obtain ⟨m, rfl⟩ : ∃ k, m = k + 1 := ⟨m - 1, by omega⟩
    have hk : k = N := by omega
    subst hk
    have c1 : nI k ≤ nI k := nI_le (Nat.le_refl _) (by omega)
    simp only [F_X13_works_c73, tM, e62, c1, ↓reduceIte]
  | succ r ih =>
    intro k m hk hm
    obtain ⟨m, rfl⟩ : ∃ k, m = k + 1 := ⟨m - 1, by omega⟩
    have c1 : ¬ nI N ≤ nI k := nI_ge (by omega) (by omega)
    have i1 := ix_nI (show k < 40 by omega) (by decide)
    have k1 := nI_clamp (show k < 2 ^ 31 by omega)
    have l1 : k < 40 := by omega
    have a1 : nI k + 1 = nI (k + 1) := nI_add k 1
    have r1 := ih (k + 1) m (by omega) (by omega)
    have a0 : ∀ x : Int32, x + 0 = x := fun x => Int32.add_zero x
    have ac : nI (cnt (wt μ i) k) + 1 = nI (cnt (wt μ i) k + 1) := nI_add _ 1
    by_cases c2 : mI μ 96 k = 1
    · by_cases c3 : mI μ 97 k = nI i
      · have hw : cnt (wt μ i) (k + 1) = cnt (wt μ i) k + 1 := by
          show cnt (wt μ i) k + (if wt μ i k = true then 1 else 0) = _
          rw [if_pos (show wt μ i k = true from decide_eq_true ⟨c2, c3⟩)]
        rw [hw] at r1
        simp only [F_X13_works_c73, F_X13_works_c109, F_X13_works_c110, p_ok, tM, aM, e62, c1, i1, k1, l1, c2, c3, a1, ac, and_self, true_and, not_true_eq_false, not_false_eq_true, ↓reduceIte]
        exact r1
      · have hw : cnt (wt μ i) (k + 1) = cnt (wt μ i) k := by
          show cnt (wt μ i) k + (if wt μ i k = true then 1 else 0) = _
          rw [if_neg (show ¬ wt μ i k = true from fun h => c3 (of_decide_eq_true h).2), Nat.add_zero]
        rw [hw] at r1
        simp only [F_X13_works_c73, F_X13_works_c109, F_X13_works_c110, p_ok, tM, aM, e62, c1, i1, k1, l1, c2, c3, a0, a1, and_self, true_and, not_true_eq_false, not_false_eq_true, ↓reduceIte]
        exact r1
    · have hw : cnt (wt μ i) (k + 1) = cnt (wt μ i) k := by
        show cnt (wt μ i) k + (if wt μ i k = true then 1 else 0) = _
        rw [if_neg (show ¬ wt μ i k = true from fun h => c2 (of_decide_eq_true h).1), Nat.add_zero]
      rw [hw] at r1
      simp only [F_X13_works_c73, F_X13_works_c109, F_X13_works_c110, p_ok, tM, aM, e62, c1, i1, k1, l1, c2, a0, a1, and_self, true_and, not_true_eq_false, not_false_eq_true, ↓reduceIte]
      exact r1
theorem A_works {μ : p_M} (hS : Sh μ) (hR : RLots μ) (v1 v2 : Int32) : wp (F_L_works 0 v1 v2 112 μ) fun k μ1 => wp (F_X13_works v1 v2 μ1) fun b μ2 => Post k b μ μ2 ∧ Fr [] [0] μ μ2 := by
  obtain ⟨N, K, M, C, E, lr, hL, hC, ⟨n1, n2, n3⟩, -, hM, -⟩ := hR
  obtain ⟨l1, l2, l3, -⟩ := hL
  rcases ix3 v1 (mI μ 0 13) (mI μ 65 47 - 1) K (by omega) n1 (by rw [n2]) with ⟨c1, c2⟩ | ⟨i, hi, rfl, c1, c2, c3, c4⟩
  · simp only [bd_some, p_let_eq, p_ok, mI_sI, mR_sI, mK_sI, mN_sI, mL_sI, mI_sG, mR_sG, mK_sG, mN_sG, mL_sG, mI_sJ, mR_sJ, mK_sJ, mN_sJ, mL_sJ, z_up, ↓reduceIte, and_self, true_and, and_true, false_and, and_false, not_true_eq_false, not_false_eq_true, Nat.reduceEqDiff, i_10, i_20, i_30, w_in, w_need1, w_need0, m_in, m_thr0, m_thr1, tM, aM, nI_1, nI_pred, reduceIte, wp_some, eq_self, bI_T, bI_F, F_L_works, F_X12_works, w_ix, F_X13_works, m_noMachine, s_o0 hS, s_r0_0 hS, s_r0_1 hS, s_r0_10 hS, s_r0_11 hS, s_r0_12 hS, s_r0_14 hS, s_r0_16 hS, s_r0_19 hS, s_r0_7 hS, s_r0_8 hS, s_r0_9 hS, s_o112 hS, c1, c2]
    exact ⟨thr_post (by decide), thr_fr⟩
  · obtain ⟨⟨x, x1, x2, x3, x4⟩, w1, w2, w3, -, -, w4, -⟩ := hM i hi
    have i4 : i < 4 := by omega
    have ii := ix_nI i4 (by decide)
    have r36 := s_r36 hS i4
    have o57 := s_o57v hS i4
    have c23 : 23 ≤ 24 ∧ 24 ≤ 26 := by decide
    by_cases cw : 0 ≤ v2 ∧ v2 ≤ 4
    · obtain ⟨w, -, hw, rfl⟩ := rg3 v2 0 4 0 4 rfl rfl (by decide) (by decide) cw
      rcases b5 hw with rfl | rfl | rfl | rfl | rfl
      · have cw0 : (0 ≤ nI 0 ∧ nI 0 ≤ 4) := cw
        have sw : ¬ (Int32.toInt (nI 0) < 0 ∨ 3 < Int32.toInt (nI 0)) := by decide
        have sw4 : ¬ (Int32.toInt (nI 0) < 0 ∨ 4 < Int32.toInt (nI 0)) := by decide
        simp only [bd_some, p_let_eq, p_ok, mI_sI, mR_sI, mK_sI, mN_sI, mL_sI, mI_sG, mR_sG, mK_sG, mN_sG, mL_sG, mI_sJ, mR_sJ, mK_sJ, mN_sJ, mL_sJ, z_up, ↓reduceIte, and_self, true_and, and_true, false_and, and_false, not_true_eq_false, not_false_eq_true, Nat.reduceEqDiff, i_10, i_20, i_30, w_in, w_need1, w_need0, m_in, m_thr0, m_thr1, tM, aM, nI_1, nI_pred, reduceIte, wp_some, eq_self, bI_T, bI_F, F_L_works, F_X12_works, F_X13_works, m_noMachine, w_ix, w_what, s_o0 hS, s_r0_0 hS, s_r0_1 hS, s_r0_10 hS, s_r0_11 hS, s_r0_12 hS, s_r0_14 hS, s_r0_16 hS, s_r0_19 hS, s_r0_7 hS, s_r0_8 hS, s_r0_9 hS, s_a36 hS, s_l36 hS, s_o36 hS, s_r36_0 hS, s_r36_1 hS, s_r36_2 hS, s_r36_3 hS, s_o112 hS, c1, c2, c23, ii, c4, i4, r36, o57, cw0, sw, sw4, show (nI 0 = (0 : Int32)) = True from eq_true rfl]
        exact val_post (x3.trans x4.symm)
      · have cw1 : (0 ≤ nI 1 ∧ nI 1 ≤ 4) := cw
        have sw : ¬ (Int32.toInt (nI 1) < 0 ∨ 3 < Int32.toInt (nI 1)) := by decide
        have sw4 : ¬ (Int32.toInt (nI 1) < 0 ∨ 4 < Int32.toInt (nI 1)) := by decide
        simp only [bd_some, p_let_eq, p_ok, mI_sI, mR_sI, mK_sI, mN_sI, mL_sI, mI_sG, mR_sG, mK_sG, mN_sG, mL_sG, mI_sJ, mR_sJ, mK_sJ, mN_sJ, mL_sJ, z_up, ↓reduceIte, and_self, true_and, and_true, false_and, and_false, not_true_eq_false, not_false_eq_true, Nat.reduceEqDiff, i_10, i_20, i_30, w_in, w_need1, w_need0, m_in, m_thr0, m_thr1, tM, aM, nI_1, nI_pred, reduceIte, wp_some, eq_self, bI_T, bI_F, F_L_works, F_X12_works, F_X13_works, m_noMachine, w_ix, w_what, s_o0 hS, s_r0_0 hS, s_r0_1 hS, s_r0_10 hS, s_r0_11 hS, s_r0_12 hS, s_r0_14 hS, s_r0_16 hS, s_r0_19 hS, s_r0_7 hS, s_r0_8 hS, s_r0_9 hS, s_a36 hS, s_l36 hS, s_o36 hS, s_r36_0 hS, s_r36_1 hS, s_r36_2 hS, s_r36_3 hS, s_o112 hS, c1, c2, c23, ii, c4, i4, r36, o57, cw1, sw, sw4, show (nI 1 = (0 : Int32)) = False from eq_false (by decide), show (nI 1 = (1 : Int32)) = True from eq_true rfl]
        exact val_post (w1)
      · have cw2 : (0 ≤ nI 2 ∧ nI 2 ≤ 4) := cw
        have sw : ¬ (Int32.toInt (nI 2) < 0 ∨ 3 < Int32.toInt (nI 2)) := by decide
        have sw4 : ¬ (Int32.toInt (nI 2) < 0 ∨ 4 < Int32.toInt (nI 2)) := by decide
        have p2 := m_wcnt (μ := sI (sJ μ 112 (Int32.toNatClampNeg 0) (nI (cnt (wt μ i) N)).toInt64) 65 0 0) (i := i) l3 (by simp only [mI_sI, mR_sI, mK_sI, mN_sI, mL_sI, mI_sG, mR_sG, mK_sG, mN_sG, mL_sG, mI_sJ, mR_sJ, mK_sJ, mN_sJ, mL_sJ, mI_sA, mR_sA, mK_sA, mN_sA, mL_sA, z_up, ↓reduceIte, reduceIte, Nat.reduceEqDiff, true_and, and_true]; exact l2) N 0 p_fu (by omega) (by rw [show p_fu = 99999 + 1 from rfl]; omega)
        rw [wt_g (μ := μ) (by simp only [mI_sI, mR_sI, mK_sI, mN_sI, mL_sI, mI_sG, mR_sG, mK_sG, mN_sG, mL_sG, mI_sJ, mR_sJ, mK_sJ, mN_sJ, mL_sJ, mI_sA, mR_sA, mK_sA, mN_sA, mL_sA, z_up, ↓reduceIte, reduceIte, Nat.reduceEqDiff, true_and, and_true]) (by simp only [mI_sI, mR_sI, mK_sI, mN_sI, mL_sI, mI_sG, mR_sG, mK_sG, mN_sG, mL_sG, mI_sJ, mR_sJ, mK_sJ, mN_sJ, mL_sJ, mI_sA, mR_sA, mK_sA, mN_sA, mL_sA, z_up, ↓reduceIte, reduceIte, Nat.reduceEqDiff, true_and, and_true])] at p2
        have p2 : F_X13_works_c73 p_fu (nI i) 0 0 (sI (sJ μ 112 (Int32.toNatClampNeg 0) (nI (cnt (wt μ i) N)).toInt64) 65 0 0) = some (nI (cnt (wt μ i) N), _) := p2
        simp only [bd_some, p_let_eq, p_ok, mI_sI, mR_sI, mK_sI, mN_sI, mL_sI, mI_sG, mR_sG, mK_sG, mN_sG, mL_sG, mI_sJ, mR_sJ, mK_sJ, mN_sJ, mL_sJ, z_up, ↓reduceIte, and_self, true_and, and_true, false_and, and_false, not_true_eq_false, not_false_eq_true, Nat.reduceEqDiff, i_10, i_20, i_30, w_in, w_need1, w_need0, m_in, m_thr0, m_thr1, tM, aM, nI_1, nI_pred, reduceIte, wp_some, eq_self, bI_T, bI_F, F_L_works, F_X12_works, F_X13_works, m_noMachine, w_ix, w_what, s_o0 hS, s_r0_0 hS, s_r0_1 hS, s_r0_10 hS, s_r0_11 hS, s_r0_12 hS, s_r0_14 hS, s_r0_16 hS, s_r0_19 hS, s_r0_7 hS, s_r0_8 hS, s_r0_9 hS, s_a36 hS, s_l36 hS, s_o36 hS, s_r36_0 hS, s_r36_1 hS, s_r36_2 hS, s_r36_3 hS, s_o112 hS, c1, c2, c23, ii, c4, i4, r36, o57, cw2, sw, sw4, show (nI 2 = (0 : Int32)) = False from eq_false (by decide), show (nI 2 = (1 : Int32)) = False from eq_false (by decide), show (nI 2 = (2 : Int32)) = True from eq_true rfl, w4, p2]
        exact val_post rfl
      · have cw3 : (0 ≤ nI 3 ∧ nI 3 ≤ 4) := cw
        have sw : ¬ (Int32.toInt (nI 3) < 0 ∨ 3 < Int32.toInt (nI 3)) := by decide
        have sw4 : ¬ (Int32.toInt (nI 3) < 0 ∨ 4 < Int32.toInt (nI 3)) := by decide
        simp only [bd_some, p_let_eq, p_ok, mI_sI, mR_sI, mK_sI, mN_sI, mL_sI, mI_sG, mR_sG, mK_sG, mN_sG, mL_sG, mI_sJ, mR_sJ, mK_sJ, mN_sJ, mL_sJ, z_up, ↓reduceIte, and_self, true_and, and_true, false_and, and_false, not_true_eq_false, not_false_eq_true, Nat.reduceEqDiff, i_10, i_20, i_30, w_in, w_need1, w_need0, m_in, m_thr0, m_thr1, tM, aM, nI_1, nI_pred, reduceIte, wp_some, eq_self, bI_T, bI_F, F_L_works, F_X12_works, F_X13_works, m_noMachine, w_ix, w_what, s_o0 hS, s_r0_0 hS, s_r0_1 hS, s_r0_10 hS, s_r0_11 hS, s_r0_12 hS, s_r0_14 hS, s_r0_16 hS, s_r0_19 hS, s_r0_7 hS, s_r0_8 hS, s_r0_9 hS, s_a36 hS, s_l36 hS, s_o36 hS, s_r36_0 hS, s_r36_1 hS, s_r36_2 hS, s_r36_3 hS, s_o112 hS, c1, c2, c23, ii, c4, i4, r36, o57, cw3, sw, sw4, show (nI 3 = (0 : Int32)) = False from eq_false (by decide), show (nI 3 = (1 : Int32)) = False from eq_false (by decide), show (nI 3 = (2 : Int32)) = False from eq_false (by decide), show (nI 3 = (3 : Int32)) = True from eq_true rfl]
        exact val_post (w2)
      · have cw4 : (0 ≤ nI 4 ∧ nI 4 ≤ 4) := cw
        have sw :  (Int32.toInt (nI 4) < 0 ∨ 3 < Int32.toInt (nI 4)) := by decide
        have sw4 : ¬ (Int32.toInt (nI 4) < 0 ∨ 4 < Int32.toInt (nI 4)) := by decide
        simp only [bd_some, p_let_eq, p_ok, mI_sI, mR_sI, mK_sI, mN_sI, mL_sI, mI_sG, mR_sG, mK_sG, mN_sG, mL_sG, mI_sJ, mR_sJ, mK_sJ, mN_sJ, mL_sJ, z_up, ↓reduceIte, and_self, true_and, and_true, false_and, and_false, not_true_eq_false, not_false_eq_true, Nat.reduceEqDiff, i_10, i_20, i_30, w_in, w_need1, w_need0, m_in, m_thr0, m_thr1, tM, aM, nI_1, nI_pred, reduceIte, wp_some, eq_self, bI_T, bI_F, F_L_works, F_X12_works, F_X13_works, m_noMachine, w_ix, w_what, s_o0 hS, s_r0_0 hS, s_r0_1 hS, s_r0_10 hS, s_r0_11 hS, s_r0_12 hS, s_r0_14 hS, s_r0_16 hS, s_r0_19 hS, s_r0_7 hS, s_r0_8 hS, s_r0_9 hS, s_a36 hS, s_l36 hS, s_o36 hS, s_r36_0 hS, s_r36_1 hS, s_r36_2 hS, s_r36_3 hS, s_o112 hS, c1, c2, c23, ii, c4, i4, r36, o57, cw4, sw, sw4, show (nI 4 = (0 : Int32)) = False from eq_false (by decide), show (nI 4 = (1 : Int32)) = False from eq_false (by decide), show (nI 4 = (2 : Int32)) = False from eq_false (by decide), show (nI 4 = (3 : Int32)) = False from eq_false (by decide), show (nI 4 = (4 : Int32)) = True from eq_true rfl]
        exact val_post (w3)
    · have sw := sw_out (v := v2) (hi := 4) (by decide) cw
      have sw : v2.toInt < 0 ∨ 4 < v2.toInt := sw
      simp only [bd_some, p_let_eq, p_ok, mI_sI, mR_sI, mK_sI, mN_sI, mL_sI, mI_sG, mR_sG, mK_sG, mN_sG, mL_sG, mI_sJ, mR_sJ, mK_sJ, mN_sJ, mL_sJ, z_up, ↓reduceIte, and_self, true_and, and_true, false_and, and_false, not_true_eq_false, not_false_eq_true, Nat.reduceEqDiff, i_10, i_20, i_30, w_in, w_need1, w_need0, m_in, m_thr0, m_thr1, tM, aM, nI_1, nI_pred, reduceIte, wp_some, eq_self, bI_T, bI_F, F_L_works, F_X12_works, F_X13_works, m_noMachine, w_ix, w_what, s_o0 hS, s_r0_0 hS, s_r0_1 hS, s_r0_10 hS, s_r0_11 hS, s_r0_12 hS, s_r0_14 hS, s_r0_16 hS, s_r0_19 hS, s_r0_7 hS, s_r0_8 hS, s_r0_9 hS, s_o112 hS, c1, c2, cw, sw]
      exact ⟨thr_post (by decide), thr_fr⟩
theorem cnt_0 {P : Nat → Bool} : ∀ {n : Nat}, (∀ j, j < n → P j = false) → cnt P n = 0 := by
  intro n
  induction n with
  | zero => intro _; rfl
  | succ n ih =>
    intro h
    unfold cnt
    rw [ih (fun j hj => h j (by omega)), h n (by omega)]
    rfl
theorem mac_RL {μ μ2 : p_M} (hR : RLots μ) {K x : Nat} (hK : mI μ 0 13 = nI K) (ck : K < 4) (x1 : 1 ≤ x) (x2 : x ≤ 60) (f : Fr [0, 57 + 2 * K, 85, 86, 87] [0, 47] μ μ2) (p2 : mI μ2 0 13 = nI (K + 1)) (p3 : mI μ2 65 47 = nI (K + 1)) (p4 : ∀ j, mI μ2 (57 + 2 * K) j = if j = 0 then nI x else mI μ (57 + 2 * K) j) (p5 : ∀ j, mI μ2 85 j = if j = K then nI x else mI μ 85 j) (p6 : ∀ j, mI μ2 86 j = if j = K then -1 else mI μ 86 j) (p7 : ∀ j, mI μ2 87 j = if j = K then -1 else mI μ 87 j) : RLots μ2 := by
  obtain ⟨N, K', M, C, E, lr, ⟨l1, l2, l3, l4, l5, l6⟩, hC, ⟨n1, n2, n3⟩, hLot, hM, hZ, hzr, hme, hld⟩ := hR
  have : K' = K := (nI_eq (show K' < 2 ^ 31 by omega) (show K < 2 ^ 31 by omega)).mp (n1.symm.trans hK)
  subst this
  have row : ∀ a, a ≠ 65 → a ≠ 0 → a ≠ 57 + 2 * K' → a ≠ 85 → a ≠ 86 → a ≠ 87 → mI μ2 a = mI μ a := fun a h1 h2 h3 h4 h5 h6 => f.2.2.2.2.1 a h1 (by
    simp only [List.mem_cons, List.not_mem_nil, or_false]
    omega)
  have sc : ∀ k, k ≠ 0 → k ≠ 47 → mI μ2 65 k = mI μ 65 k := fun k h1 h2 => f.2.2.2.2.2 k (by
    simp only [List.mem_cons, List.not_mem_nil, or_false]
    omega)
  have h96 : mI μ2 96 = mI μ 96 := row 96 (by omega) (by omega) (by omega) (by omega) (by omega) (by omega)
  have h97 : mI μ2 97 = mI μ 97 := row 97 (by omega) (by omega) (by omega) (by omega) (by omega) (by omega)
  have h102 : mI μ2 102 = mI μ 102 := row 102 (by omega) (by omega) (by omega) (by omega) (by omega) (by omega)
  have h88 : mI μ2 88 = mI μ 88 := row 88 (by omega) (by omega) (by omega) (by omega) (by omega) (by omega)
  have ag : Ag μ μ2 C := by
    refine ⟨fun a ha => ⟨by rw [f.1], by rw [f.2.1], by rw [f.2.2.1], row a (by omega) (by omega) (by omega) (by omega) (by omega) (by omega)⟩, by rw [f.2.2.2.1]; exact Nat.le_refl _, fun j _ => ?_, fun k _ => ?_, fun k _ => ?_, fun c _ => ?_, fun a h1 h2 => row a (by omega) (by omega) (by omega) (by omega) (by omega) (by omega)⟩
    · rw [row 68 (by omega) (by omega) (by omega) (by omega) (by omega) (by omega)]
    · rw [row 69 (by omega) (by omega) (by omega) (by omega) (by omega) (by omega), row 70 (by omega) (by omega) (by omega) (by omega) (by omega) (by omega)]; exact ⟨rfl, rfl⟩
    · rw [row 74 (by omega) (by omega) (by omega) (by omega) (by omega) (by omega)]
    · rw [row 73 (by omega) (by omega) (by omega) (by omega) (by omega) (by omega)]
  refine ⟨N, K' + 1, M, C, E, lr, ⟨?_, ?_, l3, ?_, l5, l6⟩, ⟨(sc 14 (by decide) (by decide)).trans hC.1, hC.2⟩, ⟨p2, p3, by omega⟩, fun j hj => LotR_ag ag hC.2 (Nat.le_refl C) (by omega) (by omega) (hLot j hj), fun i hi => ?_, fun i h1 h2 => ?_, ?_, ?_, ?_⟩
  · rw [row 37 (by omega) (by omega) (by omega) (by omega) (by omega) (by omega)]; exact l1
  · rw [sc 62 (by decide) (by decide)]; exact l2
  · rw [f.1, f.2.1, f.2.2.1, f.2.2.2.1]; exact l4
  · by_cases ci : i = K'
    · subst ci
      obtain ⟨z1, z2, z3, z4, z5⟩ := hZ i (Nat.le_refl _) ck
      have hc0 : cnt (wt μ i) N = 0 := cnt_0 (fun j hj => by
        obtain ⟨P, nb, -, -, ⟨-, -, -, -, -, -, -, -, -, -, -, -, q⟩, -⟩ := hLot j hj
        unfold wt
        refine decide_eq_false (fun h => ?_)
        obtain ⟨i', hi', e⟩ := q (Or.inl h.1)
        have := (nI_eq (show i' < 2 ^ 31 by omega) (show i < 2 ^ 31 by omega)).mp (e.symm.trans h.2)
        omega)
      unfold MacR
      rw [wt_g h96 h97, hc0, p5 i, p6 i, p7 i, p4 0, p4 2, p4 3, p4 4, p4 5, if_pos rfl, if_pos rfl, if_pos rfl, if_pos rfl, h88]
      refine ⟨⟨x, x1, x2, rfl, rfl⟩, z2, z3, z4.trans z5.symm, Or.inl rfl, Or.inl rfl, z1, fun m hm => by omega, fun m m' j j' h1 h2 => by omega, fun j hj hw => ?_⟩
      have : cnt (wt μ i) N = 0 := hc0
      exfalso
      obtain ⟨P, nb, -, -, ⟨-, -, -, -, -, -, -, -, -, -, -, -, q⟩, -⟩ := hLot j hj
      have h := of_decide_eq_true hw
      obtain ⟨i', hi', e⟩ := q (Or.inl h.1)
      have := (nI_eq (show i' < 2 ^ 31 by omega) (show i < 2 ^ 31 by omega)).mp (e.symm.trans h.2)
      omega
    · have e1 := row (57 + 2 * i) (by omega) (by omega) (by omega) (by omega) (by omega) (by omega)
      have e2 := row (58 + 2 * i) (by omega) (by omega) (by omega) (by omega) (by omega) (by omega)
      unfold MacR
      rw [wt_g h96 h97, e1, e2, p5 i, p6 i, p7 i, if_neg ci, if_neg ci, if_neg ci, h88, h96, h97, h102]
      exact hM i (by omega)
  · have e1 := row (57 + 2 * i) (by omega) (by omega) (by omega) (by omega) (by omega) (by omega)
    unfold MacZ
    rw [e1, h88]
    exact hZ i (by omega) h2
  · unfold ZroR
    rw [h96, row 98 (by omega) (by omega) (by omega) (by omega) (by omega) (by omega), row 101 (by omega) (by omega) (by omega) (by omega) (by omega) (by omega), row 103 (by omega) (by omega) (by omega) (by omega) (by omega) (by omega)]
    exact hzr
  · unfold MeaR
    rw [row 38 (by omega) (by omega) (by omega) (by omega) (by omega) (by omega), row 39 (by omega) (by omega) (by omega) (by omega) (by omega) (by omega), row 40 (by omega) (by omega) (by omega) (by omega) (by omega) (by omega), row 41 (by omega) (by omega) (by omega) (by omega) (by omega) (by omega), row 104 (by omega) (by omega) (by omega) (by omega) (by omega) (by omega), row 105 (by omega) (by omega) (by omega) (by omega) (by omega) (by omega), row 106 (by omega) (by omega) (by omega) (by omega) (by omega) (by omega), row 107 (by omega) (by omega) (by omega) (by omega) (by omega) (by omega), sc 69 (by decide) (by decide), sc 70 (by decide) (by decide)]
    exact hme
  · unfold LdR
    rw [sc 63 (by decide) (by decide), ld_g h96, h102]
    exact hld
theorem A_machine {μ : p_M} (hS : Sh μ) (hR : RLots μ) (v : Int32) : wp (F_L_machine 0 v 112 μ) fun k μ1 => wp (F_X13_machine v μ1) fun b μ2 => Post k b μ μ2 ∧ RLots μ2 ∧ (∀ j, j ≠ 13 → mI μ2 0 j = mI μ 0 j) ∧ Fr [0, 57, 59, 61, 63, 85, 86, 87] [0, 47] μ μ2 := by
  have hR0 := hR
  obtain ⟨N, K, M, C, E, lr, ⟨l1, l2, l3, l4, l5, l6⟩, hC, ⟨n1, n2, n3⟩, hLot, hM, hZ, hzr, hme, hld⟩ := hR
  have thr : ∀ x : Int32, ¬ x = 0 → Post x 0 μ (sI (sI (sG μ 1 6) 65 0 0) 65 0 x) ∧ RLots (sI (sI (sG μ 1 6) 65 0 0) 65 0 x) ∧ Fr [0, 57, 59, 61, 63, 85, 86, 87] [0, 47] μ (sI (sI (sG μ 1 6) 65 0 0) 65 0 x) := fun x hx => ⟨thr_post hx, RLots_fr0 thr_fr (by decide) (by decide) (by decide) (by decide) hR0, Fr_mono thr_fr (by decide) (by decide)⟩
  by_cases c1 : 1 ≤ v ∧ v ≤ 60
  · obtain ⟨x, x1, x2, rfl⟩ := rg3 v 1 60 1 60 rfl rfl (by decide) (by decide) c1
    by_cases ck : K < 4
    · have ik := ix_nI ck (by decide)
      have kk := nI_clamp (show K < 2 ^ 31 by omega)
      have hlt : nI K < 4 := (show nI K < nI 4 from nI_lt ck (by decide))
      have hne : ¬ nI K = 4 := fun e => by have := (nI_eq (show K < 2 ^ 31 by omega) (show 4 < 2 ^ 31 by decide)).mp e; omega
      have r36 := s_r36 hS ck
      have o57 := s_o57v hS ck
      have c23 : 23 ≤ 24 ∧ 24 ≤ 26 := by decide
      have m0 : ¬ 57 + 2 * K = 0 := by omega
      have m0' : ¬ 0 = 57 + 2 * K := by omega
      have m65 : ¬ 65 = 57 + 2 * K := by omega
      have sb : nI (K + 1) - 1 = nI K := nI_pred K
      simp only [bd_some, p_let_eq, p_ok, mI_sI, mR_sI, mK_sI, mN_sI, mL_sI, mI_sG, mR_sG, mK_sG, mN_sG, mL_sG, mI_sJ, mR_sJ, mK_sJ, mN_sJ, mL_sJ, z_up, ↓reduceIte, and_self, true_and, and_true, false_and, and_false, not_true_eq_false, not_false_eq_true, Nat.reduceEqDiff, i_10, i_20, i_30, w_in, w_need1, w_need0, m_in, m_thr0, m_thr1, tM, aM, nI_1, nI_pred, reduceIte, wp_some, eq_self, bI_T, bI_F, F_L_machine, F_X12_machine, F_X13_machine, F_X13_machine_c21, F_X13_machine_c42, F_X13_machine_c49, w_room, s_o0 hS, s_r0_0 hS, s_r0_1 hS, s_r0_10 hS, s_r0_11 hS, s_r0_12 hS, s_r0_14 hS, s_r0_16 hS, s_r0_19 hS, s_r0_7 hS, s_r0_8 hS, s_r0_9 hS, s_a36 hS, s_l36 hS, s_o36 hS, s_r36_0 hS, s_r36_1 hS, s_r36_2 hS, s_r36_3 hS, s_o112 hS, c23, n1, n2, c1, ik, kk, ck, hlt, hne, r36, o57, m0, m0', m65]
      have hmem : 57 + 2 * K ∈ [0, 57, 59, 61, 63, 85, 86, 87] ∧ 57 + 2 * K ≠ 65 := by
        rcases (show K = 0 ∨ K = 1 ∨ K = 2 ∨ K = 3 by omega) with rfl | rfl | rfl | rfl <;> decide
      have hmem' : 57 + 2 * K ∈ [0, 57 + 2 * K, 85, 86, 87] ∧ 57 + 2 * K ≠ 65 := ⟨by simp, by omega⟩
      have t0 : 0 ∈ [0, 57 + 2 * K, 85, 86, 87] ∧ 0 ≠ 65 := ⟨by simp, by decide⟩
      have t85 : 85 ∈ [0, 57 + 2 * K, 85, 86, 87] ∧ 85 ≠ 65 := ⟨by simp, by decide⟩
      have t86 : 86 ∈ [0, 57 + 2 * K, 85, 86, 87] ∧ 86 ≠ 65 := ⟨by simp, by decide⟩
      have t87 : 87 ∈ [0, 57 + 2 * K, 85, 86, 87] ∧ 87 ≠ 65 := ⟨by simp, by decide⟩
      have m85 : ¬ 85 = 57 + 2 * K := by omega
      have m86 : ¬ 86 = 57 + 2 * K := by omega
      have m87 : ¬ 87 = 57 + 2 * K := by omega
      have w85 : ¬ 57 + 2 * K = 85 := by omega
      have w86 : ¬ 57 + 2 * K = 86 := by omega
      have w87 : ¬ 57 + 2 * K = 87 := by omega
      have w65 : ¬ 57 + 2 * K = 65 := by omega
      refine ⟨⟨rfl, fun _ => rfl, Cn_eq rfl rfl⟩, ?_, ?_, ?_⟩
      · refine mac_RL hR0 n1 ck x1 x2 ?_ ?_ ?_ (fun j => ?_) (fun j => ?_) (fun j => ?_) (fun j => ?_)
        · repeat (first | exact Fr_refl _ | refine Fr_s65 ?_ (by decide) | refine Fr_sI ?_ hmem' | refine Fr_sI ?_ t0 | refine Fr_sI ?_ t85 | refine Fr_sI ?_ t86 | refine Fr_sI ?_ t87 | refine Fr_sJ ?_)
        · simp only [mI_sI, mR_sI, mK_sI, mN_sI, mL_sI, mI_sG, mR_sG, mK_sG, mN_sG, mL_sG, mI_sJ, mR_sJ, mK_sJ, mN_sJ, mL_sJ, mI_sA, mR_sA, mK_sA, mN_sA, mL_sA, z_up, ↓reduceIte, reduceIte, Nat.reduceEqDiff, true_and, and_true, m0', m85, m86, m87]
        · simp only [mI_sI, mR_sI, mK_sI, mN_sI, mL_sI, mI_sG, mR_sG, mK_sG, mN_sG, mL_sG, mI_sJ, mR_sJ, mK_sJ, mN_sJ, mL_sJ, mI_sA, mR_sA, mK_sA, mN_sA, mL_sA, z_up, ↓reduceIte, reduceIte, Nat.reduceEqDiff, true_and, and_true, m65]
        · simp only [mI_sI, mR_sI, mK_sI, mN_sI, mL_sI, mI_sG, mR_sG, mK_sG, mN_sG, mL_sG, mI_sJ, mR_sJ, mK_sJ, mN_sJ, mL_sJ, mI_sA, mR_sA, mK_sA, mN_sA, mL_sA, z_up, ↓reduceIte, reduceIte, Nat.reduceEqDiff, true_and, and_true, m0, w85, w86, w87, w65]
        · simp only [mI_sI, mR_sI, mK_sI, mN_sI, mL_sI, mI_sG, mR_sG, mK_sG, mN_sG, mL_sG, mI_sJ, mR_sJ, mK_sJ, mN_sJ, mL_sJ, mI_sA, mR_sA, mK_sA, mN_sA, mL_sA, z_up, ↓reduceIte, reduceIte, Nat.reduceEqDiff, true_and, and_true, m85]
        · simp only [mI_sI, mR_sI, mK_sI, mN_sI, mL_sI, mI_sG, mR_sG, mK_sG, mN_sG, mL_sG, mI_sJ, mR_sJ, mK_sJ, mN_sJ, mL_sJ, mI_sA, mR_sA, mK_sA, mN_sA, mL_sA, z_up, ↓reduceIte, reduceIte, Nat.reduceEqDiff, true_and, and_true, m86]
        · simp only [mI_sI, mR_sI, mK_sI, mN_sI, mL_sI, mI_sG, mR_sG, mK_sG, mN_sG, mL_sG, mI_sJ, mR_sJ, mK_sJ, mN_sJ, mL_sJ, mI_sA, mR_sA, mK_sA, mN_sA, mL_sA, z_up, ↓reduceIte, reduceIte, Nat.reduceEqDiff, true_and, and_true, m87]
      · intro j hj
        simp only [mI_sI, mR_sI, mK_sI, mN_sI, mL_sI, mI_sG, mR_sG, mK_sG, mN_sG, mL_sG, mI_sJ, mR_sJ, mK_sJ, mN_sJ, mL_sJ, mI_sA, mR_sA, mK_sA, mN_sA, mL_sA, z_up, ↓reduceIte, reduceIte, Nat.reduceEqDiff, true_and, and_true, m0', hj]
      · repeat (first | exact Fr_refl _ | refine Fr_s65 ?_ (by decide) | refine Fr_sI ?_ hmem | refine Fr_sI ?_ (by decide) | refine Fr_sJ ?_)
    · have hk4 : K = 4 := by omega
      subst hk4
      have n1 : mI μ 0 13 = 4 := n1
      have n2 : mI μ 65 47 = 4 := n2
      have hlt : ¬ (4 : Int32) < 4 := by decide
      simp only [bd_some, p_let_eq, p_ok, mI_sI, mR_sI, mK_sI, mN_sI, mL_sI, mI_sG, mR_sG, mK_sG, mN_sG, mL_sG, mI_sJ, mR_sJ, mK_sJ, mN_sJ, mL_sJ, z_up, ↓reduceIte, and_self, true_and, and_true, false_and, and_false, not_true_eq_false, not_false_eq_true, Nat.reduceEqDiff, i_10, i_20, i_30, w_in, w_need1, w_need0, m_in, m_thr0, m_thr1, tM, aM, nI_1, nI_pred, reduceIte, wp_some, eq_self, bI_T, bI_F, F_L_machine, F_X12_machine, F_X13_machine, F_X13_machine_c21, F_X13_machine_c42, F_X13_machine_c49, w_room, s_o0 hS, s_r0_0 hS, s_r0_1 hS, s_r0_10 hS, s_r0_11 hS, s_r0_12 hS, s_r0_14 hS, s_r0_16 hS, s_r0_19 hS, s_r0_7 hS, s_r0_8 hS, s_r0_9 hS, s_a36 hS, s_l36 hS, s_o36 hS, s_r36_0 hS, s_r36_1 hS, s_r36_2 hS, s_r36_3 hS, s_o112 hS, n1, n2, c1, hlt]
      exact ⟨(thr 2 (by decide)).1, (thr 2 (by decide)).2.1, fun _ _ => trivial, (thr 2 (by decide)).2.2⟩
  · simp only [bd_some, p_let_eq, p_ok, mI_sI, mR_sI, mK_sI, mN_sI, mL_sI, mI_sG, mR_sG, mK_sG, mN_sG, mL_sG, mI_sJ, mR_sJ, mK_sJ, mN_sJ, mL_sJ, z_up, ↓reduceIte, and_self, true_and, and_true, false_and, and_false, not_true_eq_false, not_false_eq_true, Nat.reduceEqDiff, i_10, i_20, i_30, w_in, w_need1, w_need0, m_in, m_thr0, m_thr1, tM, aM, nI_1, nI_pred, reduceIte, wp_some, eq_self, bI_T, bI_F, F_L_machine, F_X12_machine, F_X13_machine, F_X13_machine_c21, F_X13_machine_c42, F_X13_machine_c49, s_o0 hS, s_r0_0 hS, s_r0_1 hS, s_r0_10 hS, s_r0_11 hS, s_r0_12 hS, s_r0_14 hS, s_r0_16 hS, s_r0_19 hS, s_r0_7 hS, s_r0_8 hS, s_r0_9 hS, s_o112 hS, c1]
    exact ⟨(thr 1 (by decide)).1, (thr 1 (by decide)).2.1, fun _ _ => trivial, (thr 1 (by decide)).2.2⟩
