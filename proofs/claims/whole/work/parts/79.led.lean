/-! led, works -/
/-- how many pieces are so placed -/
def cpl (f : Nat → Int32) (v : Int32) : Nat → Nat → Int32 → Int32
  | 0, _, a => a
  | r + 1, k, a => cpl f v r (k + 1) (if f k = v then a + 1 else a)
theorem c_placed {μ : p_M} {l P j : Nat} (hP : P ≤ 60) (o1 : mK μ l = 5 ∧ l < mN μ) (r15 : mR μ l 15 = some (l + 5)) (a5 : l + 5 < p_E ∧ mK μ (l + 5) = 20 ∧ l + 5 < mN μ) (l5 : mL μ (l + 5) = P) (e1 : mI μ l 1 = nI P) (v : Int32) (hp : ∀ p, p < P → mI μ (l + 5) p = mI μ 103 (60 * j + p)) : ∀ (r k m : Nat) (a : Int32), k + r = P → r < m → F_X4_countPlaced_c4 m l v a (nI k) μ = some (cpl (mI μ 103) v r (60 * j + k) a, μ) := by
  intro r
  induction r with
  | zero =>
    intro k m a hk hm
    obtain ⟨m, rfl⟩ : ∃ k, m = k + 1 := ⟨m - 1, by omega⟩
    have c1 : nI P ≤ nI k := nI_le (by omega) (by omega)
    simp only [F_X4_countPlaced_c4, p_ok, o1, e1, c1, cpl, and_self, ↓reduceIte]
  | succ r ih =>
    intro k m a hk hm
    obtain ⟨m, rfl⟩ : ∃ k, m = k + 1 := ⟨m - 1, by omega⟩
    have c1 : ¬ nI P ≤ nI k := nI_ge (by omega) (by omega)
    have i1 := ix_nI (show k < P by omega) (by omega)
    have k1 := nI_clamp (show k < 2 ^ 31 by omega)
    have l1 : k < P := by omega
    have a1 : nI k + 1 = nI (k + 1) := nI_add k 1
    have e := hp k l1
    unfold cpl
    by_cases c : mI μ 103 (60 * j + k) = v
    · rw [if_pos c]
      have := ih (k + 1) m (a + 1) (by omega) (by omega)
      simp only [F_X4_countPlaced_c4, F_X4_countPlaced_c25, bd_some, p_ok, o1, e1, c1, r15, a5, l5, i1, k1, l1, e, c, a1, and_self, true_and, not_false_eq_true, not_true_eq_false, ↓reduceIte]
      exact this
    · rw [if_neg c]
      have := ih (k + 1) m a (by omega) (by omega)
      simp only [F_X4_countPlaced_c4, F_X4_countPlaced_c25, bd_some, p_ok, o1, e1, c1, r15, a5, l5, i1, k1, l1, e, c, a1, and_self, true_and, not_false_eq_true, not_true_eq_false, ↓reduceIte]
      exact this
theorem m_placed {μ : p_M} {P j : Nat} (hP : P ≤ 60) (hj : j < 40) (e1 : mI μ 90 j = nI P) (v : Int32) : ∀ (r k m : Nat) (a : Int32), k + r = P → r < m → F_X13_piecesOf_c5 m (nI j) v a (nI k) μ = some (cpl (mI μ 103) v r (60 * j + k) a, μ) := by
  have ij := ix_nI hj (by decide)
  have kj := nI_clamp (show j < 2 ^ 31 by omega)
  have m60 : 60 * nI j = nI (60 * j) := pk_mul 60 j
  intro r
  induction r with
  | zero =>
    intro k m a hk hm
    obtain ⟨m, rfl⟩ : ∃ k, m = k + 1 := ⟨m - 1, by omega⟩
    have c1 : nI P ≤ nI k := nI_le (by omega) (by omega)
    simp only [F_X13_piecesOf_c5, p_ok, aM, ij, kj, hj, e1, c1, cpl, and_self, true_and, not_false_eq_true, ↓reduceIte]
  | succ r ih =>
    intro k m a hk hm
    obtain ⟨m, rfl⟩ : ∃ k, m = k + 1 := ⟨m - 1, by omega⟩
    have c1 : ¬ nI P ≤ nI k := nI_ge (by omega) (by omega)
    have ak : nI (60 * j) + nI k = nI (60 * j + k) := nI_add _ _
    have i1 := ix_nI (show 60 * j + k < 2400 by omega) (by decide)
    have k1 := nI_clamp (show 60 * j + k < 2 ^ 31 by omega)
    have l1 : 60 * j + k < 2400 := by omega
    have a1 : nI k + 1 = nI (k + 1) := nI_add k 1
    have a0 : a + 0 = a := Int32.add_zero a
    unfold cpl
    by_cases c : mI μ 103 (60 * j + k) = v
    · rw [if_pos c]
      have := ih (k + 1) m (a + 1) (by omega) (by omega)
      simp only [F_X13_piecesOf_c5, F_X13_piecesOf_c38, p_ok, aM, ij, kj, hj, e1, c1, m60, ak, i1, k1, l1, c, a1, and_self, true_and, not_false_eq_true, not_true_eq_false, ↓reduceIte]
      exact this
    · rw [if_neg c]
      have := ih (k + 1) m a (by omega) (by omega)
      simp only [F_X13_piecesOf_c5, F_X13_piecesOf_c38, p_ok, aM, ij, kj, hj, e1, c1, m60, ak, i1, k1, l1, c, a0, a1, and_self, true_and, not_false_eq_true, not_true_eq_false, ↓reduceIte]
      exact this
theorem i16 {b : Nat} (h : b ≤ 15) : b = 0 ∨ b = 1 ∨ b = 2 ∨ b = 3 ∨ b = 4 ∨ b = 5 ∨ b = 6 ∨ b = 7 ∨ b = 8 ∨ b = 9 ∨ b = 10 ∨ b = 11 ∨ b = 12 ∨ b = 13 ∨ b = 14 ∨ b = 15 := by omega
theorem sw_out {v : Int32} {hi : Nat} (hh : hi < 2 ^ 31) (h : ¬ (0 ≤ v ∧ v ≤ nI hi)) : v.toInt < 0 ∨ (hi : Int) < v.toInt := by
  by_cases c : v.toInt < 0
  · exact Or.inl c
  · refine Or.inr ?_
    by_cases c2 : v.toInt ≤ hi
    · refine absurd ⟨Int32.le_iff_toInt_le.mpr ?_, Int32.le_iff_toInt_le.mpr ?_⟩ h
      · have : (0 : Int32).toInt = 0 := rfl
        omega
      · rw [nI_toInt hh]; exact c2
    · omega
theorem val_post {μ : p_M} {a b : Int32} (e : a = b) : Post 0 b μ (sI (sJ μ 112 (Int32.toNatClampNeg 0) a.toInt64) 65 0 0) ∧ Fr [] [0] μ (sI (sJ μ 112 (Int32.toNatClampNeg 0) a.toInt64) 65 0 0) := by
  subst e
  refine ⟨⟨?_, fun _ => rfl, Cn_eq rfl rfl⟩, ?_⟩
  · simp only [mI_sI, mR_sI, mK_sI, mN_sI, mL_sI, mI_sG, mR_sG, mK_sG, mN_sG, mL_sG, mI_sJ, mR_sJ, mK_sJ, mN_sJ, mL_sJ, mI_sA, mR_sA, mK_sA, mN_sA, mL_sA, z_up, ↓reduceIte, reduceIte, Nat.reduceEqDiff, true_and, and_true]
  · repeat (first | exact Fr_refl _ | refine Fr_s65 ?_ (by decide) | refine Fr_sI ?_ (by decide) | refine Fr_sA ?_ (by decide) | refine Fr_sJ ?_ | refine Fr_sG ?_)
theorem A_led {μ : p_M} (hS : Sh μ) (hR : RLots μ) (v1 v2 : Int32) : wp (F_L_led 0 v1 v2 112 μ) fun k μ1 => wp (F_X13_led v1 v2 μ1) fun b μ2 => Post k b μ μ2 ∧ Fr [] [0] μ μ2 := by
  obtain ⟨N, K, M, C, E, lr, hL, hC, hK, hLot, -⟩ := hR
  have hL0 := hL
  obtain ⟨l1, l2, l3, -⟩ := hL0
  rcases ix3 v1 (mI μ 37 2) (mI μ 65 62 - 1) N (by omega) l1 (by rw [l2]) with ⟨c1, c2⟩ | ⟨j, hj, rfl, c1, c2, c3, c4⟩
  · rw [l1] at c1
    simp only [bd_some, p_let_eq, p_ok, mI_sI, mR_sI, mK_sI, mN_sI, mL_sI, mI_sG, mR_sG, mK_sG, mN_sG, mL_sG, mI_sJ, mR_sJ, mK_sJ, mN_sJ, mL_sJ, z_up, ↓reduceIte, and_self, true_and, and_true, false_and, and_false, not_true_eq_false, not_false_eq_true, Nat.reduceEqDiff, i_10, i_20, i_30, w_in, w_need1, w_need0, m_in, m_thr0, m_thr1, tM, aM, nI_1, nI_pred, reduceIte, wp_some, eq_self, bI_T, bI_F, F_L_led, F_X12_led, c_lotNo hS hL c1, F_X13_led, m_noLot, s_o0 hS, s_r0_0 hS, s_r0_1 hS, s_r0_10 hS, s_r0_11 hS, s_r0_12 hS, s_r0_14 hS, s_r0_16 hS, s_r0_19 hS, s_r0_7 hS, s_r0_8 hS, s_r0_9 hS, s_o112 hS, c2]
    exact ⟨thr_post (by decide), thr_fr⟩
  · obtain ⟨P, nb, ⟨g0, g1, g2, g3, g4, g5, g6, g7, g8, g9, -⟩, ⟨w0, w1, w2, w3, w4, w5, w6, w7, w8, w9, w10, w11, w12⟩, ⟨-, y1, y2, y3, -⟩, ⟨L, h, c, k1, k2, k3, k4, -⟩, ⟨b1, b2, b3, -⟩, pz, -⟩ := hLot j hj
    have la := c_lotAt hS hL hj g1
    have j40 : j < 40 := by omega
    have ij := ix_nI j40 (by decide)
    have ij2 := ix_nI (show j < 42 by omega) (by decide)
    have l42 : j < 42 := by omega
    by_cases cw : 0 ≤ v2 ∧ v2 ≤ 15
    · obtain ⟨w, -, hw, rfl⟩ := rg3 v2 0 15 0 15 rfl rfl (by decide) (by decide) cw
      rcases i16 hw with rfl | rfl | rfl | rfl | rfl | rfl | rfl | rfl | rfl | rfl | rfl | rfl | rfl | rfl | rfl | rfl
      · have cw0 : (0 ≤ nI 0 ∧ nI 0 ≤ 15) := cw
        have sw : ¬ (Int32.toInt (nI 0) < 0 ∨ 15 < Int32.toInt (nI 0)) := by decide
        simp only [bd_some, p_let_eq, p_ok, mI_sI, mR_sI, mK_sI, mN_sI, mL_sI, mI_sG, mR_sG, mK_sG, mN_sG, mL_sG, mI_sJ, mR_sJ, mK_sJ, mN_sJ, mL_sJ, z_up, ↓reduceIte, and_self, true_and, and_true, false_and, and_false, not_true_eq_false, not_false_eq_true, Nat.reduceEqDiff, i_10, i_20, i_30, w_in, w_need1, w_need0, m_in, m_thr0, m_thr1, tM, aM, nI_1, nI_pred, reduceIte, wp_some, eq_self, bI_T, bI_F, F_L_led, F_X12_led, F_X12_led_c169, la, F_X13_led, F_X13_led_c207, m_noLot, w_what, s_o0 hS, s_r0_0 hS, s_r0_1 hS, s_r0_10 hS, s_r0_11 hS, s_r0_12 hS, s_r0_14 hS, s_r0_16 hS, s_r0_19 hS, s_r0_7 hS, s_r0_8 hS, s_r0_9 hS, s_o112 hS, c2, ij, ij2, c4, j40, l42, g1, cw0, sw, show (nI 0 = (0 : Int32)) = True from eq_true rfl]
        exact val_post w7
      · have cw1 : (0 ≤ nI 1 ∧ nI 1 ≤ 15) := cw
        have sw : ¬ (Int32.toInt (nI 1) < 0 ∨ 15 < Int32.toInt (nI 1)) := by decide
        simp only [bd_some, p_let_eq, p_ok, mI_sI, mR_sI, mK_sI, mN_sI, mL_sI, mI_sG, mR_sG, mK_sG, mN_sG, mL_sG, mI_sJ, mR_sJ, mK_sJ, mN_sJ, mL_sJ, z_up, ↓reduceIte, and_self, true_and, and_true, false_and, and_false, not_true_eq_false, not_false_eq_true, Nat.reduceEqDiff, i_10, i_20, i_30, w_in, w_need1, w_need0, m_in, m_thr0, m_thr1, tM, aM, nI_1, nI_pred, reduceIte, wp_some, eq_self, bI_T, bI_F, F_L_led, F_X12_led, F_X12_led_c169, la, F_X13_led, F_X13_led_c207, m_noLot, w_what, s_o0 hS, s_r0_0 hS, s_r0_1 hS, s_r0_10 hS, s_r0_11 hS, s_r0_12 hS, s_r0_14 hS, s_r0_16 hS, s_r0_19 hS, s_r0_7 hS, s_r0_8 hS, s_r0_9 hS, s_o112 hS, c2, ij, ij2, c4, j40, l42, g1, cw1, sw, show (nI 1 = (0 : Int32)) = False from eq_false (by decide), show (nI 1 = (1 : Int32)) = True from eq_true rfl]
        exact val_post w8
      · have cw2 : (0 ≤ nI 2 ∧ nI 2 ≤ 15) := cw
        have sw : ¬ (Int32.toInt (nI 2) < 0 ∨ 15 < Int32.toInt (nI 2)) := by decide
        simp only [bd_some, p_let_eq, p_ok, mI_sI, mR_sI, mK_sI, mN_sI, mL_sI, mI_sG, mR_sG, mK_sG, mN_sG, mL_sG, mI_sJ, mR_sJ, mK_sJ, mN_sJ, mL_sJ, z_up, ↓reduceIte, and_self, true_and, and_true, false_and, and_false, not_true_eq_false, not_false_eq_true, Nat.reduceEqDiff, i_10, i_20, i_30, w_in, w_need1, w_need0, m_in, m_thr0, m_thr1, tM, aM, nI_1, nI_pred, reduceIte, wp_some, eq_self, bI_T, bI_F, F_L_led, F_X12_led, F_X12_led_c169, la, F_X13_led, F_X13_led_c207, m_noLot, w_what, s_o0 hS, s_r0_0 hS, s_r0_1 hS, s_r0_10 hS, s_r0_11 hS, s_r0_12 hS, s_r0_14 hS, s_r0_16 hS, s_r0_19 hS, s_r0_7 hS, s_r0_8 hS, s_r0_9 hS, s_o112 hS, c2, ij, ij2, c4, j40, l42, g1, cw2, sw, show (nI 2 = (0 : Int32)) = False from eq_false (by decide), show (nI 2 = (1 : Int32)) = False from eq_false (by decide), show (nI 2 = (2 : Int32)) = True from eq_true rfl]
        exact val_post w9
      · have cw3 : (0 ≤ nI 3 ∧ nI 3 ≤ 15) := cw
        have sw : ¬ (Int32.toInt (nI 3) < 0 ∨ 15 < Int32.toInt (nI 3)) := by decide
        simp only [bd_some, p_let_eq, p_ok, mI_sI, mR_sI, mK_sI, mN_sI, mL_sI, mI_sG, mR_sG, mK_sG, mN_sG, mL_sG, mI_sJ, mR_sJ, mK_sJ, mN_sJ, mL_sJ, z_up, ↓reduceIte, and_self, true_and, and_true, false_and, and_false, not_true_eq_false, not_false_eq_true, Nat.reduceEqDiff, i_10, i_20, i_30, w_in, w_need1, w_need0, m_in, m_thr0, m_thr1, tM, aM, nI_1, nI_pred, reduceIte, wp_some, eq_self, bI_T, bI_F, F_L_led, F_X12_led, F_X12_led_c169, la, F_X13_led, F_X13_led_c207, m_noLot, w_what, s_o0 hS, s_r0_0 hS, s_r0_1 hS, s_r0_10 hS, s_r0_11 hS, s_r0_12 hS, s_r0_14 hS, s_r0_16 hS, s_r0_19 hS, s_r0_7 hS, s_r0_8 hS, s_r0_9 hS, s_o112 hS, c2, ij, ij2, c4, j40, l42, g1, cw3, sw, show (nI 3 = (0 : Int32)) = False from eq_false (by decide), show (nI 3 = (1 : Int32)) = False from eq_false (by decide), show (nI 3 = (2 : Int32)) = False from eq_false (by decide), show (nI 3 = (3 : Int32)) = True from eq_true rfl, g2, g7.1]
        exact val_post (b3.trans b2.symm)
      · have cw4 : (0 ≤ nI 4 ∧ nI 4 ≤ 15) := cw
        have sw : ¬ (Int32.toInt (nI 4) < 0 ∨ 15 < Int32.toInt (nI 4)) := by decide
        simp only [bd_some, p_let_eq, p_ok, mI_sI, mR_sI, mK_sI, mN_sI, mL_sI, mI_sG, mR_sG, mK_sG, mN_sG, mL_sG, mI_sJ, mR_sJ, mK_sJ, mN_sJ, mL_sJ, z_up, ↓reduceIte, and_self, true_and, and_true, false_and, and_false, not_true_eq_false, not_false_eq_true, Nat.reduceEqDiff, i_10, i_20, i_30, w_in, w_need1, w_need0, m_in, m_thr0, m_thr1, tM, aM, nI_1, nI_pred, reduceIte, wp_some, eq_self, bI_T, bI_F, F_L_led, F_X12_led, F_X12_led_c169, la, F_X13_led, F_X13_led_c207, m_noLot, w_what, s_o0 hS, s_r0_0 hS, s_r0_1 hS, s_r0_10 hS, s_r0_11 hS, s_r0_12 hS, s_r0_14 hS, s_r0_16 hS, s_r0_19 hS, s_r0_7 hS, s_r0_8 hS, s_r0_9 hS, s_o112 hS, c2, ij, ij2, c4, j40, l42, g1, cw4, sw, show (nI 4 = (0 : Int32)) = False from eq_false (by decide), show (nI 4 = (1 : Int32)) = False from eq_false (by decide), show (nI 4 = (2 : Int32)) = False from eq_false (by decide), show (nI 4 = (3 : Int32)) = False from eq_false (by decide), show (nI 4 = (4 : Int32)) = True from eq_true rfl]
        exact val_post w10
      · have cw5 : (0 ≤ nI 5 ∧ nI 5 ≤ 15) := cw
        have sw : ¬ (Int32.toInt (nI 5) < 0 ∨ 15 < Int32.toInt (nI 5)) := by decide
        have p1 := c_part g6 k3 k1 (show 0 ≤ 4 by decide)
        have d5 : nI 5 - 5 = nI 0 := by decide
        have m5 : 5 * nI j = nI (5 * j) := pk_mul 5 j
        have a5 : nI (5 * j) + nI 5 = nI (5 * j + 5) := nI_add _ _
        have s5 : nI (5 * j + 5) - 5 = nI (5 * j + 0) := pk_sub (b := 5) (by omega)
        have i5 := ix_nI (show 5 * j + 0 < 240 by omega) (by decide)
        have k5 := nI_clamp (show 5 * j + 0 < 2 ^ 31 by omega)
        have l5 : 5 * j + 0 < 240 := by omega
        have e5 := r_part k4 (show 0 ≤ 4 by decide)
        simp only [bd_some, p_let_eq, p_ok, mI_sI, mR_sI, mK_sI, mN_sI, mL_sI, mI_sG, mR_sG, mK_sG, mN_sG, mL_sG, mI_sJ, mR_sJ, mK_sJ, mN_sJ, mL_sJ, z_up, ↓reduceIte, and_self, true_and, and_true, false_and, and_false, not_true_eq_false, not_false_eq_true, Nat.reduceEqDiff, i_10, i_20, i_30, w_in, w_need1, w_need0, m_in, m_thr0, m_thr1, tM, aM, nI_1, nI_pred, reduceIte, wp_some, eq_self, bI_T, bI_F, F_L_led, F_X12_led, F_X12_led_c169, la, F_X13_led, F_X13_led_c207, m_noLot, w_what, s_o0 hS, s_r0_0 hS, s_r0_1 hS, s_r0_10 hS, s_r0_11 hS, s_r0_12 hS, s_r0_14 hS, s_r0_16 hS, s_r0_19 hS, s_r0_7 hS, s_r0_8 hS, s_r0_9 hS, s_o112 hS, c2, ij, ij2, c4, j40, l42, g1, cw5, sw, show (nI 5 = (0 : Int32)) = False from eq_false (by decide), show (nI 5 = (1 : Int32)) = False from eq_false (by decide), show (nI 5 = (2 : Int32)) = False from eq_false (by decide), show (nI 5 = (3 : Int32)) = False from eq_false (by decide), show (nI 5 = (4 : Int32)) = False from eq_false (by decide), show (nI 5 = (5 : Int32)) = True from eq_true rfl, g3, g6, d5, p1, m5, a5, s5, i5, k5, l5, e5]
        exact val_post rfl
      · have cw6 : (0 ≤ nI 6 ∧ nI 6 ≤ 15) := cw
        have sw : ¬ (Int32.toInt (nI 6) < 0 ∨ 15 < Int32.toInt (nI 6)) := by decide
        have p1 := c_part g6 k3 k1 (show 1 ≤ 4 by decide)
        have d5 : nI 6 - 5 = nI 1 := by decide
        have m5 : 5 * nI j = nI (5 * j) := pk_mul 5 j
        have a5 : nI (5 * j) + nI 6 = nI (5 * j + 6) := nI_add _ _
        have s5 : nI (5 * j + 6) - 5 = nI (5 * j + 1) := pk_sub (b := 5) (by omega)
        have i5 := ix_nI (show 5 * j + 1 < 240 by omega) (by decide)
        have k5 := nI_clamp (show 5 * j + 1 < 2 ^ 31 by omega)
        have l5 : 5 * j + 1 < 240 := by omega
        have e5 := r_part k4 (show 1 ≤ 4 by decide)
        simp only [bd_some, p_let_eq, p_ok, mI_sI, mR_sI, mK_sI, mN_sI, mL_sI, mI_sG, mR_sG, mK_sG, mN_sG, mL_sG, mI_sJ, mR_sJ, mK_sJ, mN_sJ, mL_sJ, z_up, ↓reduceIte, and_self, true_and, and_true, false_and, and_false, not_true_eq_false, not_false_eq_true, Nat.reduceEqDiff, i_10, i_20, i_30, w_in, w_need1, w_need0, m_in, m_thr0, m_thr1, tM, aM, nI_1, nI_pred, reduceIte, wp_some, eq_self, bI_T, bI_F, F_L_led, F_X12_led, F_X12_led_c169, la, F_X13_led, F_X13_led_c207, m_noLot, w_what, s_o0 hS, s_r0_0 hS, s_r0_1 hS, s_r0_10 hS, s_r0_11 hS, s_r0_12 hS, s_r0_14 hS, s_r0_16 hS, s_r0_19 hS, s_r0_7 hS, s_r0_8 hS, s_r0_9 hS, s_o112 hS, c2, ij, ij2, c4, j40, l42, g1, cw6, sw, show (nI 6 = (0 : Int32)) = False from eq_false (by decide), show (nI 6 = (1 : Int32)) = False from eq_false (by decide), show (nI 6 = (2 : Int32)) = False from eq_false (by decide), show (nI 6 = (3 : Int32)) = False from eq_false (by decide), show (nI 6 = (4 : Int32)) = False from eq_false (by decide), show (nI 6 = (5 : Int32)) = False from eq_false (by decide), show (nI 6 = (6 : Int32)) = True from eq_true rfl, g3, g6, d5, p1, m5, a5, s5, i5, k5, l5, e5]
        exact val_post rfl
      · have cw7 : (0 ≤ nI 7 ∧ nI 7 ≤ 15) := cw
        have sw : ¬ (Int32.toInt (nI 7) < 0 ∨ 15 < Int32.toInt (nI 7)) := by decide
        have p1 := c_part g6 k3 k1 (show 2 ≤ 4 by decide)
        have d5 : nI 7 - 5 = nI 2 := by decide
        have m5 : 5 * nI j = nI (5 * j) := pk_mul 5 j
        have a5 : nI (5 * j) + nI 7 = nI (5 * j + 7) := nI_add _ _
        have s5 : nI (5 * j + 7) - 5 = nI (5 * j + 2) := pk_sub (b := 5) (by omega)
        have i5 := ix_nI (show 5 * j + 2 < 240 by omega) (by decide)
        have k5 := nI_clamp (show 5 * j + 2 < 2 ^ 31 by omega)
        have l5 : 5 * j + 2 < 240 := by omega
        have e5 := r_part k4 (show 2 ≤ 4 by decide)
        simp only [bd_some, p_let_eq, p_ok, mI_sI, mR_sI, mK_sI, mN_sI, mL_sI, mI_sG, mR_sG, mK_sG, mN_sG, mL_sG, mI_sJ, mR_sJ, mK_sJ, mN_sJ, mL_sJ, z_up, ↓reduceIte, and_self, true_and, and_true, false_and, and_false, not_true_eq_false, not_false_eq_true, Nat.reduceEqDiff, i_10, i_20, i_30, w_in, w_need1, w_need0, m_in, m_thr0, m_thr1, tM, aM, nI_1, nI_pred, reduceIte, wp_some, eq_self, bI_T, bI_F, F_L_led, F_X12_led, F_X12_led_c169, la, F_X13_led, F_X13_led_c207, m_noLot, w_what, s_o0 hS, s_r0_0 hS, s_r0_1 hS, s_r0_10 hS, s_r0_11 hS, s_r0_12 hS, s_r0_14 hS, s_r0_16 hS, s_r0_19 hS, s_r0_7 hS, s_r0_8 hS, s_r0_9 hS, s_o112 hS, c2, ij, ij2, c4, j40, l42, g1, cw7, sw, show (nI 7 = (0 : Int32)) = False from eq_false (by decide), show (nI 7 = (1 : Int32)) = False from eq_false (by decide), show (nI 7 = (2 : Int32)) = False from eq_false (by decide), show (nI 7 = (3 : Int32)) = False from eq_false (by decide), show (nI 7 = (4 : Int32)) = False from eq_false (by decide), show (nI 7 = (5 : Int32)) = False from eq_false (by decide), show (nI 7 = (6 : Int32)) = False from eq_false (by decide), show (nI 7 = (7 : Int32)) = True from eq_true rfl, g3, g6, d5, p1, m5, a5, s5, i5, k5, l5, e5]
        exact val_post rfl
      · have cw8 : (0 ≤ nI 8 ∧ nI 8 ≤ 15) := cw
        have sw : ¬ (Int32.toInt (nI 8) < 0 ∨ 15 < Int32.toInt (nI 8)) := by decide
        have p1 := c_part g6 k3 k1 (show 3 ≤ 4 by decide)
        have d5 : nI 8 - 5 = nI 3 := by decide
        have m5 : 5 * nI j = nI (5 * j) := pk_mul 5 j
        have a5 : nI (5 * j) + nI 8 = nI (5 * j + 8) := nI_add _ _
        have s5 : nI (5 * j + 8) - 5 = nI (5 * j + 3) := pk_sub (b := 5) (by omega)
        have i5 := ix_nI (show 5 * j + 3 < 240 by omega) (by decide)
        have k5 := nI_clamp (show 5 * j + 3 < 2 ^ 31 by omega)
        have l5 : 5 * j + 3 < 240 := by omega
        have e5 := r_part k4 (show 3 ≤ 4 by decide)
        simp only [bd_some, p_let_eq, p_ok, mI_sI, mR_sI, mK_sI, mN_sI, mL_sI, mI_sG, mR_sG, mK_sG, mN_sG, mL_sG, mI_sJ, mR_sJ, mK_sJ, mN_sJ, mL_sJ, z_up, ↓reduceIte, and_self, true_and, and_true, false_and, and_false, not_true_eq_false, not_false_eq_true, Nat.reduceEqDiff, i_10, i_20, i_30, w_in, w_need1, w_need0, m_in, m_thr0, m_thr1, tM, aM, nI_1, nI_pred, reduceIte, wp_some, eq_self, bI_T, bI_F, F_L_led, F_X12_led, F_X12_led_c169, la, F_X13_led, F_X13_led_c207, m_noLot, w_what, s_o0 hS, s_r0_0 hS, s_r0_1 hS, s_r0_10 hS, s_r0_11 hS, s_r0_12 hS, s_r0_14 hS, s_r0_16 hS, s_r0_19 hS, s_r0_7 hS, s_r0_8 hS, s_r0_9 hS, s_o112 hS, c2, ij, ij2, c4, j40, l42, g1, cw8, sw, show (nI 8 = (0 : Int32)) = False from eq_false (by decide), show (nI 8 = (1 : Int32)) = False from eq_false (by decide), show (nI 8 = (2 : Int32)) = False from eq_false (by decide), show (nI 8 = (3 : Int32)) = False from eq_false (by decide), show (nI 8 = (4 : Int32)) = False from eq_false (by decide), show (nI 8 = (5 : Int32)) = False from eq_false (by decide), show (nI 8 = (6 : Int32)) = False from eq_false (by decide), show (nI 8 = (7 : Int32)) = False from eq_false (by decide), show (nI 8 = (8 : Int32)) = True from eq_true rfl, g3, g6, d5, p1, m5, a5, s5, i5, k5, l5, e5]
        exact val_post rfl
      · have cw9 : (0 ≤ nI 9 ∧ nI 9 ≤ 15) := cw
        have sw : ¬ (Int32.toInt (nI 9) < 0 ∨ 15 < Int32.toInt (nI 9)) := by decide
        have p1 := c_part g6 k3 k1 (show 4 ≤ 4 by decide)
        have d5 : nI 9 - 5 = nI 4 := by decide
        have m5 : 5 * nI j = nI (5 * j) := pk_mul 5 j
        have a5 : nI (5 * j) + nI 9 = nI (5 * j + 9) := nI_add _ _
        have s5 : nI (5 * j + 9) - 5 = nI (5 * j + 4) := pk_sub (b := 5) (by omega)
        have i5 := ix_nI (show 5 * j + 4 < 240 by omega) (by decide)
        have k5 := nI_clamp (show 5 * j + 4 < 2 ^ 31 by omega)
        have l5 : 5 * j + 4 < 240 := by omega
        have e5 := r_part k4 (show 4 ≤ 4 by decide)
        simp only [bd_some, p_let_eq, p_ok, mI_sI, mR_sI, mK_sI, mN_sI, mL_sI, mI_sG, mR_sG, mK_sG, mN_sG, mL_sG, mI_sJ, mR_sJ, mK_sJ, mN_sJ, mL_sJ, z_up, ↓reduceIte, and_self, true_and, and_true, false_and, and_false, not_true_eq_false, not_false_eq_true, Nat.reduceEqDiff, i_10, i_20, i_30, w_in, w_need1, w_need0, m_in, m_thr0, m_thr1, tM, aM, nI_1, nI_pred, reduceIte, wp_some, eq_self, bI_T, bI_F, F_L_led, F_X12_led, F_X12_led_c169, la, F_X13_led, F_X13_led_c207, m_noLot, w_what, s_o0 hS, s_r0_0 hS, s_r0_1 hS, s_r0_10 hS, s_r0_11 hS, s_r0_12 hS, s_r0_14 hS, s_r0_16 hS, s_r0_19 hS, s_r0_7 hS, s_r0_8 hS, s_r0_9 hS, s_o112 hS, c2, ij, ij2, c4, j40, l42, g1, cw9, sw, show (nI 9 = (0 : Int32)) = False from eq_false (by decide), show (nI 9 = (1 : Int32)) = False from eq_false (by decide), show (nI 9 = (2 : Int32)) = False from eq_false (by decide), show (nI 9 = (3 : Int32)) = False from eq_false (by decide), show (nI 9 = (4 : Int32)) = False from eq_false (by decide), show (nI 9 = (5 : Int32)) = False from eq_false (by decide), show (nI 9 = (6 : Int32)) = False from eq_false (by decide), show (nI 9 = (7 : Int32)) = False from eq_false (by decide), show (nI 9 = (8 : Int32)) = False from eq_false (by decide), show (nI 9 = (9 : Int32)) = True from eq_true rfl, g3, g6, d5, p1, m5, a5, s5, i5, k5, l5, e5]
        exact val_post rfl
      · have cw10 : (0 ≤ nI 10 ∧ nI 10 ≤ 15) := cw
        have sw : ¬ (Int32.toInt (nI 10) < 0 ∨ 15 < Int32.toInt (nI 10)) := by decide
        simp only [bd_some, p_let_eq, p_ok, mI_sI, mR_sI, mK_sI, mN_sI, mL_sI, mI_sG, mR_sG, mK_sG, mN_sG, mL_sG, mI_sJ, mR_sJ, mK_sJ, mN_sJ, mL_sJ, z_up, ↓reduceIte, and_self, true_and, and_true, false_and, and_false, not_true_eq_false, not_false_eq_true, Nat.reduceEqDiff, i_10, i_20, i_30, w_in, w_need1, w_need0, m_in, m_thr0, m_thr1, tM, aM, nI_1, nI_pred, reduceIte, wp_some, eq_self, bI_T, bI_F, F_L_led, F_X12_led, F_X12_led_c169, la, F_X13_led, F_X13_led_c207, m_noLot, w_what, s_o0 hS, s_r0_0 hS, s_r0_1 hS, s_r0_10 hS, s_r0_11 hS, s_r0_12 hS, s_r0_14 hS, s_r0_16 hS, s_r0_19 hS, s_r0_7 hS, s_r0_8 hS, s_r0_9 hS, s_o112 hS, c2, ij, ij2, c4, j40, l42, g1, cw10, sw, show (nI 10 = (0 : Int32)) = False from eq_false (by decide), show (nI 10 = (1 : Int32)) = False from eq_false (by decide), show (nI 10 = (2 : Int32)) = False from eq_false (by decide), show (nI 10 = (3 : Int32)) = False from eq_false (by decide), show (nI 10 = (4 : Int32)) = False from eq_false (by decide), show (nI 10 = (5 : Int32)) = False from eq_false (by decide), show (nI 10 = (6 : Int32)) = False from eq_false (by decide), show (nI 10 = (7 : Int32)) = False from eq_false (by decide), show (nI 10 = (8 : Int32)) = False from eq_false (by decide), show (nI 10 = (9 : Int32)) = False from eq_false (by decide), show (nI 10 = (10 : Int32)) = True from eq_true rfl]
        exact val_post w11
      · have cw11 : (0 ≤ nI 11 ∧ nI 11 ≤ 15) := cw
        have sw : ¬ (Int32.toInt (nI 11) < 0 ∨ 15 < Int32.toInt (nI 11)) := by decide
        simp only [bd_some, p_let_eq, p_ok, mI_sI, mR_sI, mK_sI, mN_sI, mL_sI, mI_sG, mR_sG, mK_sG, mN_sG, mL_sG, mI_sJ, mR_sJ, mK_sJ, mN_sJ, mL_sJ, z_up, ↓reduceIte, and_self, true_and, and_true, false_and, and_false, not_true_eq_false, not_false_eq_true, Nat.reduceEqDiff, i_10, i_20, i_30, w_in, w_need1, w_need0, m_in, m_thr0, m_thr1, tM, aM, nI_1, nI_pred, reduceIte, wp_some, eq_self, bI_T, bI_F, F_L_led, F_X12_led, F_X12_led_c169, la, F_X13_led, F_X13_led_c207, m_noLot, w_what, s_o0 hS, s_r0_0 hS, s_r0_1 hS, s_r0_10 hS, s_r0_11 hS, s_r0_12 hS, s_r0_14 hS, s_r0_16 hS, s_r0_19 hS, s_r0_7 hS, s_r0_8 hS, s_r0_9 hS, s_o112 hS, c2, ij, ij2, c4, j40, l42, g1, cw11, sw, show (nI 11 = (0 : Int32)) = False from eq_false (by decide), show (nI 11 = (1 : Int32)) = False from eq_false (by decide), show (nI 11 = (2 : Int32)) = False from eq_false (by decide), show (nI 11 = (3 : Int32)) = False from eq_false (by decide), show (nI 11 = (4 : Int32)) = False from eq_false (by decide), show (nI 11 = (5 : Int32)) = False from eq_false (by decide), show (nI 11 = (6 : Int32)) = False from eq_false (by decide), show (nI 11 = (7 : Int32)) = False from eq_false (by decide), show (nI 11 = (8 : Int32)) = False from eq_false (by decide), show (nI 11 = (9 : Int32)) = False from eq_false (by decide), show (nI 11 = (10 : Int32)) = False from eq_false (by decide), show (nI 11 = (11 : Int32)) = True from eq_true rfl]
        exact val_post w1
      · have cw12 : (0 ≤ nI 12 ∧ nI 12 ≤ 15) := cw
        have sw : ¬ (Int32.toInt (nI 12) < 0 ∨ 15 < Int32.toInt (nI 12)) := by decide
        have p1 := c_placed (j := j) (by omega) g1 g4 g8 g9 (w1.trans y1) 0 (fun p hp => (pz p hp).1) P 0 p_fu 0 (by omega) (by rw [show p_fu = 99999 + 1 from rfl]; omega)
        have p1 : F_X4_countPlaced_c4 p_fu (lr j) 0 0 0 μ = _ := p1
        have p2 := m_placed (μ := sI (sJ μ 112 (Int32.toNatClampNeg 0) (cpl (mI μ 103) 0 P (60 * j + 0) 0).toInt64) 65 0 0) (by omega) j40 (by simp only [mI_sI, mR_sI, mK_sI, mN_sI, mL_sI, mI_sG, mR_sG, mK_sG, mN_sG, mL_sG, mI_sJ, mR_sJ, mK_sJ, mN_sJ, mL_sJ, mI_sA, mR_sA, mK_sA, mN_sA, mL_sA, z_up, ↓reduceIte, reduceIte, Nat.reduceEqDiff, true_and, and_true]; exact y1) 0 P 0 p_fu 0 (by omega) (by rw [show p_fu = 99999 + 1 from rfl]; omega)
        have p2 : F_X13_piecesOf_c5 p_fu (nI j) 0 0 0 (sI (sJ μ 112 (Int32.toNatClampNeg 0) (cpl (mI μ 103) 0 P (60 * j + 0) 0).toInt64) 65 0 0) = some (cpl (mI (sI (sJ μ 112 (Int32.toNatClampNeg 0) (cpl (mI μ 103) 0 P (60 * j + 0) 0).toInt64) 65 0 0) 103) 0 P (60 * j + 0) 0, _) := p2
        simp only [bd_some, p_let_eq, p_ok, mI_sI, mR_sI, mK_sI, mN_sI, mL_sI, mI_sG, mR_sG, mK_sG, mN_sG, mL_sG, mI_sJ, mR_sJ, mK_sJ, mN_sJ, mL_sJ, z_up, ↓reduceIte, and_self, true_and, and_true, false_and, and_false, not_true_eq_false, not_false_eq_true, Nat.reduceEqDiff, i_10, i_20, i_30, w_in, w_need1, w_need0, m_in, m_thr0, m_thr1, tM, aM, nI_1, nI_pred, reduceIte, wp_some, eq_self, bI_T, bI_F, F_L_led, F_X12_led, F_X12_led_c169, la, F_X13_led, F_X13_led_c207, m_noLot, w_what, s_o0 hS, s_r0_0 hS, s_r0_1 hS, s_r0_10 hS, s_r0_11 hS, s_r0_12 hS, s_r0_14 hS, s_r0_16 hS, s_r0_19 hS, s_r0_7 hS, s_r0_8 hS, s_r0_9 hS, s_o112 hS, c2, ij, ij2, c4, j40, l42, g1, cw12, sw, show (nI 12 = (0 : Int32)) = False from eq_false (by decide), show (nI 12 = (1 : Int32)) = False from eq_false (by decide), show (nI 12 = (2 : Int32)) = False from eq_false (by decide), show (nI 12 = (3 : Int32)) = False from eq_false (by decide), show (nI 12 = (4 : Int32)) = False from eq_false (by decide), show (nI 12 = (5 : Int32)) = False from eq_false (by decide), show (nI 12 = (6 : Int32)) = False from eq_false (by decide), show (nI 12 = (7 : Int32)) = False from eq_false (by decide), show (nI 12 = (8 : Int32)) = False from eq_false (by decide), show (nI 12 = (9 : Int32)) = False from eq_false (by decide), show (nI 12 = (10 : Int32)) = False from eq_false (by decide), show (nI 12 = (11 : Int32)) = False from eq_false (by decide), show (nI 12 = (12 : Int32)) = True from eq_true rfl, F_X4_countPlaced, F_X13_piecesOf, p1, p2]
        exact val_post rfl
      · have cw13 : (0 ≤ nI 13 ∧ nI 13 ≤ 15) := cw
        have sw : ¬ (Int32.toInt (nI 13) < 0 ∨ 15 < Int32.toInt (nI 13)) := by decide
        have p1 := c_placed (j := j) (by omega) g1 g4 g8 g9 (w1.trans y1) 2 (fun p hp => (pz p hp).1) P 0 p_fu 0 (by omega) (by rw [show p_fu = 99999 + 1 from rfl]; omega)
        have p1 : F_X4_countPlaced_c4 p_fu (lr j) 2 0 0 μ = _ := p1
        have p2 := m_placed (μ := sI (sJ μ 112 (Int32.toNatClampNeg 0) (cpl (mI μ 103) 2 P (60 * j + 0) 0).toInt64) 65 0 0) (by omega) j40 (by simp only [mI_sI, mR_sI, mK_sI, mN_sI, mL_sI, mI_sG, mR_sG, mK_sG, mN_sG, mL_sG, mI_sJ, mR_sJ, mK_sJ, mN_sJ, mL_sJ, mI_sA, mR_sA, mK_sA, mN_sA, mL_sA, z_up, ↓reduceIte, reduceIte, Nat.reduceEqDiff, true_and, and_true]; exact y1) 2 P 0 p_fu 0 (by omega) (by rw [show p_fu = 99999 + 1 from rfl]; omega)
        have p2 : F_X13_piecesOf_c5 p_fu (nI j) 2 0 0 (sI (sJ μ 112 (Int32.toNatClampNeg 0) (cpl (mI μ 103) 2 P (60 * j + 0) 0).toInt64) 65 0 0) = some (cpl (mI (sI (sJ μ 112 (Int32.toNatClampNeg 0) (cpl (mI μ 103) 2 P (60 * j + 0) 0).toInt64) 65 0 0) 103) 2 P (60 * j + 0) 0, _) := p2
        simp only [bd_some, p_let_eq, p_ok, mI_sI, mR_sI, mK_sI, mN_sI, mL_sI, mI_sG, mR_sG, mK_sG, mN_sG, mL_sG, mI_sJ, mR_sJ, mK_sJ, mN_sJ, mL_sJ, z_up, ↓reduceIte, and_self, true_and, and_true, false_and, and_false, not_true_eq_false, not_false_eq_true, Nat.reduceEqDiff, i_10, i_20, i_30, w_in, w_need1, w_need0, m_in, m_thr0, m_thr1, tM, aM, nI_1, nI_pred, reduceIte, wp_some, eq_self, bI_T, bI_F, F_L_led, F_X12_led, F_X12_led_c169, la, F_X13_led, F_X13_led_c207, m_noLot, w_what, s_o0 hS, s_r0_0 hS, s_r0_1 hS, s_r0_10 hS, s_r0_11 hS, s_r0_12 hS, s_r0_14 hS, s_r0_16 hS, s_r0_19 hS, s_r0_7 hS, s_r0_8 hS, s_r0_9 hS, s_o112 hS, c2, ij, ij2, c4, j40, l42, g1, cw13, sw, show (nI 13 = (0 : Int32)) = False from eq_false (by decide), show (nI 13 = (1 : Int32)) = False from eq_false (by decide), show (nI 13 = (2 : Int32)) = False from eq_false (by decide), show (nI 13 = (3 : Int32)) = False from eq_false (by decide), show (nI 13 = (4 : Int32)) = False from eq_false (by decide), show (nI 13 = (5 : Int32)) = False from eq_false (by decide), show (nI 13 = (6 : Int32)) = False from eq_false (by decide), show (nI 13 = (7 : Int32)) = False from eq_false (by decide), show (nI 13 = (8 : Int32)) = False from eq_false (by decide), show (nI 13 = (9 : Int32)) = False from eq_false (by decide), show (nI 13 = (10 : Int32)) = False from eq_false (by decide), show (nI 13 = (11 : Int32)) = False from eq_false (by decide), show (nI 13 = (12 : Int32)) = False from eq_false (by decide), show (nI 13 = (13 : Int32)) = True from eq_true rfl, F_X4_countPlaced, F_X13_piecesOf, p1, p2]
        exact val_post rfl
      · have cw14 : (0 ≤ nI 14 ∧ nI 14 ≤ 15) := cw
        have sw : ¬ (Int32.toInt (nI 14) < 0 ∨ 15 < Int32.toInt (nI 14)) := by decide
        have p1 := c_meets g6 k3 (mI μ (lr j) 4) (mI μ (lr j) 5) (mI μ (lr j) 6)
        rw [w4, w5, w6] at p1
        have p2 : ∀ ν : p_M, mI ν 74 = mI μ 74 → F_X13_meetsIt (nI j) (mI μ 92 j) (mI μ 93 j) (mI μ 94 j) ν = some (mtc L (mI μ 92 j) (mI μ 93 j) (mI μ 94 j), ν) := fun ν hν => m_meets (by omega) (by rw [hν]; exact k4) _ _ _
        rcases mtc01 L (mI μ 92 j) (mI μ 93 j) (mI μ 94 j) with hb | hb
        · rw [hb] at p1
          have p3 := p2 (sI (sJ μ 112 (Int32.toNatClampNeg 0) (0 : Int32).toInt64) 65 0 0) (by simp only [mI_sI, mR_sI, mK_sI, mN_sI, mL_sI, mI_sG, mR_sG, mK_sG, mN_sG, mL_sG, mI_sJ, mR_sJ, mK_sJ, mN_sJ, mL_sJ, mI_sA, mR_sA, mK_sA, mN_sA, mL_sA, z_up, ↓reduceIte, reduceIte, Nat.reduceEqDiff, true_and, and_true])
          rw [hb] at p3
          simp only [bd_some, p_let_eq, p_ok, mI_sI, mR_sI, mK_sI, mN_sI, mL_sI, mI_sG, mR_sG, mK_sG, mN_sG, mL_sG, mI_sJ, mR_sJ, mK_sJ, mN_sJ, mL_sJ, z_up, ↓reduceIte, and_self, true_and, and_true, false_and, and_false, not_true_eq_false, not_false_eq_true, Nat.reduceEqDiff, i_10, i_20, i_30, w_in, w_need1, w_need0, m_in, m_thr0, m_thr1, tM, aM, nI_1, nI_pred, reduceIte, wp_some, eq_self, bI_T, bI_F, F_L_led, F_X12_led, F_X12_led_c169, la, F_X13_led, F_X13_led_c207, m_noLot, w_what, s_o0 hS, s_r0_0 hS, s_r0_1 hS, s_r0_10 hS, s_r0_11 hS, s_r0_12 hS, s_r0_14 hS, s_r0_16 hS, s_r0_19 hS, s_r0_7 hS, s_r0_8 hS, s_r0_9 hS, s_o112 hS, c2, ij, ij2, c4, j40, l42, g1, cw14, sw, show (nI 14 = (0 : Int32)) = False from eq_false (by decide), show (nI 14 = (1 : Int32)) = False from eq_false (by decide), show (nI 14 = (2 : Int32)) = False from eq_false (by decide), show (nI 14 = (3 : Int32)) = False from eq_false (by decide), show (nI 14 = (4 : Int32)) = False from eq_false (by decide), show (nI 14 = (5 : Int32)) = False from eq_false (by decide), show (nI 14 = (6 : Int32)) = False from eq_false (by decide), show (nI 14 = (7 : Int32)) = False from eq_false (by decide), show (nI 14 = (8 : Int32)) = False from eq_false (by decide), show (nI 14 = (9 : Int32)) = False from eq_false (by decide), show (nI 14 = (10 : Int32)) = False from eq_false (by decide), show (nI 14 = (11 : Int32)) = False from eq_false (by decide), show (nI 14 = (12 : Int32)) = False from eq_false (by decide), show (nI 14 = (13 : Int32)) = False from eq_false (by decide), show (nI 14 = (14 : Int32)) = True from eq_true rfl, g3, g6, w4, w5, w6, p1, p3]
          exact val_post rfl
        · rw [hb] at p1
          have p3 := p2 (sI (sJ μ 112 (Int32.toNatClampNeg 0) (1 : Int32).toInt64) 65 0 0) (by simp only [mI_sI, mR_sI, mK_sI, mN_sI, mL_sI, mI_sG, mR_sG, mK_sG, mN_sG, mL_sG, mI_sJ, mR_sJ, mK_sJ, mN_sJ, mL_sJ, mI_sA, mR_sA, mK_sA, mN_sA, mL_sA, z_up, ↓reduceIte, reduceIte, Nat.reduceEqDiff, true_and, and_true])
          rw [hb] at p3
          simp only [bd_some, p_let_eq, p_ok, mI_sI, mR_sI, mK_sI, mN_sI, mL_sI, mI_sG, mR_sG, mK_sG, mN_sG, mL_sG, mI_sJ, mR_sJ, mK_sJ, mN_sJ, mL_sJ, z_up, ↓reduceIte, and_self, true_and, and_true, false_and, and_false, not_true_eq_false, not_false_eq_true, Nat.reduceEqDiff, i_10, i_20, i_30, w_in, w_need1, w_need0, m_in, m_thr0, m_thr1, tM, aM, nI_1, nI_pred, reduceIte, wp_some, eq_self, bI_T, bI_F, F_L_led, F_X12_led, F_X12_led_c169, la, F_X13_led, F_X13_led_c207, m_noLot, w_what, s_o0 hS, s_r0_0 hS, s_r0_1 hS, s_r0_10 hS, s_r0_11 hS, s_r0_12 hS, s_r0_14 hS, s_r0_16 hS, s_r0_19 hS, s_r0_7 hS, s_r0_8 hS, s_r0_9 hS, s_o112 hS, c2, ij, ij2, c4, j40, l42, g1, cw14, sw, show (nI 14 = (0 : Int32)) = False from eq_false (by decide), show (nI 14 = (1 : Int32)) = False from eq_false (by decide), show (nI 14 = (2 : Int32)) = False from eq_false (by decide), show (nI 14 = (3 : Int32)) = False from eq_false (by decide), show (nI 14 = (4 : Int32)) = False from eq_false (by decide), show (nI 14 = (5 : Int32)) = False from eq_false (by decide), show (nI 14 = (6 : Int32)) = False from eq_false (by decide), show (nI 14 = (7 : Int32)) = False from eq_false (by decide), show (nI 14 = (8 : Int32)) = False from eq_false (by decide), show (nI 14 = (9 : Int32)) = False from eq_false (by decide), show (nI 14 = (10 : Int32)) = False from eq_false (by decide), show (nI 14 = (11 : Int32)) = False from eq_false (by decide), show (nI 14 = (12 : Int32)) = False from eq_false (by decide), show (nI 14 = (13 : Int32)) = False from eq_false (by decide), show (nI 14 = (14 : Int32)) = True from eq_true rfl, g3, g6, w4, w5, w6, p1, p3]
          exact val_post rfl
      · have cw15 : (0 ≤ nI 15 ∧ nI 15 ≤ 15) := cw
        have sw : ¬ (Int32.toInt (nI 15) < 0 ∨ 15 < Int32.toInt (nI 15)) := by decide
        simp only [bd_some, p_let_eq, p_ok, mI_sI, mR_sI, mK_sI, mN_sI, mL_sI, mI_sG, mR_sG, mK_sG, mN_sG, mL_sG, mI_sJ, mR_sJ, mK_sJ, mN_sJ, mL_sJ, z_up, ↓reduceIte, and_self, true_and, and_true, false_and, and_false, not_true_eq_false, not_false_eq_true, Nat.reduceEqDiff, i_10, i_20, i_30, w_in, w_need1, w_need0, m_in, m_thr0, m_thr1, tM, aM, nI_1, nI_pred, reduceIte, wp_some, eq_self, bI_T, bI_F, F_L_led, F_X12_led, F_X12_led_c169, la, F_X13_led, F_X13_led_c207, m_noLot, w_what, s_o0 hS, s_r0_0 hS, s_r0_1 hS, s_r0_10 hS, s_r0_11 hS, s_r0_12 hS, s_r0_14 hS, s_r0_16 hS, s_r0_19 hS, s_r0_7 hS, s_r0_8 hS, s_r0_9 hS, s_o112 hS, c2, ij, ij2, c4, j40, l42, g1, cw15, sw, show (nI 15 = (0 : Int32)) = False from eq_false (by decide), show (nI 15 = (1 : Int32)) = False from eq_false (by decide), show (nI 15 = (2 : Int32)) = False from eq_false (by decide), show (nI 15 = (3 : Int32)) = False from eq_false (by decide), show (nI 15 = (4 : Int32)) = False from eq_false (by decide), show (nI 15 = (5 : Int32)) = False from eq_false (by decide), show (nI 15 = (6 : Int32)) = False from eq_false (by decide), show (nI 15 = (7 : Int32)) = False from eq_false (by decide), show (nI 15 = (8 : Int32)) = False from eq_false (by decide), show (nI 15 = (9 : Int32)) = False from eq_false (by decide), show (nI 15 = (10 : Int32)) = False from eq_false (by decide), show (nI 15 = (11 : Int32)) = False from eq_false (by decide), show (nI 15 = (12 : Int32)) = False from eq_false (by decide), show (nI 15 = (13 : Int32)) = False from eq_false (by decide), show (nI 15 = (14 : Int32)) = False from eq_false (by decide), show (nI 15 = (15 : Int32)) = True from eq_true rfl]
        exact val_post w0
    · have sw := sw_out (v := v2) (hi := 15) (by decide) cw
      have sw : v2.toInt < 0 ∨ 15 < v2.toInt := sw
      simp only [bd_some, p_let_eq, p_ok, mI_sI, mR_sI, mK_sI, mN_sI, mL_sI, mI_sG, mR_sG, mK_sG, mN_sG, mL_sG, mI_sJ, mR_sJ, mK_sJ, mN_sJ, mL_sJ, z_up, ↓reduceIte, and_self, true_and, and_true, false_and, and_false, not_true_eq_false, not_false_eq_true, Nat.reduceEqDiff, i_10, i_20, i_30, w_in, w_need1, w_need0, m_in, m_thr0, m_thr1, tM, aM, nI_1, nI_pred, reduceIte, wp_some, eq_self, bI_T, bI_F, F_L_led, F_X12_led, la, F_X13_led, m_noLot, w_what, s_o0 hS, s_r0_0 hS, s_r0_1 hS, s_r0_10 hS, s_r0_11 hS, s_r0_12 hS, s_r0_14 hS, s_r0_16 hS, s_r0_19 hS, s_r0_7 hS, s_r0_8 hS, s_r0_9 hS, s_o112 hS, c2, cw, sw]
      exact ⟨thr_post (by decide), thr_fr⟩
