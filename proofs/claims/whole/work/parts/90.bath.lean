/-! a BATH on both sides -/
def sl (x y : Nat) : Int32 := if x = 0 then nI y else if x = 1 then 2 * nI y else if x = 2 then 3 * nI y + 5 else 1
theorem c_soil {x : Nat} (hx : x ≤ 3) (y : Nat) (μ : p_M) : F_X8_soil (nI x) (nI y) μ = some (sl x y, μ) := by
  rcases b4 hx with rfl | rfl | rfl | rfl <;> rfl
theorem h_value2 {c m : p_M} (hR : RHouse (mg c m)) : ∃ r, (r = 10 ∨ r = 12) ∧ mR c 0 5 = some r ∧ okS (mI m 84) ∧ ∀ c' : p_M, Sh c' → c'.2 = c.2 → mI c' 11 = mI c 11 → mI c' 13 = mI c 13 → (mR c' 0 5 = some r ∧ mK c' r = 2 ∧ r < mN c') ∧ ∀ j : Nat, j < 18 → F_X1_value r (nI j) c' = some (mI m 84 j, c') := by
  rcases hR with ⟨h1, h2, h3, h4, -⟩ | ⟨h1, h2, h3, h4, -⟩
  · have h3 : ∀ j, j < 18 → mI c 11 j = mI m 84 j := h3
    refine ⟨10, Or.inl rfl, h1, h4, fun c' hS e e11 e13 => ⟨⟨?_, s_o10 hS⟩, fun j hj => ?_⟩⟩
    · show c'.2.1 0 5 = some 10
      rw [e]; exact h1
    · have c1 := nI_pos (show j < 2 ^ 31 by omega)
      have c2 : ¬ nI 18 ≤ nI j := nI_ge hj (by decide)
      have c3 := ix_nI hj (by decide)
      have c4 := nI_clamp (show j < 2 ^ 31 by omega)
      have c5 : 20 ≤ 20 ∧ 20 ≤ 26 := by decide
      simp only [bd_some, p_let_eq, p_ok, mI_sI, mR_sI, mK_sI, mN_sI, mL_sI, mI_sG, mR_sG, mK_sG, mN_sG, mL_sG, mI_sJ, mR_sJ, mK_sJ, mN_sJ, mL_sJ, z_up, ↓reduceIte, and_self, true_and, and_true, false_and, and_false, not_true_eq_false, not_false_eq_true, Nat.reduceEqDiff, i_10, i_20, i_30, w_in, w_need1, w_need0, m_in, m_thr0, m_thr1, tM, aM, nI_1, nI_pred, reduceIte, wp_some, eq_self, bI_T, bI_F, F_X1_value, F_X1_value_c22, F_X1_value_c23, s_o10 hS, s_r10_0 hS, s_a11 hS, s_l11 hS, s_o11 hS, c1, c2, c3, c4, c5, hj, e11, h3 j hj]
  · have h3 : ∀ j, j < 18 → mI c 13 j = mI m 84 j := h3
    refine ⟨12, Or.inr rfl, h1, h4, fun c' hS e e11 e13 => ⟨⟨?_, s_o12 hS⟩, fun j hj => ?_⟩⟩
    · show c'.2.1 0 5 = some 12
      rw [e]; exact h1
    · have c1 := nI_pos (show j < 2 ^ 31 by omega)
      have c2 : ¬ nI 18 ≤ nI j := nI_ge hj (by decide)
      have c3 := ix_nI hj (by decide)
      have c4 := nI_clamp (show j < 2 ^ 31 by omega)
      have c5 : 20 ≤ 20 ∧ 20 ≤ 26 := by decide
      simp only [bd_some, p_let_eq, p_ok, mI_sI, mR_sI, mK_sI, mN_sI, mL_sI, mI_sG, mR_sG, mK_sG, mN_sG, mL_sG, mI_sJ, mR_sJ, mK_sJ, mN_sJ, mL_sJ, z_up, ↓reduceIte, and_self, true_and, and_true, false_and, and_false, not_true_eq_false, not_false_eq_true, Nat.reduceEqDiff, i_10, i_20, i_30, w_in, w_need1, w_need0, m_in, m_thr0, m_thr1, tM, aM, nI_1, nI_pred, reduceIte, wp_some, eq_self, bI_T, bI_F, F_X1_value, F_X1_value_c22, F_X1_value_c23, s_o12 hS, s_r12_0 hS, s_a13 hS, s_l13 hS, s_o13 hS, c1, c2, c3, c4, c5, hj, e13, h3 j hj]
theorem m_bathes {m m1 m2 m3 : p_M} {j d x y P lt cc : Nat} {v : Int32} (hj : j < 40) (e98 : mI m 98 j = nI d) (hd : d < 20) (e69 : mI m 69 (20 * j + d) = nI x) (e70 : mI m 70 (20 * j + d) = nI y) (hx : x ≤ 3) (e90 : mI m 90 j = nI P) (e8 : mI m 84 8 = nI lt) (D : F_X13_draws (nI (P * lt)) (mI m 84 x) m = some (0, m1)) (e89 : mI m1 89 j = nI cc) (O : F_X13_does (nI j) (nI cc) (nI x) (nI y) m1 = some (0, m2)) (e36 : mI m2 65 36 = v) (G : (0 ≤ mI m2 84 (4 + x) ∧ mI m2 84 (4 + x) ≤ mI m2 65 30 - 1) ∧ F_X13_pours (mI m2 84 (4 + x)) (nI (P * lt)) (v + nI P * sl x y) m2 = some (0, m3) ∨ ¬ (0 ≤ mI m2 84 (4 + x) ∧ mI m2 84 (4 + x) ≤ mI m2 65 30 - 1) ∧ m3 = sI (sI m2 65 32 (mI m2 65 32 + nI (P * lt))) 65 34 (mI m2 65 34 + (v + nI P * sl x y))) (f98 : mI m3 98 j = nI d) : F_X13_bathes (nI j) m = some (0, sI m3 98 j (nI (d + 1))) := by
  have ij := ix_nI hj (by decide)
  have kj := nI_clamp (show j < 2 ^ 31 by omega)
  have e : 20 * nI j + nI d = nI (20 * j + d) := by rw [show (20 : Int32) = nI 20 from rfl, pk_mul, nI_add]
  have i2 := ix_nI (show 20 * j + d < 840 by omega) (by decide)
  have k2 := nI_clamp (show 20 * j + d < 2 ^ 31 by omega)
  have l2 : 20 * j + d < 840 := by omega
  have ix := ix_nI (show x < 36 by omega) (by decide)
  have kx := nI_clamp (show x < 2 ^ 31 by omega)
  have lx : x < 36 := by omega
  have e4 : 4 + nI x = nI (4 + x) := by rw [show (4 : Int32) = nI 4 from rfl, nI_add]
  have i4 := ix_nI (show 4 + x < 36 by omega) (by decide)
  have k4 := nI_clamp (show 4 + x < 2 ^ 31 by omega)
  have l4 : 4 + x < 36 := by omega
  have ad : nI d + 1 = nI (d + 1) := nI_add d 1
  have pl : nI P * nI lt = nI (P * lt) := pk_mul P lt
  have k8 : Int32.toNatClampNeg 8 = 8 := by decide
  have n8 : ¬ (8 : Int32) < 0 := by decide
  have l8 : 8 < 36 := by decide
  have h182 : F_X13_bathes_c182 (nI j) m3 = some (0, sI m3 98 j (nI (d + 1))) := by
    simp only [F_X13_bathes_c182, p_ok, aM, ij, kj, hj, f98, ad, and_self, true_and, not_false_eq_true, ↓reduceIte]
  have h118 : F_X13_bathes_c118 (nI j) (nI x) (nI (P * lt)) (sl x y) (nI P) v m2 = some (0, sI m3 98 j (nI (d + 1))) := by
    rcases G with ⟨g1, g2⟩ | ⟨g1, g2⟩
    · simp only [F_X13_bathes_c118, bd_some, p_ok, tM, aM, e4, i4, k4, l4, m_in, bI_pos g1, i_10, g2, and_self, true_and, not_false_eq_true, ↓reduceIte]
      exact h182
    · rw [g2] at h182
      simp only [F_X13_bathes_c118, bd_some, p_ok, tM, aM, e4, i4, k4, l4, m_in, bI_neg g1, and_self, true_and, not_false_eq_true, ↓reduceIte, mI_sI, z_up, Nat.reduceEqDiff]
      rw [g2]
      exact h182
  rcases b4 hx with rfl | rfl | rfl | rfl
  · simp only [F_X13_bathes, bd_some, p_ok, tM, aM, ij, kj, hj, e98, e, i2, k2, l2, e69, e70, e90, k8, n8, l8, e8, pl, ix, kx, lx, D, e89, O, e36, show (nI 0 = (0 : Int32)) = True from eq_true rfl, and_self, true_and, not_false_eq_true, not_true_eq_false, ↓reduceIte]
    exact h118
  · simp only [F_X13_bathes, bd_some, p_ok, tM, aM, ij, kj, hj, e98, e, i2, k2, l2, e69, e70, e90, k8, n8, l8, e8, pl, ix, kx, lx, D, e89, O, e36, show (nI 1 = (0 : Int32)) = False from eq_false (by decide), show (nI 1 = (1 : Int32)) = True from eq_true rfl, and_self, true_and, not_false_eq_true, not_true_eq_false, ↓reduceIte]
    exact h118
  · simp only [F_X13_bathes, bd_some, p_ok, tM, aM, ij, kj, hj, e98, e, i2, k2, l2, e69, e70, e90, k8, n8, l8, e8, pl, ix, kx, lx, D, e89, O, e36, show (nI 2 = (0 : Int32)) = False from eq_false (by decide), show (nI 2 = (1 : Int32)) = False from eq_false (by decide), show (nI 2 = (2 : Int32)) = True from eq_true rfl, and_self, true_and, not_false_eq_true, not_true_eq_false, ↓reduceIte]
    exact h118
  · simp only [F_X13_bathes, bd_some, p_ok, tM, aM, ij, kj, hj, e98, e, i2, k2, l2, e69, e70, e90, k8, n8, l8, e8, pl, ix, kx, lx, D, e89, O, e36, show (nI 3 = (0 : Int32)) = False from eq_false (by decide), show (nI 3 = (1 : Int32)) = False from eq_false (by decide), show (nI 3 = (2 : Int32)) = False from eq_false (by decide), and_self, true_and, not_false_eq_true, not_true_eq_false, ↓reduceIte]
    exact h118
theorem c_bathAt {c : p_M} {R B A nb d x y : Nat} (hi : isRec c R B A nb) (e2 : mI c R 2 = nI nb) (hd : d < nb) (hn : nb ≤ 20) (eB : mI c B d = nI x) (eA : mI c A d = nI y) : F_X8_bathAt R (nI d) c = some (nI x, c) ∧ F_X8_amountAt R (nI d) c = some (nI y, c) := by
  obtain ⟨h1, h2, h3, h4, h5, h6, h7⟩ := hi
  have nd : ¬ nI d < 0 := nI_pos (by omega)
  have c1 : ¬ nI nb ≤ nI d := nI_ge hd (by omega)
  have i1 := ix_nI hd (by omega)
  have k1 := nI_clamp (show d < 2 ^ 31 by omega)
  constructor
  · simp only [F_X8_bathAt, F_X8_bathAt_c22, bd_some, p_ok, nd, h1, e2, c1, h2, h4, h5, i1, k1, hd, eB, and_self, true_and, not_false_eq_true, ↓reduceIte]
  · simp only [F_X8_amountAt, F_X8_amountAt_c22, bd_some, p_ok, nd, h1, e2, c1, h3, h6, h7, i1, k1, hd, eA, and_self, true_and, not_false_eq_true, ↓reduceIte]
