/-! rows as wholes -/
theorem sA_self (μ : p_M) (a : Nat) : sA μ a (mI μ a) = μ := by
  obtain ⟨i, r⟩ := μ
  show (va_up i a (i a), r) = (i, r)
  congr 1
  funext k
  rw [z_up]
  split
  · rename_i h; rw [h]
  · rfl
theorem sI_eq (μ : p_M) (a k : Nat) (v : Int32) : sI μ a k v = sA μ a (va_up (mI μ a) k v) := rfl
theorem sA_sA (μ : p_M) (a : Nat) (f g : Nat → Int32) : sA (sA μ a f) a g = sA μ a g := by
  show (va_up (va_up μ.1 a f) a g, μ.2) = (va_up μ.1 a g, μ.2)
  congr 1
  funext k
  rw [z_up]
  split
  · rename_i h; rw [h, va_up_self]
  · rename_i h; rw [z_up, z_up, if_neg h, if_neg h]
theorem sI_sA (μ : p_M) (a k : Nat) (f : Nat → Int32) (v : Int32) : sI (sA μ a f) a k v = sA μ a (va_up f k v) := by
  rw [sI_eq, sA_sA, mI_sA, if_pos rfl]
/-- Arrays.fill -/
theorem fill_c {μ : p_M} {a N : Nat} {v : Int32} (ha : a < p_E ∧ mK μ a = 20 ∧ a < mN μ) (hL : mL μ a = N) (hN : N < 2 ^ 31) : ∀ (r i n : Nat) (f : Nat → Int32), i + r = N → r < n → F_J7_fill_53178_c5 n a v (nI i) (nI N) (sA μ a f) = some (0, sA μ a (fun j => if i ≤ j ∧ j < N then v else f j)) := by
  intro r
  induction r with
  | zero =>
    intro i n f h1 h2
    obtain ⟨n, rfl⟩ : ∃ k, n = k + 1 := ⟨n - 1, by omega⟩
    rw [F_J7_fill_53178_c5, if_pos (nI_le (by omega) (by omega))]
    congr 3
    funext j
    rw [if_neg (by omega)]
  | succ r ih =>
    intro i n f h1 h2
    obtain ⟨n, rfl⟩ : ∃ k, n = k + 1 := ⟨n - 1, by omega⟩
    have hi := ix_nI (show i < N by omega) hN
    rw [F_J7_fill_53178_c5, if_neg (nI_ge (by omega) (by omega)), p_okp (c := a < p_E ∧ mK (sA μ a f) a = 20 ∧ a < mN (sA μ a f)) ha, p_okp (by rw [mL_sA, hL]; exact hi), p_let_eq, nI_1, nI_clamp (by omega), sI_sA, ih (i + 1) n _ (by omega) (by omega)]
    congr 3
    funext j
    rw [z_up]
    by_cases e1 : i + 1 ≤ j ∧ j < N
    · rw [if_pos e1, if_pos ⟨by omega, e1.2⟩]
    · rw [if_neg e1]
      by_cases e2 : j = i
      · rw [if_pos e2, if_pos ⟨by omega, by omega⟩]
      · rw [if_neg e2, if_neg (by omega)]
theorem w_fill {μ : p_M} {a N : Nat} {v : Int32} (ha : a < p_E ∧ mK μ a = 20 ∧ a < mN μ) (hL : mL μ a = N) (hN : N < 90000) : F_J7_fill_53178 a v μ = some (0, sA μ a (fun j => if j < N then v else mI μ a j)) := by
  unfold F_J7_fill_53178
  rw [p_okp ⟨ha.1, by rw [ha.2.1]; decide, by rw [ha.2.1]; decide, ha.2.2⟩, hL]
  have h := fill_c (v := v) ha hL (by omega) N 0 p_fu (mI μ a) (by omega) (show N < 100000 by omega)
  rw [sA_self] at h
  rw [show (0 : Int32) = nI 0 from rfl, h]
  congr 3
  funext j
  by_cases e : j < N
  · rw [if_pos e, if_pos ⟨Nat.zero_le _, e⟩]
  · rw [if_neg e, if_neg (fun c => e c.2)]
theorem m_pat {μ : p_M} : ∀ (r i n : Nat) (f : Nat → Int32), i + r = 24 → r < n → F_X13_pattern_c50 n (nI i) (sA μ 110 f) = some (0, sA μ 110 (fun j => if i ≤ j ∧ j < 24 then 0 else f j)) := by
  intro r
  induction r with
  | zero =>
    intro i n f h1 h2
    obtain ⟨n, rfl⟩ : ∃ k, n = k + 1 := ⟨n - 1, by omega⟩
    rw [F_X13_pattern_c50, if_pos (show (24 : Int32) ≤ nI i from nI_le (a := 24) (by omega) (by omega))]
    congr 3
    funext j
    rw [if_neg (by omega)]
  | succ r ih =>
    intro i n f h1 h2
    obtain ⟨n, rfl⟩ : ∃ k, n = k + 1 := ⟨n - 1, by omega⟩
    rw [F_X13_pattern_c50, if_neg (show ¬ (24 : Int32) ≤ nI i from nI_ge (b := 24) (by omega) (by decide)), p_okp (ix_nI (by omega) (by decide)), nI_1, nI_clamp (by omega)]
    rw [show aM 78 = 110 from rfl, sI_sA, ih (i + 1) n _ (by omega) (by omega)]
    congr 3
    funext j
    rw [z_up]
    by_cases e1 : i + 1 ≤ j ∧ j < 24
    · rw [if_pos e1, if_pos ⟨by omega, e1.2⟩]
    · rw [if_neg e1]
      by_cases e2 : j = i
      · rw [if_pos e2, if_pos ⟨by omega, by omega⟩]
      · rw [if_neg e2, if_neg (by omega)]
theorem m_pat0 {μ : p_M} : F_X13_pattern_c50 p_fu 0 μ = some (0, sA μ 110 (fun j => if j < 24 then 0 else mI μ 110 j)) := by
  have h := m_pat (μ := μ) 24 0 p_fu (mI μ 110) (by omega) (show 24 < 100000 by decide)
  rw [sA_self] at h
  rw [show (0 : Int32) = nI 0 from rfl, h]
  congr 3
  funext j
  by_cases e : j < 24
  · rw [if_pos e, if_pos ⟨Nat.zero_le _, e⟩]
    rfl
  · rw [if_neg e, if_neg (fun c => e c.2)]
theorem A_pattern {μ : p_M} (hS : Sh μ) (hR : RPan μ) (a b : Int32) : wp (F_L_pattern 0 a b μ) fun k μ1 => wp (F_X13_pattern a b μ1) fun _ μ2 => PostV k μ μ2 ∧ RPan μ2 ∧ Fr [46, 47, 110] [0, 76, 77] μ μ2 := by
  have hR0 := hR
  obtain ⟨⟨w, h, w1, w2, h1, h2, e1, e2, e3, e4⟩, e5, e6⟩ := hR
  by_cases c1 : 1 ≤ a ∧ a ≤ 6
  · by_cases c2 : 1 ≤ b ∧ b ≤ 4
    · obtain ⟨i, hi1, hi2, rfl⟩ := rg3 a 1 6 1 6 rfl rfl (by decide) (by decide) c1
      obtain ⟨j, hj1, hj2, rfl⟩ := rg3 b 1 4 1 4 rfl rfl (by decide) (by decide) c2
      have g : F_J7_fill_53178 47 0 (sI (sI μ 46 1 (nI i)) 46 2 (nI j)) = _ := w_fill (s_a47 hS) (s_l47 hS) (by decide)
      simp only [bd_some, p_let_eq, p_ok, mI_sI, mR_sI, mK_sI, mN_sI, mL_sI, mI_sG, mR_sG, mK_sG, mN_sG, mL_sG, mI_sJ, mR_sJ, mK_sJ, mN_sJ, mL_sJ, z_up, ↓reduceIte, and_self, true_and, and_true, false_and, and_false, not_true_eq_false, not_false_eq_true, Nat.reduceEqDiff, i_10, i_20, i_30, w_in, w_need1, w_need0, m_in, m_thr0, m_thr1, tM, aM, nI_1, nI_pred, reduceIte, wp_some, eq_self, bI_T, bI_F, F_L_pattern, F_X12_pattern, F_X12_pattern_c23, F_X12_pattern_c24, F_X13_pattern, F_X13_pattern_c25, F_X13_pattern_c30, F_X7_beginPattern, s_o0 hS, s_r0_0 hS, s_r0_1 hS, s_r0_10 hS, s_r0_11 hS, s_r0_12 hS, s_r0_14 hS, s_r0_16 hS, s_r0_19 hS, s_r0_7 hS, s_r0_8 hS, s_r0_9 hS, s_o46 hS, s_r46_0 hS, s_r46_3 hS, s_a47 hS, s_l47 hS, s_o47 hS, c1, c2, g, m_pat0]
      refine ⟨⟨rfl, Cn_eq rfl rfl⟩, ?_, ?_⟩
      · unfold RPan
        simp only [mI_sI, mR_sI, mK_sI, mN_sI, mL_sI, mI_sG, mR_sG, mK_sG, mN_sG, mL_sG, mI_sJ, mR_sJ, mK_sJ, mN_sJ, mL_sJ, mI_sA, mR_sA, mK_sA, mN_sA, mL_sA, z_up, ↓reduceIte, reduceIte, Nat.reduceEqDiff, true_and, and_true, e5]
        exact ⟨⟨i, j, hi1, hi2, hj1, hj2, rfl, rfl, rfl, rfl⟩, e6⟩
      · repeat (first | exact Fr_refl _ | refine Fr_s65 ?_ (by decide) | refine Fr_sI ?_ (by decide) | refine Fr_sA ?_ (by decide) | refine Fr_sJ ?_ | refine Fr_sG ?_)
    · simp only [bd_some, p_let_eq, p_ok, mI_sI, mR_sI, mK_sI, mN_sI, mL_sI, mI_sG, mR_sG, mK_sG, mN_sG, mL_sG, mI_sJ, mR_sJ, mK_sJ, mN_sJ, mL_sJ, z_up, ↓reduceIte, and_self, true_and, and_true, false_and, and_false, not_true_eq_false, not_false_eq_true, Nat.reduceEqDiff, i_10, i_20, i_30, w_in, w_need1, w_need0, m_in, m_thr0, m_thr1, tM, aM, nI_1, nI_pred, reduceIte, wp_some, eq_self, bI_T, bI_F, F_L_pattern, F_X12_pattern, F_X12_pattern_c23, F_X12_pattern_c24, F_X13_pattern, F_X13_pattern_c25, F_X13_pattern_c30, F_X7_beginPattern, s_o0 hS, s_r0_0 hS, s_r0_1 hS, s_r0_10 hS, s_r0_11 hS, s_r0_12 hS, s_r0_14 hS, s_r0_16 hS, s_r0_19 hS, s_r0_7 hS, s_r0_8 hS, s_r0_9 hS, s_o46 hS, s_r46_0 hS, s_r46_3 hS, s_a47 hS, s_l47 hS, s_o47 hS, c1, c2]
      exact ⟨thr_postV, RPan_fr thr_fr (by decide) hR0, Fr_mono thr_fr (by decide) (by decide)⟩
  · simp only [bd_some, p_let_eq, p_ok, mI_sI, mR_sI, mK_sI, mN_sI, mL_sI, mI_sG, mR_sG, mK_sG, mN_sG, mL_sG, mI_sJ, mR_sJ, mK_sJ, mN_sJ, mL_sJ, z_up, ↓reduceIte, and_self, true_and, and_true, false_and, and_false, not_true_eq_false, not_false_eq_true, Nat.reduceEqDiff, i_10, i_20, i_30, w_in, w_need1, w_need0, m_in, m_thr0, m_thr1, tM, aM, nI_1, nI_pred, reduceIte, wp_some, eq_self, bI_T, bI_F, F_L_pattern, F_X12_pattern, F_X12_pattern_c23, F_X12_pattern_c24, F_X13_pattern, F_X13_pattern_c25, F_X13_pattern_c30, F_X7_beginPattern, s_o0 hS, s_r0_0 hS, s_r0_1 hS, s_r0_10 hS, s_r0_11 hS, s_r0_12 hS, s_r0_14 hS, s_r0_16 hS, s_r0_19 hS, s_r0_7 hS, s_r0_8 hS, s_r0_9 hS, s_o46 hS, s_r46_0 hS, s_r46_3 hS, s_a47 hS, s_l47 hS, s_o47 hS, c1]
    exact ⟨thr_postV, RPan_fr thr_fr (by decide) hR0, Fr_mono thr_fr (by decide) (by decide)⟩
/-! seam, shift -/
def sm (L R : Nat → Int32) (s : Nat) : Nat → Nat → Int32 → Int32
  | 0, _, a => a
  | r + 1, j, a => sm L R s r (j + 1) (if L (12 * j + 11) = R (12 * ((j + s) % 8)) then a else a + 1)
theorem rem8 {j s : Nat} (h : j + s < 100) : nI j + nI s - (nI j + nI s) / 8 * 8 = nI ((j + s) % 8) := by
  rw [nI_add]
  exact pk_rem (by omega) (by decide) (by decide)
theorem c_sm {μ : p_M} (hS : Sh μ) {s : Nat} (hs : s < 8) : ∀ (r j n : Nat) (a : Int32), j + r = 8 → r < n → F_X7_unlike_c4 n 46 (nI s) a (nI j) μ = some (sm (mI μ 49) (mI μ 50) s r j a, μ) := by
  intro r
  induction r with
  | zero =>
    intro j n a h1 h2
    obtain ⟨n, rfl⟩ : ∃ k, n = k + 1 := ⟨n - 1, by omega⟩
    rw [F_X7_unlike_c4, if_pos (show (8 : Int32) ≤ nI j from nI_le (a := 8) (by omega) (by omega))]
    rfl
  | succ r ih =>
    intro j n a h1 h2
    obtain ⟨n, rfl⟩ : ∃ k, n = k + 1 := ⟨n - 1, by omega⟩
    have m1 : nI j * 12 + 12 - 1 = nI (12 * j + 11) := by
      show nI j * nI 12 + nI 12 - 1 = _
      rw [mul2', show 12 * j + 12 = (12 * j + 11) + 1 from rfl, nI_pred]
    have m2 : nI ((j + s) % 8) * 12 = nI (12 * ((j + s) % 8)) := by
      show nI _ * nI 12 = _
      rw [pk_mul, Nat.mul_comm]
    have hlt : (j + s) % 8 < 8 := Nat.mod_lt _ (by decide)
    have i1 := ix_nI (show 12 * j + 11 < 96 by omega) (by decide)
    have i2 := ix_nI (show 12 * ((j + s) % 8) < 96 by omega) (by decide)
    have k1 := nI_clamp (show 12 * j + 11 < 2 ^ 31 by omega)
    have k2 := nI_clamp (show 12 * ((j + s) % 8) < 2 ^ 31 by omega)
    have l1 : 12 * j + 11 < 96 := by omega
    have l2 : 12 * ((j + s) % 8) < 96 := by omega
    have z0 : ¬ (8 : Int32) = 0 := by decide
    have z1 : (0 : Int32).toNatClampNeg = 0 := rfl
    have z2 : (1 : Int32).toNatClampNeg = 1 := rfl
    have z3 : ¬ (0 : Int32) < 0 := by decide
    have z4 : ¬ (1 : Int32) < 0 := by decide
    rw [F_X7_unlike_c4, if_neg (show ¬ (8 : Int32) ≤ nI j from nI_ge (b := 8) (by omega) (by decide))]
    by_cases e : mI μ 49 (12 * j + 11) = mI μ 50 (12 * ((j + s) % 8))
    · simp only [bd_some, p_let_eq, p_ok, mI_sI, mR_sI, mK_sI, mN_sI, mL_sI, mI_sG, mR_sG, mK_sG, mN_sG, mL_sG, mI_sJ, mR_sJ, mK_sJ, mN_sJ, mL_sJ, z_up, ↓reduceIte, and_self, true_and, and_true, false_and, and_false, not_true_eq_false, not_false_eq_true, Nat.reduceEqDiff, i_10, i_20, i_30, w_in, w_need1, w_need0, m_in, m_thr0, m_thr1, tM, aM, nI_1, nI_pred, reduceIte, wp_some, eq_self, bI_T, bI_F, F_X7_unlike_c56, s_o46 hS, s_r46_0 hS, s_r46_3 hS, s_a48 hS, s_l48 hS, s_o48 hS, s_r48_0 hS, s_r48_1 hS, s_a49 hS, s_l49 hS, s_o49 hS, s_a50 hS, s_l50 hS, s_o50 hS, rem8 (show j + s < 100 by omega), m1, m2, i1, i2, k1, k2, l1, l2, z0, z1, z2, z3, z4, e, Nat.le_refl, show 23 ≤ 26 from by decide, show (0 : Nat) < 2 from by decide, show (1 : Nat) < 2 from by decide, ih (j + 1) n a (by omega) (by omega), sm]
    · simp only [bd_some, p_let_eq, p_ok, mI_sI, mR_sI, mK_sI, mN_sI, mL_sI, mI_sG, mR_sG, mK_sG, mN_sG, mL_sG, mI_sJ, mR_sJ, mK_sJ, mN_sJ, mL_sJ, z_up, ↓reduceIte, and_self, true_and, and_true, false_and, and_false, not_true_eq_false, not_false_eq_true, Nat.reduceEqDiff, i_10, i_20, i_30, w_in, w_need1, w_need0, m_in, m_thr0, m_thr1, tM, aM, nI_1, nI_pred, reduceIte, wp_some, eq_self, bI_T, bI_F, F_X7_unlike_c56, s_o46 hS, s_r46_0 hS, s_r46_3 hS, s_a48 hS, s_l48 hS, s_o48 hS, s_r48_0 hS, s_r48_1 hS, s_a49 hS, s_l49 hS, s_o49 hS, s_a50 hS, s_l50 hS, s_o50 hS, rem8 (show j + s < 100 by omega), m1, m2, i1, i2, k1, k2, l1, l2, z0, z1, z2, z3, z4, e, Nat.le_refl, show 23 ≤ 26 from by decide, show (0 : Nat) < 2 from by decide, show (1 : Nat) < 2 from by decide, ih (j + 1) n (a + 1) (by omega) (by omega), sm]
theorem m_sm {μ : p_M} {s : Nat} (hs : s < 8) : ∀ (r j n : Nat) (a : Int32), j + r = 8 → r < n → F_X13_seamOf_c4 n (nI s) a (nI j) μ = some (sm (mI μ 111) (fun k => mI μ 111 (96 + k)) s r j a, μ) := by
  intro r
  induction r with
  | zero =>
    intro j n a h1 h2
    obtain ⟨n, rfl⟩ : ∃ k, n = k + 1 := ⟨n - 1, by omega⟩
    rw [F_X13_seamOf_c4, if_pos (show (8 : Int32) ≤ nI j from nI_le (a := 8) (by omega) (by omega))]
    rfl
  | succ r ih =>
    intro j n a h1 h2
    obtain ⟨n, rfl⟩ : ∃ k, n = k + 1 := ⟨n - 1, by omega⟩
    have m1 : 12 * nI j + 12 - 1 = nI (12 * j + 11) := by
      show nI 12 * nI j + nI 12 - 1 = _
      rw [mul2, show 12 * j + 12 = (12 * j + 11) + 1 from rfl, nI_pred]
    have m2 : 12 * (8 + nI ((j + s) % 8)) = nI (96 + 12 * ((j + s) % 8)) := by
      show nI 12 * (nI 8 + nI _) = _
      rw [nI_add, pk_mul, Nat.mul_add]
    have hlt : (j + s) % 8 < 8 := Nat.mod_lt _ (by decide)
    have i1 := ix_nI (show 12 * j + 11 < 192 by omega) (by decide)
    have i2 := ix_nI (show 96 + 12 * ((j + s) % 8) < 192 by omega) (by decide)
    have k1 := nI_clamp (show 12 * j + 11 < 2 ^ 31 by omega)
    have k2 := nI_clamp (show 96 + 12 * ((j + s) % 8) < 2 ^ 31 by omega)
    have l1 : 12 * j + 11 < 192 := by omega
    have l2 : 96 + 12 * ((j + s) % 8) < 192 := by omega
    have z0 : ¬ (8 : Int32) = 0 := by decide
    have z1 : a + 0 = a := by simp
    rw [F_X13_seamOf_c4, if_neg (show ¬ (8 : Int32) ≤ nI j from nI_ge (b := 8) (by omega) (by decide))]
    by_cases e : mI μ 111 (12 * j + 11) = mI μ 111 (96 + 12 * ((j + s) % 8))
    · simp only [bd_some, p_let_eq, p_ok, mI_sI, mR_sI, mK_sI, mN_sI, mL_sI, mI_sG, mR_sG, mK_sG, mN_sG, mL_sG, mI_sJ, mR_sJ, mK_sJ, mN_sJ, mL_sJ, z_up, ↓reduceIte, and_self, true_and, and_true, false_and, and_false, not_true_eq_false, not_false_eq_true, Nat.reduceEqDiff, i_10, i_20, i_30, w_in, w_need1, w_need0, m_in, m_thr0, m_thr1, tM, aM, nI_1, nI_pred, reduceIte, wp_some, eq_self, bI_T, bI_F, F_X13_seamOf_c50, rem8 (show j + s < 100 by omega), m1, m2, i1, i2, k1, k2, l1, l2, z0, z1, e, ih (j + 1) n a (by omega) (by omega), sm]
    · simp only [bd_some, p_let_eq, p_ok, mI_sI, mR_sI, mK_sI, mN_sI, mL_sI, mI_sG, mR_sG, mK_sG, mN_sG, mL_sG, mI_sJ, mR_sJ, mK_sJ, mN_sJ, mL_sJ, z_up, ↓reduceIte, and_self, true_and, and_true, false_and, and_false, not_true_eq_false, not_false_eq_true, Nat.reduceEqDiff, i_10, i_20, i_30, w_in, w_need1, w_need0, m_in, m_thr0, m_thr1, tM, aM, nI_1, nI_pred, reduceIte, wp_some, eq_self, bI_T, bI_F, F_X13_seamOf_c50, rem8 (show j + s < 100 by omega), m1, m2, i1, i2, k1, k2, l1, l2, z0, z1, e, ih (j + 1) n (a + 1) (by omega) (by omega), sm]
