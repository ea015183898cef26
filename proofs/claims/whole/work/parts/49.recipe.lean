/-! the RECIPE: look, cost, meets -/
theorem Sh_q {cs ss : List Nat} {μ μ' : p_M} (f : Fq cs ss μ μ') (h : Sh μ) : Sh μ' := Sh_fr (Fq_fr f) h
def prc (b n : Nat) : Nat := if b = 0 then n else if b = 1 then 3 * n else if b = 2 then 2 * n + 1 else 1
theorem w_price {b n : Nat} (hb : b ≤ 3) (μ : p_M) : F_X8_priceOf (nI b) (nI n) μ = some (nI (prc b n), μ) := by
  have m2 : 2 * nI n = nI (2 * n) := pk_mul 2 n
  have m3 : 3 * nI n = nI (3 * n) := pk_mul 3 n
  have a1 : nI (2 * n) + 1 = nI (2 * n + 1) := nI_add _ 1
  rcases b4 hb with rfl | rfl | rfl | rfl
  · simp only [bd_some, p_let_eq, p_ok, mI_sI, mR_sI, mK_sI, mN_sI, mL_sI, mI_sG, mR_sG, mK_sG, mN_sG, mL_sG, mI_sJ, mR_sJ, mK_sJ, mN_sJ, mL_sJ, z_up, ↓reduceIte, and_self, true_and, and_true, false_and, and_false, not_true_eq_false, not_false_eq_true, Nat.reduceEqDiff, i_10, i_20, i_30, w_in, w_need1, w_need0, m_in, m_thr0, m_thr1, tM, aM, nI_1, nI_pred, reduceIte, wp_some, eq_self, bI_T, bI_F, show nI 0 = 0 from rfl, F_X8_priceOf, sw0, prc]
  · simp only [bd_some, p_let_eq, p_ok, mI_sI, mR_sI, mK_sI, mN_sI, mL_sI, mI_sG, mR_sG, mK_sG, mN_sG, mL_sG, mI_sJ, mR_sJ, mK_sJ, mN_sJ, mL_sJ, z_up, ↓reduceIte, and_self, true_and, and_true, false_and, and_false, not_true_eq_false, not_false_eq_true, Nat.reduceEqDiff, i_10, i_20, i_30, w_in, w_need1, w_need0, m_in, m_thr0, m_thr1, tM, aM, nI_1, nI_pred, reduceIte, wp_some, eq_self, bI_T, bI_F, show nI 1 = 1 from rfl, F_X8_priceOf, sw1, prc, m3]
  · simp only [bd_some, p_let_eq, p_ok, mI_sI, mR_sI, mK_sI, mN_sI, mL_sI, mI_sG, mR_sG, mK_sG, mN_sG, mL_sG, mI_sJ, mR_sJ, mK_sJ, mN_sJ, mL_sJ, z_up, ↓reduceIte, and_self, true_and, and_true, false_and, and_false, not_true_eq_false, not_false_eq_true, Nat.reduceEqDiff, i_10, i_20, i_30, w_in, w_need1, w_need0, m_in, m_thr0, m_thr1, tM, aM, nI_1, nI_pred, reduceIte, wp_some, eq_self, bI_T, bI_F, show nI 2 = 2 from rfl, F_X8_priceOf, sw2, i_21, prc, m2, a1]
  · simp only [bd_some, p_let_eq, p_ok, mI_sI, mR_sI, mK_sI, mN_sI, mL_sI, mI_sG, mR_sG, mK_sG, mN_sG, mL_sG, mI_sJ, mR_sJ, mK_sJ, mN_sJ, mL_sJ, z_up, ↓reduceIte, and_self, true_and, and_true, false_and, and_false, not_true_eq_false, not_false_eq_true, Nat.reduceEqDiff, i_10, i_20, i_30, w_in, w_need1, w_need0, m_in, m_thr0, m_thr1, tM, aM, nI_1, nI_pred, reduceIte, wp_some, eq_self, bI_T, bI_F, show nI 3 = 3 from rfl, F_X8_priceOf, sw3, prc]
    rfl
theorem i_31 : ((3 : Int32) = 1) = False := eq_false (by decide)
theorem i_32 : ((3 : Int32) = 2) = False := eq_false (by decide)
theorem m_cost {b n : Nat} (hb : b ≤ 3) (μ : p_M) : F_X13_costOf (nI b) (nI n) μ = some (nI (prc b n), μ) := by
  have m2 : 2 * nI n = nI (2 * n) := pk_mul 2 n
  have m3 : 3 * nI n = nI (3 * n) := pk_mul 3 n
  have a1 : nI (2 * n) + 1 = nI (2 * n + 1) := nI_add _ 1
  rcases b4 hb with rfl | rfl | rfl | rfl
  · simp only [bd_some, p_let_eq, p_ok, mI_sI, mR_sI, mK_sI, mN_sI, mL_sI, mI_sG, mR_sG, mK_sG, mN_sG, mL_sG, mI_sJ, mR_sJ, mK_sJ, mN_sJ, mL_sJ, z_up, ↓reduceIte, and_self, true_and, and_true, false_and, and_false, not_true_eq_false, not_false_eq_true, Nat.reduceEqDiff, i_10, i_20, i_30, w_in, w_need1, w_need0, m_in, m_thr0, m_thr1, tM, aM, nI_1, nI_pred, reduceIte, wp_some, eq_self, bI_T, bI_F, show nI 0 = 0 from rfl, F_X13_costOf, F_X13_costOf_c33, prc]
  · simp only [bd_some, p_let_eq, p_ok, mI_sI, mR_sI, mK_sI, mN_sI, mL_sI, mI_sG, mR_sG, mK_sG, mN_sG, mL_sG, mI_sJ, mR_sJ, mK_sJ, mN_sJ, mL_sJ, z_up, ↓reduceIte, and_self, true_and, and_true, false_and, and_false, not_true_eq_false, not_false_eq_true, Nat.reduceEqDiff, i_10, i_20, i_30, w_in, w_need1, w_need0, m_in, m_thr0, m_thr1, tM, aM, nI_1, nI_pred, reduceIte, wp_some, eq_self, bI_T, bI_F, show nI 1 = 1 from rfl, F_X13_costOf, F_X13_costOf_c33, prc, m3]
  · simp only [bd_some, p_let_eq, p_ok, mI_sI, mR_sI, mK_sI, mN_sI, mL_sI, mI_sG, mR_sG, mK_sG, mN_sG, mL_sG, mI_sJ, mR_sJ, mK_sJ, mN_sJ, mL_sJ, z_up, ↓reduceIte, and_self, true_and, and_true, false_and, and_false, not_true_eq_false, not_false_eq_true, Nat.reduceEqDiff, i_10, i_20, i_30, w_in, w_need1, w_need0, m_in, m_thr0, m_thr1, tM, aM, nI_1, nI_pred, reduceIte, wp_some, eq_self, bI_T, bI_F, show nI 2 = 2 from rfl, F_X13_costOf, F_X13_costOf_c33, i_21, prc, m2, a1]
  · simp only [bd_some, p_let_eq, p_ok, mI_sI, mR_sI, mK_sI, mN_sI, mL_sI, mI_sG, mR_sG, mK_sG, mN_sG, mL_sG, mI_sJ, mR_sJ, mK_sJ, mN_sJ, mL_sJ, z_up, ↓reduceIte, and_self, true_and, and_true, false_and, and_false, not_true_eq_false, not_false_eq_true, Nat.reduceEqDiff, i_10, i_20, i_30, w_in, w_need1, w_need0, m_in, m_thr0, m_thr1, tM, aM, nI_1, nI_pred, reduceIte, wp_some, eq_self, bI_T, bI_F, show nI 3 = 3 from rfl, F_X13_costOf, F_X13_costOf_c33, i_31, i_32, prc]
    rfl
/-- a Recipe with its two rows -/
def isRec (μ : p_M) (R B A N : Nat) : Prop := (mK μ R = 9 ∧ R < mN μ) ∧ mR μ R 0 = some B ∧ mR μ R 1 = some A ∧ (B < p_E ∧ mK μ B = 20 ∧ B < mN μ) ∧ mL μ B = N ∧ (A < p_E ∧ mK μ A = 20 ∧ A < mN μ) ∧ mL μ A = N
/-- what stands in it, and in the Model's rows -/
def RecC (r : Int32) (b a s t : Nat → Int32) (o n : Nat) : Prop := r = nI n ∧ ∀ j, j < n → ∃ x y : Nat, x ≤ 3 ∧ 1 ≤ y ∧ y ≤ 20 ∧ b j = nI x ∧ a j = nI y ∧ s (o + j) = nI x ∧ t (o + j) = nI y
def RRec (μ : p_M) : Prop := ∃ n : Nat, n ≤ 20 ∧ mI μ 68 40 = nI n ∧ ((mR μ 0 3 = some 4 ∧ mR μ 0 4 = some 7 ∧ RecC (mI μ 4 2) (mI μ 5) (mI μ 6) (mI μ 69) (mI μ 70) 800 n) ∨ (mR μ 0 3 = some 7 ∧ mR μ 0 4 = some 4 ∧ RecC (mI μ 7 2) (mI μ 8) (mI μ 9) (mI μ 69) (mI μ 70) 800 n))
theorem RRec_fr {cs ss : List Nat} {μ μ' : p_M} (f : Fr cs ss μ μ') (d : dj cs ss [4, 5, 6, 7, 8, 9, 68, 69, 70] [] = true) (h : RRec μ) : RRec μ' := by
  unfold RRec at *
  simpa only [f.1, Fr_row f 4 (dj1 d (by decide)), Fr_row f 5 (dj1 d (by decide)), Fr_row f 6 (dj1 d (by decide)), Fr_row f 7 (dj1 d (by decide)), Fr_row f 8 (dj1 d (by decide)), Fr_row f 9 (dj1 d (by decide)), Fr_row f 68 (dj1 d (by decide)), Fr_row f 69 (dj1 d (by decide)), Fr_row f 70 (dj1 d (by decide))] using h
theorem rec_get {μ : p_M} (hS : Sh μ) (h : RRec μ) : ∃ R B A n : Nat, n ≤ 20 ∧ mR μ 0 3 = some R ∧ isRec μ R B A 20 ∧ RecC (mI μ R 2) (mI μ B) (mI μ A) (mI μ 69) (mI μ 70) 800 n ∧ mI μ 68 40 = nI n ∧ (R = 4 ∧ B = 5 ∧ A = 6 ∨ R = 7 ∧ B = 8 ∧ A = 9) := by
  obtain ⟨n, hn, e, h1 | h1⟩ := h
  · exact ⟨4, 5, 6, n, hn, h1.1, ⟨s_o4 hS, s_r4_0 hS, s_r4_1 hS, s_a5 hS, s_l5 hS, s_a6 hS, s_l6 hS⟩, h1.2.2, e, Or.inl ⟨rfl, rfl, rfl⟩⟩
  · exact ⟨7, 8, 9, n, hn, h1.1, ⟨s_o7 hS, s_r7_0 hS, s_r7_1 hS, s_a8 hS, s_l8 hS, s_a9 hS, s_l9 hS⟩, h1.2.2, e, Or.inr ⟨rfl, rfl, rfl⟩⟩
theorem isRec_q {cs ss : List Nat} {μ μ' : p_M} (f : Fq cs ss μ μ') {R B A N : Nat} (h : isRec μ R B A N) : isRec μ' R B A N := by
  have g := Fq_fr f
  unfold isRec at *
  rw [g.1, g.2.1, g.2.2.1, g.2.2.2.1]
  exact h
/-! cost -/
def prS (s t : Nat → Int32) : Nat → Nat → Nat
  | _, 0 => 0
  | k, r + 1 => prc (s k).toNatClampNeg (t k).toNatClampNeg + prS s t (k + 1) r
theorem c_price {R B A n : Nat} {μ : p_M} (hn : n ≤ 20) (hi : isRec μ R B A 20) (hc : RecC (mI μ R 2) (mI μ B) (mI μ A) (mI μ 69) (mI μ 70) 800 n) : ∀ (r k m acc : Nat), k + r = n → r < m → F_X8_price_c4 m R (nI acc) (nI k) μ = some (nI (acc + prS (mI μ 69) (mI μ 70) (800 + k) r), μ) := by
  obtain ⟨i1, i2, i3, i4, i5, i6, i7⟩ := hi
  intro r
  induction r with
  | zero =>
    intro k m acc hk hm
    obtain ⟨m, rfl⟩ : ∃ k, m = k + 1 := ⟨m - 1, by omega⟩
    have hk : k = n := by omega
    subst hk
    have c1 : nI k ≤ nI k := nI_le (Nat.le_refl k) (by omega)
    simp only [bd_some, p_let_eq, p_ok, mI_sI, mR_sI, mK_sI, mN_sI, mL_sI, mI_sG, mR_sG, mK_sG, mN_sG, mL_sG, mI_sJ, mR_sJ, mK_sJ, mN_sJ, mL_sJ, z_up, ↓reduceIte, and_self, true_and, and_true, false_and, and_false, not_true_eq_false, not_false_eq_true, Nat.reduceEqDiff, i_10, i_20, i_30, w_in, w_need1, w_need0, m_in, m_thr0, m_thr1, tM, aM, nI_1, nI_pred, reduceIte, wp_some, eq_self, bI_T, bI_F, F_X8_price_c4, i1, hc.1, c1, prS, Nat.add_zero]
  | succ r ih =>
    intro k m acc hk hm
    obtain ⟨m, rfl⟩ : ∃ k, m = k + 1 := ⟨m - 1, by omega⟩
    have c1 : ¬ nI n ≤ nI k := nI_ge (by omega) (by omega)
    have x1 := ix_nI (show k < 20 by omega) (by decide)
    have k1 := nI_clamp (show k < 2 ^ 31 by omega)
    have l1 : k < 20 := by omega
    obtain ⟨x, y, hx, hy1, hy2, e1, e2, e3, e4⟩ := hc.2 k (by omega)
    have := ih (k + 1) m (acc + prc x y) (by omega) (by omega)
    simp only [bd_some, p_let_eq, p_ok, mI_sI, mR_sI, mK_sI, mN_sI, mL_sI, mI_sG, mR_sG, mK_sG, mN_sG, mL_sG, mI_sJ, mR_sJ, mK_sJ, mN_sJ, mL_sJ, z_up, ↓reduceIte, and_self, true_and, and_true, false_and, and_false, not_true_eq_false, not_false_eq_true, Nat.reduceEqDiff, i_10, i_20, i_30, w_in, w_need1, w_need0, m_in, m_thr0, m_thr1, tM, aM, nI_1, nI_pred, reduceIte, wp_some, eq_self, bI_T, bI_F, F_X8_price_c4, i1, i2, i3, i4, i5, i6, i7, hc.1, c1, x1, k1, l1, e1, e2, w_price hx, nI_add, prS, e3, e4, nI_clamp (show x < 2 ^ 31 by omega), nI_clamp (show y < 2 ^ 31 by omega)]
    rw [Nat.add_assoc] at this
    exact this
theorem m_price {n : Nat} {μ : p_M} {r b a} (hn : n ≤ 20) (e : mI μ 68 40 = nI n) (hc : RecC r b a (mI μ 69) (mI μ 70) 800 n) : ∀ (r k m acc : Nat), k + r = n → r < m → F_X13_cost_c11 m (nI acc) (nI (800 + k)) μ = some (nI (acc + prS (mI μ 69) (mI μ 70) (800 + k) r), μ) := by
  intro r
  have i40 : ¬ (40 : Int32) < 0 ∧ Int32.toNatClampNeg 40 < 42 := by decide
  have k40 : Int32.toNatClampNeg 40 = 40 := by decide
  have l40 : 40 < 42 := by decide
  have a8 : 800 + nI n = nI (800 + n) := nI_add 800 n
  induction r with
  | zero =>
    intro k m acc hk hm
    obtain ⟨m, rfl⟩ : ∃ k, m = k + 1 := ⟨m - 1, by omega⟩
    have hk : k = n := by omega
    subst hk
    have c1 : nI (800 + k) ≤ nI (800 + k) := nI_le (Nat.le_refl _) (by omega)
    simp only [bd_some, p_let_eq, p_ok, mI_sI, mR_sI, mK_sI, mN_sI, mL_sI, mI_sG, mR_sG, mK_sG, mN_sG, mL_sG, mI_sJ, mR_sJ, mK_sJ, mN_sJ, mL_sJ, z_up, ↓reduceIte, and_self, true_and, and_true, false_and, and_false, not_true_eq_false, not_false_eq_true, Nat.reduceEqDiff, i_10, i_20, i_30, w_in, w_need1, w_need0, m_in, m_thr0, m_thr1, tM, aM, nI_1, nI_pred, reduceIte, wp_some, eq_self, bI_T, bI_F, F_X13_cost_c11, i40, k40, l40, e, a8, c1, prS, Nat.add_zero]
  | succ r ih =>
    intro k m acc hk hm
    obtain ⟨m, rfl⟩ : ∃ k, m = k + 1 := ⟨m - 1, by omega⟩
    have c1 : ¬ nI (800 + n) ≤ nI (800 + k) := nI_ge (by omega) (by omega)
    have x1 := ix_nI (show 800 + k < 840 by omega) (by decide)
    have k1 := nI_clamp (show 800 + k < 2 ^ 31 by omega)
    have l1 : 800 + k < 840 := by omega
    obtain ⟨x, y, hx, hy1, hy2, e1, e2, e3, e4⟩ := hc.2 k (by omega)
    have := ih (k + 1) m (acc + prc x y) (by omega) (by omega)
    simp only [bd_some, p_let_eq, p_ok, mI_sI, mR_sI, mK_sI, mN_sI, mL_sI, mI_sG, mR_sG, mK_sG, mN_sG, mL_sG, mI_sJ, mR_sJ, mK_sJ, mN_sJ, mL_sJ, z_up, ↓reduceIte, and_self, true_and, and_true, false_and, and_false, not_true_eq_false, not_false_eq_true, Nat.reduceEqDiff, i_10, i_20, i_30, w_in, w_need1, w_need0, m_in, m_thr0, m_thr1, tM, aM, nI_1, nI_pred, reduceIte, wp_some, eq_self, bI_T, bI_F, F_X13_cost_c11, i40, k40, l40, e, a8, c1, x1, k1, l1, e3, e4, m_cost hx, nI_add, prS, nI_clamp (show x < 2 ^ 31 by omega), nI_clamp (show y < 2 ^ 31 by omega)]
    rw [Nat.add_assoc] at this
    exact this
theorem A_cost {μ : p_M} (hS : Sh μ) (hR : RRec μ) : wp (F_X12_cost 0 μ) fun a μ1 => wp (F_X13_cost μ1) fun b μ2 => a = b ∧ Cn μ μ2 ∧ RRec μ2 ∧ Fr [] [0] μ μ2 := by
  obtain ⟨R, B, A, n, hn, h3, hi, hc, e, -⟩ := rec_get hS hR
  have f : Fr [] [0] μ (sI μ 65 0 0) := by repeat (first | exact Fr_refl _ | refine Fr_s65 ?_ (by decide) | refine Fr_sI ?_ (by decide) | refine Fr_sA ?_ (by decide) | refine Fr_sJ ?_ | refine Fr_sG ?_)
  have c1 := c_price hn hi hc n 0 p_fu 0 (by omega) (by rw [show p_fu = 99999 + 1 from rfl]; omega)
  have c2 := m_price (μ := sI μ 65 0 0) (r := mI μ R 2) (b := mI μ B) (a := mI μ A) hn (by simp only [mI_sI, mR_sI, mK_sI, mN_sI, mL_sI, mI_sG, mR_sG, mK_sG, mN_sG, mL_sG, mI_sJ, mR_sJ, mK_sJ, mN_sJ, mL_sJ, mI_sA, mR_sA, mK_sA, mN_sA, mL_sA, z_up, ↓reduceIte, reduceIte, Nat.reduceEqDiff, true_and, and_true]; exact e) (by simp only [mI_sI, mR_sI, mK_sI, mN_sI, mL_sI, mI_sG, mR_sG, mK_sG, mN_sG, mL_sG, mI_sJ, mR_sJ, mK_sJ, mN_sJ, mL_sJ, mI_sA, mR_sA, mK_sA, mN_sA, mL_sA, z_up, ↓reduceIte, reduceIte, Nat.reduceEqDiff, true_and, and_true]; exact hc) n 0 p_fu 0 (by omega) (by rw [show p_fu = 99999 + 1 from rfl]; omega)
  have c1 : F_X8_price_c4 p_fu R 0 0 μ = _ := c1
  have c2 : F_X13_cost_c11 p_fu 0 800 (sI μ 65 0 0) = _ := c2
  simp only [bd_some, p_let_eq, p_ok, mI_sI, mR_sI, mK_sI, mN_sI, mL_sI, mI_sG, mR_sG, mK_sG, mN_sG, mL_sG, mI_sJ, mR_sJ, mK_sJ, mN_sJ, mL_sJ, z_up, ↓reduceIte, and_self, true_and, and_true, false_and, and_false, not_true_eq_false, not_false_eq_true, Nat.reduceEqDiff, i_10, i_20, i_30, w_in, w_need1, w_need0, m_in, m_thr0, m_thr1, tM, aM, nI_1, nI_pred, reduceIte, wp_some, eq_self, bI_T, bI_F, F_X12_cost, F_X8_price, F_X13_cost, s_o0 hS, s_r0_0 hS, s_r0_1 hS, s_r0_10 hS, s_r0_11 hS, s_r0_12 hS, s_r0_14 hS, s_r0_16 hS, s_r0_19 hS, s_r0_7 hS, s_r0_8 hS, s_r0_9 hS, h3, hi.1, c1, c2]
  exact ⟨Cn_eq rfl rfl, RRec_fr f (by decide) hR, f⟩
/-! looks told by the recipe -/
def lkF (h : Nat) (s t : Nat → Int32) : Nat → Nat → LK → LK
  | _, 0, L => L
  | k, r + 1, L => lkF h s t (k + 1) r (lk h (s k).toNatClampNeg (t k).toNatClampNeg L)
theorem c_tries {R B A n h last : Nat} (hn : n ≤ 20) (hl : last ≤ n) (hh : h ≤ 100) (ne : R ≠ 14 ∧ B ≠ 14 ∧ A ≠ 14 ∧ R ≠ 65 ∧ B ≠ 65 ∧ A ≠ 65) : ∀ (r k m : Nat) (μ : p_M) (L : LK), k + r = last → r < m → Sh μ → mR μ 0 3 = some R → isRec μ R B A 20 → RecC (mI μ R 2) (mI μ B) (mI μ A) (mI μ 69) (mI μ 70) 800 n → isL (mI μ 14) L h → okL L → ∃ μ', F_X12_tryRecipe_c28 m 0 (nI last) (nI k) μ = some (0, μ') ∧ isL (mI μ' 14) (lkF h (mI μ 69) (mI μ 70) (800 + k) r L) h ∧ okL (lkF h (mI μ 69) (mI μ 70) (800 + k) r L) ∧ Fq [14] [] μ μ' := by
  obtain ⟨n1, n2, n3, n4, n5, n6⟩ := ne
  intro r
  induction r with
  | zero =>
    intro k m μ L hk hm hS h3 hi hc hL hok
    obtain ⟨m, rfl⟩ : ∃ k, m = k + 1 := ⟨m - 1, by omega⟩
    have hk : k = last := by omega
    subst hk
    have c1 : nI k ≤ nI k := nI_le (Nat.le_refl k) (by omega)
    refine ⟨μ, ?_, hL, hok, Fq_refl μ⟩
    simp only [bd_some, p_let_eq, p_ok, mI_sI, mR_sI, mK_sI, mN_sI, mL_sI, mI_sG, mR_sG, mK_sG, mN_sG, mL_sG, mI_sJ, mR_sJ, mK_sJ, mN_sJ, mL_sJ, z_up, ↓reduceIte, and_self, true_and, and_true, false_and, and_false, not_true_eq_false, not_false_eq_true, Nat.reduceEqDiff, i_10, i_20, i_30, w_in, w_need1, w_need0, m_in, m_thr0, m_thr1, tM, aM, nI_1, nI_pred, reduceIte, wp_some, eq_self, bI_T, bI_F, F_X12_tryRecipe_c28, c1]
  | succ r ih =>
    intro k m μ L hk hm hS h3 hi hc hL hok
    obtain ⟨m, rfl⟩ : ∃ k, m = k + 1 := ⟨m - 1, by omega⟩
    obtain ⟨i1, i2, i3, i4, i5, i6, i7⟩ := hi
    have c1 : ¬ nI last ≤ nI k := nI_ge (by omega) (by omega)
    have x1 := ix_nI (show k < 20 by omega) (by decide)
    have k1 := nI_clamp (show k < 2 ^ 31 by omega)
    have l1 : k < 20 := by omega
    obtain ⟨x, y, hx, hy1, hy2, e1, e2, e3, e4⟩ := hc.2 k (by omega)
    obtain ⟨μ1, q1, q2, q3⟩ := c_lk (μ := μ) (a := 14) (s_o14 hS) (by decide) hL hok hx (show y ≤ 100 by omega) hh
    have hd : ∀ a, a ≠ 14 → a ≠ 65 → mI μ1 a = mI μ a := fun a ha hb => q3.2.1 a hb (fun e => ha (List.mem_singleton.mp e))
    obtain ⟨μ2, p1, p2, p3, p4⟩ := ih (k + 1) m μ1 (lk h x y L) (by omega) (by omega) (Sh_q q3 hS) (by rw [(Fq_fr q3).1]; exact h3) (isRec_q q3 ⟨i1, i2, i3, i4, i5, i6, i7⟩) (by rw [hd R n1 n4, hd B n2 n5, hd A n3 n6, hd 69 (by decide) (by decide), hd 70 (by decide) (by decide)]; exact hc) q2 (lk_ok hok)
    rw [hd 69 (by decide) (by decide), hd 70 (by decide) (by decide)] at p2 p3
    refine ⟨μ2, ?_, ?_, ?_, Fq_trans q3 p4⟩
    · simp only [bd_some, p_let_eq, p_ok, mI_sI, mR_sI, mK_sI, mN_sI, mL_sI, mI_sG, mR_sG, mK_sG, mN_sG, mL_sG, mI_sJ, mR_sJ, mK_sJ, mN_sJ, mL_sJ, z_up, ↓reduceIte, and_self, true_and, and_true, false_and, and_false, not_true_eq_false, not_false_eq_true, Nat.reduceEqDiff, i_10, i_20, i_30, w_in, w_need1, w_need0, m_in, m_thr0, m_thr1, tM, aM, nI_1, nI_pred, reduceIte, wp_some, eq_self, bI_T, bI_F, F_X12_tryRecipe_c28, s_o0 hS, s_r0_0 hS, s_r0_1 hS, s_r0_10 hS, s_r0_11 hS, s_r0_12 hS, s_r0_14 hS, s_r0_16 hS, s_r0_19 hS, s_r0_7 hS, s_r0_8 hS, s_r0_9 hS, s_o14 hS, h3, i1, i2, i3, i4, i5, i6, i7, c1, x1, k1, l1, e1, e2, q1]
      exact p1
    · unfold lkF
      rw [e3, e4, nI_clamp (show x < 2 ^ 31 by omega), nI_clamp (show y < 2 ^ 31 by omega)]
      exact p2
    · unfold lkF
      rw [e3, e4, nI_clamp (show x < 2 ^ 31 by omega), nI_clamp (show y < 2 ^ 31 by omega)]
      exact p3
theorem m_tries {n q c h : Nat} (hn : n ≤ 20) (hq : q < 2 ^ 31) (hcc : c < 6) (hh : h ≤ 100) {rr : Int32} {b a : Nat → Int32} : ∀ (r k m : Nat) (μ : p_M) (L : LK), k + r = min q n → r < m → mI μ 68 40 = nI n → RecC rr b a (mI μ 69) (mI μ 70) 800 n → mI μ 73 c = nI h → isR (mI μ 74) 40 L → okL L → ∃ μ', F_X13_tries_c9 m (nI c) (nI q) (nI k) μ = some (0, μ') ∧ isR (mI μ' 74) 40 (lkF h (mI μ 69) (mI μ 70) (800 + k) r L) ∧ (∀ k, k < 200 ∨ 205 ≤ k → mI μ' 74 k = mI μ 74 k) ∧ Fq [74] [] μ μ' := by
  intro r
  have i40 : ¬ (40 : Int32) < 0 ∧ Int32.toNatClampNeg 40 < 42 := by decide
  have k40 : Int32.toNatClampNeg 40 = 40 := by decide
  have l40 : 40 < 42 := by decide
  induction r with
  | zero =>
    intro k m μ L hk hm e hc eh hL hok
    obtain ⟨m, rfl⟩ : ∃ k, m = k + 1 := ⟨m - 1, by omega⟩
    refine ⟨μ, ?_, hL, fun _ _ => rfl, Fq_refl μ⟩
    by_cases c1 : q ≤ k
    · have c1 : nI q ≤ nI k := nI_le c1 (by omega)
      simp only [bd_some, p_let_eq, p_ok, mI_sI, mR_sI, mK_sI, mN_sI, mL_sI, mI_sG, mR_sG, mK_sG, mN_sG, mL_sG, mI_sJ, mR_sJ, mK_sJ, mN_sJ, mL_sJ, z_up, ↓reduceIte, and_self, true_and, and_true, false_and, and_false, not_true_eq_false, not_false_eq_true, Nat.reduceEqDiff, i_10, i_20, i_30, w_in, w_need1, w_need0, m_in, m_thr0, m_thr1, tM, aM, nI_1, nI_pred, reduceIte, wp_some, eq_self, bI_T, bI_F, F_X13_tries_c9, F_X13_tries_c58, c1]
    · have c1 : ¬ nI q ≤ nI k := nI_ge (by omega) (by omega)
      have c2 : nI n ≤ nI k := nI_le (by omega) (by omega)
      simp only [bd_some, p_let_eq, p_ok, mI_sI, mR_sI, mK_sI, mN_sI, mL_sI, mI_sG, mR_sG, mK_sG, mN_sG, mL_sG, mI_sJ, mR_sJ, mK_sJ, mN_sJ, mL_sJ, z_up, ↓reduceIte, and_self, true_and, and_true, false_and, and_false, not_true_eq_false, not_false_eq_true, Nat.reduceEqDiff, i_10, i_20, i_30, w_in, w_need1, w_need0, m_in, m_thr0, m_thr1, tM, aM, nI_1, nI_pred, reduceIte, wp_some, eq_self, bI_T, bI_F, F_X13_tries_c9, F_X13_tries_c58, c1, i40, k40, l40, e, c2]
  | succ r ih =>
    intro k m μ L hk hm e hc eh hL hok
    obtain ⟨m, rfl⟩ : ∃ k, m = k + 1 := ⟨m - 1, by omega⟩
    have c1 : ¬ nI q ≤ nI k := nI_ge (by omega) (by omega)
    have c2 : ¬ nI n ≤ nI k := nI_ge (by omega) (by omega)
    have a8 : 800 + nI k = nI (800 + k) := nI_add 800 k
    have x1 := ix_nI (show 800 + k < 840 by omega) (by decide)
    have k1 := nI_clamp (show 800 + k < 2 ^ 31 by omega)
    have l1 : 800 + k < 840 := by omega
    obtain ⟨x, y, hx, hy1, hy2, e1, e2, e3, e4⟩ := hc.2 k (by omega)
    obtain ⟨μ1, q1, q2, q3, q4⟩ := m_lk (μ := μ) (r := 40) (by decide) hcc hL eh hok hx (show y ≤ 100 by omega) hh
    have q1 : F_X13_does 40 (nI c) (nI x) (nI y) μ = _ := q1
    have hd : ∀ a, a ≠ 74 → a ≠ 65 → mI μ1 a = mI μ a := fun a ha hb => q4.2.1 a hb (fun e => ha (List.mem_singleton.mp e))
    obtain ⟨μ2, p1, p2, p3, p4⟩ := ih (k + 1) m μ1 (lk h x y L) (by omega) (by omega) (by rw [hd 68 (by decide) (by decide)]; exact e) (by rw [hd 69 (by decide) (by decide), hd 70 (by decide) (by decide)]; exact hc) (by rw [hd 73 (by decide) (by decide)]; exact eh) q2 (lk_ok hok)
    rw [hd 69 (by decide) (by decide), hd 70 (by decide) (by decide)] at p2
    refine ⟨μ2, ?_, ?_, fun j hj => (p3 j hj).trans (q3 j hj), Fq_trans q4 p4⟩
    · simp only [bd_some, p_let_eq, p_ok, mI_sI, mR_sI, mK_sI, mN_sI, mL_sI, mI_sG, mR_sG, mK_sG, mN_sG, mL_sG, mI_sJ, mR_sJ, mK_sJ, mN_sJ, mL_sJ, z_up, ↓reduceIte, and_self, true_and, and_true, false_and, and_false, not_true_eq_false, not_false_eq_true, Nat.reduceEqDiff, i_10, i_20, i_30, w_in, w_need1, w_need0, m_in, m_thr0, m_thr1, tM, aM, nI_1, nI_pred, reduceIte, wp_some, eq_self, bI_T, bI_F, F_X13_tries_c9, F_X13_tries_c58, c1, i40, k40, l40, e, c2, a8, x1, k1, l1, e3, e4, q1]
      exact p1
    · unfold lkF
      rw [e3, e4, nI_clamp (show x < 2 ^ 31 by omega), nI_clamp (show y < 2 ^ 31 by omega)]
      exact p2
