/-! count -/
def sumD (f : Nat → Int32) : Nat → Nat → Int32 → Int32
  | 0, _, a => a
  | r + 1, i, a => sumD f r (i + 1) (a + f i)
theorem c_dirt {μ : p_M} {n : Nat} (hS : Sh μ) (hn : n ≤ 5) (e : mI μ 30 3 = nI n) : ∀ (r i f : Nat) (a : Int32), i + r = n → r < f → F_X11_dirtInTanks_c4 f 30 a (nI i) μ = some (sumD (mI μ 33) r i a, μ) := by
  intro r
  induction r with
  | zero =>
    intro i f a hi hf
    obtain ⟨f, rfl⟩ : ∃ k, f = k + 1 := ⟨f - 1, by omega⟩
    have c1 : nI n ≤ nI i := nI_le (by omega) (by omega)
    simp only [F_X11_dirtInTanks_c4, p_ok, s_o30 hS, e, c1, and_self, ↓reduceIte, sumD]
  | succ r ih =>
    intro i f a hi hf
    obtain ⟨f, rfl⟩ : ∃ k, f = k + 1 := ⟨f - 1, by omega⟩
    have c1 : ¬ nI n ≤ nI i := nI_ge (by omega) (by omega)
    have ii := ix_nI (show i < 5 by omega) (by decide)
    have ki := nI_clamp (show i < 2 ^ 31 by omega)
    have li : i < 5 := by omega
    have ai : nI i + 1 = nI (i + 1) := nI_add i 1
    have r1 := ih (i + 1) f (a + mI μ 33 i) (by omega) (by omega)
    simp only [F_X11_dirtInTanks_c4, bd_some, p_ok, s_o30 hS, s_r30_0 hS, s_r30_1 hS, s_r30_2 hS, s_a33 hS, s_l33 hS, s_o33 hS, e, c1, ii, ki, li, ai, and_self, true_and, not_false_eq_true, ↓reduceIte, sumD]
    exact r1
theorem m_dirt {m : p_M} {n : Nat} (hn : n ≤ 5) (e : mI m 65 30 = nI n) : ∀ (r i f : Nat) (a : Int32), i + r = n → r < f → F_X13_count_c135 f a (nI i) m = some (sumD (mI m 82) r i a, m) := by
  intro r
  induction r with
  | zero =>
    intro i f a hi hf
    obtain ⟨f, rfl⟩ : ∃ k, f = k + 1 := ⟨f - 1, by omega⟩
    have c1 : nI n ≤ nI i := nI_le (by omega) (by omega)
    simp only [F_X13_count_c135, tM, e, c1, ↓reduceIte, sumD]
  | succ r ih =>
    intro i f a hi hf
    obtain ⟨f, rfl⟩ : ∃ k, f = k + 1 := ⟨f - 1, by omega⟩
    have c1 : ¬ nI n ≤ nI i := nI_ge (by omega) (by omega)
    have ii := ix_nI (show i < 5 by omega) (by decide)
    have ki := nI_clamp (show i < 2 ^ 31 by omega)
    have li : i < 5 := by omega
    have ai : nI i + 1 = nI (i + 1) := nI_add i 1
    have r1 := ih (i + 1) f (a + mI m 82 i) (by omega) (by omega)
    simp only [F_X13_count_c135, p_ok, tM, aM, e, c1, ii, ki, li, ai, and_self, true_and, not_false_eq_true, ↓reduceIte, sumD]
    exact r1
def wsh (g : Nat → Int32) : Nat → Nat → Int32 → Int32
  | 0, _, a => a
  | r + 1, i, a => wsh g r (i + 1) (if g i = 3 then a + 1 else a)
theorem c_wsh {μ : p_M} {N E : Nat} {lr : Nat → Nat} (hS : Sh μ) (hLs : LstR μ N E lr) (hL : ∀ j, j < N → (mK μ (lr j) = 5 ∧ lr j < mN μ) ∧ mI μ (lr j) 9 = mI μ 96 j) : ∀ (r i f : Nat) (a : Int32), i + r = N → r < f → F_X12_countWashed_c4 f 0 a (nI i) μ = some (wsh (mI μ 96) r i a, μ) := by
  obtain ⟨l1, l2, l3, l4, -, -⟩ := hLs
  have o37 : 37 < mN μ ∧ mK μ 37 = 0 := ⟨(s_o37 hS).2, (s_o37 hS).1⟩
  intro r
  induction r with
  | zero =>
    intro i f a hi hf
    obtain ⟨f, rfl⟩ : ∃ k, f = k + 1 := ⟨f - 1, by omega⟩
    have c1 : nI N ≤ nI i := nI_le (by omega) (by omega)
    simp only [F_X12_countWashed_c4, bd_some, p_ok, s_o0 hS, s_r0_0 hS, s_r0_1 hS, s_r0_10 hS, s_r0_11 hS, s_r0_12 hS, s_r0_14 hS, s_r0_16 hS, s_r0_19 hS, s_r0_7 hS, s_r0_8 hS, s_r0_9 hS, o37, l1, c1, and_self, ↓reduceIte, wsh]
  | succ r ih =>
    intro i f a hi hf
    obtain ⟨f, rfl⟩ : ∃ k, f = k + 1 := ⟨f - 1, by omega⟩
    have c1 : ¬ nI N ≤ nI i := nI_ge (by omega) (by omega)
    have ni : ¬ nI i < 0 := nI_pos (by omega)
    have liN : nI i < nI N := nI_lt (by omega) (by omega)
    have ki := nI_clamp (show i < 2 ^ 31 by omega)
    have ai : nI i + 1 = nI (i + 1) := nI_add i 1
    obtain ⟨o5, e9⟩ := hL i (by omega)
    rcases l4 with ⟨q, -⟩ | ⟨q1, q2, q3, q4, q5, q6, -, q8⟩
    · omega
    have q9 := q8 i (by omega)
    have liE : i < mL μ E := by omega
    unfold wsh
    by_cases c : mI μ 96 i = 3
    · rw [if_pos c]
      have r1 := ih (i + 1) f (a + 1) (by omega) (by omega)
      simp only [F_X12_countWashed_c4, F_X12_countWashed_c36, bd_some, p_ok, s_o0 hS, s_r0_0 hS, s_r0_1 hS, s_r0_10 hS, s_r0_11 hS, s_r0_12 hS, s_r0_14 hS, s_r0_16 hS, s_r0_19 hS, s_r0_7 hS, s_r0_8 hS, s_r0_9 hS, o37, l1, c1, ni, liN, q2, q4, q5, ki, liE, q9, o5, e9, c, ai, and_self, true_and, not_true_eq_false, not_false_eq_true, ↓reduceIte]
      exact r1
    · rw [if_neg c]
      have r1 := ih (i + 1) f a (by omega) (by omega)
      simp only [F_X12_countWashed_c4, F_X12_countWashed_c36, bd_some, p_ok, s_o0 hS, s_r0_0 hS, s_r0_1 hS, s_r0_10 hS, s_r0_11 hS, s_r0_12 hS, s_r0_14 hS, s_r0_16 hS, s_r0_19 hS, s_r0_7 hS, s_r0_8 hS, s_r0_9 hS, o37, l1, c1, ni, liN, q2, q4, q5, ki, liE, q9, o5, e9, c, ai, and_self, true_and, not_false_eq_true, ↓reduceIte]
      exact r1
theorem m_wsh {m : p_M} {N : Nat} (hN : N ≤ 40) (e : mI m 65 62 = nI N) : ∀ (r i f : Nat) (a : Int32), i + r = N → r < f → F_X13_count_c192 f a (nI i) m = some (wsh (mI m 96) r i a, m) := by
  intro r
  induction r with
  | zero =>
    intro i f a hi hf
    obtain ⟨f, rfl⟩ : ∃ k, f = k + 1 := ⟨f - 1, by omega⟩
    have c1 : nI N ≤ nI i := nI_le (by omega) (by omega)
    simp only [F_X13_count_c192, tM, e, c1, ↓reduceIte, wsh]
  | succ r ih =>
    intro i f a hi hf
    obtain ⟨f, rfl⟩ : ∃ k, f = k + 1 := ⟨f - 1, by omega⟩
    have c1 : ¬ nI N ≤ nI i := nI_ge (by omega) (by omega)
    have ii := ix_nI (show i < 40 by omega) (by decide)
    have ki := nI_clamp (show i < 2 ^ 31 by omega)
    have li : i < 40 := by omega
    have ai : nI i + 1 = nI (i + 1) := nI_add i 1
    have a0 : a + 0 = a := Int32.add_zero a
    unfold wsh
    by_cases c : mI m 96 i = 3
    · rw [if_pos c]
      have r1 := ih (i + 1) f (a + 1) (by omega) (by omega)
      simp only [F_X13_count_c192, F_X13_count_c216, p_ok, tM, aM, e, c1, ii, ki, li, c, ai, and_self, true_and, not_true_eq_false, not_false_eq_true, ↓reduceIte]
      exact r1
    · rw [if_neg c]
      have r1 := ih (i + 1) f a (by omega) (by omega)
      simp only [F_X13_count_c192, F_X13_count_c216, p_ok, tM, aM, e, c1, ii, ki, li, c, ai, a0, and_self, true_and, not_false_eq_true, ↓reduceIte]
      exact r1
theorem i19 {b : Nat} (h : b ≤ 18) : b = 0 ∨ b = 1 ∨ b = 2 ∨ b = 3 ∨ b = 4 ∨ b = 5 ∨ b = 6 ∨ b = 7 ∨ b = 8 ∨ b = 9 ∨ b = 10 ∨ b = 11 ∨ b = 12 ∨ b = 13 ∨ b = 14 ∨ b = 15 ∨ b = 16 ∨ b = 17 ∨ b = 18 := by omega
theorem cnt_post {μ : p_M} {a b : Int32} (e : a = b) : a = b ∧ Cn μ (sI μ 65 0 0) ∧ Fr [] [0] μ (sI μ 65 0 0) := ⟨e, Cn_eq rfl rfl, Fr_s65 (Fr_refl μ) (by decide)⟩
theorem A_count {μ : p_M} (hS : Sh μ) (hRC : RCloth μ) (hRR : RRec μ) (hRK : RKinds μ) (hRW : RWater μ) (hRG : RGarm μ) (hRM : RMisc μ) (hRL : RLots μ) (hRH : RHouse μ) (v : Int32) : wp (F_X12_count 0 v μ) fun a μ1 => wp (F_X13_count v μ1) fun b μ2 => a = b ∧ Cn μ μ2 ∧ Fr [] [0] μ μ2 := by
  by_cases cw : 0 ≤ v ∧ v ≤ 18
  · obtain ⟨w, -, hw, rfl⟩ := rg3 v 0 18 0 18 rfl rfl (by decide) (by decide) cw
    obtain ⟨nC, hnC, c1, c2, -⟩ := hRC
    obtain ⟨R, B, A, nR, hnR, rR, hrec, hRC', e68, -⟩ := rec_get hS hRR
    obtain ⟨-, -, nK, -, k1, k2, -⟩ := hRK
    obtain ⟨nW, hnW, w1, w2, -, -, w5, w6, w7, w8, w9, -⟩ := hRW
    obtain ⟨nG, -, g1, g2, -⟩ := hRG
    obtain ⟨⟨d, -, t1, t2⟩, t3, t4⟩ := hRM
    obtain ⟨N, K, M, C, E, lr, hLs, -, ⟨m1, m2, -⟩, hLot, -, -, -, ⟨-, z1, z2, z3, -⟩, -⟩ := hRL
    have o37 : 37 < mN μ ∧ mK μ 37 = 0 := ⟨(s_o37 hS).2, (s_o37 hS).1⟩
    have hH : ∃ r, mR μ 0 5 = some r ∧ (mK μ r = 2 ∧ r < mN μ) ∧ mI μ r 1 = mI μ 65 41 := by
      rcases hRH with ⟨h1, -, -, -, n, -, h2, h3⟩ | ⟨h1, -, -, -, n, -, h2, h3⟩
      · exact ⟨10, h1, s_o10 hS, h2.trans h3.symm⟩
      · exact ⟨12, h1, s_o12 hS, h2.trans h3.symm⟩
    obtain ⟨r, h5, hk, h41⟩ := hH
    have qd := c_dirt hS hnW w1 nW 0 p_fu 0 (by omega) (show nW < 100000 by omega)
    have qd : F_X11_dirtInTanks 30 μ = some (sumD (mI μ 33) nW 0 0, μ) := qd
    have md := m_dirt (m := sI μ 65 0 0) hnW (by rw [mI_sI, if_pos rfl, z_up, if_neg (by decide)]; exact w2) nW 0 p_fu 0 (by omega) (show nW < 100000 by omega)
    have md : F_X13_count_c135 p_fu 0 0 (sI μ 65 0 0) = some (sumD (mI μ 82) nW 0 0, sI μ 65 0 0) := md
    have qw := c_wsh hS hLs (fun j hj => by obtain ⟨P, nb, S, V, -⟩ := hLot j hj; exact ⟨S.2.1, V.2.2.2.2.2.2.2.1⟩) N 0 p_fu 0 (by omega) (show N < 100000 by have := hLs.2.2.1; omega)
    have qw : F_X12_countWashed 0 μ = some (wsh (mI μ 96) N 0 0, μ) := qw
    have mw := m_wsh (m := sI μ 65 0 0) hLs.2.2.1 (by rw [mI_sI, if_pos rfl, z_up, if_neg (by decide)]; exact hLs.2.1) N 0 p_fu 0 (by omega) (show N < 100000 by have := hLs.2.2.1; omega)
    have mw : F_X13_count_c192 p_fu 0 0 (sI μ 65 0 0) = some (wsh (mI μ 96) N 0 0, sI μ 65 0 0) := mw
    have k40 : Int32.toNatClampNeg 40 = 40 := by decide
    have n40 : ¬ (40 : Int32) < 0 := by decide
    have l40 : 40 < 42 := by decide
    have lsz := hLs.1
    have lsm := hLs.2.1
    rcases i19 hw with rfl | rfl | rfl | rfl | rfl | rfl | rfl | rfl | rfl | rfl | rfl | rfl | rfl | rfl | rfl | rfl | rfl | rfl | rfl
    · have sw : ¬ (Int32.toInt (nI 0) < 0 ∨ 18 < Int32.toInt (nI 0)) := by decide
      simp only [bd_some, p_let_eq, p_ok, mI_sI, mR_sI, mK_sI, mN_sI, mL_sI, mI_sG, mR_sG, mK_sG, mN_sG, mL_sG, mI_sJ, mR_sJ, mK_sJ, mN_sJ, mL_sJ, z_up, ↓reduceIte, and_self, true_and, and_true, false_and, and_false, not_true_eq_false, not_false_eq_true, Nat.reduceEqDiff, i_10, i_20, i_30, w_in, w_need1, w_need0, m_in, m_thr0, m_thr1, tM, aM, nI_1, nI_pred, reduceIte, wp_some, eq_self, bI_T, bI_F, F_X12_count, F_X13_count, sw, s_o0 hS, s_r0_0 hS, s_r0_1 hS, s_r0_10 hS, s_r0_11 hS, s_r0_12 hS, s_r0_14 hS, s_r0_16 hS, s_r0_19 hS, s_r0_7 hS, s_r0_8 hS, s_r0_9 hS, show (nI 0 = (0 : Int32)) = True from eq_true rfl]
      exact cnt_post (c1.trans c2.symm)
    · have sw : ¬ (Int32.toInt (nI 1) < 0 ∨ 18 < Int32.toInt (nI 1)) := by decide
      simp only [bd_some, p_let_eq, p_ok, mI_sI, mR_sI, mK_sI, mN_sI, mL_sI, mI_sG, mR_sG, mK_sG, mN_sG, mL_sG, mI_sJ, mR_sJ, mK_sJ, mN_sJ, mL_sJ, z_up, ↓reduceIte, and_self, true_and, and_true, false_and, and_false, not_true_eq_false, not_false_eq_true, Nat.reduceEqDiff, i_10, i_20, i_30, w_in, w_need1, w_need0, m_in, m_thr0, m_thr1, tM, aM, nI_1, nI_pred, reduceIte, wp_some, eq_self, bI_T, bI_F, F_X12_count, F_X13_count, sw, s_o0 hS, s_r0_0 hS, s_r0_1 hS, s_r0_10 hS, s_r0_11 hS, s_r0_12 hS, s_r0_14 hS, s_r0_16 hS, s_r0_19 hS, s_r0_7 hS, s_r0_8 hS, s_r0_9 hS, show (nI 1 = (0 : Int32)) = False from eq_false (by decide), show (nI 1 = (1 : Int32)) = True from eq_true rfl, rR, hrec.1, k40, n40, l40]
      exact cnt_post (hRC'.1.trans e68.symm)
    · have sw : ¬ (Int32.toInt (nI 2) < 0 ∨ 18 < Int32.toInt (nI 2)) := by decide
      simp only [bd_some, p_let_eq, p_ok, mI_sI, mR_sI, mK_sI, mN_sI, mL_sI, mI_sG, mR_sG, mK_sG, mN_sG, mL_sG, mI_sJ, mR_sJ, mK_sJ, mN_sJ, mL_sJ, z_up, ↓reduceIte, and_self, true_and, and_true, false_and, and_false, not_true_eq_false, not_false_eq_true, Nat.reduceEqDiff, i_10, i_20, i_30, w_in, w_need1, w_need0, m_in, m_thr0, m_thr1, tM, aM, nI_1, nI_pred, reduceIte, wp_some, eq_self, bI_T, bI_F, F_X12_count, F_X13_count, sw, s_o0 hS, s_r0_0 hS, s_r0_1 hS, s_r0_10 hS, s_r0_11 hS, s_r0_12 hS, s_r0_14 hS, s_r0_16 hS, s_r0_19 hS, s_r0_7 hS, s_r0_8 hS, s_r0_9 hS, show (nI 2 = (0 : Int32)) = False from eq_false (by decide), show (nI 2 = (1 : Int32)) = False from eq_false (by decide), show (nI 2 = (2 : Int32)) = True from eq_true rfl, s_o26 hS, s_r26_0 hS, s_r26_1 hS, s_r26_3 hS]
      exact cnt_post (k1.trans k2.symm)
    · have sw : ¬ (Int32.toInt (nI 3) < 0 ∨ 18 < Int32.toInt (nI 3)) := by decide
      simp only [bd_some, p_let_eq, p_ok, mI_sI, mR_sI, mK_sI, mN_sI, mL_sI, mI_sG, mR_sG, mK_sG, mN_sG, mL_sG, mI_sJ, mR_sJ, mK_sJ, mN_sJ, mL_sJ, z_up, ↓reduceIte, and_self, true_and, and_true, false_and, and_false, not_true_eq_false, not_false_eq_true, Nat.reduceEqDiff, i_10, i_20, i_30, w_in, w_need1, w_need0, m_in, m_thr0, m_thr1, tM, aM, nI_1, nI_pred, reduceIte, wp_some, eq_self, bI_T, bI_F, F_X12_count, F_X13_count, sw, s_o0 hS, s_r0_0 hS, s_r0_1 hS, s_r0_10 hS, s_r0_11 hS, s_r0_12 hS, s_r0_14 hS, s_r0_16 hS, s_r0_19 hS, s_r0_7 hS, s_r0_8 hS, s_r0_9 hS, show (nI 3 = (0 : Int32)) = False from eq_false (by decide), show (nI 3 = (1 : Int32)) = False from eq_false (by decide), show (nI 3 = (2 : Int32)) = False from eq_false (by decide), show (nI 3 = (3 : Int32)) = True from eq_true rfl, s_o30 hS, s_r30_0 hS, s_r30_1 hS, s_r30_2 hS]
      exact cnt_post (w1.trans w2.symm)
    · have sw : ¬ (Int32.toInt (nI 4) < 0 ∨ 18 < Int32.toInt (nI 4)) := by decide
      simp only [bd_some, p_let_eq, p_ok, mI_sI, mR_sI, mK_sI, mN_sI, mL_sI, mI_sG, mR_sG, mK_sG, mN_sG, mL_sG, mI_sJ, mR_sJ, mK_sJ, mN_sJ, mL_sJ, z_up, ↓reduceIte, and_self, true_and, and_true, false_and, and_false, not_true_eq_false, not_false_eq_true, Nat.reduceEqDiff, i_10, i_20, i_30, w_in, w_need1, w_need0, m_in, m_thr0, m_thr1, tM, aM, nI_1, nI_pred, reduceIte, wp_some, eq_self, bI_T, bI_F, F_X12_count, F_X13_count, sw, s_o0 hS, s_r0_0 hS, s_r0_1 hS, s_r0_10 hS, s_r0_11 hS, s_r0_12 hS, s_r0_14 hS, s_r0_16 hS, s_r0_19 hS, s_r0_7 hS, s_r0_8 hS, s_r0_9 hS, show (nI 4 = (0 : Int32)) = False from eq_false (by decide), show (nI 4 = (1 : Int32)) = False from eq_false (by decide), show (nI 4 = (2 : Int32)) = False from eq_false (by decide), show (nI 4 = (3 : Int32)) = False from eq_false (by decide), show (nI 4 = (4 : Int32)) = True from eq_true rfl, s_o30 hS, s_r30_0 hS, s_r30_1 hS, s_r30_2 hS]
      exact cnt_post (w6)
    · have sw : ¬ (Int32.toInt (nI 5) < 0 ∨ 18 < Int32.toInt (nI 5)) := by decide
      simp only [bd_some, p_let_eq, p_ok, mI_sI, mR_sI, mK_sI, mN_sI, mL_sI, mI_sG, mR_sG, mK_sG, mN_sG, mL_sG, mI_sJ, mR_sJ, mK_sJ, mN_sJ, mL_sJ, z_up, ↓reduceIte, and_self, true_and, and_true, false_and, and_false, not_true_eq_false, not_false_eq_true, Nat.reduceEqDiff, i_10, i_20, i_30, w_in, w_need1, w_need0, m_in, m_thr0, m_thr1, tM, aM, nI_1, nI_pred, reduceIte, wp_some, eq_self, bI_T, bI_F, F_X12_count, F_X13_count, sw, s_o0 hS, s_r0_0 hS, s_r0_1 hS, s_r0_10 hS, s_r0_11 hS, s_r0_12 hS, s_r0_14 hS, s_r0_16 hS, s_r0_19 hS, s_r0_7 hS, s_r0_8 hS, s_r0_9 hS, show (nI 5 = (0 : Int32)) = False from eq_false (by decide), show (nI 5 = (1 : Int32)) = False from eq_false (by decide), show (nI 5 = (2 : Int32)) = False from eq_false (by decide), show (nI 5 = (3 : Int32)) = False from eq_false (by decide), show (nI 5 = (4 : Int32)) = False from eq_false (by decide), show (nI 5 = (5 : Int32)) = True from eq_true rfl, s_o30 hS, s_r30_0 hS, s_r30_1 hS, s_r30_2 hS]
      exact cnt_post (w7)
    · have sw : ¬ (Int32.toInt (nI 6) < 0 ∨ 18 < Int32.toInt (nI 6)) := by decide
      simp only [bd_some, p_let_eq, p_ok, mI_sI, mR_sI, mK_sI, mN_sI, mL_sI, mI_sG, mR_sG, mK_sG, mN_sG, mL_sG, mI_sJ, mR_sJ, mK_sJ, mN_sJ, mL_sJ, z_up, ↓reduceIte, and_self, true_and, and_true, false_and, and_false, not_true_eq_false, not_false_eq_true, Nat.reduceEqDiff, i_10, i_20, i_30, w_in, w_need1, w_need0, m_in, m_thr0, m_thr1, tM, aM, nI_1, nI_pred, reduceIte, wp_some, eq_self, bI_T, bI_F, F_X12_count, F_X13_count, sw, s_o0 hS, s_r0_0 hS, s_r0_1 hS, s_r0_10 hS, s_r0_11 hS, s_r0_12 hS, s_r0_14 hS, s_r0_16 hS, s_r0_19 hS, s_r0_7 hS, s_r0_8 hS, s_r0_9 hS, show (nI 6 = (0 : Int32)) = False from eq_false (by decide), show (nI 6 = (1 : Int32)) = False from eq_false (by decide), show (nI 6 = (2 : Int32)) = False from eq_false (by decide), show (nI 6 = (3 : Int32)) = False from eq_false (by decide), show (nI 6 = (4 : Int32)) = False from eq_false (by decide), show (nI 6 = (5 : Int32)) = False from eq_false (by decide), show (nI 6 = (6 : Int32)) = True from eq_true rfl, s_o30 hS, s_r30_0 hS, s_r30_1 hS, s_r30_2 hS, qd, md]
      exact cnt_post (by rw [w5])
    · have sw : ¬ (Int32.toInt (nI 7) < 0 ∨ 18 < Int32.toInt (nI 7)) := by decide
      simp only [bd_some, p_let_eq, p_ok, mI_sI, mR_sI, mK_sI, mN_sI, mL_sI, mI_sG, mR_sG, mK_sG, mN_sG, mL_sG, mI_sJ, mR_sJ, mK_sJ, mN_sJ, mL_sJ, z_up, ↓reduceIte, and_self, true_and, and_true, false_and, and_false, not_true_eq_false, not_false_eq_true, Nat.reduceEqDiff, i_10, i_20, i_30, w_in, w_need1, w_need0, m_in, m_thr0, m_thr1, tM, aM, nI_1, nI_pred, reduceIte, wp_some, eq_self, bI_T, bI_F, F_X12_count, F_X13_count, sw, s_o0 hS, s_r0_0 hS, s_r0_1 hS, s_r0_10 hS, s_r0_11 hS, s_r0_12 hS, s_r0_14 hS, s_r0_16 hS, s_r0_19 hS, s_r0_7 hS, s_r0_8 hS, s_r0_9 hS, show (nI 7 = (0 : Int32)) = False from eq_false (by decide), show (nI 7 = (1 : Int32)) = False from eq_false (by decide), show (nI 7 = (2 : Int32)) = False from eq_false (by decide), show (nI 7 = (3 : Int32)) = False from eq_false (by decide), show (nI 7 = (4 : Int32)) = False from eq_false (by decide), show (nI 7 = (5 : Int32)) = False from eq_false (by decide), show (nI 7 = (6 : Int32)) = False from eq_false (by decide), show (nI 7 = (7 : Int32)) = True from eq_true rfl, s_o30 hS, s_r30_0 hS, s_r30_1 hS, s_r30_2 hS]
      exact cnt_post (w8)
    · have sw : ¬ (Int32.toInt (nI 8) < 0 ∨ 18 < Int32.toInt (nI 8)) := by decide
      simp only [bd_some, p_let_eq, p_ok, mI_sI, mR_sI, mK_sI, mN_sI, mL_sI, mI_sG, mR_sG, mK_sG, mN_sG, mL_sG, mI_sJ, mR_sJ, mK_sJ, mN_sJ, mL_sJ, z_up, ↓reduceIte, and_self, true_and, and_true, false_and, and_false, not_true_eq_false, not_false_eq_true, Nat.reduceEqDiff, i_10, i_20, i_30, w_in, w_need1, w_need0, m_in, m_thr0, m_thr1, tM, aM, nI_1, nI_pred, reduceIte, wp_some, eq_self, bI_T, bI_F, F_X12_count, F_X13_count, sw, s_o0 hS, s_r0_0 hS, s_r0_1 hS, s_r0_10 hS, s_r0_11 hS, s_r0_12 hS, s_r0_14 hS, s_r0_16 hS, s_r0_19 hS, s_r0_7 hS, s_r0_8 hS, s_r0_9 hS, show (nI 8 = (0 : Int32)) = False from eq_false (by decide), show (nI 8 = (1 : Int32)) = False from eq_false (by decide), show (nI 8 = (2 : Int32)) = False from eq_false (by decide), show (nI 8 = (3 : Int32)) = False from eq_false (by decide), show (nI 8 = (4 : Int32)) = False from eq_false (by decide), show (nI 8 = (5 : Int32)) = False from eq_false (by decide), show (nI 8 = (6 : Int32)) = False from eq_false (by decide), show (nI 8 = (7 : Int32)) = False from eq_false (by decide), show (nI 8 = (8 : Int32)) = True from eq_true rfl, s_o30 hS, s_r30_0 hS, s_r30_1 hS, s_r30_2 hS]
      exact cnt_post (w9)
    · have sw : ¬ (Int32.toInt (nI 9) < 0 ∨ 18 < Int32.toInt (nI 9)) := by decide
      simp only [bd_some, p_let_eq, p_ok, mI_sI, mR_sI, mK_sI, mN_sI, mL_sI, mI_sG, mR_sG, mK_sG, mN_sG, mL_sG, mI_sJ, mR_sJ, mK_sJ, mN_sJ, mL_sJ, z_up, ↓reduceIte, and_self, true_and, and_true, false_and, and_false, not_true_eq_false, not_false_eq_true, Nat.reduceEqDiff, i_10, i_20, i_30, w_in, w_need1, w_need0, m_in, m_thr0, m_thr1, tM, aM, nI_1, nI_pred, reduceIte, wp_some, eq_self, bI_T, bI_F, F_X12_count, F_X13_count, sw, s_o0 hS, s_r0_0 hS, s_r0_1 hS, s_r0_10 hS, s_r0_11 hS, s_r0_12 hS, s_r0_14 hS, s_r0_16 hS, s_r0_19 hS, s_r0_7 hS, s_r0_8 hS, s_r0_9 hS, show (nI 9 = (0 : Int32)) = False from eq_false (by decide), show (nI 9 = (1 : Int32)) = False from eq_false (by decide), show (nI 9 = (2 : Int32)) = False from eq_false (by decide), show (nI 9 = (3 : Int32)) = False from eq_false (by decide), show (nI 9 = (4 : Int32)) = False from eq_false (by decide), show (nI 9 = (5 : Int32)) = False from eq_false (by decide), show (nI 9 = (6 : Int32)) = False from eq_false (by decide), show (nI 9 = (7 : Int32)) = False from eq_false (by decide), show (nI 9 = (8 : Int32)) = False from eq_false (by decide), show (nI 9 = (9 : Int32)) = True from eq_true rfl, s_o34 hS, s_r34_0 hS]
      exact cnt_post (g1.trans g2.symm)
    · have sw : ¬ (Int32.toInt (nI 10) < 0 ∨ 18 < Int32.toInt (nI 10)) := by decide
      simp only [bd_some, p_let_eq, p_ok, mI_sI, mR_sI, mK_sI, mN_sI, mL_sI, mI_sG, mR_sG, mK_sG, mN_sG, mL_sG, mI_sJ, mR_sJ, mK_sJ, mN_sJ, mL_sJ, z_up, ↓reduceIte, and_self, true_and, and_true, false_and, and_false, not_true_eq_false, not_false_eq_true, Nat.reduceEqDiff, i_10, i_20, i_30, w_in, w_need1, w_need0, m_in, m_thr0, m_thr1, tM, aM, nI_1, nI_pred, reduceIte, wp_some, eq_self, bI_T, bI_F, F_X12_count, F_X13_count, sw, s_o0 hS, s_r0_0 hS, s_r0_1 hS, s_r0_10 hS, s_r0_11 hS, s_r0_12 hS, s_r0_14 hS, s_r0_16 hS, s_r0_19 hS, s_r0_7 hS, s_r0_8 hS, s_r0_9 hS, show (nI 10 = (0 : Int32)) = False from eq_false (by decide), show (nI 10 = (1 : Int32)) = False from eq_false (by decide), show (nI 10 = (2 : Int32)) = False from eq_false (by decide), show (nI 10 = (3 : Int32)) = False from eq_false (by decide), show (nI 10 = (4 : Int32)) = False from eq_false (by decide), show (nI 10 = (5 : Int32)) = False from eq_false (by decide), show (nI 10 = (6 : Int32)) = False from eq_false (by decide), show (nI 10 = (7 : Int32)) = False from eq_false (by decide), show (nI 10 = (8 : Int32)) = False from eq_false (by decide), show (nI 10 = (9 : Int32)) = False from eq_false (by decide), show (nI 10 = (10 : Int32)) = True from eq_true rfl]
      exact cnt_post (t1.trans t2.symm)
    · have sw : ¬ (Int32.toInt (nI 11) < 0 ∨ 18 < Int32.toInt (nI 11)) := by decide
      simp only [bd_some, p_let_eq, p_ok, mI_sI, mR_sI, mK_sI, mN_sI, mL_sI, mI_sG, mR_sG, mK_sG, mN_sG, mL_sG, mI_sJ, mR_sJ, mK_sJ, mN_sJ, mL_sJ, z_up, ↓reduceIte, and_self, true_and, and_true, false_and, and_false, not_true_eq_false, not_false_eq_true, Nat.reduceEqDiff, i_10, i_20, i_30, w_in, w_need1, w_need0, m_in, m_thr0, m_thr1, tM, aM, nI_1, nI_pred, reduceIte, wp_some, eq_self, bI_T, bI_F, F_X12_count, F_X13_count, sw, s_o0 hS, s_r0_0 hS, s_r0_1 hS, s_r0_10 hS, s_r0_11 hS, s_r0_12 hS, s_r0_14 hS, s_r0_16 hS, s_r0_19 hS, s_r0_7 hS, s_r0_8 hS, s_r0_9 hS, show (nI 11 = (0 : Int32)) = False from eq_false (by decide), show (nI 11 = (1 : Int32)) = False from eq_false (by decide), show (nI 11 = (2 : Int32)) = False from eq_false (by decide), show (nI 11 = (3 : Int32)) = False from eq_false (by decide), show (nI 11 = (4 : Int32)) = False from eq_false (by decide), show (nI 11 = (5 : Int32)) = False from eq_false (by decide), show (nI 11 = (6 : Int32)) = False from eq_false (by decide), show (nI 11 = (7 : Int32)) = False from eq_false (by decide), show (nI 11 = (8 : Int32)) = False from eq_false (by decide), show (nI 11 = (9 : Int32)) = False from eq_false (by decide), show (nI 11 = (10 : Int32)) = False from eq_false (by decide), show (nI 11 = (11 : Int32)) = True from eq_true rfl]
      exact cnt_post (m1.trans m2.symm)
    · have sw : ¬ (Int32.toInt (nI 12) < 0 ∨ 18 < Int32.toInt (nI 12)) := by decide
      simp only [bd_some, p_let_eq, p_ok, mI_sI, mR_sI, mK_sI, mN_sI, mL_sI, mI_sG, mR_sG, mK_sG, mN_sG, mL_sG, mI_sJ, mR_sJ, mK_sJ, mN_sJ, mL_sJ, z_up, ↓reduceIte, and_self, true_and, and_true, false_and, and_false, not_true_eq_false, not_false_eq_true, Nat.reduceEqDiff, i_10, i_20, i_30, w_in, w_need1, w_need0, m_in, m_thr0, m_thr1, tM, aM, nI_1, nI_pred, reduceIte, wp_some, eq_self, bI_T, bI_F, F_X12_count, F_X13_count, sw, s_o0 hS, s_r0_0 hS, s_r0_1 hS, s_r0_10 hS, s_r0_11 hS, s_r0_12 hS, s_r0_14 hS, s_r0_16 hS, s_r0_19 hS, s_r0_7 hS, s_r0_8 hS, s_r0_9 hS, show (nI 12 = (0 : Int32)) = False from eq_false (by decide), show (nI 12 = (1 : Int32)) = False from eq_false (by decide), show (nI 12 = (2 : Int32)) = False from eq_false (by decide), show (nI 12 = (3 : Int32)) = False from eq_false (by decide), show (nI 12 = (4 : Int32)) = False from eq_false (by decide), show (nI 12 = (5 : Int32)) = False from eq_false (by decide), show (nI 12 = (6 : Int32)) = False from eq_false (by decide), show (nI 12 = (7 : Int32)) = False from eq_false (by decide), show (nI 12 = (8 : Int32)) = False from eq_false (by decide), show (nI 12 = (9 : Int32)) = False from eq_false (by decide), show (nI 12 = (10 : Int32)) = False from eq_false (by decide), show (nI 12 = (11 : Int32)) = False from eq_false (by decide), show (nI 12 = (12 : Int32)) = True from eq_true rfl, o37]
      exact cnt_post (lsz.trans lsm.symm)
    · have sw : ¬ (Int32.toInt (nI 13) < 0 ∨ 18 < Int32.toInt (nI 13)) := by decide
      simp only [bd_some, p_let_eq, p_ok, mI_sI, mR_sI, mK_sI, mN_sI, mL_sI, mI_sG, mR_sG, mK_sG, mN_sG, mL_sG, mI_sJ, mR_sJ, mK_sJ, mN_sJ, mL_sJ, z_up, ↓reduceIte, and_self, true_and, and_true, false_and, and_false, not_true_eq_false, not_false_eq_true, Nat.reduceEqDiff, i_10, i_20, i_30, w_in, w_need1, w_need0, m_in, m_thr0, m_thr1, tM, aM, nI_1, nI_pred, reduceIte, wp_some, eq_self, bI_T, bI_F, F_X12_count, F_X13_count, sw, s_o0 hS, s_r0_0 hS, s_r0_1 hS, s_r0_10 hS, s_r0_11 hS, s_r0_12 hS, s_r0_14 hS, s_r0_16 hS, s_r0_19 hS, s_r0_7 hS, s_r0_8 hS, s_r0_9 hS, show (nI 13 = (0 : Int32)) = False from eq_false (by decide), show (nI 13 = (1 : Int32)) = False from eq_false (by decide), show (nI 13 = (2 : Int32)) = False from eq_false (by decide), show (nI 13 = (3 : Int32)) = False from eq_false (by decide), show (nI 13 = (4 : Int32)) = False from eq_false (by decide), show (nI 13 = (5 : Int32)) = False from eq_false (by decide), show (nI 13 = (6 : Int32)) = False from eq_false (by decide), show (nI 13 = (7 : Int32)) = False from eq_false (by decide), show (nI 13 = (8 : Int32)) = False from eq_false (by decide), show (nI 13 = (9 : Int32)) = False from eq_false (by decide), show (nI 13 = (10 : Int32)) = False from eq_false (by decide), show (nI 13 = (11 : Int32)) = False from eq_false (by decide), show (nI 13 = (12 : Int32)) = False from eq_false (by decide), show (nI 13 = (13 : Int32)) = True from eq_true rfl, qw, mw]
      exact (cnt_post (a := 0) rfl).2
    · have sw : ¬ (Int32.toInt (nI 14) < 0 ∨ 18 < Int32.toInt (nI 14)) := by decide
      simp only [bd_some, p_let_eq, p_ok, mI_sI, mR_sI, mK_sI, mN_sI, mL_sI, mI_sG, mR_sG, mK_sG, mN_sG, mL_sG, mI_sJ, mR_sJ, mK_sJ, mN_sJ, mL_sJ, z_up, ↓reduceIte, and_self, true_and, and_true, false_and, and_false, not_true_eq_false, not_false_eq_true, Nat.reduceEqDiff, i_10, i_20, i_30, w_in, w_need1, w_need0, m_in, m_thr0, m_thr1, tM, aM, nI_1, nI_pred, reduceIte, wp_some, eq_self, bI_T, bI_F, F_X12_count, F_X13_count, sw, s_o0 hS, s_r0_0 hS, s_r0_1 hS, s_r0_10 hS, s_r0_11 hS, s_r0_12 hS, s_r0_14 hS, s_r0_16 hS, s_r0_19 hS, s_r0_7 hS, s_r0_8 hS, s_r0_9 hS, show (nI 14 = (0 : Int32)) = False from eq_false (by decide), show (nI 14 = (1 : Int32)) = False from eq_false (by decide), show (nI 14 = (2 : Int32)) = False from eq_false (by decide), show (nI 14 = (3 : Int32)) = False from eq_false (by decide), show (nI 14 = (4 : Int32)) = False from eq_false (by decide), show (nI 14 = (5 : Int32)) = False from eq_false (by decide), show (nI 14 = (6 : Int32)) = False from eq_false (by decide), show (nI 14 = (7 : Int32)) = False from eq_false (by decide), show (nI 14 = (8 : Int32)) = False from eq_false (by decide), show (nI 14 = (9 : Int32)) = False from eq_false (by decide), show (nI 14 = (10 : Int32)) = False from eq_false (by decide), show (nI 14 = (11 : Int32)) = False from eq_false (by decide), show (nI 14 = (12 : Int32)) = False from eq_false (by decide), show (nI 14 = (13 : Int32)) = False from eq_false (by decide), show (nI 14 = (14 : Int32)) = True from eq_true rfl, s_o38 hS, s_r38_0 hS, s_r38_1 hS, s_r38_2 hS, s_r38_5 hS, s_r38_6 hS, s_r38_7 hS, s_r38_8 hS]
      exact cnt_post (z1.trans z2.symm)
    · have sw : ¬ (Int32.toInt (nI 15) < 0 ∨ 18 < Int32.toInt (nI 15)) := by decide
      simp only [bd_some, p_let_eq, p_ok, mI_sI, mR_sI, mK_sI, mN_sI, mL_sI, mI_sG, mR_sG, mK_sG, mN_sG, mL_sG, mI_sJ, mR_sJ, mK_sJ, mN_sJ, mL_sJ, z_up, ↓reduceIte, and_self, true_and, and_true, false_and, and_false, not_true_eq_false, not_false_eq_true, Nat.reduceEqDiff, i_10, i_20, i_30, w_in, w_need1, w_need0, m_in, m_thr0, m_thr1, tM, aM, nI_1, nI_pred, reduceIte, wp_some, eq_self, bI_T, bI_F, F_X12_count, F_X13_count, sw, s_o0 hS, s_r0_0 hS, s_r0_1 hS, s_r0_10 hS, s_r0_11 hS, s_r0_12 hS, s_r0_14 hS, s_r0_16 hS, s_r0_19 hS, s_r0_7 hS, s_r0_8 hS, s_r0_9 hS, show (nI 15 = (0 : Int32)) = False from eq_false (by decide), show (nI 15 = (1 : Int32)) = False from eq_false (by decide), show (nI 15 = (2 : Int32)) = False from eq_false (by decide), show (nI 15 = (3 : Int32)) = False from eq_false (by decide), show (nI 15 = (4 : Int32)) = False from eq_false (by decide), show (nI 15 = (5 : Int32)) = False from eq_false (by decide), show (nI 15 = (6 : Int32)) = False from eq_false (by decide), show (nI 15 = (7 : Int32)) = False from eq_false (by decide), show (nI 15 = (8 : Int32)) = False from eq_false (by decide), show (nI 15 = (9 : Int32)) = False from eq_false (by decide), show (nI 15 = (10 : Int32)) = False from eq_false (by decide), show (nI 15 = (11 : Int32)) = False from eq_false (by decide), show (nI 15 = (12 : Int32)) = False from eq_false (by decide), show (nI 15 = (13 : Int32)) = False from eq_false (by decide), show (nI 15 = (14 : Int32)) = False from eq_false (by decide), show (nI 15 = (15 : Int32)) = True from eq_true rfl, s_o38 hS, s_r38_0 hS, s_r38_1 hS, s_r38_2 hS, s_r38_5 hS, s_r38_6 hS, s_r38_7 hS, s_r38_8 hS]
      exact cnt_post (z3)
    · have sw : ¬ (Int32.toInt (nI 16) < 0 ∨ 18 < Int32.toInt (nI 16)) := by decide
      simp only [bd_some, p_let_eq, p_ok, mI_sI, mR_sI, mK_sI, mN_sI, mL_sI, mI_sG, mR_sG, mK_sG, mN_sG, mL_sG, mI_sJ, mR_sJ, mK_sJ, mN_sJ, mL_sJ, z_up, ↓reduceIte, and_self, true_and, and_true, false_and, and_false, not_true_eq_false, not_false_eq_true, Nat.reduceEqDiff, i_10, i_20, i_30, w_in, w_need1, w_need0, m_in, m_thr0, m_thr1, tM, aM, nI_1, nI_pred, reduceIte, wp_some, eq_self, bI_T, bI_F, F_X12_count, F_X13_count, sw, s_o0 hS, s_r0_0 hS, s_r0_1 hS, s_r0_10 hS, s_r0_11 hS, s_r0_12 hS, s_r0_14 hS, s_r0_16 hS, s_r0_19 hS, s_r0_7 hS, s_r0_8 hS, s_r0_9 hS, show (nI 16 = (0 : Int32)) = False from eq_false (by decide), show (nI 16 = (1 : Int32)) = False from eq_false (by decide), show (nI 16 = (2 : Int32)) = False from eq_false (by decide), show (nI 16 = (3 : Int32)) = False from eq_false (by decide), show (nI 16 = (4 : Int32)) = False from eq_false (by decide), show (nI 16 = (5 : Int32)) = False from eq_false (by decide), show (nI 16 = (6 : Int32)) = False from eq_false (by decide), show (nI 16 = (7 : Int32)) = False from eq_false (by decide), show (nI 16 = (8 : Int32)) = False from eq_false (by decide), show (nI 16 = (9 : Int32)) = False from eq_false (by decide), show (nI 16 = (10 : Int32)) = False from eq_false (by decide), show (nI 16 = (11 : Int32)) = False from eq_false (by decide), show (nI 16 = (12 : Int32)) = False from eq_false (by decide), show (nI 16 = (13 : Int32)) = False from eq_false (by decide), show (nI 16 = (14 : Int32)) = False from eq_false (by decide), show (nI 16 = (15 : Int32)) = False from eq_false (by decide), show (nI 16 = (16 : Int32)) = True from eq_true rfl]
      exact cnt_post (t3)
    · have sw : ¬ (Int32.toInt (nI 17) < 0 ∨ 18 < Int32.toInt (nI 17)) := by decide
      simp only [bd_some, p_let_eq, p_ok, mI_sI, mR_sI, mK_sI, mN_sI, mL_sI, mI_sG, mR_sG, mK_sG, mN_sG, mL_sG, mI_sJ, mR_sJ, mK_sJ, mN_sJ, mL_sJ, z_up, ↓reduceIte, and_self, true_and, and_true, false_and, and_false, not_true_eq_false, not_false_eq_true, Nat.reduceEqDiff, i_10, i_20, i_30, w_in, w_need1, w_need0, m_in, m_thr0, m_thr1, tM, aM, nI_1, nI_pred, reduceIte, wp_some, eq_self, bI_T, bI_F, F_X12_count, F_X13_count, sw, s_o0 hS, s_r0_0 hS, s_r0_1 hS, s_r0_10 hS, s_r0_11 hS, s_r0_12 hS, s_r0_14 hS, s_r0_16 hS, s_r0_19 hS, s_r0_7 hS, s_r0_8 hS, s_r0_9 hS, show (nI 17 = (0 : Int32)) = False from eq_false (by decide), show (nI 17 = (1 : Int32)) = False from eq_false (by decide), show (nI 17 = (2 : Int32)) = False from eq_false (by decide), show (nI 17 = (3 : Int32)) = False from eq_false (by decide), show (nI 17 = (4 : Int32)) = False from eq_false (by decide), show (nI 17 = (5 : Int32)) = False from eq_false (by decide), show (nI 17 = (6 : Int32)) = False from eq_false (by decide), show (nI 17 = (7 : Int32)) = False from eq_false (by decide), show (nI 17 = (8 : Int32)) = False from eq_false (by decide), show (nI 17 = (9 : Int32)) = False from eq_false (by decide), show (nI 17 = (10 : Int32)) = False from eq_false (by decide), show (nI 17 = (11 : Int32)) = False from eq_false (by decide), show (nI 17 = (12 : Int32)) = False from eq_false (by decide), show (nI 17 = (13 : Int32)) = False from eq_false (by decide), show (nI 17 = (14 : Int32)) = False from eq_false (by decide), show (nI 17 = (15 : Int32)) = False from eq_false (by decide), show (nI 17 = (16 : Int32)) = False from eq_false (by decide), show (nI 17 = (17 : Int32)) = True from eq_true rfl]
      exact cnt_post (t4)
    · have sw : ¬ (Int32.toInt (nI 18) < 0 ∨ 18 < Int32.toInt (nI 18)) := by decide
      simp only [bd_some, p_let_eq, p_ok, mI_sI, mR_sI, mK_sI, mN_sI, mL_sI, mI_sG, mR_sG, mK_sG, mN_sG, mL_sG, mI_sJ, mR_sJ, mK_sJ, mN_sJ, mL_sJ, z_up, ↓reduceIte, and_self, true_and, and_true, false_and, and_false, not_true_eq_false, not_false_eq_true, Nat.reduceEqDiff, i_10, i_20, i_30, w_in, w_need1, w_need0, m_in, m_thr0, m_thr1, tM, aM, nI_1, nI_pred, reduceIte, wp_some, eq_self, bI_T, bI_F, F_X12_count, F_X13_count, sw, s_o0 hS, s_r0_0 hS, s_r0_1 hS, s_r0_10 hS, s_r0_11 hS, s_r0_12 hS, s_r0_14 hS, s_r0_16 hS, s_r0_19 hS, s_r0_7 hS, s_r0_8 hS, s_r0_9 hS, show (nI 18 = (0 : Int32)) = False from eq_false (by decide), show (nI 18 = (1 : Int32)) = False from eq_false (by decide), show (nI 18 = (2 : Int32)) = False from eq_false (by decide), show (nI 18 = (3 : Int32)) = False from eq_false (by decide), show (nI 18 = (4 : Int32)) = False from eq_false (by decide), show (nI 18 = (5 : Int32)) = False from eq_false (by decide), show (nI 18 = (6 : Int32)) = False from eq_false (by decide), show (nI 18 = (7 : Int32)) = False from eq_false (by decide), show (nI 18 = (8 : Int32)) = False from eq_false (by decide), show (nI 18 = (9 : Int32)) = False from eq_false (by decide), show (nI 18 = (10 : Int32)) = False from eq_false (by decide), show (nI 18 = (11 : Int32)) = False from eq_false (by decide), show (nI 18 = (12 : Int32)) = False from eq_false (by decide), show (nI 18 = (13 : Int32)) = False from eq_false (by decide), show (nI 18 = (14 : Int32)) = False from eq_false (by decide), show (nI 18 = (15 : Int32)) = False from eq_false (by decide), show (nI 18 = (16 : Int32)) = False from eq_false (by decide), show (nI 18 = (17 : Int32)) = False from eq_false (by decide), show (nI 18 = (18 : Int32)) = True from eq_true rfl, h5, hk]
      exact cnt_post (h41)
  · have sw := sw_out (v := v) (hi := 18) (by decide) cw
    have sw : v.toInt < 0 ∨ 18 < v.toInt := sw
    simp only [bd_some, p_let_eq, p_ok, mI_sI, mR_sI, mK_sI, mN_sI, mL_sI, mI_sG, mR_sG, mK_sG, mN_sG, mL_sG, mI_sJ, mR_sJ, mK_sJ, mN_sJ, mL_sJ, z_up, ↓reduceIte, and_self, true_and, and_true, false_and, and_false, not_true_eq_false, not_false_eq_true, Nat.reduceEqDiff, i_10, i_20, i_30, w_in, w_need1, w_need0, m_in, m_thr0, m_thr1, tM, aM, nI_1, nI_pred, reduceIte, wp_some, eq_self, bI_T, bI_F, F_X12_count, F_X13_count, sw]
    exact (cnt_post (a := 0) rfl).2
