/-! burn -/
/-- what the pattern gives at a place -/
def hp (μ : p_M) (w h x y j i : Nat) : Int32 := mI μ 110 (6 * (p_fm (nI j - nI y) (nI h)).toNatClampNeg + (p_fm (nI i - nI x) (nI w)).toNatClampNeg)
def bz (o q : Int32) : Int32 := if o + q < 99 then o + q else 99
theorem c_heatAt {μ ν : p_M} (hS : Sh ν) {w h x y j i : Nat} (w1 : 1 ≤ w) (w2 : w ≤ 6) (h1 : 1 ≤ h) (h2 : h ≤ 4) (e1 : mI ν 46 1 = nI w) (e3 : mI ν 46 2 = nI h) (e5 : mI ν 47 = mI μ 110) (hi : i < 12) (hj : j < 8) (hx : x < 6) (hy : y < 4) : F_X7_heatAt 46 (nI i - nI x) (nI j - nI y) ν = some (hp μ w h x y j i, ν) := by
  obtain ⟨s, hs, es⟩ := fm_nI hi hx (show w < 7 by omega) w1
  obtain ⟨t, ht, et⟩ := fm_nI (show j < 12 by omega) (show y < 6 by omega) (show h < 7 by omega) h1
  have n1 : ¬ nI w ≤ 0 := nI_nle (by omega) (by omega)
  have n2 : 0 < nI h := i_nle.mp (nI_nle (by omega) (by omega))
  have n3 : ¬ nI h = 0 := nI_ne0 (by omega) (by omega)
  have n4 : ¬ nI w = 0 := nI_ne0 (by omega) (by omega)
  have m1 : nI t * 6 + nI s = nI (6 * t + s) := mul2' 6 t s
  have i1 := ix_nI (show 6 * t + s < 24 by omega) (by decide)
  have k1 := nI_clamp (show 6 * t + s < 2 ^ 31 by omega)
  have l1 : 6 * t + s < 24 := by omega
  unfold hp
  rw [es, et, nI_clamp (by omega), nI_clamp (by omega)]
  simp only [bd_some, p_let_eq, p_ok, mI_sI, mR_sI, mK_sI, mN_sI, mL_sI, mI_sG, mR_sG, mK_sG, mN_sG, mL_sG, mI_sJ, mR_sJ, mK_sJ, mN_sJ, mL_sJ, z_up, ↓reduceIte, and_self, true_and, and_true, false_and, and_false, not_true_eq_false, not_false_eq_true, Nat.reduceEqDiff, i_10, i_20, i_30, w_in, w_need1, w_need0, m_in, m_thr0, m_thr1, tM, aM, nI_1, nI_pred, reduceIte, wp_some, eq_self, bI_T, bI_F, F_X7_heatAt, F_X7_heatAt_c14, s_o46 hS, s_r46_0 hS, s_r46_3 hS, s_a47 hS, s_l47 hS, s_o47 hS, e1, e3, e5, n1, n2, n3, n4, es, et, m1, i1, k1, l1]
theorem c_b1 {μ : p_M} (hS : Sh μ) {a w h x y j : Nat} (w1 : 1 ≤ w) (w2 : w ≤ 6) (h1 : 1 ≤ h) (h2 : h ≤ 4) (e1 : mI μ 46 1 = nI w) (e3 : mI μ 46 2 = nI h) (e5 : mI μ 47 = mI μ 110) (hj : j < 8) (hx : x < 6) (hy : y < 4) (ha : a < p_E ∧ mK μ a = 20 ∧ a < mN μ) (hL : mL μ a = 96) (n46 : ¬ 46 = a) (n47 : ¬ 47 = a) (K : Nat → Int32 → Int32 → Nat → Int32 → p_M → Option (Int32 × p_M)) : ∀ (r i n : Nat) (f : Nat → Int32), i + r = 12 → r < n → F_X7_burnOne_c21 K n 46 (nI x) (nI y) a (nI j) (nI i) (sA μ a f) = K 46 (nI x) (nI y) a (nI (j + 1)) (sA μ a (fun k => if 12 * j + i ≤ k ∧ k < 12 * j + 12 then bz (f k) (hp μ w h x y j (k - 12 * j)) else f k)) := by
  intro r
  induction r with
  | zero =>
    intro i n f g1 g2
    obtain ⟨n, rfl⟩ : ∃ k, n = k + 1 := ⟨n - 1, by omega⟩
    rw [F_X7_burnOne_c21, if_pos (show (12 : Int32) ≤ nI i from nI_le (a := 12) (by omega) (by omega)), nI_1]
    congr 2
    funext k
    rw [if_neg (by omega)]
  | succ r ih =>
    intro i n f g1 g2
    obtain ⟨n, rfl⟩ : ∃ k, n = k + 1 := ⟨n - 1, by omega⟩
    have hS2 : Sh (sA μ a f) := hS
    have q46 : mI (sA μ a f) 46 = mI μ 46 := by rw [mI_sA, if_neg n46]
    have q47 : mI (sA μ a f) 47 = mI μ 47 := by rw [mI_sA, if_neg n47]
    have hh := c_heatAt (μ := μ) hS2 (i := i) w1 w2 h1 h2 (by rw [q46]; exact e1) (by rw [q46]; exact e3) (by rw [q47]; exact e5) (by omega) hj hx hy
    have m1 : nI j * 12 + nI i = nI (12 * j + i) := mul2' 12 j i
    have i1 := ix_nI (show 12 * j + i < 96 by omega) (by decide)
    have k1 := nI_clamp (show 12 * j + i < 2 ^ 31 by omega)
    have l1 : 12 * j + i < 96 := by omega
    rw [F_X7_burnOne_c21, if_neg (show ¬ (12 : Int32) ≤ nI i from nI_ge (b := 12) (by omega) (by decide))]
    simp only [bd_some, p_let_eq, p_ok, mI_sI, mR_sI, mK_sI, mN_sI, mL_sI, mI_sG, mR_sG, mK_sG, mN_sG, mL_sG, mI_sJ, mR_sJ, mK_sJ, mN_sJ, mL_sJ, z_up, ↓reduceIte, and_self, true_and, and_true, false_and, and_false, not_true_eq_false, not_false_eq_true, Nat.reduceEqDiff, i_10, i_20, i_30, w_in, w_need1, w_need0, m_in, m_thr0, m_thr1, tM, aM, nI_1, nI_pred, reduceIte, wp_some, eq_self, bI_T, bI_F, mK_sA, mN_sA, mL_sA, mI_sA, ha, hL, s_o46 hS, m1, i1, k1, l1, hh, sI_sA]
    rw [ih (i + 1) n _ (by omega) (by omega)]
    congr 2
    funext k
    rw [z_up]
    by_cases c1 : 12 * j + (i + 1) ≤ k ∧ k < 12 * j + 12
    · rw [if_pos c1, if_neg (show ¬ k = 12 * j + i by omega), if_pos (show 12 * j + i ≤ k ∧ k < 12 * j + 12 by omega)]
    · rw [if_neg c1]
      by_cases c2 : k = 12 * j + i
      · rw [if_pos c2, if_pos (show 12 * j + i ≤ k ∧ k < 12 * j + 12 by omega), c2, Nat.add_sub_cancel_left]
        rfl
      · rw [if_neg c2, if_neg (show ¬ (12 * j + i ≤ k ∧ k < 12 * j + 12) by omega)]
theorem c_b2 {μ : p_M} (hS : Sh μ) {a w h x y : Nat} (w1 : 1 ≤ w) (w2 : w ≤ 6) (h1 : 1 ≤ h) (h2 : h ≤ 4) (e1 : mI μ 46 1 = nI w) (e3 : mI μ 46 2 = nI h) (e5 : mI μ 47 = mI μ 110) (hx : x < 6) (hy : y < 4) (ha : a < p_E ∧ mK μ a = 20 ∧ a < mN μ) (hL : mL μ a = 96) (n46 : ¬ 46 = a) (n47 : ¬ 47 = a) : ∀ (r j n : Nat) (f : Nat → Int32), j + r = 8 → r < n → F_X7_burnOne_c11 n 46 (nI x) (nI y) a (nI j) (sA μ a f) = some (0, sA μ a (fun k => if 12 * j ≤ k ∧ k < 96 then bz (f k) (hp μ w h x y (k / 12) (k % 12)) else f k)) := by
  intro r
  induction r with
  | zero =>
    intro j n f g1 g2
    obtain ⟨n, rfl⟩ : ∃ k, n = k + 1 := ⟨n - 1, by omega⟩
    rw [F_X7_burnOne_c11, if_pos (show (8 : Int32) ≤ nI j from nI_le (a := 8) (by omega) (by omega))]
    congr 3
    funext k
    rw [if_neg (by omega)]
  | succ r ih =>
    intro j n f g1 g2
    obtain ⟨n, rfl⟩ : ∃ k, n = k + 1 := ⟨n - 1, by omega⟩
    rw [F_X7_burnOne_c11, if_neg (show ¬ (8 : Int32) ≤ nI j from nI_ge (b := 8) (by omega) (by decide))]
    rw [show F_X7_burnOne_c21 (F_X7_burnOne_c11 n) p_fu 46 (nI x) (nI y) a (nI j) 0 (sA μ a f) = _ from c_b1 hS w1 w2 h1 h2 e1 e3 e5 (by omega) hx hy ha hL n46 n47 _ 12 0 p_fu f (by omega) (show 12 < 100000 by decide)]
    rw [ih (j + 1) n _ (by omega) (by omega)]
    congr 3
    funext k
    by_cases c1 : 12 * (j + 1) ≤ k ∧ k < 96
    · rw [if_pos c1, if_neg (show ¬ (12 * j + 0 ≤ k ∧ k < 12 * j + 12) by omega), if_pos (show 12 * j ≤ k ∧ k < 96 by omega)]
    · rw [if_neg c1]
      by_cases c2 : 12 * j + 0 ≤ k ∧ k < 12 * j + 12
      · rw [if_pos c2, if_pos (show 12 * j ≤ k ∧ k < 96 by omega), show k / 12 = j by omega, show k % 12 = k - 12 * j by omega]
      · rw [if_neg c2, if_neg (show ¬ (12 * j ≤ k ∧ k < 96) by omega)]
theorem m_b1 {μ : p_M} {p w h x y j : Nat} (w1 : 1 ≤ w) (w2 : w ≤ 6) (h1 : 1 ≤ h) (h2 : h ≤ 4) (e2 : mI μ 65 76 = nI w) (e4 : mI μ 65 77 = nI h) (hp' : p < 2) (hj : j < 8) (hx : x < 6) (hy : y < 4) (K : Int32 → Int32 → Int32 → Int32 → p_M → Option (Int32 × p_M)) : ∀ (r i n : Nat) (f : Nat → Int32), i + r = 12 → r < n → F_X13_burn_c72 K n (nI p) (nI x) (nI y) (nI j) (nI i) (sA μ 111 f) = K (nI p) (nI x) (nI y) (nI (j + 1)) (sA μ 111 (fun k => if 96 * p + 12 * j + i ≤ k ∧ k < 96 * p + 12 * j + 12 then bz (f k) (hp μ w h x y j (k - (96 * p + 12 * j))) else f k)) := by
  intro r
  induction r with
  | zero =>
    intro i n f g1 g2
    obtain ⟨n, rfl⟩ : ∃ k, n = k + 1 := ⟨n - 1, by omega⟩
    rw [F_X13_burn_c72, if_pos (show (12 : Int32) ≤ nI i from nI_le (a := 12) (by omega) (by omega)), nI_1]
    congr 2
    funext k
    rw [if_neg (by omega)]
  | succ r ih =>
    intro i n f g1 g2
    obtain ⟨n, rfl⟩ : ∃ k, n = k + 1 := ⟨n - 1, by omega⟩
    obtain ⟨s, hs, es⟩ := fm_nI (show i < 12 by omega) hx (show w < 7 by omega) w1
    obtain ⟨t, ht, et⟩ := fm_nI (show j < 12 by omega) (show y < 6 by omega) (show h < 7 by omega) h1
    have n3 : ¬ nI h = 0 := nI_ne0 (by omega) (by omega)
    have n4 : ¬ nI w = 0 := nI_ne0 (by omega) (by omega)
    have m0 : 6 * nI t + nI s = nI (6 * t + s) := mul2 6 t s
    have i0 := ix_nI (show 6 * t + s < 24 by omega) (by decide)
    have k0 := nI_clamp (show 6 * t + s < 2 ^ 31 by omega)
    have l0 : 6 * t + s < 24 := by omega
    have m1 : 12 * (8 * nI p + nI j) + nI i = nI (96 * p + 12 * j + i) := by
      show nI 12 * (nI 8 * nI p + nI j) + nI i = _
      rw [mul2, mul2]
      congr 1
      omega
    have i1 := ix_nI (show 96 * p + 12 * j + i < 192 by omega) (by decide)
    have k1 := nI_clamp (show 96 * p + 12 * j + i < 2 ^ 31 by omega)
    have l1 : 96 * p + 12 * j + i < 192 := by omega
    have hh : hp μ w h x y j i = mI μ 110 (6 * t + s) := by
      unfold hp
      rw [es, et, nI_clamp (by omega), nI_clamp (by omega)]
    rw [F_X13_burn_c72, if_neg (show ¬ (12 : Int32) ≤ nI i from nI_ge (b := 12) (by omega) (by decide))]
    simp only [bd_some, p_let_eq, p_ok, mI_sI, mR_sI, mK_sI, mN_sI, mL_sI, mI_sG, mR_sG, mK_sG, mN_sG, mL_sG, mI_sJ, mR_sJ, mK_sJ, mN_sJ, mL_sJ, z_up, ↓reduceIte, and_self, true_and, and_true, false_and, and_false, not_true_eq_false, not_false_eq_true, Nat.reduceEqDiff, i_10, i_20, i_30, w_in, w_need1, w_need0, m_in, m_thr0, m_thr1, tM, aM, nI_1, nI_pred, reduceIte, wp_some, eq_self, bI_T, bI_F, mI_sA, e2, e4, n3, n4, es, et, m0, i0, k0, l0, m1, i1, k1, l1, sI_sA]
    rw [ih (i + 1) n _ (by omega) (by omega)]
    congr 2
    funext k
    rw [z_up]
    by_cases c1 : 96 * p + 12 * j + (i + 1) ≤ k ∧ k < 96 * p + 12 * j + 12
    · rw [if_pos c1, if_neg (show ¬ k = 96 * p + 12 * j + i by omega), if_pos (show 96 * p + 12 * j + i ≤ k ∧ k < 96 * p + 12 * j + 12 by omega)]
    · rw [if_neg c1]
      by_cases c2 : k = 96 * p + 12 * j + i
      · rw [if_pos c2, if_pos (show 96 * p + 12 * j + i ≤ k ∧ k < 96 * p + 12 * j + 12 by omega), c2, Nat.add_sub_cancel_left, hh]
        rfl
      · rw [if_neg c2, if_neg (show ¬ (96 * p + 12 * j + i ≤ k ∧ k < 96 * p + 12 * j + 12) by omega)]
theorem m_b2 {μ : p_M} {p w h x y : Nat} (w1 : 1 ≤ w) (w2 : w ≤ 6) (h1 : 1 ≤ h) (h2 : h ≤ 4) (e2 : mI μ 65 76 = nI w) (e4 : mI μ 65 77 = nI h) (hp' : p < 2) (hx : x < 6) (hy : y < 4) : ∀ (r j n : Nat) (f : Nat → Int32), j + r = 8 → r < n → F_X13_burn_c62 n (nI p) (nI x) (nI y) (nI j) (sA μ 111 f) = some (0, sA μ 111 (fun k => if 96 * p + 12 * j ≤ k ∧ k < 96 * p + 96 then bz (f k) (hp μ w h x y ((k - 96 * p) / 12) ((k - 96 * p) % 12)) else f k)) := by
  intro r
  induction r with
  | zero =>
    intro j n f g1 g2
    obtain ⟨n, rfl⟩ : ∃ k, n = k + 1 := ⟨n - 1, by omega⟩
    rw [F_X13_burn_c62, if_pos (show (8 : Int32) ≤ nI j from nI_le (a := 8) (by omega) (by omega))]
    congr 3
    funext k
    rw [if_neg (by omega)]
  | succ r ih =>
    intro j n f g1 g2
    obtain ⟨n, rfl⟩ : ∃ k, n = k + 1 := ⟨n - 1, by omega⟩
    rw [F_X13_burn_c62, if_neg (show ¬ (8 : Int32) ≤ nI j from nI_ge (b := 8) (by omega) (by decide))]
    rw [show F_X13_burn_c72 (F_X13_burn_c62 n) p_fu (nI p) (nI x) (nI y) (nI j) 0 (sA μ 111 f) = _ from m_b1 w1 w2 h1 h2 e2 e4 hp' (by omega) hx hy _ 12 0 p_fu f (by omega) (show 12 < 100000 by decide)]
    rw [ih (j + 1) n _ (by omega) (by omega)]
    congr 3
    funext k
    by_cases c1 : 96 * p + 12 * (j + 1) ≤ k ∧ k < 96 * p + 96
    · rw [if_pos c1, if_neg (show ¬ (96 * p + 12 * j + 0 ≤ k ∧ k < 96 * p + 12 * j + 12) by omega), if_pos (show 96 * p + 12 * j ≤ k ∧ k < 96 * p + 96 by omega)]
    · rw [if_neg c1]
      by_cases c2 : 96 * p + 12 * j + 0 ≤ k ∧ k < 96 * p + 12 * j + 12
      · rw [if_pos c2, if_pos (show 96 * p + 12 * j ≤ k ∧ k < 96 * p + 96 by omega), show (k - 96 * p) / 12 = j by omega, show (k - 96 * p) % 12 = k - (96 * p + 12 * j) by omega]
      · rw [if_neg c2, if_neg (show ¬ (96 * p + 12 * j ≤ k ∧ k < 96 * p + 96) by omega)]
theorem c_burnOne {μ : p_M} (hS : Sh μ) (hR : RPan μ) {p x y a : Nat} (ha : (p = 0 ∧ a = 49) ∨ (p = 1 ∧ a = 50)) (hx : x < 6) (hy : y < 4) : ∃ w h : Nat, 1 ≤ w ∧ w ≤ 6 ∧ 1 ≤ h ∧ h ≤ 4 ∧ mI μ 65 76 = nI w ∧ mI μ 65 77 = nI h ∧ F_X7_burnOne 46 (nI p) (nI x) (nI y) μ = some (0, sA μ a (fun k => if k < 96 then bz (mI μ a k) (hp μ w h x y (k / 12) (k % 12)) else mI μ a k)) := by
  obtain ⟨⟨w, h, w1, w2, h1, h2, e1, e2, e3, e4⟩, e5, e6⟩ := hR
  refine ⟨w, h, w1, w2, h1, h2, e2, e4, ?_⟩
  have fin : ∀ f : Nat → Int32, ∀ g : Nat → Int32, (fun k => if 12 * 0 ≤ k ∧ k < 96 then g k else f k) = fun k => if k < 96 then g k else f k := fun f g => by
    funext k
    by_cases c : k < 96
    · rw [if_pos c, if_pos ⟨by omega, c⟩]
    · rw [if_neg c, if_neg (fun e => c e.2)]
  rcases ha with ⟨rfl, rfl⟩ | ⟨rfl, rfl⟩
  · have g := c_b2 hS w1 w2 h1 h2 e1 e3 e5 hx hy (s_a49 hS) (s_l49 hS) (by decide) (by decide) 8 0 p_fu (mI μ 49) (by omega) (show 8 < 100000 by decide)
    rw [sA_self, fin] at g
    simp only [bd_some, p_let_eq, p_ok, mI_sI, mR_sI, mK_sI, mN_sI, mL_sI, mI_sG, mR_sG, mK_sG, mN_sG, mL_sG, mI_sJ, mR_sJ, mK_sJ, mN_sJ, mL_sJ, z_up, ↓reduceIte, and_self, true_and, and_true, false_and, and_false, not_true_eq_false, not_false_eq_true, Nat.reduceEqDiff, i_10, i_20, i_30, w_in, w_need1, w_need0, m_in, m_thr0, m_thr1, tM, aM, nI_1, nI_pred, reduceIte, wp_some, eq_self, bI_T, bI_F, F_X7_burnOne, s_o46 hS, s_r46_0 hS, s_r46_3 hS, s_a48 hS, s_l48 hS, s_o48 hS, s_r48_0 hS, s_r48_1 hS, show (nI 0).toNatClampNeg = 0 from rfl, show (0 : Nat) < 2 from by decide, show ¬ nI 0 < 0 from by decide, Nat.le_refl, show 23 ≤ 26 from by decide]
    exact g
  · have g := c_b2 hS w1 w2 h1 h2 e1 e3 e5 hx hy (s_a50 hS) (s_l50 hS) (by decide) (by decide) 8 0 p_fu (mI μ 50) (by omega) (show 8 < 100000 by decide)
    rw [sA_self, fin] at g
    simp only [bd_some, p_let_eq, p_ok, mI_sI, mR_sI, mK_sI, mN_sI, mL_sI, mI_sG, mR_sG, mK_sG, mN_sG, mL_sG, mI_sJ, mR_sJ, mK_sJ, mN_sJ, mL_sJ, z_up, ↓reduceIte, and_self, true_and, and_true, false_and, and_false, not_true_eq_false, not_false_eq_true, Nat.reduceEqDiff, i_10, i_20, i_30, w_in, w_need1, w_need0, m_in, m_thr0, m_thr1, tM, aM, nI_1, nI_pred, reduceIte, wp_some, eq_self, bI_T, bI_F, F_X7_burnOne, s_o46 hS, s_r46_0 hS, s_r46_3 hS, s_a48 hS, s_l48 hS, s_o48 hS, s_r48_0 hS, s_r48_1 hS, show (nI 1).toNatClampNeg = 1 from rfl, show (1 : Nat) < 2 from by decide, show ¬ nI 1 < 0 from by decide, Nat.le_refl, show 23 ≤ 26 from by decide]
    exact g
theorem A_burn {μ : p_M} (hS : Sh μ) (hR : RPan μ) (p x y : Int32) : wp (F_L_burn 0 p x y μ) fun k μ1 => wp (F_X13_burn p x y μ1) fun _ μ2 => PostV k μ μ2 ∧ RPan μ2 ∧ Fr [49, 50, 111] [0] μ μ2 := by
  have hR0 := hR
  rcases ix3 p 2 1 2 (by decide) rfl rfl with ⟨c1, c2⟩ | ⟨q, hq, rfl, c1, c2, c3, c4⟩
  · simp only [bd_some, p_let_eq, p_ok, mI_sI, mR_sI, mK_sI, mN_sI, mL_sI, mI_sG, mR_sG, mK_sG, mN_sG, mL_sG, mI_sJ, mR_sJ, mK_sJ, mN_sJ, mL_sJ, z_up, ↓reduceIte, and_self, true_and, and_true, false_and, and_false, not_true_eq_false, not_false_eq_true, Nat.reduceEqDiff, i_10, i_20, i_30, w_in, w_need1, w_need0, m_in, m_thr0, m_thr1, tM, aM, nI_1, nI_pred, reduceIte, wp_some, eq_self, bI_T, bI_F, F_L_burn, F_X12_burn, F_X12_burn_c27, F_X12_burn_c28, F_X13_burn, F_X13_burn_c20, F_X13_burn_c46, F_X13_burn_c51, F_X13_burn_c58, w_ix, s_o0 hS, s_r0_0 hS, s_r0_1 hS, s_r0_10 hS, s_r0_11 hS, s_r0_12 hS, s_r0_14 hS, s_r0_16 hS, s_r0_19 hS, s_r0_7 hS, s_r0_8 hS, s_r0_9 hS, s_o112 hS, s_o46 hS, c1, c2]
    exact ⟨thr_postV, RPan_fr thr_fr (by decide) hR0, Fr_mono thr_fr (by decide) (by decide)⟩
  · by_cases d1 : 0 ≤ x ∧ x ≤ 5
    · by_cases d2 : 0 ≤ y ∧ y ≤ 3
      · obtain ⟨i, -, hi, rfl⟩ := rg3 x 0 5 0 5 rfl rfl (by decide) (by decide) d1
        obtain ⟨j, -, hj, rfl⟩ := rg3 y 0 3 0 3 rfl rfl (by decide) (by decide) d2
        have hq2 : (q = 0 ∧ 49 = 49) ∨ (q = 1 ∧ 50 = 50) := by omega
        rcases hq2 with ⟨rfl, -⟩ | ⟨rfl, -⟩
        · obtain ⟨w, h, w1, w2, h1, h2, e2, e4, g⟩ := c_burnOne hS hR (p := 0) (a := 49) (Or.inl ⟨rfl, rfl⟩) (show i < 6 by omega) (show j < 4 by omega)
          have gm : ∀ ν : p_M, mI ν 65 76 = nI w → mI ν 65 77 = nI h → F_X13_burn_c62 p_fu (nI 0) (nI i) (nI j) 0 ν = some (0, sA ν 111 (fun k => if 96 * 0 + 12 * 0 ≤ k ∧ k < 96 * 0 + 96 then bz (mI ν 111 k) (hp ν w h i j ((k - 96 * 0) / 12) ((k - 96 * 0) % 12)) else mI ν 111 k)) := fun ν q1 q2 => by
            have := m_b2 (p := 0) w1 w2 h1 h2 q1 q2 (by decide) (show i < 6 by omega) (show j < 4 by omega) 8 0 p_fu (mI ν 111) (by omega) (show 8 < 100000 by decide)
            rw [sA_self] at this
            exact this
          simp only [bd_some, p_let_eq, p_ok, mI_sI, mR_sI, mK_sI, mN_sI, mL_sI, mI_sG, mR_sG, mK_sG, mN_sG, mL_sG, mI_sJ, mR_sJ, mK_sJ, mN_sJ, mL_sJ, z_up, ↓reduceIte, and_self, true_and, and_true, false_and, and_false, not_true_eq_false, not_false_eq_true, Nat.reduceEqDiff, i_10, i_20, i_30, w_in, w_need1, w_need0, m_in, m_thr0, m_thr1, tM, aM, nI_1, nI_pred, reduceIte, wp_some, eq_self, bI_T, bI_F, F_L_burn, F_X12_burn, F_X12_burn_c27, F_X12_burn_c28, F_X13_burn, F_X13_burn_c20, F_X13_burn_c46, F_X13_burn_c51, F_X13_burn_c58, w_ix, s_o0 hS, s_r0_0 hS, s_r0_1 hS, s_r0_10 hS, s_r0_11 hS, s_r0_12 hS, s_r0_14 hS, s_r0_16 hS, s_r0_19 hS, s_r0_7 hS, s_r0_8 hS, s_r0_9 hS, s_o112 hS, s_o46 hS, c1, c2, d1, d2, g]
          rw [gm _ (by simp only [mI_sI, mR_sI, mK_sI, mN_sI, mL_sI, mI_sG, mR_sG, mK_sG, mN_sG, mL_sG, mI_sJ, mR_sJ, mK_sJ, mN_sJ, mL_sJ, mI_sA, mR_sA, mK_sA, mN_sA, mL_sA, z_up, ↓reduceIte, reduceIte, Nat.reduceEqDiff, true_and, and_true, e2]) (by simp only [mI_sI, mR_sI, mK_sI, mN_sI, mL_sI, mI_sG, mR_sG, mK_sG, mN_sG, mL_sG, mI_sJ, mR_sJ, mK_sJ, mN_sJ, mL_sJ, mI_sA, mR_sA, mK_sA, mN_sA, mL_sA, z_up, ↓reduceIte, reduceIte, Nat.reduceEqDiff, true_and, and_true, e4])]
          simp only [wp_some]
          refine ⟨⟨rfl, Cn_eq rfl rfl⟩, ?_, ?_⟩
          · obtain ⟨r1, r5, r6⟩ := hR
            unfold RPan
            simp only [mI_sI, mR_sI, mK_sI, mN_sI, mL_sI, mI_sG, mR_sG, mK_sG, mN_sG, mL_sG, mI_sJ, mR_sJ, mK_sJ, mN_sJ, mL_sJ, mI_sA, mR_sA, mK_sA, mN_sA, mL_sA, z_up, ↓reduceIte, reduceIte, Nat.reduceEqDiff, true_and, and_true]
            refine ⟨r1, r5, fun k hk => ?_⟩
            rw [if_pos hk, if_pos ⟨by omega, by omega⟩, if_neg (by omega), (r6 k hk).1, (r6 k hk).2]
            exact ⟨rfl, rfl⟩
          · repeat (first | exact Fr_refl _ | refine Fr_s65 ?_ (by decide) | refine Fr_sI ?_ (by decide) | refine Fr_sA ?_ (by decide) | refine Fr_sJ ?_ | refine Fr_sG ?_)
        · obtain ⟨w, h, w1, w2, h1, h2, e2, e4, g⟩ := c_burnOne hS hR (p := 1) (a := 50) (Or.inr ⟨rfl, rfl⟩) (show i < 6 by omega) (show j < 4 by omega)
          have gm : ∀ ν : p_M, mI ν 65 76 = nI w → mI ν 65 77 = nI h → F_X13_burn_c62 p_fu (nI 1) (nI i) (nI j) 0 ν = some (0, sA ν 111 (fun k => if 96 * 1 + 12 * 0 ≤ k ∧ k < 96 * 1 + 96 then bz (mI ν 111 k) (hp ν w h i j ((k - 96 * 1) / 12) ((k - 96 * 1) % 12)) else mI ν 111 k)) := fun ν q1 q2 => by
            have := m_b2 (p := 1) w1 w2 h1 h2 q1 q2 (by decide) (show i < 6 by omega) (show j < 4 by omega) 8 0 p_fu (mI ν 111) (by omega) (show 8 < 100000 by decide)
            rw [sA_self] at this
            exact this
          simp only [bd_some, p_let_eq, p_ok, mI_sI, mR_sI, mK_sI, mN_sI, mL_sI, mI_sG, mR_sG, mK_sG, mN_sG, mL_sG, mI_sJ, mR_sJ, mK_sJ, mN_sJ, mL_sJ, z_up, ↓reduceIte, and_self, true_and, and_true, false_and, and_false, not_true_eq_false, not_false_eq_true, Nat.reduceEqDiff, i_10, i_20, i_30, w_in, w_need1, w_need0, m_in, m_thr0, m_thr1, tM, aM, nI_1, nI_pred, reduceIte, wp_some, eq_self, bI_T, bI_F, F_L_burn, F_X12_burn, F_X12_burn_c27, F_X12_burn_c28, F_X13_burn, F_X13_burn_c20, F_X13_burn_c46, F_X13_burn_c51, F_X13_burn_c58, w_ix, s_o0 hS, s_r0_0 hS, s_r0_1 hS, s_r0_10 hS, s_r0_11 hS, s_r0_12 hS, s_r0_14 hS, s_r0_16 hS, s_r0_19 hS, s_r0_7 hS, s_r0_8 hS, s_r0_9 hS, s_o112 hS, s_o46 hS, c1, c2, d1, d2, g]
          rw [gm _ (by simp only [mI_sI, mR_sI, mK_sI, mN_sI, mL_sI, mI_sG, mR_sG, mK_sG, mN_sG, mL_sG, mI_sJ, mR_sJ, mK_sJ, mN_sJ, mL_sJ, mI_sA, mR_sA, mK_sA, mN_sA, mL_sA, z_up, ↓reduceIte, reduceIte, Nat.reduceEqDiff, true_and, and_true, e2]) (by simp only [mI_sI, mR_sI, mK_sI, mN_sI, mL_sI, mI_sG, mR_sG, mK_sG, mN_sG, mL_sG, mI_sJ, mR_sJ, mK_sJ, mN_sJ, mL_sJ, mI_sA, mR_sA, mK_sA, mN_sA, mL_sA, z_up, ↓reduceIte, reduceIte, Nat.reduceEqDiff, true_and, and_true, e4])]
          simp only [wp_some]
          refine ⟨⟨rfl, Cn_eq rfl rfl⟩, ?_, ?_⟩
          · obtain ⟨r1, r5, r6⟩ := hR
            unfold RPan
            simp only [mI_sI, mR_sI, mK_sI, mN_sI, mL_sI, mI_sG, mR_sG, mK_sG, mN_sG, mL_sG, mI_sJ, mR_sJ, mK_sJ, mN_sJ, mL_sJ, mI_sA, mR_sA, mK_sA, mN_sA, mL_sA, z_up, ↓reduceIte, reduceIte, Nat.reduceEqDiff, true_and, and_true]
            refine ⟨r1, r5, fun k hk => ?_⟩
            rw [if_pos hk, if_neg (by omega), if_pos ⟨by omega, by omega⟩, (r6 k hk).1, (r6 k hk).2, show 96 + k - 96 * 1 = k by omega]
            exact ⟨rfl, rfl⟩
          · repeat (first | exact Fr_refl _ | refine Fr_s65 ?_ (by decide) | refine Fr_sI ?_ (by decide) | refine Fr_sA ?_ (by decide) | refine Fr_sJ ?_ | refine Fr_sG ?_)
      · simp only [bd_some, p_let_eq, p_ok, mI_sI, mR_sI, mK_sI, mN_sI, mL_sI, mI_sG, mR_sG, mK_sG, mN_sG, mL_sG, mI_sJ, mR_sJ, mK_sJ, mN_sJ, mL_sJ, z_up, ↓reduceIte, and_self, true_and, and_true, false_and, and_false, not_true_eq_false, not_false_eq_true, Nat.reduceEqDiff, i_10, i_20, i_30, w_in, w_need1, w_need0, m_in, m_thr0, m_thr1, tM, aM, nI_1, nI_pred, reduceIte, wp_some, eq_self, bI_T, bI_F, F_L_burn, F_X12_burn, F_X12_burn_c27, F_X12_burn_c28, F_X13_burn, F_X13_burn_c20, F_X13_burn_c46, F_X13_burn_c51, F_X13_burn_c58, w_ix, s_o0 hS, s_r0_0 hS, s_r0_1 hS, s_r0_10 hS, s_r0_11 hS, s_r0_12 hS, s_r0_14 hS, s_r0_16 hS, s_r0_19 hS, s_r0_7 hS, s_r0_8 hS, s_r0_9 hS, s_o112 hS, s_o46 hS, c1, c2, d1, d2]
        exact ⟨thr_postV, RPan_fr thr_fr (by decide) hR0, Fr_mono thr_fr (by decide) (by decide)⟩
    · simp only [bd_some, p_let_eq, p_ok, mI_sI, mR_sI, mK_sI, mN_sI, mL_sI, mI_sG, mR_sG, mK_sG, mN_sG, mL_sG, mI_sJ, mR_sJ, mK_sJ, mN_sJ, mL_sJ, z_up, ↓reduceIte, and_self, true_and, and_true, false_and, and_false, not_true_eq_false, not_false_eq_true, Nat.reduceEqDiff, i_10, i_20, i_30, w_in, w_need1, w_need0, m_in, m_thr0, m_thr1, tM, aM, nI_1, nI_pred, reduceIte, wp_some, eq_self, bI_T, bI_F, F_L_burn, F_X12_burn, F_X12_burn_c27, F_X12_burn_c28, F_X13_burn, F_X13_burn_c20, F_X13_burn_c46, F_X13_burn_c51, F_X13_burn_c58, w_ix, s_o0 hS, s_r0_0 hS, s_r0_1 hS, s_r0_10 hS, s_r0_11 hS, s_r0_12 hS, s_r0_14 hS, s_r0_16 hS, s_r0_19 hS, s_r0_7 hS, s_r0_8 hS, s_r0_9 hS, s_o112 hS, s_o46 hS, c1, c2, d1]
      exact ⟨thr_postV, RPan_fr thr_fr (by decide) hR0, Fr_mono thr_fr (by decide) (by decide)⟩
