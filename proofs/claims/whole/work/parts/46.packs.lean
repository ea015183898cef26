/-! packs -/
def fp (f : Nat → Int32) (N : Nat) (d q : Int32) : Nat → Nat → Int32 → Nat → Int32
  | 0, _, a, _ => a
  | r + 1, i, a, b => if i = N ∨ d < f i - f b then fp f N d q r (i + 1) (a + (nI i - nI b) / q) i else fp f N d q r (i + 1) a b
theorem c_fp {μ : p_M} (hS : Sh μ) {N : Nat} (hN : N ≤ 40) (e1 : mI μ 34 1 = nI N) {d q : Int32} (hq : ¬ q = 0) : ∀ (r i m b : Nat) (a : Int32), i + r = N + 1 → r < m → b < i → F_X0_fullPacks_c14 m 34 q d a (nI b) (nI i) μ = some (fp (mI μ 35) N d q r i a b, μ) := by
  intro r
  induction r with
  | zero =>
    intro i m b a h1 h2 hb
    obtain ⟨m, rfl⟩ : ∃ k, m = k + 1 := ⟨m - 1, by omega⟩
    rw [F_X0_fullPacks_c14, p_okp (s_o34 hS), e1, if_pos (nI_lt (by omega) (by omega))]
    rfl
  | succ r ih =>
    intro i m b a h1 h2 hb
    obtain ⟨m, rfl⟩ : ∃ k, m = k + 1 := ⟨m - 1, by omega⟩
    rw [F_X0_fullPacks_c14, p_okp (s_o34 hS), e1, if_neg (nI_nlt (by omega) (by omega)), fp]
    by_cases c0 : i = N
    · rw [if_pos (show nI i = nI N by rw [c0]), if_pos (Or.inl c0)]
      simp only [bd_some, p_let_eq, p_ok, mI_sI, mR_sI, mK_sI, mN_sI, mL_sI, mI_sG, mR_sG, mK_sG, mN_sG, mL_sG, mI_sJ, mR_sJ, mK_sJ, mN_sJ, mL_sJ, z_up, ↓reduceIte, and_self, true_and, and_true, false_and, and_false, not_true_eq_false, not_false_eq_true, Nat.reduceEqDiff, i_10, i_20, i_30, w_in, w_need1, w_need0, m_in, m_thr0, m_thr1, tM, aM, nI_1, nI_pred, reduceIte, wp_some, eq_self, bI_T, bI_F, F_X0_fullPacks_c51, F_X0_fullPacks_c65, hq]
      exact ih (i + 1) m i _ (by omega) (by omega) (by omega)
    · have i1 := ix_nI (show i < 40 by omega) (by decide)
      have k1 := nI_clamp (show i < 2 ^ 31 by omega)
      have l1 : i < 40 := by omega
      have i2 := ix_nI (show b < 40 by omega) (by decide)
      have k2 := nI_clamp (show b < 2 ^ 31 by omega)
      have l2 : b < 40 := by omega
      rw [if_neg (fun e => c0 ((nI_eq (by omega) (by omega)).mp e))]
      by_cases c1 : mI μ 35 i - mI μ 35 b ≤ d
      · rw [if_neg (fun e => e.elim c0 (i_nlt.mpr c1))]
        simp only [bd_some, p_let_eq, p_ok, mI_sI, mR_sI, mK_sI, mN_sI, mL_sI, mI_sG, mR_sG, mK_sG, mN_sG, mL_sG, mI_sJ, mR_sJ, mK_sJ, mN_sJ, mL_sJ, z_up, ↓reduceIte, and_self, true_and, and_true, false_and, and_false, not_true_eq_false, not_false_eq_true, Nat.reduceEqDiff, i_10, i_20, i_30, w_in, w_need1, w_need0, m_in, m_thr0, m_thr1, tM, aM, nI_1, nI_pred, reduceIte, wp_some, eq_self, bI_T, bI_F, F_X0_fullPacks_c51, F_X0_fullPacks_c65, s_o34 hS, s_r34_0 hS, s_a35 hS, s_l35 hS, s_o35 hS, i1, k1, l1, i2, k2, l2, c1]
        exact ih (i + 1) m b _ (by omega) (by omega) (by omega)
      · rw [if_pos (Or.inr (i_nle.mp c1))]
        simp only [bd_some, p_let_eq, p_ok, mI_sI, mR_sI, mK_sI, mN_sI, mL_sI, mI_sG, mR_sG, mK_sG, mN_sG, mL_sG, mI_sJ, mR_sJ, mK_sJ, mN_sJ, mL_sJ, z_up, ↓reduceIte, and_self, true_and, and_true, false_and, and_false, not_true_eq_false, not_false_eq_true, Nat.reduceEqDiff, i_10, i_20, i_30, w_in, w_need1, w_need0, m_in, m_thr0, m_thr1, tM, aM, nI_1, nI_pred, reduceIte, wp_some, eq_self, bI_T, bI_F, F_X0_fullPacks_c51, F_X0_fullPacks_c65, s_o34 hS, s_r34_0 hS, s_a35 hS, s_l35 hS, s_o35 hS, i1, k1, l1, i2, k2, l2, c1, hq]
        exact ih (i + 1) m i _ (by omega) (by omega) (by omega)
theorem i_sub0 (x : Int32) : x - x = 0 := by simp
theorem m_fp {μ : p_M} {N : Nat} (hN : N ≤ 40) (e1 : mI μ 65 39 = nI N) {d q z : Int32} (hd : 0 ≤ d) (hq : ¬ q = 0) : ∀ (r i m m' b : Nat) (a : Int32), i + (r + 1) = N + 1 → r < m → r < m' → b < i → F_X13_packs_c53 (F_X13_packs_c40 m) m' q d z a (nI i) (nI b) μ = some (if z = 0 then fp (mI μ 83) N d q (r + 1) i a b else nI N - fp (mI μ 83) N d q (r + 1) i a b * q, μ) := by
  have hd0 : ¬ d < 0 := i_nlt.mpr hd
  intro r
  induction r with
  | zero =>
    intro i m m' b a h1 h2 h3 hb
    obtain ⟨m, rfl⟩ : ∃ k, m = k + 1 := ⟨m - 1, by omega⟩
    obtain ⟨m', rfl⟩ : ∃ k, m' = k + 1 := ⟨m' - 1, by omega⟩
    have c0 : i = N := by omega
    have hle : nI N ≤ nI i := nI_le (by omega) (by omega)
    rw [F_X13_packs_c53, show mI μ tM 39 = nI N from e1, if_pos hle, fp, if_pos (Or.inl c0), fp]
    simp only [bd_some, p_let_eq, p_ok, mI_sI, mR_sI, mK_sI, mN_sI, mL_sI, mI_sG, mR_sG, mK_sG, mN_sG, mL_sG, mI_sJ, mR_sJ, mK_sJ, mN_sJ, mL_sJ, z_up, ↓reduceIte, and_self, true_and, and_true, false_and, and_false, not_true_eq_false, not_false_eq_true, Nat.reduceEqDiff, i_10, i_20, i_30, w_in, w_need1, w_need0, m_in, m_thr0, m_thr1, tM, aM, nI_1, nI_pred, reduceIte, wp_some, eq_self, bI_T, bI_F, F_X13_packs_c87, hq]
    rw [F_X13_packs_c40, show mI μ tM 39 = nI N from e1, if_pos hle]
    by_cases cz : z = 0
    · rw [if_pos cz, if_pos cz]; rfl
    · rw [if_neg cz, if_neg cz]; rfl
  | succ r ih =>
    intro i m m' b a h1 h2 h3 hb
    obtain ⟨m, rfl⟩ : ∃ k, m = k + 1 := ⟨m - 1, by omega⟩
    obtain ⟨m', rfl⟩ : ∃ k, m' = k + 1 := ⟨m' - 1, by omega⟩
    have c0 : ¬ i = N := by omega
    have hle : ¬ nI N ≤ nI i := nI_ge (by omega) (by omega)
    have i1 := ix_nI (show i < 40 by omega) (by decide)
    have k1 := nI_clamp (show i < 2 ^ 31 by omega)
    have l1 : i < 40 := by omega
    have i2 := ix_nI (show b < 40 by omega) (by decide)
    have k2 := nI_clamp (show b < 2 ^ 31 by omega)
    have l2 : b < 40 := by omega
    rw [F_X13_packs_c53, show mI μ tM 39 = nI N from e1, if_neg hle, fp]
    by_cases c1 : d < mI μ 83 i - mI μ 83 b
    · rw [if_pos (Or.inr c1)]
      simp only [bd_some, p_let_eq, p_ok, mI_sI, mR_sI, mK_sI, mN_sI, mL_sI, mI_sG, mR_sG, mK_sG, mN_sG, mL_sG, mI_sJ, mR_sJ, mK_sJ, mN_sJ, mL_sJ, z_up, ↓reduceIte, and_self, true_and, and_true, false_and, and_false, not_true_eq_false, not_false_eq_true, Nat.reduceEqDiff, i_10, i_20, i_30, w_in, w_need1, w_need0, m_in, m_thr0, m_thr1, tM, aM, nI_1, nI_pred, reduceIte, wp_some, eq_self, bI_T, bI_F, F_X13_packs_c87, i1, k1, l1, i2, k2, l2, c1, hq]
      rw [F_X13_packs_c40, show mI μ tM 39 = nI N from e1, if_neg hle, show p_fu = 99999 + 1 from rfl, F_X13_packs_c53, show mI μ tM 39 = nI N from e1, if_neg hle]
      simp only [bd_some, p_let_eq, p_ok, mI_sI, mR_sI, mK_sI, mN_sI, mL_sI, mI_sG, mR_sG, mK_sG, mN_sG, mL_sG, mI_sJ, mR_sJ, mK_sJ, mN_sJ, mL_sJ, z_up, ↓reduceIte, and_self, true_and, and_true, false_and, and_false, not_true_eq_false, not_false_eq_true, Nat.reduceEqDiff, i_10, i_20, i_30, w_in, w_need1, w_need0, m_in, m_thr0, m_thr1, tM, aM, nI_1, nI_pred, reduceIte, wp_some, eq_self, bI_T, bI_F, i1, k1, l1, i_sub0, hd0]
      exact ih (i + 1) m 99999 i _ (by omega) (by omega) (by omega) (by omega)
    · rw [if_neg (show ¬ (i = N ∨ d < mI μ 83 i - mI μ 83 b) from fun e => e.elim c0 c1)]
      simp only [bd_some, p_let_eq, p_ok, mI_sI, mR_sI, mK_sI, mN_sI, mL_sI, mI_sG, mR_sG, mK_sG, mN_sG, mL_sG, mI_sJ, mR_sJ, mK_sJ, mN_sJ, mL_sJ, z_up, ↓reduceIte, and_self, true_and, and_true, false_and, and_false, not_true_eq_false, not_false_eq_true, Nat.reduceEqDiff, i_10, i_20, i_30, w_in, w_need1, w_need0, m_in, m_thr0, m_thr1, tM, aM, nI_1, nI_pred, reduceIte, wp_some, eq_self, bI_T, bI_F, i1, k1, l1, i2, k2, l2, c1]
      exact ih (i + 1) (m + 1) m' b _ (by omega) (by omega) (by omega) (by omega)
theorem m_fp0 {μ : p_M} {N : Nat} (hN : N ≤ 40) (e1 : mI μ 65 39 = nI N) {d q z : Int32} (hd : 0 ≤ d) (hq : ¬ q = 0) : F_X13_packs_c40 p_fu q d z 0 0 μ = some (if z = 0 then fp (mI μ 83) N d q N 1 0 0 else nI N - fp (mI μ 83) N d q N 1 0 0 * q, μ) := by
  have hd0 : ¬ d < 0 := i_nlt.mpr hd
  rw [show p_fu = 99999 + 1 from rfl, F_X13_packs_c40, show mI μ tM 39 = nI N from e1]
  cases N with
  | zero =>
    rw [if_pos (show nI 0 ≤ 0 by decide)]
    by_cases cz : z = 0
    · rw [if_pos cz, if_pos cz]; rfl
    · rw [if_neg cz, if_neg cz]; rfl
  | succ N =>
    have hle : ¬ nI (N + 1) ≤ 0 := nI_nle (by omega) (by omega)
    rw [if_neg hle, show p_fu = 99999 + 1 from rfl, F_X13_packs_c53, show mI μ tM 39 = nI (N + 1) from e1, if_neg hle]
    have z1 : (0 : Int32).toNatClampNeg = 0 := rfl
    have z3 : ¬ (0 : Int32) < 0 := by decide
    simp only [bd_some, p_let_eq, p_ok, mI_sI, mR_sI, mK_sI, mN_sI, mL_sI, mI_sG, mR_sG, mK_sG, mN_sG, mL_sG, mI_sJ, mR_sJ, mK_sJ, mN_sJ, mL_sJ, z_up, ↓reduceIte, and_self, true_and, and_true, false_and, and_false, not_true_eq_false, not_false_eq_true, Nat.reduceEqDiff, i_10, i_20, i_30, w_in, w_need1, w_need0, m_in, m_thr0, m_thr1, tM, aM, nI_1, nI_pred, reduceIte, wp_some, eq_self, bI_T, bI_F, z1, z3, i_sub0, hd0, show (0 : Nat) < 40 from by decide]
    exact m_fp hN e1 hd hq N 1 99999 99999 0 0 (by omega) (by omega) (by omega) (by omega)
theorem A_packs {μ : p_M} (hS : Sh μ) (hR : RGarm μ) (q d z : Int32) : wp (F_L_packs 0 q d z 112 μ) fun k μ1 => wp (F_X13_packs q d z μ1) fun y μ2 => Post k y μ μ2 ∧ RGarm μ2 ∧ Fr [] [0] μ μ2 := by
  have hR0 := hR
  obtain ⟨n, hn, e1, e2, e3, e4⟩ := hR
  by_cases c : 1 ≤ q ∧ q ≤ 20
  · by_cases cd : d < 0
    · have cd' : ¬ 0 ≤ d := i_nle.mpr cd
      simp only [bd_some, p_let_eq, p_ok, mI_sI, mR_sI, mK_sI, mN_sI, mL_sI, mI_sG, mR_sG, mK_sG, mN_sG, mL_sG, mI_sJ, mR_sJ, mK_sJ, mN_sJ, mL_sJ, z_up, ↓reduceIte, and_self, true_and, and_true, false_and, and_false, not_true_eq_false, not_false_eq_true, Nat.reduceEqDiff, i_10, i_20, i_30, w_in, w_need1, w_need0, m_in, m_thr0, m_thr1, tM, aM, nI_1, nI_pred, reduceIte, wp_some, eq_self, bI_T, bI_F, F_L_packs, F_X0_fullPacks, F_X12_packs, F_X12_packs_c18, F_X12_packs_c19, F_X12_packs_c54, F_X13_packs, F_X13_packs_c20, F_X13_packs_c25, s_o0 hS, s_r0_0 hS, s_r0_1 hS, s_r0_10 hS, s_r0_11 hS, s_r0_12 hS, s_r0_14 hS, s_r0_16 hS, s_r0_19 hS, s_r0_7 hS, s_r0_8 hS, s_r0_9 hS, s_o112 hS, c, cd, cd']
      exact ⟨thr_post (by decide), RGarm_fr thr_fr (by decide) hR0, thr_fr⟩
    · have cd' : 0 ≤ d := i_nlt.mp cd
      obtain ⟨x, hx1, hx, rfl⟩ := rg3 q 1 20 1 20 rfl rfl (by decide) (by decide) c
      have hq : ¬ nI x = 0 := nI_ne0 (by omega) (by omega)
      have hq0 : 0 < nI x := i_nle.mp (nI_nle (by omega) (by omega))
      have f : ∀ z, Fr [] [0] μ (sI (sJ μ 112 (Int32.toNatClampNeg 0) z) 65 0 0) := fun z => by repeat (first | exact Fr_refl _ | refine Fr_s65 ?_ (by decide) | refine Fr_sI ?_ (by decide) | refine Fr_sA ?_ (by decide) | refine Fr_sJ ?_ | refine Fr_sG ?_)
      have g1 : F_X0_fullPacks_c14 p_fu 34 (nI x) d 0 0 1 μ = some (fp (mI μ 35) n d (nI x) n 1 0 0, μ) := c_fp hS hn e1 hq n 1 p_fu 0 0 (by omega) (show n < 100000 by omega) (by omega)
      rw [e3] at g1
      have g2 := fun (ν : p_M) (a1 : mI ν 65 39 = nI n) (a2 : mI ν 83 = mI μ 83) => show F_X13_packs_c40 p_fu (nI x) d z 0 0 ν = some (if z = 0 then fp (mI μ 83) n d (nI x) n 1 0 0 else nI n - fp (mI μ 83) n d (nI x) n 1 0 0 * nI x, ν) from by
        have := m_fp0 (μ := ν) (z := z) hn a1 cd' hq
        rw [a2] at this
        exact this
      by_cases cz : z = 0
      · simp only [bd_some, p_let_eq, p_ok, mI_sI, mR_sI, mK_sI, mN_sI, mL_sI, mI_sG, mR_sG, mK_sG, mN_sG, mL_sG, mI_sJ, mR_sJ, mK_sJ, mN_sJ, mL_sJ, z_up, ↓reduceIte, and_self, true_and, and_true, false_and, and_false, not_true_eq_false, not_false_eq_true, Nat.reduceEqDiff, i_10, i_20, i_30, w_in, w_need1, w_need0, m_in, m_thr0, m_thr1, tM, aM, nI_1, nI_pred, reduceIte, wp_some, eq_self, bI_T, bI_F, F_L_packs, F_X0_fullPacks, F_X12_packs, F_X12_packs_c18, F_X12_packs_c19, F_X12_packs_c54, F_X13_packs, F_X13_packs_c20, F_X13_packs_c25, s_o0 hS, s_r0_0 hS, s_r0_1 hS, s_r0_10 hS, s_r0_11 hS, s_r0_12 hS, s_r0_14 hS, s_r0_16 hS, s_r0_19 hS, s_r0_7 hS, s_r0_8 hS, s_r0_9 hS, s_o112 hS, s_o34 hS, c, cd, cd', hq0, g1, e1, cz]
        rw [cz] at g2
        rw [g2 _ (by simp only [mI_sI, mR_sI, mK_sI, mN_sI, mL_sI, mI_sG, mR_sG, mK_sG, mN_sG, mL_sG, mI_sJ, mR_sJ, mK_sJ, mN_sJ, mL_sJ, mI_sA, mR_sA, mK_sA, mN_sA, mL_sA, z_up, ↓reduceIte, reduceIte, Nat.reduceEqDiff, true_and, and_true]; exact e2) (by simp only [mI_sI, mR_sI, mK_sI, mN_sI, mL_sI, mI_sG, mR_sG, mK_sG, mN_sG, mL_sG, mI_sJ, mR_sJ, mK_sJ, mN_sJ, mL_sJ, mI_sA, mR_sA, mK_sA, mN_sA, mL_sA, z_up, ↓reduceIte, reduceIte, Nat.reduceEqDiff, true_and, and_true])]
        simp only [bd_some, p_let_eq, p_ok, mI_sI, mR_sI, mK_sI, mN_sI, mL_sI, mI_sG, mR_sG, mK_sG, mN_sG, mL_sG, mI_sJ, mR_sJ, mK_sJ, mN_sJ, mL_sJ, z_up, ↓reduceIte, and_self, true_and, and_true, false_and, and_false, not_true_eq_false, not_false_eq_true, Nat.reduceEqDiff, i_10, i_20, i_30, w_in, w_need1, w_need0, m_in, m_thr0, m_thr1, tM, aM, nI_1, nI_pred, reduceIte, wp_some, eq_self, bI_T, bI_F]
        exact ⟨⟨rfl, fun _ => rfl, Cn_eq rfl rfl⟩, RGarm_fr (f _) (by decide) hR0, f _⟩
      · simp only [bd_some, p_let_eq, p_ok, mI_sI, mR_sI, mK_sI, mN_sI, mL_sI, mI_sG, mR_sG, mK_sG, mN_sG, mL_sG, mI_sJ, mR_sJ, mK_sJ, mN_sJ, mL_sJ, z_up, ↓reduceIte, and_self, true_and, and_true, false_and, and_false, not_true_eq_false, not_false_eq_true, Nat.reduceEqDiff, i_10, i_20, i_30, w_in, w_need1, w_need0, m_in, m_thr0, m_thr1, tM, aM, nI_1, nI_pred, reduceIte, wp_some, eq_self, bI_T, bI_F, F_L_packs, F_X0_fullPacks, F_X12_packs, F_X12_packs_c18, F_X12_packs_c19, F_X12_packs_c54, F_X13_packs, F_X13_packs_c20, F_X13_packs_c25, s_o0 hS, s_r0_0 hS, s_r0_1 hS, s_r0_10 hS, s_r0_11 hS, s_r0_12 hS, s_r0_14 hS, s_r0_16 hS, s_r0_19 hS, s_r0_7 hS, s_r0_8 hS, s_r0_9 hS, s_o112 hS, s_o34 hS, c, cd, cd', hq0, g1, e1, cz]
        rw [g2 _ (by simp only [mI_sI, mR_sI, mK_sI, mN_sI, mL_sI, mI_sG, mR_sG, mK_sG, mN_sG, mL_sG, mI_sJ, mR_sJ, mK_sJ, mN_sJ, mL_sJ, mI_sA, mR_sA, mK_sA, mN_sA, mL_sA, z_up, ↓reduceIte, reduceIte, Nat.reduceEqDiff, true_and, and_true]; exact e2) (by simp only [mI_sI, mR_sI, mK_sI, mN_sI, mL_sI, mI_sG, mR_sG, mK_sG, mN_sG, mL_sG, mI_sJ, mR_sJ, mK_sJ, mN_sJ, mL_sJ, mI_sA, mR_sA, mK_sA, mN_sA, mL_sA, z_up, ↓reduceIte, reduceIte, Nat.reduceEqDiff, true_and, and_true])]
        simp only [bd_some, p_let_eq, p_ok, mI_sI, mR_sI, mK_sI, mN_sI, mL_sI, mI_sG, mR_sG, mK_sG, mN_sG, mL_sG, mI_sJ, mR_sJ, mK_sJ, mN_sJ, mL_sJ, z_up, ↓reduceIte, and_self, true_and, and_true, false_and, and_false, not_true_eq_false, not_false_eq_true, Nat.reduceEqDiff, i_10, i_20, i_30, w_in, w_need1, w_need0, m_in, m_thr0, m_thr1, tM, aM, nI_1, nI_pred, reduceIte, wp_some, eq_self, bI_T, bI_F, cz]
        exact ⟨⟨rfl, fun _ => rfl, Cn_eq rfl rfl⟩, RGarm_fr (f _) (by decide) hR0, f _⟩
  · simp only [bd_some, p_let_eq, p_ok, mI_sI, mR_sI, mK_sI, mN_sI, mL_sI, mI_sG, mR_sG, mK_sG, mN_sG, mL_sG, mI_sJ, mR_sJ, mK_sJ, mN_sJ, mL_sJ, z_up, ↓reduceIte, and_self, true_and, and_true, false_and, and_false, not_true_eq_false, not_false_eq_true, Nat.reduceEqDiff, i_10, i_20, i_30, w_in, w_need1, w_need0, m_in, m_thr0, m_thr1, tM, aM, nI_1, nI_pred, reduceIte, wp_some, eq_self, bI_T, bI_F, F_L_packs, F_X0_fullPacks, F_X12_packs, F_X12_packs_c18, F_X12_packs_c19, F_X12_packs_c54, F_X13_packs, F_X13_packs_c20, F_X13_packs_c25, s_o0 hS, s_r0_0 hS, s_r0_1 hS, s_r0_10 hS, s_r0_11 hS, s_r0_12 hS, s_r0_14 hS, s_r0_16 hS, s_r0_19 hS, s_r0_7 hS, s_r0_8 hS, s_r0_9 hS, s_o112 hS, c]
    exact ⟨thr_post (by decide), RGarm_fr thr_fr (by decide) hR0, thr_fr⟩
