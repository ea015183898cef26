/-! seam, shift, burn -/
theorem sm_eq {L R L' R' : Nat → Int32} {s : Nat} (hL : ∀ k, k < 96 → L k = L' k) (hR : ∀ k, k < 96 → R k = R' k) : ∀ (r j : Nat) (a : Int32), j + r = 8 → sm L R s r j a = sm L' R' s r j a := by
  intro r
  induction r with
  | zero => intro j a _; rfl
  | succ r ih =>
    intro j a h
    have hlt : (j + s) % 8 < 8 := Nat.mod_lt _ (by decide)
    rw [sm, sm, hL _ (by omega), hR _ (by omega), ih (j + 1) _ (by omega)]
/-- how many places of the seam are unlike -/
def uM (μ : p_M) (s : Nat) : Int32 := sm (mI μ 111) (fun k => mI μ 111 (96 + k)) s 8 0 0
theorem c_unlike {μ : p_M} (hS : Sh μ) (hR : RPan μ) {s : Nat} (hs : s < 8) : F_X7_unlike 46 (nI s) μ = some (uM μ s, μ) := by
  obtain ⟨-, -, e6⟩ := hR
  unfold F_X7_unlike
  rw [show F_X7_unlike_c4 p_fu 46 (nI s) 0 0 μ = _ from c_sm hS hs 8 0 p_fu 0 (by omega) (show 8 < 100000 by decide)]
  rw [sm_eq (fun k hk => (e6 k hk).1) (fun k hk => (e6 k hk).2) 8 0 0 (by omega)]
  rfl
theorem m_seamOf {μ : p_M} {s : Nat} (hs : s < 8) : F_X13_seamOf (nI s) μ = some (uM μ s, μ) := m_sm hs 8 0 p_fu 0 (by omega) (show 8 < 100000 by decide)
theorem uM_fr {cs ss : List Nat} {μ μ' : p_M} (f : Fr cs ss μ μ') (h : cs.contains 111 = false) (s : Nat) : uM μ' s = uM μ s := by
  unfold uM
  rw [Fr_row f 111 ⟨by decide, h⟩]
theorem A_seam {μ : p_M} (hS : Sh μ) (hR : RPan μ) (v : Int32) : wp (F_L_seam 0 v 112 μ) fun k μ1 => wp (F_X13_seam v μ1) fun b μ2 => Post k b μ μ2 ∧ RPan μ2 ∧ Fr [] [0] μ μ2 := by
  by_cases c : 0 ≤ v ∧ v ≤ 7
  · obtain ⟨j, -, hj, rfl⟩ := rg3 v 0 7 0 7 rfl rfl (by decide) (by decide) c
    have f : ∀ z, Fr [] [0] μ (sI (sJ μ 112 (Int32.toNatClampNeg 0) z) 65 0 0) := fun z => by repeat (first | exact Fr_refl _ | refine Fr_s65 ?_ (by decide) | refine Fr_sI ?_ (by decide) | refine Fr_sA ?_ (by decide) | refine Fr_sJ ?_ | refine Fr_sG ?_)
    simp only [bd_some, p_let_eq, p_ok, mI_sI, mR_sI, mK_sI, mN_sI, mL_sI, mI_sG, mR_sG, mK_sG, mN_sG, mL_sG, mI_sJ, mR_sJ, mK_sJ, mN_sJ, mL_sJ, z_up, ↓reduceIte, and_self, true_and, and_true, false_and, and_false, not_true_eq_false, not_false_eq_true, Nat.reduceEqDiff, i_10, i_20, i_30, w_in, w_need1, w_need0, m_in, m_thr0, m_thr1, tM, aM, nI_1, nI_pred, reduceIte, wp_some, eq_self, bI_T, bI_F, F_L_seam, F_X12_seam, F_X13_seam, F_X13_seam_c21, F_X13_seam_c37, s_o0 hS, s_r0_0 hS, s_r0_1 hS, s_r0_10 hS, s_r0_11 hS, s_r0_12 hS, s_r0_14 hS, s_r0_16 hS, s_r0_19 hS, s_r0_7 hS, s_r0_8 hS, s_r0_9 hS, s_o112 hS, s_o46 hS, c, c_unlike hS hR (show j < 8 by omega), m_seamOf (show j < 8 by omega)]
    rw [uM_fr (f _) (by decide)]
    exact ⟨⟨rfl, fun _ => rfl, Cn_eq rfl rfl⟩, RPan_fr (f _) (by decide) hR, f _⟩
  · simp only [bd_some, p_let_eq, p_ok, mI_sI, mR_sI, mK_sI, mN_sI, mL_sI, mI_sG, mR_sG, mK_sG, mN_sG, mL_sG, mI_sJ, mR_sJ, mK_sJ, mN_sJ, mL_sJ, z_up, ↓reduceIte, and_self, true_and, and_true, false_and, and_false, not_true_eq_false, not_false_eq_true, Nat.reduceEqDiff, i_10, i_20, i_30, w_in, w_need1, w_need0, m_in, m_thr0, m_thr1, tM, aM, nI_1, nI_pred, reduceIte, wp_some, eq_self, bI_T, bI_F, F_L_seam, F_X12_seam, F_X13_seam, F_X13_seam_c21, F_X13_seam_c37, s_o0 hS, s_r0_0 hS, s_r0_1 hS, s_r0_10 hS, s_r0_11 hS, s_r0_12 hS, s_r0_14 hS, s_r0_16 hS, s_r0_19 hS, s_r0_7 hS, s_r0_8 hS, s_r0_9 hS, s_o112 hS, c]
    exact ⟨thr_post (by decide), RPan_fr thr_fr (by decide) hR, thr_fr⟩
def bt (u : Nat → Int32) : Nat → Nat → Nat → Nat
  | 0, _, b => b
  | r + 1, t, b => bt u r (t + 1) (if u b ≤ u t then b else t)
theorem c_bt {μ : p_M} (hS : Sh μ) (hR : RPan μ) : ∀ (r t n b : Nat), t + r = 8 → r < n → b < 8 → F_X7_bestTurn_c4 n 46 (nI b) (nI t) μ = some (nI (bt (uM μ) r t b), μ) := by
  intro r
  induction r with
  | zero =>
    intro t n b h1 h2 hb
    obtain ⟨n, rfl⟩ : ∃ k, n = k + 1 := ⟨n - 1, by omega⟩
    rw [F_X7_bestTurn_c4, if_pos (show (8 : Int32) ≤ nI t from nI_le (a := 8) (by omega) (by omega))]
    rfl
  | succ r ih =>
    intro t n b h1 h2 hb
    obtain ⟨n, rfl⟩ : ∃ k, n = k + 1 := ⟨n - 1, by omega⟩
    rw [F_X7_bestTurn_c4, if_neg (show ¬ (8 : Int32) ≤ nI t from nI_ge (b := 8) (by omega) (by decide))]
    by_cases e : uM μ b ≤ uM μ t
    · simp only [bd_some, p_let_eq, p_ok, mI_sI, mR_sI, mK_sI, mN_sI, mL_sI, mI_sG, mR_sG, mK_sG, mN_sG, mL_sG, mI_sJ, mR_sJ, mK_sJ, mN_sJ, mL_sJ, z_up, ↓reduceIte, and_self, true_and, and_true, false_and, and_false, not_true_eq_false, not_false_eq_true, Nat.reduceEqDiff, i_10, i_20, i_30, w_in, w_need1, w_need0, m_in, m_thr0, m_thr1, tM, aM, nI_1, nI_pred, reduceIte, wp_some, eq_self, bI_T, bI_F, F_X7_bestTurn_c25, s_o46 hS, c_unlike hS hR hb, c_unlike hS hR (show t < 8 by omega), e, ih (t + 1) n b (by omega) (by omega) hb, bt]
    · simp only [bd_some, p_let_eq, p_ok, mI_sI, mR_sI, mK_sI, mN_sI, mL_sI, mI_sG, mR_sG, mK_sG, mN_sG, mL_sG, mI_sJ, mR_sJ, mK_sJ, mN_sJ, mL_sJ, z_up, ↓reduceIte, and_self, true_and, and_true, false_and, and_false, not_true_eq_false, not_false_eq_true, Nat.reduceEqDiff, i_10, i_20, i_30, w_in, w_need1, w_need0, m_in, m_thr0, m_thr1, tM, aM, nI_1, nI_pred, reduceIte, wp_some, eq_self, bI_T, bI_F, F_X7_bestTurn_c25, s_o46 hS, c_unlike hS hR hb, c_unlike hS hR (show t < 8 by omega), e, ih (t + 1) n t (by omega) (by omega) (by omega), bt]
theorem m_bt {μ : p_M} : ∀ (r t n b : Nat), t + r = 8 → r < n → b < 8 → F_X13_shift_c9 n (nI b) (nI t) μ = some (nI (bt (uM μ) r t b), μ) := by
  intro r
  induction r with
  | zero =>
    intro t n b h1 h2 hb
    obtain ⟨n, rfl⟩ : ∃ k, n = k + 1 := ⟨n - 1, by omega⟩
    rw [F_X13_shift_c9, if_pos (show (8 : Int32) ≤ nI t from nI_le (a := 8) (by omega) (by omega))]
    rfl
  | succ r ih =>
    intro t n b h1 h2 hb
    obtain ⟨n, rfl⟩ : ∃ k, n = k + 1 := ⟨n - 1, by omega⟩
    rw [F_X13_shift_c9, if_neg (show ¬ (8 : Int32) ≤ nI t from nI_ge (b := 8) (by omega) (by decide))]
    by_cases e : uM μ b ≤ uM μ t
    · simp only [bd_some, p_let_eq, p_ok, mI_sI, mR_sI, mK_sI, mN_sI, mL_sI, mI_sG, mR_sG, mK_sG, mN_sG, mL_sG, mI_sJ, mR_sJ, mK_sJ, mN_sJ, mL_sJ, z_up, ↓reduceIte, and_self, true_and, and_true, false_and, and_false, not_true_eq_false, not_false_eq_true, Nat.reduceEqDiff, i_10, i_20, i_30, w_in, w_need1, w_need0, m_in, m_thr0, m_thr1, tM, aM, nI_1, nI_pred, reduceIte, wp_some, eq_self, bI_T, bI_F, F_X13_shift_c30, m_seamOf hb, m_seamOf (show t < 8 by omega), e, ih (t + 1) n b (by omega) (by omega) hb, bt]
    · simp only [bd_some, p_let_eq, p_ok, mI_sI, mR_sI, mK_sI, mN_sI, mL_sI, mI_sG, mR_sG, mK_sG, mN_sG, mL_sG, mI_sJ, mR_sJ, mK_sJ, mN_sJ, mL_sJ, z_up, ↓reduceIte, and_self, true_and, and_true, false_and, and_false, not_true_eq_false, not_false_eq_true, Nat.reduceEqDiff, i_10, i_20, i_30, w_in, w_need1, w_need0, m_in, m_thr0, m_thr1, tM, aM, nI_1, nI_pred, reduceIte, wp_some, eq_self, bI_T, bI_F, F_X13_shift_c30, m_seamOf hb, m_seamOf (show t < 8 by omega), e, ih (t + 1) n t (by omega) (by omega) (by omega), bt]
theorem A_shift {μ : p_M} (hS : Sh μ) (hR : RPan μ) : wp (F_X12_shift 0 μ) fun a μ1 => wp (F_X13_shift μ1) fun b μ2 => a = b ∧ Cn μ μ2 ∧ RPan μ2 ∧ Fr [] [0] μ μ2 := by
  have f : Fr [] [0] μ (sI μ 65 0 0) := by repeat (first | exact Fr_refl _ | refine Fr_s65 ?_ (by decide) | refine Fr_sI ?_ (by decide) | refine Fr_sA ?_ (by decide) | refine Fr_sJ ?_ | refine Fr_sG ?_)
  have g1 : F_X7_bestTurn_c4 p_fu 46 0 1 μ = _ := c_bt hS hR 7 1 p_fu 0 (by omega) (show 7 < 100000 by decide) (by decide)
  have g2 : F_X13_shift_c9 p_fu 0 1 (sI μ 65 0 0) = _ := m_bt 7 1 p_fu 0 (by omega) (show 7 < 100000 by decide) (by decide)
  simp only [bd_some, p_let_eq, p_ok, mI_sI, mR_sI, mK_sI, mN_sI, mL_sI, mI_sG, mR_sG, mK_sG, mN_sG, mL_sG, mI_sJ, mR_sJ, mK_sJ, mN_sJ, mL_sJ, z_up, ↓reduceIte, and_self, true_and, and_true, false_and, and_false, not_true_eq_false, not_false_eq_true, Nat.reduceEqDiff, i_10, i_20, i_30, w_in, w_need1, w_need0, m_in, m_thr0, m_thr1, tM, aM, nI_1, nI_pred, reduceIte, wp_some, eq_self, bI_T, bI_F, F_X12_shift, F_X13_shift, F_X7_bestTurn, s_o0 hS, s_r0_0 hS, s_r0_1 hS, s_r0_10 hS, s_r0_11 hS, s_r0_12 hS, s_r0_14 hS, s_r0_16 hS, s_r0_19 hS, s_r0_7 hS, s_r0_8 hS, s_r0_9 hS, s_o46 hS, g1, g2]
  rw [show uM (sI μ 65 0 0) = uM μ from funext fun s => uM_fr f (by decide) s]
  exact ⟨rfl, Cn_eq rfl rfl, RPan_fr f (by decide) hR, f⟩
/-! burn -/
theorem fm_in : ∀ a, a < 12 → ∀ b, b < 6 → ∀ h, h < 7 → 1 ≤ h → ¬ p_fm (nI a - nI b) (nI h) < 0 ∧ (p_fm (nI a - nI b) (nI h)).toNatClampNeg < h := by decide +kernel
theorem fm_nI {a b h : Nat} (ha : a < 12) (hb : b < 6) (h1 : h < 7) (h2 : 1 ≤ h) : ∃ t, t < h ∧ p_fm (nI a - nI b) (nI h) = nI t := by
  obtain ⟨g1, g2⟩ := fm_in a ha b hb h h1 h2
  obtain ⟨t, ht, e⟩ := nI_of g1
  rw [e, nI_clamp ht] at g2
  exact ⟨t, g2, e⟩
