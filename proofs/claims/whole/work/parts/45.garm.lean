/-! GARMENTS -/
def RGarm (μ : p_M) : Prop := ∃ n : Nat, n ≤ 40 ∧ mI μ 34 1 = nI n ∧ mI μ 65 39 = nI n ∧ mI μ 35 = mI μ 83 ∧ ∀ j, j < n → ∃ x : Nat, x ≤ 255 ∧ mI μ 35 j = nI x
theorem RGarm_fr {cs ss : List Nat} {μ μ' : p_M} (f : Fr cs ss μ μ') (d : dj cs ss [34, 35, 83] [39] = true) (h : RGarm μ) : RGarm μ' := by
  unfold RGarm at *
  simpa only [f.1, Fr_row f 34 (dj1 d (by decide)), Fr_row f 35 (dj1 d (by decide)), Fr_row f 83 (dj1 d (by decide)), Fr_sc f 39 (dj2 d (by decide))] using h
/-- putting in at its place -/
def inz (v : Int32) : Nat → (Nat → Int32) → (Nat → Int32)
  | 0, f => va_up f 0 v
  | p + 1, f => if f p ≤ v then va_up f (p + 1) v else inz v p (va_up f (p + 1) (f p))
theorem inz_all {v : Int32} {P : Int32 → Prop} (hv : P v) {n : Nat} : ∀ (p : Nat) (f : Nat → Int32), p ≤ n → (∀ j, j ≤ n → j ≠ p → P (f j)) → ∀ j, j ≤ n → P (inz v p f j) := by
  intro p
  induction p with
  | zero =>
    intro f _ h j hj
    rw [inz, z_up]
    by_cases e : j = 0
    · rw [if_pos e]; exact hv
    · rw [if_neg e]; exact h j hj e
  | succ p ih =>
    intro f hp h j hj
    rw [inz]
    by_cases c : f p ≤ v
    · rw [if_pos c, z_up]
      by_cases e : j = p + 1
      · rw [if_pos e]; exact hv
      · rw [if_neg e]; exact h j hj e
    · rw [if_neg c]
      refine ih _ (by omega) (fun i hi hne => ?_) j hj
      rw [z_up]
      by_cases e : i = p + 1
      · rw [if_pos e]; exact h p (by omega) (by omega)
      · rw [if_neg e]; exact h i hi e
theorem sub1 (p : Nat) : nI (p + 1) - 1 = nI p := nI_pred p
theorem c_inz {μ : p_M} (hS : Sh μ) {v : Int32} {n : Nat} (hn : n < 40) (e1 : mI μ 34 1 = nI n) : ∀ (p m : Nat) (f : Nat → Int32), p ≤ n → p < m → F_X0_add_c16 m 34 v (nI p) (sA μ 35 f) = some (nI (n + 1), sI (sA μ 35 (inz v p f)) 34 1 (nI (n + 1))) := by
  have fin : ∀ (p : Nat) (f : Nat → Int32), p ≤ n → F_X0_add_c52 34 v (nI p) (sA μ 35 f) = some (nI (n + 1), sI (sA μ 35 (va_up f p v)) 34 1 (nI (n + 1))) := fun p f hp => by
    have i1 := ix_nI (show p < 40 by omega) (by decide)
    have k1 := nI_clamp (show p < 2 ^ 31 by omega)
    have l1 : p < 40 := by omega
    simp only [bd_some, p_let_eq, p_ok, mI_sI, mR_sI, mK_sI, mN_sI, mL_sI, mI_sG, mR_sG, mK_sG, mN_sG, mL_sG, mI_sJ, mR_sJ, mK_sJ, mN_sJ, mL_sJ, z_up, ↓reduceIte, and_self, true_and, and_true, false_and, and_false, not_true_eq_false, not_false_eq_true, Nat.reduceEqDiff, i_10, i_20, i_30, w_in, w_need1, w_need0, m_in, m_thr0, m_thr1, tM, aM, nI_1, nI_pred, reduceIte, wp_some, eq_self, bI_T, bI_F, F_X0_add_c52, mK_sA, mN_sA, mL_sA, mR_sA, mI_sA, s_o34 hS, s_r34_0 hS, s_a35 hS, s_l35 hS, s_o35 hS, i1, k1, l1, e1, sI_sA]
  intro p
  induction p with
  | zero =>
    intro m f hp hm
    obtain ⟨m, rfl⟩ : ∃ k, m = k + 1 := ⟨m - 1, by omega⟩
    rw [F_X0_add_c16, if_pos (show nI 0 ≤ 0 by decide), fin 0 f hp]
    rfl
  | succ p ih =>
    intro m f hp hm
    obtain ⟨m, rfl⟩ : ∃ k, m = k + 1 := ⟨m - 1, by omega⟩
    have i1 := ix_nI (show p < 40 by omega) (by decide)
    have k1 := nI_clamp (show p < 2 ^ 31 by omega)
    have l1 : p < 40 := by omega
    have i2 := ix_nI (show p + 1 < 40 by omega) (by decide)
    have k2 := nI_clamp (show p + 1 < 2 ^ 31 by omega)
    have l2 : p + 1 < 40 := by omega
    rw [F_X0_add_c16, if_neg (nI_nle (by omega) (by omega)), inz]
    by_cases c : f p ≤ v
    · rw [if_pos c]
      simp only [bd_some, p_let_eq, p_ok, mI_sI, mR_sI, mK_sI, mN_sI, mL_sI, mI_sG, mR_sG, mK_sG, mN_sG, mL_sG, mI_sJ, mR_sJ, mK_sJ, mN_sJ, mL_sJ, z_up, ↓reduceIte, and_self, true_and, and_true, false_and, and_false, not_true_eq_false, not_false_eq_true, Nat.reduceEqDiff, i_10, i_20, i_30, w_in, w_need1, w_need0, m_in, m_thr0, m_thr1, tM, aM, nI_1, nI_pred, reduceIte, wp_some, eq_self, bI_T, bI_F, mK_sA, mN_sA, mL_sA, mR_sA, mI_sA, s_o34 hS, s_r34_0 hS, s_a35 hS, s_l35 hS, s_o35 hS, i1, k1, l1, c]
      exact fin (p + 1) f hp
    · rw [if_neg c]
      simp only [bd_some, p_let_eq, p_ok, mI_sI, mR_sI, mK_sI, mN_sI, mL_sI, mI_sG, mR_sG, mK_sG, mN_sG, mL_sG, mI_sJ, mR_sJ, mK_sJ, mN_sJ, mL_sJ, z_up, ↓reduceIte, and_self, true_and, and_true, false_and, and_false, not_true_eq_false, not_false_eq_true, Nat.reduceEqDiff, i_10, i_20, i_30, w_in, w_need1, w_need0, m_in, m_thr0, m_thr1, tM, aM, nI_1, nI_pred, reduceIte, wp_some, eq_self, bI_T, bI_F, mK_sA, mN_sA, mL_sA, mR_sA, mI_sA, s_o34 hS, s_r34_0 hS, s_a35 hS, s_l35 hS, s_o35 hS, i1, k1, l1, i2, k2, l2, c, pk_m1, sI_sA]
      exact ih m _ (by omega) (by omega)
theorem m_inz {μ : p_M} {v : Int32} {n : Nat} (hn : n < 40) (e1 : mI μ 65 39 = nI n) : ∀ (p m : Nat) (f : Nat → Int32), p ≤ n → p < m → F_X13_garment_c47 m v (nI p) (sA μ 83 f) = some (nI (n + 1), sI (sA μ 83 (inz v p f)) 65 39 (nI (n + 1))) := by
  have fin : ∀ (p : Nat) (f : Nat → Int32), p ≤ n → F_X13_garment_c83 v (nI p) (sA μ 83 f) = some (nI (n + 1), sI (sA μ 83 (va_up f p v)) 65 39 (nI (n + 1))) := fun p f hp => by
    have i1 := ix_nI (show p < 40 by omega) (by decide)
    have k1 := nI_clamp (show p < 2 ^ 31 by omega)
    have l1 : p < 40 := by omega
    simp only [bd_some, p_let_eq, p_ok, mI_sI, mR_sI, mK_sI, mN_sI, mL_sI, mI_sG, mR_sG, mK_sG, mN_sG, mL_sG, mI_sJ, mR_sJ, mK_sJ, mN_sJ, mL_sJ, z_up, ↓reduceIte, and_self, true_and, and_true, false_and, and_false, not_true_eq_false, not_false_eq_true, Nat.reduceEqDiff, i_10, i_20, i_30, w_in, w_need1, w_need0, m_in, m_thr0, m_thr1, tM, aM, nI_1, nI_pred, reduceIte, wp_some, eq_self, bI_T, bI_F, F_X13_garment_c83, mI_sA, i1, k1, l1, e1, sI_sA]
  intro p
  induction p with
  | zero =>
    intro m f hp hm
    obtain ⟨m, rfl⟩ : ∃ k, m = k + 1 := ⟨m - 1, by omega⟩
    rw [F_X13_garment_c47, if_pos (show nI 0 ≤ 0 by decide), fin 0 f hp]
    rfl
  | succ p ih =>
    intro m f hp hm
    obtain ⟨m, rfl⟩ : ∃ k, m = k + 1 := ⟨m - 1, by omega⟩
    have i1 := ix_nI (show p < 40 by omega) (by decide)
    have k1 := nI_clamp (show p < 2 ^ 31 by omega)
    have l1 : p < 40 := by omega
    have i2 := ix_nI (show p + 1 < 40 by omega) (by decide)
    have k2 := nI_clamp (show p + 1 < 2 ^ 31 by omega)
    have l2 : p + 1 < 40 := by omega
    rw [F_X13_garment_c47, if_neg (nI_nle (by omega) (by omega)), inz]
    by_cases c : f p ≤ v
    · rw [if_pos c]
      simp only [bd_some, p_let_eq, p_ok, mI_sI, mR_sI, mK_sI, mN_sI, mL_sI, mI_sG, mR_sG, mK_sG, mN_sG, mL_sG, mI_sJ, mR_sJ, mK_sJ, mN_sJ, mL_sJ, z_up, ↓reduceIte, and_self, true_and, and_true, false_and, and_false, not_true_eq_false, not_false_eq_true, Nat.reduceEqDiff, i_10, i_20, i_30, w_in, w_need1, w_need0, m_in, m_thr0, m_thr1, tM, aM, nI_1, nI_pred, reduceIte, wp_some, eq_self, bI_T, bI_F, mI_sA, i1, k1, l1, c]
      exact fin (p + 1) f hp
    · rw [if_neg c]
      simp only [bd_some, p_let_eq, p_ok, mI_sI, mR_sI, mK_sI, mN_sI, mL_sI, mI_sG, mR_sG, mK_sG, mN_sG, mL_sG, mI_sJ, mR_sJ, mK_sJ, mN_sJ, mL_sJ, z_up, ↓reduceIte, and_self, true_and, and_true, false_and, and_false, not_true_eq_false, not_false_eq_true, Nat.reduceEqDiff, i_10, i_20, i_30, w_in, w_need1, w_need0, m_in, m_thr0, m_thr1, tM, aM, nI_1, nI_pred, reduceIte, wp_some, eq_self, bI_T, bI_F, mI_sA, i1, k1, l1, i2, k2, l2, c, pk_m1, sI_sA]
      exact ih m _ (by omega) (by omega)
theorem A_garment {μ : p_M} (hS : Sh μ) (hR : RGarm μ) (v : Int32) : wp (F_L_garment 0 v 112 μ) fun k μ1 => wp (F_X13_garment v μ1) fun z μ2 => Post k z μ μ2 ∧ RGarm μ2 ∧ Fr [34, 35, 83] [0, 39] μ μ2 := by
  have hR0 := hR
  obtain ⟨n, hn, e1, e2, e3, e4⟩ := hR
  by_cases c : 0 ≤ v ∧ v ≤ 255
  · by_cases cn : n < 40
    · obtain ⟨x, -, hx, rfl⟩ := rg3 v 0 255 0 255 rfl rfl (by decide) (by decide) c
      have hlt : nI n < 40 := nI_lt cn (by decide)
      have hne : ¬ nI n = 40 := fun e => by have := (nI_eq (show n < 2 ^ 31 by omega) (show 40 < 2 ^ 31 by decide)).mp e; omega
      have g := c_inz hS (v := nI x) cn e1 n p_fu (mI μ 35) (Nat.le_refl n) (show n < 100000 by omega)
      rw [sA_self, e3] at g
      have gm := fun (ν : p_M) (a1 : mI ν 65 39 = nI n) => m_inz (μ := ν) (v := nI x) cn a1 n p_fu (mI ν 83) (Nat.le_refl n) (show n < 100000 by omega)
      simp only [sA_self] at gm
      simp only [bd_some, p_let_eq, p_ok, mI_sI, mR_sI, mK_sI, mN_sI, mL_sI, mI_sG, mR_sG, mK_sG, mN_sG, mL_sG, mI_sJ, mR_sJ, mK_sJ, mN_sJ, mL_sJ, z_up, ↓reduceIte, and_self, true_and, and_true, false_and, and_false, not_true_eq_false, not_false_eq_true, Nat.reduceEqDiff, i_10, i_20, i_30, w_in, w_need1, w_need0, m_in, m_thr0, m_thr1, tM, aM, nI_1, nI_pred, reduceIte, wp_some, eq_self, bI_T, bI_F, mI_sA, mR_sA, mK_sA, mN_sA, mL_sA, F_L_garment, F_X0_add, F_X12_garment, F_X13_garment, F_X13_garment_c22, s_o0 hS, s_r0_0 hS, s_r0_1 hS, s_r0_10 hS, s_r0_11 hS, s_r0_12 hS, s_r0_14 hS, s_r0_16 hS, s_r0_19 hS, s_r0_7 hS, s_r0_8 hS, s_r0_9 hS, s_o34 hS, s_r34_0 hS, s_o112 hS, e1, e2, c, hlt, hne, g]
      rw [gm _ (by simp only [mI_sI, mR_sI, mK_sI, mN_sI, mL_sI, mI_sG, mR_sG, mK_sG, mN_sG, mL_sG, mI_sJ, mR_sJ, mK_sJ, mN_sJ, mL_sJ, mI_sA, mR_sA, mK_sA, mN_sA, mL_sA, z_up, ↓reduceIte, reduceIte, Nat.reduceEqDiff, true_and, and_true]; exact e2)]
      simp only [bd_some, p_let_eq, p_ok, mI_sI, mR_sI, mK_sI, mN_sI, mL_sI, mI_sG, mR_sG, mK_sG, mN_sG, mL_sG, mI_sJ, mR_sJ, mK_sJ, mN_sJ, mL_sJ, z_up, ↓reduceIte, and_self, true_and, and_true, false_and, and_false, not_true_eq_false, not_false_eq_true, Nat.reduceEqDiff, i_10, i_20, i_30, w_in, w_need1, w_need0, m_in, m_thr0, m_thr1, tM, aM, nI_1, nI_pred, reduceIte, wp_some, eq_self, bI_T, bI_F, mI_sA]
      refine ⟨⟨rfl, fun _ => rfl, Cn_eq rfl rfl⟩, ?_, ?_⟩
      · unfold RGarm
        simp only [mI_sI, mR_sI, mK_sI, mN_sI, mL_sI, mI_sG, mR_sG, mK_sG, mN_sG, mL_sG, mI_sJ, mR_sJ, mK_sJ, mN_sJ, mL_sJ, mI_sA, mR_sA, mK_sA, mN_sA, mL_sA, z_up, ↓reduceIte, reduceIte, Nat.reduceEqDiff, true_and, and_true]
        refine ⟨n + 1, by omega, rfl, rfl, fun j hj => ?_⟩
        rw [e3] at e4
        exact inz_all (P := fun z => ∃ y : Nat, y ≤ 255 ∧ z = nI y) ⟨x, hx, rfl⟩ (n := n) n (mI μ 83) (Nat.le_refl n) (fun i hi hne => e4 i (by omega)) j (by omega)
      · repeat (first | exact Fr_refl _ | refine Fr_s65 ?_ (by decide) | refine Fr_sI ?_ (by decide) | refine Fr_sA ?_ (by decide) | refine Fr_sJ ?_ | refine Fr_sG ?_)
    · have hn5 : n = 40 := by omega
      subst hn5
      have e1 : mI μ 34 1 = 40 := e1
      have e2 : mI μ 65 39 = 40 := e2
      have hlt : ¬ (40 : Int32) < 40 := by decide
      have f : ∀ z, Fr [] [0] μ (sI (sJ μ 112 (Int32.toNatClampNeg 0) z) 65 0 0) := fun z => by repeat (first | exact Fr_refl _ | refine Fr_s65 ?_ (by decide) | refine Fr_sI ?_ (by decide) | refine Fr_sA ?_ (by decide) | refine Fr_sJ ?_ | refine Fr_sG ?_)
      simp only [bd_some, p_let_eq, p_ok, mI_sI, mR_sI, mK_sI, mN_sI, mL_sI, mI_sG, mR_sG, mK_sG, mN_sG, mL_sG, mI_sJ, mR_sJ, mK_sJ, mN_sJ, mL_sJ, z_up, ↓reduceIte, and_self, true_and, and_true, false_and, and_false, not_true_eq_false, not_false_eq_true, Nat.reduceEqDiff, i_10, i_20, i_30, w_in, w_need1, w_need0, m_in, m_thr0, m_thr1, tM, aM, nI_1, nI_pred, reduceIte, wp_some, eq_self, bI_T, bI_F, F_L_garment, F_X0_add, F_X12_garment, F_X13_garment, F_X13_garment_c22, s_o0 hS, s_r0_0 hS, s_r0_1 hS, s_r0_10 hS, s_r0_11 hS, s_r0_12 hS, s_r0_14 hS, s_r0_16 hS, s_r0_19 hS, s_r0_7 hS, s_r0_8 hS, s_r0_9 hS, s_o34 hS, s_r34_0 hS, s_o112 hS, e1, e2, c, hlt]
      exact ⟨⟨rfl, fun _ => rfl, Cn_eq rfl rfl⟩, RGarm_fr (f _) (by decide) hR0, Fr_mono (f _) (by decide) (by decide)⟩
  · simp only [bd_some, p_let_eq, p_ok, mI_sI, mR_sI, mK_sI, mN_sI, mL_sI, mI_sG, mR_sG, mK_sG, mN_sG, mL_sG, mI_sJ, mR_sJ, mK_sJ, mN_sJ, mL_sJ, z_up, ↓reduceIte, and_self, true_and, and_true, false_and, and_false, not_true_eq_false, not_false_eq_true, Nat.reduceEqDiff, i_10, i_20, i_30, w_in, w_need1, w_need0, m_in, m_thr0, m_thr1, tM, aM, nI_1, nI_pred, reduceIte, wp_some, eq_self, bI_T, bI_F, F_L_garment, F_X0_add, F_X12_garment, F_X13_garment, F_X13_garment_c22, s_o0 hS, s_r0_0 hS, s_r0_1 hS, s_r0_10 hS, s_r0_11 hS, s_r0_12 hS, s_r0_14 hS, s_r0_16 hS, s_r0_19 hS, s_r0_7 hS, s_r0_8 hS, s_r0_9 hS, s_o34 hS, s_r34_0 hS, s_o112 hS, c]
    exact ⟨thr_post (by decide), RGarm_fr thr_fr (by decide) hR0, Fr_mono thr_fr (by decide) (by decide)⟩
/-! spread -/
def so (f : Nat → Int32) (d : Int32) : Nat → Nat → Int32 → Nat → Int32
  | 0, _, a, _ => a
  | r + 1, i, a, b => if i = 0 ∨ d < f i - f b then so f d r (i + 1) (a + 1) i else so f d r (i + 1) a b
theorem c_so {μ : p_M} (hS : Sh μ) {n : Nat} (hn : n ≤ 40) (e1 : mI μ 34 1 = nI n) {d : Int32} : ∀ (r i m b : Nat) (a : Int32), i + r = n → r < m → b ≤ i → F_X0_sorts_c7 m 34 d a (nI b) (nI i) μ = some (so (mI μ 35) d r i a b, μ) := by
  intro r
  induction r with
  | zero =>
    intro i m b a h1 h2 hb
    obtain ⟨m, rfl⟩ : ∃ k, m = k + 1 := ⟨m - 1, by omega⟩
    rw [F_X0_sorts_c7, p_okp (s_o34 hS), e1, if_pos (nI_le (by omega) (by omega))]
    rfl
  | succ r ih =>
    intro i m b a h1 h2 hb
    obtain ⟨m, rfl⟩ : ∃ k, m = k + 1 := ⟨m - 1, by omega⟩
    rw [F_X0_sorts_c7, p_okp (s_o34 hS), e1, if_neg (nI_ge (by omega) (by omega)), so]
    by_cases c0 : i = 0
    · rw [if_pos (show nI i = 0 by rw [c0]; rfl), if_pos (Or.inl c0)]
      simp only [F_X0_sorts_c39, F_X0_sorts_c45, nI_1]
      exact ih (i + 1) m i _ (by omega) (by omega) (by omega)
    · have i1 := ix_nI (show i < 40 by omega) (by decide)
      have k1 := nI_clamp (show i < 2 ^ 31 by omega)
      have l1 : i < 40 := by omega
      have i2 := ix_nI (show b < 40 by omega) (by decide)
      have k2 := nI_clamp (show b < 2 ^ 31 by omega)
      have l2 : b < 40 := by omega
      rw [if_neg (nI_ne0 (by omega) (by omega))]
      by_cases c1 : mI μ 35 i - mI μ 35 b ≤ d
      · rw [if_neg (fun e => e.elim c0 (i_nlt.mpr c1))]
        simp only [bd_some, p_let_eq, p_ok, mI_sI, mR_sI, mK_sI, mN_sI, mL_sI, mI_sG, mR_sG, mK_sG, mN_sG, mL_sG, mI_sJ, mR_sJ, mK_sJ, mN_sJ, mL_sJ, z_up, ↓reduceIte, and_self, true_and, and_true, false_and, and_false, not_true_eq_false, not_false_eq_true, Nat.reduceEqDiff, i_10, i_20, i_30, w_in, w_need1, w_need0, m_in, m_thr0, m_thr1, tM, aM, nI_1, nI_pred, reduceIte, wp_some, eq_self, bI_T, bI_F, F_X0_sorts_c39, F_X0_sorts_c45, s_o34 hS, s_r34_0 hS, s_a35 hS, s_l35 hS, s_o35 hS, i1, k1, l1, i2, k2, l2, c1]
        exact ih (i + 1) m b _ (by omega) (by omega) (by omega)
      · rw [if_pos (Or.inr (i_nle.mp c1))]
        simp only [bd_some, p_let_eq, p_ok, mI_sI, mR_sI, mK_sI, mN_sI, mL_sI, mI_sG, mR_sG, mK_sG, mN_sG, mL_sG, mI_sJ, mR_sJ, mK_sJ, mN_sJ, mL_sJ, z_up, ↓reduceIte, and_self, true_and, and_true, false_and, and_false, not_true_eq_false, not_false_eq_true, Nat.reduceEqDiff, i_10, i_20, i_30, w_in, w_need1, w_need0, m_in, m_thr0, m_thr1, tM, aM, nI_1, nI_pred, reduceIte, wp_some, eq_self, bI_T, bI_F, F_X0_sorts_c39, F_X0_sorts_c45, s_o34 hS, s_r34_0 hS, s_a35 hS, s_l35 hS, s_o35 hS, i1, k1, l1, i2, k2, l2, c1]
        exact ih (i + 1) m i _ (by omega) (by omega) (by omega)
theorem m_so {μ : p_M} {n : Nat} (hn : n ≤ 40) (e1 : mI μ 65 39 = nI n) {d : Int32} : ∀ (r i m b : Nat) (a : Int32), i + r = n → r < m → b ≤ i → F_X13_sortsFor_c7 m d a (nI b) (nI i) μ = some (so (mI μ 83) d r i a b, μ) := by
  intro r
  induction r with
  | zero =>
    intro i m b a h1 h2 hb
    obtain ⟨m, rfl⟩ : ∃ k, m = k + 1 := ⟨m - 1, by omega⟩
    rw [F_X13_sortsFor_c7, show mI μ tM 39 = nI n from e1, if_pos (nI_le (by omega) (by omega))]
    rfl
  | succ r ih =>
    intro i m b a h1 h2 hb
    obtain ⟨m, rfl⟩ : ∃ k, m = k + 1 := ⟨m - 1, by omega⟩
    rw [F_X13_sortsFor_c7, show mI μ tM 39 = nI n from e1, if_neg (nI_ge (by omega) (by omega)), so]
    by_cases c0 : i = 0
    · rw [if_pos (show nI i ≤ 0 by rw [c0]; decide), if_pos (Or.inl c0)]
      simp only [F_X13_sortsFor_c42, F_X13_sortsFor_c48, nI_1]
      exact ih (i + 1) m i _ (by omega) (by omega) (by omega)
    · have i1 := ix_nI (show i < 40 by omega) (by decide)
      have k1 := nI_clamp (show i < 2 ^ 31 by omega)
      have l1 : i < 40 := by omega
      have i2 := ix_nI (show b < 40 by omega) (by decide)
      have k2 := nI_clamp (show b < 2 ^ 31 by omega)
      have l2 : b < 40 := by omega
      rw [if_neg (nI_nle (by omega) (by omega))]
      by_cases c1 : d < mI μ 83 i - mI μ 83 b
      · rw [if_pos (Or.inr c1)]
        simp only [bd_some, p_let_eq, p_ok, mI_sI, mR_sI, mK_sI, mN_sI, mL_sI, mI_sG, mR_sG, mK_sG, mN_sG, mL_sG, mI_sJ, mR_sJ, mK_sJ, mN_sJ, mL_sJ, z_up, ↓reduceIte, and_self, true_and, and_true, false_and, and_false, not_true_eq_false, not_false_eq_true, Nat.reduceEqDiff, i_10, i_20, i_30, w_in, w_need1, w_need0, m_in, m_thr0, m_thr1, tM, aM, nI_1, nI_pred, reduceIte, wp_some, eq_self, bI_T, bI_F, F_X13_sortsFor_c42, F_X13_sortsFor_c48, i1, k1, l1, i2, k2, l2, c1]
        exact ih (i + 1) m i _ (by omega) (by omega) (by omega)
      · rw [if_neg (show ¬ (i = 0 ∨ d < mI μ 83 i - mI μ 83 b) from fun e => e.elim c0 c1)]
        simp only [bd_some, p_let_eq, p_ok, mI_sI, mR_sI, mK_sI, mN_sI, mL_sI, mI_sG, mR_sG, mK_sG, mN_sG, mL_sG, mI_sJ, mR_sJ, mK_sJ, mN_sJ, mL_sJ, z_up, ↓reduceIte, and_self, true_and, and_true, false_and, and_false, not_true_eq_false, not_false_eq_true, Nat.reduceEqDiff, i_10, i_20, i_30, w_in, w_need1, w_need0, m_in, m_thr0, m_thr1, tM, aM, nI_1, nI_pred, reduceIte, wp_some, eq_self, bI_T, bI_F, F_X13_sortsFor_c42, F_X13_sortsFor_c48, i1, k1, l1, i2, k2, l2, c1]
        exact ih (i + 1) m b _ (by omega) (by omega) (by omega)
theorem so_255 {f : Nat → Int32} {n : Nat} (hf : ∀ j, j < n → ∃ x : Nat, x ≤ 255 ∧ f j = nI x) : ∀ (r i b : Nat) (a : Int32), i + r = n → b < n → 0 < i → so f 255 r i a b = a := by
  intro r
  induction r with
  | zero => intro i b a _ _ _; rfl
  | succ r ih =>
    intro i b a h1 hb hi
    obtain ⟨x, hx, ex⟩ := hf i (by omega)
    obtain ⟨y, hy, ey⟩ := hf b hb
    have c : ¬ (255 : Int32) < f i - f b := by
      rw [ex, ey, Int32.lt_iff_toInt_lt, pk_sub_toInt (by omega) (by omega)]
      have : (255 : Int32).toInt = 255 := rfl
      omega
    rw [so, if_neg (fun e => e.elim (by omega) c)]
    exact ih (i + 1) b a (by omega) hb (by omega)
theorem so_le1 {f : Nat → Int32} {n : Nat} (hf : ∀ j, j < n → ∃ x : Nat, x ≤ 255 ∧ f j = nI x) : so f 255 n 0 0 0 ≤ 1 := by
  cases n with
  | zero => exact (by decide : (0 : Int32) ≤ 1)
  | succ n =>
    rw [so, if_pos (Or.inl rfl), so_255 hf n 1 0 _ (by omega) (by omega) (by omega)]
    decide
def ls (f : Nat → Int32) (n : Nat) (k : Int32) : Nat → Nat → Nat
  | 0, d => d
  | r + 1, d => if k < so f (nI d) n 0 0 0 then ls f n k r (d + 1) else d
theorem c_ls {μ : p_M} (hS : Sh μ) {n : Nat} (hn : n ≤ 40) (e1 : mI μ 34 1 = nI n) {k : Int32} : ∀ (r d m : Nat), d + r = 255 → r < m → F_X0_leastSpread_c2 m 34 k (nI d) μ = some (nI (ls (mI μ 35) n k r d), μ) := by
  intro r
  induction r with
  | zero =>
    intro d m h1 h2
    obtain ⟨m, rfl⟩ : ∃ k, m = k + 1 := ⟨m - 1, by omega⟩
    rw [F_X0_leastSpread_c2, if_pos (show (255 : Int32) ≤ nI d from nI_le (a := 255) (by omega) (by omega)), ls, show d = 255 by omega]
    rfl
  | succ r ih =>
    intro d m h1 h2
    obtain ⟨m, rfl⟩ : ∃ k, m = k + 1 := ⟨m - 1, by omega⟩
    have g : F_X0_sorts 34 (nI d) μ = some (so (mI μ 35) (nI d) n 0 0 0, μ) := c_so hS hn e1 n 0 p_fu 0 0 (by omega) (show n < 100000 by omega) (by omega)
    rw [F_X0_leastSpread_c2, if_neg (show ¬ (255 : Int32) ≤ nI d from nI_ge (b := 255) (by omega) (by decide)), p_okp (s_o34 hS), g, bd_some, ls]
    dsimp only
    by_cases c : k < so (mI μ 35) (nI d) n 0 0 0
    · rw [if_pos c, if_pos c, nI_1]
      exact ih (d + 1) m (by omega) (by omega)
    · rw [if_neg c, if_neg c]
theorem m_ls {μ : p_M} {n : Nat} (hn : n ≤ 40) (e1 : mI μ 65 39 = nI n) (hf : ∀ j, j < n → ∃ x : Nat, x ≤ 255 ∧ mI μ 83 j = nI x) {k : Int32} (hk : 1 ≤ k) : ∀ (r d m : Nat), d + r = 255 → r < m → F_X13_spread_c32 m k (nI d) μ = some (nI (ls (mI μ 83) n k r d), μ) := by
  intro r
  induction r with
  | zero =>
    intro d m h1 h2
    obtain ⟨m, rfl⟩ : ∃ k, m = k + 1 := ⟨m - 1, by omega⟩
    have g : F_X13_sortsFor (nI d) μ = some (so (mI μ 83) (nI d) n 0 0 0, μ) := m_so hn e1 n 0 p_fu 0 0 (by omega) (show n < 100000 by omega) (by omega)
    have hd : d = 255 := by omega
    have hle : so (mI μ 83) (nI d) n 0 0 0 ≤ k := by
      have := so_le1 hf
      rw [hd, show nI 255 = 255 from rfl]
      rw [Int32.le_iff_toInt_le] at *
      omega
    rw [F_X13_spread_c32, g, bd_some, if_pos hle]
    rfl
  | succ r ih =>
    intro d m h1 h2
    obtain ⟨m, rfl⟩ : ∃ k, m = k + 1 := ⟨m - 1, by omega⟩
    have g : F_X13_sortsFor (nI d) μ = some (so (mI μ 83) (nI d) n 0 0 0, μ) := m_so hn e1 n 0 p_fu 0 0 (by omega) (show n < 100000 by omega) (by omega)
    rw [F_X13_spread_c32, g, bd_some, ls]
    dsimp only
    by_cases c : k < so (mI μ 83) (nI d) n 0 0 0
    · rw [if_neg (i_nle.mpr c), if_pos c, nI_1]
      exact ih (d + 1) m (by omega) (by omega)
    · rw [if_pos (i_nlt.mp c), if_neg c]
theorem A_spread {μ : p_M} (hS : Sh μ) (hR : RGarm μ) (v : Int32) : wp (F_L_spread 0 v 112 μ) fun k μ1 => wp (F_X13_spread v μ1) fun z μ2 => Post k z μ μ2 ∧ RGarm μ2 ∧ Fr [] [0] μ μ2 := by
  have hR0 := hR
  obtain ⟨n, hn, e1, e2, e3, e4⟩ := hR
  by_cases c : 1 ≤ v ∧ v ≤ 10
  · have f : ∀ z, Fr [] [0] μ (sI (sJ μ 112 (Int32.toNatClampNeg 0) z) 65 0 0) := fun z => by repeat (first | exact Fr_refl _ | refine Fr_s65 ?_ (by decide) | refine Fr_sI ?_ (by decide) | refine Fr_sA ?_ (by decide) | refine Fr_sJ ?_ | refine Fr_sG ?_)
    have g1 : F_X0_leastSpread_c2 p_fu 34 v 0 μ = some (nI (ls (mI μ 35) n v 255 0), μ) := c_ls hS hn e1 255 0 p_fu (by omega) (show 255 < 100000 by decide)
    have g2 := fun (ν : p_M) (a1 : mI ν 65 39 = nI n) (a2 : mI ν 83 = mI μ 83) => show F_X13_spread_c32 p_fu v 0 ν = some (nI (ls (mI μ 83) n v 255 0), ν) from by
      have := m_ls (μ := ν) hn a1 (by rw [a2, ← e3]; exact e4) c.1 255 0 p_fu (by omega) (show 255 < 100000 by decide)
      rw [a2] at this
      exact this
    rw [e3] at g1
    simp only [bd_some, p_let_eq, p_ok, mI_sI, mR_sI, mK_sI, mN_sI, mL_sI, mI_sG, mR_sG, mK_sG, mN_sG, mL_sG, mI_sJ, mR_sJ, mK_sJ, mN_sJ, mL_sJ, z_up, ↓reduceIte, and_self, true_and, and_true, false_and, and_false, not_true_eq_false, not_false_eq_true, Nat.reduceEqDiff, i_10, i_20, i_30, w_in, w_need1, w_need0, m_in, m_thr0, m_thr1, tM, aM, nI_1, nI_pred, reduceIte, wp_some, eq_self, bI_T, bI_F, F_L_spread, F_X0_leastSpread, F_X12_spread, F_X13_spread, F_X13_spread_c21, s_o0 hS, s_r0_0 hS, s_r0_1 hS, s_r0_10 hS, s_r0_11 hS, s_r0_12 hS, s_r0_14 hS, s_r0_16 hS, s_r0_19 hS, s_r0_7 hS, s_r0_8 hS, s_r0_9 hS, s_o112 hS, s_o34 hS, c, g1]
    rw [g2 _ (by simp only [mI_sI, mR_sI, mK_sI, mN_sI, mL_sI, mI_sG, mR_sG, mK_sG, mN_sG, mL_sG, mI_sJ, mR_sJ, mK_sJ, mN_sJ, mL_sJ, mI_sA, mR_sA, mK_sA, mN_sA, mL_sA, z_up, ↓reduceIte, reduceIte, Nat.reduceEqDiff, true_and, and_true]; exact e2) (by simp only [mI_sI, mR_sI, mK_sI, mN_sI, mL_sI, mI_sG, mR_sG, mK_sG, mN_sG, mL_sG, mI_sJ, mR_sJ, mK_sJ, mN_sJ, mL_sJ, mI_sA, mR_sA, mK_sA, mN_sA, mL_sA, z_up, ↓reduceIte, reduceIte, Nat.reduceEqDiff, true_and, and_true])]
    simp only [bd_some, p_let_eq, p_ok, mI_sI, mR_sI, mK_sI, mN_sI, mL_sI, mI_sG, mR_sG, mK_sG, mN_sG, mL_sG, mI_sJ, mR_sJ, mK_sJ, mN_sJ, mL_sJ, z_up, ↓reduceIte, and_self, true_and, and_true, false_and, and_false, not_true_eq_false, not_false_eq_true, Nat.reduceEqDiff, i_10, i_20, i_30, w_in, w_need1, w_need0, m_in, m_thr0, m_thr1, tM, aM, nI_1, nI_pred, reduceIte, wp_some, eq_self, bI_T, bI_F]
    exact ⟨⟨rfl, fun _ => rfl, Cn_eq rfl rfl⟩, RGarm_fr (f _) (by decide) hR0, f _⟩
  · simp only [bd_some, p_let_eq, p_ok, mI_sI, mR_sI, mK_sI, mN_sI, mL_sI, mI_sG, mR_sG, mK_sG, mN_sG, mL_sG, mI_sJ, mR_sJ, mK_sJ, mN_sJ, mL_sJ, z_up, ↓reduceIte, and_self, true_and, and_true, false_and, and_false, not_true_eq_false, not_false_eq_true, Nat.reduceEqDiff, i_10, i_20, i_30, w_in, w_need1, w_need0, m_in, m_thr0, m_thr1, tM, aM, nI_1, nI_pred, reduceIte, wp_some, eq_self, bI_T, bI_F, F_L_spread, F_X0_leastSpread, F_X12_spread, F_X13_spread, F_X13_spread_c21, s_o0 hS, s_r0_0 hS, s_r0_1 hS, s_r0_10 hS, s_r0_11 hS, s_r0_12 hS, s_r0_14 hS, s_r0_16 hS, s_r0_19 hS, s_r0_7 hS, s_r0_8 hS, s_r0_9 hS, s_o112 hS, c]
    exact ⟨thr_post (by decide), RGarm_fr thr_fr (by decide) hR0, thr_fr⟩
