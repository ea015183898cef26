/-! LOOKS -/
theorem mx {a b : Nat} (ha : a < 2 ^ 30) (hb : b < 2 ^ 30) : (if (0 : Int32) < nI a - nI b then nI a - nI b else 0) = nI (a - b) := by
  by_cases c : b < a
  · rw [pk_sub (by omega), if_pos (i_nle.mp (nI_nle (by omega) (by omega)))]
  · have q : ¬ (0 : Int32) < nI a - nI b := by
      rw [Int32.lt_iff_toInt_lt, pk_sub_toInt ha hb]
      have : (0 : Int32).toInt = 0 := rfl
      omega
    rw [if_neg q, show a - b = 0 by omega]
    rfl
/-- least, greatest, weakest, strongest, lye -/
abbrev LK : Type := Nat × Nat × Nat × Nat × Nat
def isL (f : Nat → Int32) (L : LK) (h : Nat) : Prop := f 0 = nI L.1 ∧ f 1 = nI L.2.1 ∧ f 2 = nI L.2.2.1 ∧ f 3 = nI L.2.2.2.1 ∧ f 4 = nI L.2.2.2.2 ∧ f 5 = nI h
def isR (f : Nat → Int32) (r : Nat) (L : LK) : Prop := f (5 * r) = nI L.1 ∧ f (5 * r + 1) = nI L.2.1 ∧ f (5 * r + 2) = nI L.2.2.1 ∧ f (5 * r + 3) = nI L.2.2.2.1 ∧ f (5 * r + 4) = nI L.2.2.2.2
def okL (L : LK) : Prop := L.1 ≤ 255 ∧ L.2.1 ≤ 255 ∧ L.2.2.1 ≤ 255 ∧ L.2.2.2.1 ≤ 255 ∧ L.2.2.2.2 ≤ 1
/-- what a bath does -/
def lk (h b n : Nat) (L : LK) : LK :=
  if b = 0 then (L.1 - n, L.2.1 - n / 2, L.2.2.1, L.2.2.2.1, L.2.2.2.2)
  else if b = 1 then (L.1 - (n + 3), L.2.1 - n, L.2.2.1 - (n + 2) - 5 * L.2.2.2.2, L.2.2.2.1 - n - 5 * L.2.2.2.2, L.2.2.2.2)
  else if b = 2 then (L.1 - (3 * n - h), L.2.1 - (2 * n - h), L.2.2.1 - n, L.2.2.2.1, 1)
  else (L.1, L.2.1, L.2.2.1, L.2.2.2.1, 0)
theorem lk_ok {h b n : Nat} {L : LK} (hL : okL L) : okL (lk h b n L) := by
  obtain ⟨l, g, w, s, y⟩ := L
  obtain ⟨h1, h2, h3, h4, h5⟩ := hL
  dsimp only at h1 h2 h3 h4 h5
  unfold lk okL
  split
  · dsimp only; omega
  · split
    · dsimp only; omega
    · split
      · dsimp only; omega
      · dsimp only; omega
theorem sw0 : ¬ ((0 : Int32).toInt < 0 ∨ 2 < (0 : Int32).toInt) := by decide
theorem sw1 : ¬ ((1 : Int32).toInt < 0 ∨ 2 < (1 : Int32).toInt) := by decide
theorem sw2 : ¬ ((2 : Int32).toInt < 0 ∨ 2 < (2 : Int32).toInt) := by decide
theorem sw3 : (3 : Int32).toInt < 0 ∨ 2 < (3 : Int32).toInt := by decide
theorem i_21 : ((2 : Int32) = 1) = False := eq_false (by decide)
theorem b4 {b : Nat} (h : b ≤ 3) : b = 0 ∨ b = 1 ∨ b = 2 ∨ b = 3 := by omega
theorem c_fade {μ : p_M} {a l g x y : Nat} (ha : mK μ a = 4 ∧ a < mN μ) (e0 : mI μ a 0 = nI l) (e1 : mI μ a 1 = nI g) (hl : l < 2 ^ 30) (hg : g < 2 ^ 30) (hx : x < 2 ^ 30) (hy : y < 2 ^ 30) : F_X3_fade a (nI x) (nI y) μ = some (0, sI (sI μ a 0 (nI (l - y))) a 1 (nI (g - x))) := by
  simp only [bd_some, p_let_eq, p_ok, mI_sI, mR_sI, mK_sI, mN_sI, mL_sI, mI_sG, mR_sG, mK_sG, mN_sG, mL_sG, mI_sJ, mR_sJ, mK_sJ, mN_sJ, mL_sJ, z_up, ↓reduceIte, and_self, true_and, and_true, false_and, and_false, not_true_eq_false, not_false_eq_true, Nat.reduceEqDiff, i_10, i_20, i_30, w_in, w_need1, w_need0, m_in, m_thr0, m_thr1, tM, aM, nI_1, nI_pred, reduceIte, wp_some, eq_self, bI_T, bI_F, F_X3_fade, ha, e0, e1, mx hl hy, mx hg hx]
theorem c_wear {μ : p_M} {a l g x y : Nat} (ha : mK μ a = 4 ∧ a < mN μ) (e0 : mI μ a 2 = nI l) (e1 : mI μ a 3 = nI g) (hl : l < 2 ^ 30) (hg : g < 2 ^ 30) (hx : x < 2 ^ 30) (hy : y < 2 ^ 30) : F_X3_wear a (nI x) (nI y) μ = some (0, sI (sI μ a 2 (nI (l - y))) a 3 (nI (g - x))) := by
  simp only [bd_some, p_let_eq, p_ok, mI_sI, mR_sI, mK_sI, mN_sI, mL_sI, mI_sG, mR_sG, mK_sG, mN_sG, mL_sG, mI_sJ, mR_sJ, mK_sJ, mN_sJ, mL_sJ, z_up, ↓reduceIte, and_self, true_and, and_true, false_and, and_false, not_true_eq_false, not_false_eq_true, Nat.reduceEqDiff, i_10, i_20, i_30, w_in, w_need1, w_need0, m_in, m_thr0, m_thr1, tM, aM, nI_1, nI_pred, reduceIte, wp_some, eq_self, bI_T, bI_F, F_X3_wear, ha, e0, e1, mx hl hy, mx hg hx]
theorem c_lk {μ : p_M} {a h b n : Nat} {L : LK} (ha : mK μ a = 4 ∧ a < mN μ) (h65 : a ≠ 65) (hi : isL (mI μ a) L h) (hL : okL L) (hb : b ≤ 3) (hn : n ≤ 100) (hh : h ≤ 100) : ∃ μ', F_X3_take a (nI b) (nI n) μ = some (0, μ') ∧ isL (mI μ' a) (lk h b n L) h ∧ Fq [a] [] μ μ' := by
  obtain ⟨l, g, w, s, y⟩ := L
  obtain ⟨q0, q1, q2, q3, q4, q5⟩ := hi
  obtain ⟨o1, o2, o3, o4, o5⟩ := hL
  dsimp only at *
  have hm : a ∈ [a] ∧ a ≠ 65 := ⟨List.mem_singleton.mpr rfl, h65⟩
  rcases b4 hb with rfl | rfl | rfl | rfl
  · have d2 : nI n / 2 = nI (n / 2) := pk_div (d := 2) (by omega) (by decide) (by decide)
    have z2 : ¬ (2 : Int32) = 0 := by decide
    refine ⟨sI (sI μ a 0 (nI (l - n))) a 1 (nI (g - n / 2)), ?_, ?_, Fq_sI (Fq_sI (Fq_refl μ) hm) hm⟩
    · simp only [bd_some, p_let_eq, p_ok, mI_sI, mR_sI, mK_sI, mN_sI, mL_sI, mI_sG, mR_sG, mK_sG, mN_sG, mL_sG, mI_sJ, mR_sJ, mK_sJ, mN_sJ, mL_sJ, z_up, ↓reduceIte, and_self, true_and, and_true, false_and, and_false, not_true_eq_false, not_false_eq_true, Nat.reduceEqDiff, i_10, i_20, i_30, w_in, w_need1, w_need0, m_in, m_thr0, m_thr1, tM, aM, nI_1, nI_pred, reduceIte, wp_some, eq_self, bI_T, bI_F, show nI 0 = 0 from rfl, F_X3_take, F_X3_take_c118, sw0, ha, z2, d2, c_fade ha q0 q1 (show l < 2 ^ 30 by omega) (show g < 2 ^ 30 by omega) (show n / 2 < 2 ^ 30 by omega) (show n < 2 ^ 30 by omega)]
    · unfold isL lk
      simp only [mI_sI, mR_sI, mK_sI, mN_sI, mL_sI, mI_sG, mR_sG, mK_sG, mN_sG, mL_sG, mI_sJ, mR_sJ, mK_sJ, mN_sJ, mL_sJ, mI_sA, mR_sA, mK_sA, mN_sA, mL_sA, z_up, ↓reduceIte, reduceIte, Nat.reduceEqDiff, true_and, and_true, q2, q3, q4, q5]
  · have a3 : nI n + 3 = nI (n + 3) := nI_add n 3
    have a2 : nI n + 2 = nI (n + 2) := nI_add n 2
    have f1 := c_fade (μ := μ) (x := n) (y := n + 3) ha q0 q1 (by omega) (by omega) (by omega) (by omega)
    have f2 := c_wear (μ := sI (sI μ a 0 (nI (l - (n + 3)))) a 1 (nI (g - n))) (a := a) (l := w) (g := s) (x := n) (y := n + 2) ha (by simp only [mI_sI, mR_sI, mK_sI, mN_sI, mL_sI, mI_sG, mR_sG, mK_sG, mN_sG, mL_sG, mI_sJ, mR_sJ, mK_sJ, mN_sJ, mL_sJ, mI_sA, mR_sA, mK_sA, mN_sA, mL_sA, z_up, ↓reduceIte, reduceIte, Nat.reduceEqDiff, true_and, and_true]; exact q2) (by simp only [mI_sI, mR_sI, mK_sI, mN_sI, mL_sI, mI_sG, mR_sG, mK_sG, mN_sG, mL_sG, mI_sJ, mR_sJ, mK_sJ, mN_sJ, mL_sJ, mI_sA, mR_sA, mK_sA, mN_sA, mL_sA, z_up, ↓reduceIte, reduceIte, Nat.reduceEqDiff, true_and, and_true]; exact q3) (by omega) (by omega) (by omega) (by omega)
    have y01 : y = 0 ∨ y = 1 := by omega
    rcases y01 with rfl | rfl
    · have q4 : mI μ a 4 = 0 := q4
      refine ⟨sI (sI (sI (sI μ a 0 (nI (l - (n + 3)))) a 1 (nI (g - n))) a 2 (nI (w - (n + 2)))) a 3 (nI (s - n)), ?_, ?_, Fq_sI (Fq_sI (Fq_sI (Fq_sI (Fq_refl μ) hm) hm) hm) hm⟩
      · simp only [bd_some, p_let_eq, p_ok, mI_sI, mR_sI, mK_sI, mN_sI, mL_sI, mI_sG, mR_sG, mK_sG, mN_sG, mL_sG, mI_sJ, mR_sJ, mK_sJ, mN_sJ, mL_sJ, z_up, ↓reduceIte, and_self, true_and, and_true, false_and, and_false, not_true_eq_false, not_false_eq_true, Nat.reduceEqDiff, i_10, i_20, i_30, w_in, w_need1, w_need0, m_in, m_thr0, m_thr1, tM, aM, nI_1, nI_pred, reduceIte, wp_some, eq_self, bI_T, bI_F, show nI 1 = 1 from rfl, F_X3_take, F_X3_take_c118, sw1, ha, a3, a2, f1, f2, q4]
      · unfold isL lk
        simp only [mI_sI, mR_sI, mK_sI, mN_sI, mL_sI, mI_sG, mR_sG, mK_sG, mN_sG, mL_sG, mI_sJ, mR_sJ, mK_sJ, mN_sJ, mL_sJ, mI_sA, mR_sA, mK_sA, mN_sA, mL_sA, z_up, ↓reduceIte, reduceIte, Nat.reduceEqDiff, true_and, and_true, q4, q5]
        repeat (first | exact rfl | refine ⟨rfl, ?_⟩)
    · have q4 : mI μ a 4 = 1 := q4
      have f3 := c_wear (μ := sI (sI (sI (sI μ a 0 (nI (l - (n + 3)))) a 1 (nI (g - n))) a 2 (nI (w - (n + 2)))) a 3 (nI (s - n))) (a := a) (l := w - (n + 2)) (g := s - n) (x := 5) (y := 5) ha (by simp only [mI_sI, mR_sI, mK_sI, mN_sI, mL_sI, mI_sG, mR_sG, mK_sG, mN_sG, mL_sG, mI_sJ, mR_sJ, mK_sJ, mN_sJ, mL_sJ, mI_sA, mR_sA, mK_sA, mN_sA, mL_sA, z_up, ↓reduceIte, reduceIte, Nat.reduceEqDiff, true_and, and_true]) (by simp only [mI_sI, mR_sI, mK_sI, mN_sI, mL_sI, mI_sG, mR_sG, mK_sG, mN_sG, mL_sG, mI_sJ, mR_sJ, mK_sJ, mN_sJ, mL_sJ, mI_sA, mR_sA, mK_sA, mN_sA, mL_sA, z_up, ↓reduceIte, reduceIte, Nat.reduceEqDiff, true_and, and_true]) (by omega) (by omega) (by omega) (by omega)
      have f3 : F_X3_wear a 5 5 _ = _ := f3
      refine ⟨sI (sI (sI (sI (sI (sI μ a 0 (nI (l - (n + 3)))) a 1 (nI (g - n))) a 2 (nI (w - (n + 2)))) a 3 (nI (s - n))) a 2 (nI (w - (n + 2) - 5))) a 3 (nI (s - n - 5)), ?_, ?_, Fq_sI (Fq_sI (Fq_sI (Fq_sI (Fq_sI (Fq_sI (Fq_refl μ) hm) hm) hm) hm) hm) hm⟩
      · simp only [bd_some, p_let_eq, p_ok, mI_sI, mR_sI, mK_sI, mN_sI, mL_sI, mI_sG, mR_sG, mK_sG, mN_sG, mL_sG, mI_sJ, mR_sJ, mK_sJ, mN_sJ, mL_sJ, z_up, ↓reduceIte, and_self, true_and, and_true, false_and, and_false, not_true_eq_false, not_false_eq_true, Nat.reduceEqDiff, i_10, i_20, i_30, w_in, w_need1, w_need0, m_in, m_thr0, m_thr1, tM, aM, nI_1, nI_pred, reduceIte, wp_some, eq_self, bI_T, bI_F, show nI 1 = 1 from rfl, F_X3_take, F_X3_take_c118, sw1, ha, a3, a2, f1, f2, f3, q4]
      · unfold isL lk
        simp only [mI_sI, mR_sI, mK_sI, mN_sI, mL_sI, mI_sG, mR_sG, mK_sG, mN_sG, mL_sG, mI_sJ, mR_sJ, mK_sJ, mN_sJ, mL_sJ, mI_sA, mR_sA, mK_sA, mN_sA, mL_sA, z_up, ↓reduceIte, reduceIte, Nat.reduceEqDiff, true_and, and_true, q4, q5]
        repeat (first | exact rfl | refine ⟨rfl, ?_⟩)
  · have m2 : 2 * nI n = nI (2 * n) := pk_mul 2 n
    have m3 : 3 * nI n = nI (3 * n) := pk_mul 3 n
    have f1 := c_fade (μ := μ) (x := 2 * n - h) (y := 3 * n - h) ha q0 q1 (by omega) (by omega) (by omega) (by omega)
    have f2 := c_wear (μ := sI (sI μ a 0 (nI (l - (3 * n - h)))) a 1 (nI (g - (2 * n - h)))) (a := a) (l := w) (g := s) (x := 0) (y := n) ha (by simp only [mI_sI, mR_sI, mK_sI, mN_sI, mL_sI, mI_sG, mR_sG, mK_sG, mN_sG, mL_sG, mI_sJ, mR_sJ, mK_sJ, mN_sJ, mL_sJ, mI_sA, mR_sA, mK_sA, mN_sA, mL_sA, z_up, ↓reduceIte, reduceIte, Nat.reduceEqDiff, true_and, and_true]; exact q2) (by simp only [mI_sI, mR_sI, mK_sI, mN_sI, mL_sI, mI_sG, mR_sG, mK_sG, mN_sG, mL_sG, mI_sJ, mR_sJ, mK_sJ, mN_sJ, mL_sJ, mI_sA, mR_sA, mK_sA, mN_sA, mL_sA, z_up, ↓reduceIte, reduceIte, Nat.reduceEqDiff, true_and, and_true]; exact q3) (by omega) (by omega) (by omega) (by omega)
    have f2 : F_X3_wear a 0 (nI n) _ = _ := f2
    refine ⟨sI (sI (sI (sI (sI μ a 0 (nI (l - (3 * n - h)))) a 1 (nI (g - (2 * n - h)))) a 2 (nI (w - n))) a 3 (nI (s - 0))) a 4 1, ?_, ?_, Fq_sI (Fq_sI (Fq_sI (Fq_sI (Fq_sI (Fq_refl μ) hm) hm) hm) hm) hm⟩
    · simp only [bd_some, p_let_eq, p_ok, mI_sI, mR_sI, mK_sI, mN_sI, mL_sI, mI_sG, mR_sG, mK_sG, mN_sG, mL_sG, mI_sJ, mR_sJ, mK_sJ, mN_sJ, mL_sJ, z_up, ↓reduceIte, and_self, true_and, and_true, false_and, and_false, not_true_eq_false, not_false_eq_true, Nat.reduceEqDiff, i_10, i_20, i_30, w_in, w_need1, w_need0, m_in, m_thr0, m_thr1, tM, aM, nI_1, nI_pred, reduceIte, wp_some, eq_self, bI_T, bI_F, show nI 2 = 2 from rfl, F_X3_take, F_X3_take_c118, sw2, i_21, ha, m2, m3, q5, mx (show 2 * n < 2 ^ 30 by omega) (show h < 2 ^ 30 by omega), mx (show 3 * n < 2 ^ 30 by omega) (show h < 2 ^ 30 by omega), f1, f2]
    · unfold isL lk
      simp only [mI_sI, mR_sI, mK_sI, mN_sI, mL_sI, mI_sG, mR_sG, mK_sG, mN_sG, mL_sG, mI_sJ, mR_sJ, mK_sJ, mN_sJ, mL_sJ, mI_sA, mR_sA, mK_sA, mN_sA, mL_sA, z_up, ↓reduceIte, reduceIte, Nat.reduceEqDiff, true_and, and_true, q5]
      repeat (first | exact rfl | refine ⟨rfl, ?_⟩)
  · refine ⟨sI μ a 4 0, ?_, ?_, Fq_sI (Fq_refl μ) hm⟩
    · simp only [bd_some, p_let_eq, p_ok, mI_sI, mR_sI, mK_sI, mN_sI, mL_sI, mI_sG, mR_sG, mK_sG, mN_sG, mL_sG, mI_sJ, mR_sJ, mK_sJ, mN_sJ, mL_sJ, z_up, ↓reduceIte, and_self, true_and, and_true, false_and, and_false, not_true_eq_false, not_false_eq_true, Nat.reduceEqDiff, i_10, i_20, i_30, w_in, w_need1, w_need0, m_in, m_thr0, m_thr1, tM, aM, nI_1, nI_pred, reduceIte, wp_some, eq_self, bI_T, bI_F, show nI 3 = 3 from rfl, F_X3_take, F_X3_take_c118, sw3, ha]
    · unfold isL lk
      simp only [mI_sI, mR_sI, mK_sI, mN_sI, mL_sI, mI_sG, mR_sG, mK_sG, mN_sG, mL_sG, mI_sJ, mR_sJ, mK_sJ, mN_sJ, mL_sJ, mI_sA, mR_sA, mK_sA, mN_sA, mL_sA, z_up, ↓reduceIte, reduceIte, Nat.reduceEqDiff, true_and, and_true, q0, q1, q2, q3, q5]
      repeat (first | exact rfl | refine ⟨rfl, ?_⟩)
/-! the same in the Model's rows -/
theorem m_less {μ : p_M} {k l g x y : Nat} (hk : k + 1 < 240) (e0 : mI μ 74 k = nI l) (e1 : mI μ 74 (k + 1) = nI g) (hl : l < 2 ^ 30) (hg : g < 2 ^ 30) (hx : x < 2 ^ 30) (hy : y < 2 ^ 30) : F_X13_less (nI k) (nI x) (nI y) μ = some (0, sI (sI μ 74 k (nI (l - y))) 74 (k + 1) (nI (g - x))) := by
  have i1 := ix_nI (show k < 240 by omega) (by decide)
  have k1 := nI_clamp (show k < 2 ^ 31 by omega)
  have l1 : k < 240 := by omega
  have i2 := ix_nI hk (by decide)
  have k2 := nI_clamp (show k + 1 < 2 ^ 31 by omega)
  have ne : ¬ k + 1 = k := by omega
  simp only [bd_some, p_let_eq, p_ok, mI_sI, mR_sI, mK_sI, mN_sI, mL_sI, mI_sG, mR_sG, mK_sG, mN_sG, mL_sG, mI_sJ, mR_sJ, mK_sJ, mN_sJ, mL_sJ, z_up, ↓reduceIte, and_self, true_and, and_true, false_and, and_false, not_true_eq_false, not_false_eq_true, Nat.reduceEqDiff, i_10, i_20, i_30, w_in, w_need1, w_need0, m_in, m_thr0, m_thr1, tM, aM, nI_1, nI_pred, reduceIte, wp_some, eq_self, bI_T, bI_F, F_X13_less, i1, k1, l1, i2, k2, hk, e0, e1, ne, mx hl hy, mx hg hx]
theorem m_lk {μ : p_M} {r c h b n : Nat} {L : LK} (hr : r < 48) (hc : c < 6) (hi : isR (mI μ 74) r L) (e13 : mI μ 73 c = nI h) (hL : okL L) (hb : b ≤ 3) (hn : n ≤ 100) (hh : h ≤ 100) : ∃ μ', F_X13_does (nI r) (nI c) (nI b) (nI n) μ = some (0, μ') ∧ isR (mI μ' 74) r (lk h b n L) ∧ (∀ k, k < 5 * r ∨ 5 * r + 5 ≤ k → mI μ' 74 k = mI μ 74 k) ∧ Fq [74] [] μ μ' := by
  obtain ⟨l, g, w, s, y⟩ := L
  obtain ⟨q0, q1, q2, q3, q4⟩ := hi
  obtain ⟨o1, o2, o3, o4, o5⟩ := hL
  dsimp only at *
  have hm : 74 ∈ [74] ∧ 74 ≠ 65 := by decide
  have m5 : 5 * nI r = nI (5 * r) := pk_mul 5 r
  have a2 : nI (5 * r) + 2 = nI (5 * r + 2) := nI_add _ 2
  have a4 : nI (5 * r) + 4 = nI (5 * r + 4) := nI_add _ 4
  have i4 := ix_nI (show 5 * r + 4 < 240 by omega) (by decide)
  have k4 := nI_clamp (show 5 * r + 4 < 2 ^ 31 by omega)
  have l4 : 5 * r + 4 < 240 := by omega
  have ic := ix_nI hc (by decide)
  have kc := nI_clamp (show c < 2 ^ 31 by omega)
  have ne40 : ¬ 5 * r + 4 = 5 * r := by omega
  have ne41 : ¬ 5 * r + 4 = 5 * r + 1 := by omega
  have ne42 : ¬ 5 * r + 4 = 5 * r + 2 := by omega
  have ne43 : ¬ 5 * r + 4 = 5 * r + 3 := by omega
  have ne30 : ¬ 5 * r + 3 = 5 * r := by omega
  have ne31 : ¬ 5 * r + 3 = 5 * r + 1 := by omega
  have ne20 : ¬ 5 * r + 2 = 5 * r := by omega
  have ne21 : ¬ 5 * r + 2 = 5 * r + 1 := by omega
  have ne01 : ¬ 5 * r = 5 * r + 1 := by omega
  have ne02 : ¬ 5 * r = 5 * r + 2 := by omega
  have ne03 : ¬ 5 * r = 5 * r + 3 := by omega
  have ne04 : ¬ 5 * r = 5 * r + 4 := by omega
  have ne12 : ¬ 5 * r + 1 = 5 * r + 2 := by omega
  have ne13 : ¬ 5 * r + 1 = 5 * r + 3 := by omega
  have ne14 : ¬ 5 * r + 1 = 5 * r + 4 := by omega
  have ne23 : ¬ 5 * r + 2 = 5 * r + 3 := by omega
  have ne24 : ¬ 5 * r + 2 = 5 * r + 4 := by omega
  have ne34 : ¬ 5 * r + 3 = 5 * r + 4 := by omega
  rcases b4 hb with rfl | rfl | rfl | rfl
  · have d2 : nI n / 2 = nI (n / 2) := pk_div (d := 2) (by omega) (by decide) (by decide)
    have z2 : ¬ (2 : Int32) = 0 := by decide
    refine ⟨sI (sI μ 74 (5 * r) (nI (l - n))) 74 (5 * r + 1) (nI (g - n / 2)), ?_, ?_, ?_, Fq_sI (Fq_sI (Fq_refl μ) hm) hm⟩
    · simp only [bd_some, p_let_eq, p_ok, mI_sI, mR_sI, mK_sI, mN_sI, mL_sI, mI_sG, mR_sG, mK_sG, mN_sG, mL_sG, mI_sJ, mR_sJ, mK_sJ, mN_sJ, mL_sJ, z_up, ↓reduceIte, and_self, true_and, and_true, false_and, and_false, not_true_eq_false, not_false_eq_true, Nat.reduceEqDiff, i_10, i_20, i_30, w_in, w_need1, w_need0, m_in, m_thr0, m_thr1, tM, aM, nI_1, nI_pred, reduceIte, wp_some, eq_self, bI_T, bI_F, show nI 0 = 0 from rfl, F_X13_does, F_X13_does_c164, sw0, m5, a4, i4, k4, l4, z2, d2, m_less (show 5 * r + 1 < 240 by omega) q0 q1 (show l < 2 ^ 30 by omega) (show g < 2 ^ 30 by omega) (show n / 2 < 2 ^ 30 by omega) (show n < 2 ^ 30 by omega)]
    · unfold isR lk
      simp only [mI_sI, mR_sI, mK_sI, mN_sI, mL_sI, mI_sG, mR_sG, mK_sG, mN_sG, mL_sG, mI_sJ, mR_sJ, mK_sJ, mN_sJ, mL_sJ, mI_sA, mR_sA, mK_sA, mN_sA, mL_sA, z_up, ↓reduceIte, reduceIte, Nat.reduceEqDiff, true_and, and_true, q2, q3, q4, ne01, ne20, ne21, ne30, ne31, ne40, ne41]
    · intro k hk
      simp only [mI_sI, mR_sI, mK_sI, mN_sI, mL_sI, mI_sG, mR_sG, mK_sG, mN_sG, mL_sG, mI_sJ, mR_sJ, mK_sJ, mN_sJ, mL_sJ, mI_sA, mR_sA, mK_sA, mN_sA, mL_sA, z_up, ↓reduceIte, reduceIte, Nat.reduceEqDiff, true_and, and_true]
      rw [if_neg (show ¬ k = 5 * r + 1 by omega), if_neg (show ¬ k = 5 * r by omega)]
  · have a3 : nI n + 3 = nI (n + 3) := nI_add n 3
    have a2n : nI n + 2 = nI (n + 2) := nI_add n 2
    have y5 : nI y * 5 = nI (5 * y) := by rw [show (5 : Int32) = nI 5 from rfl, pk_mul, Nat.mul_comm]
    have s1 : nI n + nI (5 * y) = nI (n + 5 * y) := nI_add _ _
    have s2 : nI (n + 2) + nI (5 * y) = nI (n + 2 + 5 * y) := nI_add _ _
    have f1 := m_less (μ := μ) (x := n) (y := n + 3) (show 5 * r + 1 < 240 by omega) q0 q1 (by omega) (by omega) (by omega) (by omega)
    have f2 := m_less (μ := sI (sI μ 74 (5 * r) (nI (l - (n + 3)))) 74 (5 * r + 1) (nI (g - n))) (l := w) (g := s) (x := n + 5 * y) (y := n + 2 + 5 * y) (show 5 * r + 2 + 1 < 240 by omega) (by simp only [mI_sI, mR_sI, mK_sI, mN_sI, mL_sI, mI_sG, mR_sG, mK_sG, mN_sG, mL_sG, mI_sJ, mR_sJ, mK_sJ, mN_sJ, mL_sJ, mI_sA, mR_sA, mK_sA, mN_sA, mL_sA, z_up, ↓reduceIte, reduceIte, Nat.reduceEqDiff, true_and, and_true, ne21, ne20]; exact q2) (by simp only [mI_sI, mR_sI, mK_sI, mN_sI, mL_sI, mI_sG, mR_sG, mK_sG, mN_sG, mL_sG, mI_sJ, mR_sJ, mK_sJ, mN_sJ, mL_sJ, mI_sA, mR_sA, mK_sA, mN_sA, mL_sA, z_up, ↓reduceIte, reduceIte, Nat.reduceEqDiff, true_and, and_true, ne31, ne30]; exact q3) (by omega) (by omega) (by omega) (by omega)
    refine ⟨sI (sI (sI (sI μ 74 (5 * r) (nI (l - (n + 3)))) 74 (5 * r + 1) (nI (g - n))) 74 (5 * r + 2) (nI (w - (n + 2 + 5 * y)))) 74 (5 * r + 3) (nI (s - (n + 5 * y))), ?_, ?_, ?_, Fq_sI (Fq_sI (Fq_sI (Fq_sI (Fq_refl μ) hm) hm) hm) hm⟩
    · simp only [bd_some, p_let_eq, p_ok, mI_sI, mR_sI, mK_sI, mN_sI, mL_sI, mI_sG, mR_sG, mK_sG, mN_sG, mL_sG, mI_sJ, mR_sJ, mK_sJ, mN_sJ, mL_sJ, z_up, ↓reduceIte, and_self, true_and, and_true, false_and, and_false, not_true_eq_false, not_false_eq_true, Nat.reduceEqDiff, i_10, i_20, i_30, w_in, w_need1, w_need0, m_in, m_thr0, m_thr1, tM, aM, nI_1, nI_pred, reduceIte, wp_some, eq_self, bI_T, bI_F, show nI 1 = 1 from rfl, F_X13_does, F_X13_does_c164, sw1, m5, a2, a4, i4, k4, l4, q4, a3, a2n, y5, s1, s2, f1, f2]
    · unfold isR lk
      simp only [mI_sI, mR_sI, mK_sI, mN_sI, mL_sI, mI_sG, mR_sG, mK_sG, mN_sG, mL_sG, mI_sJ, mR_sJ, mK_sJ, mN_sJ, mL_sJ, mI_sA, mR_sA, mK_sA, mN_sA, mL_sA, z_up, ↓reduceIte, reduceIte, Nat.reduceEqDiff, true_and, and_true, q4, ne01, ne02, ne03, ne12, ne13, ne23, ne40, ne41, ne42, ne43]
      refine ⟨?_, ?_⟩
      · show nI (w - (n + 2 + 5 * y)) = nI (w - (n + 2) - 5 * y); congr 1; omega
      · show nI (s - (n + 5 * y)) = nI (s - n - 5 * y); congr 1; omega
    · intro k hk
      simp only [mI_sI, mR_sI, mK_sI, mN_sI, mL_sI, mI_sG, mR_sG, mK_sG, mN_sG, mL_sG, mI_sJ, mR_sJ, mK_sJ, mN_sJ, mL_sJ, mI_sA, mR_sA, mK_sA, mN_sA, mL_sA, z_up, ↓reduceIte, reduceIte, Nat.reduceEqDiff, true_and, and_true]
      rw [if_neg (show ¬ k = 5 * r + 3 by omega), if_neg (show ¬ k = 5 * r + 2 by omega), if_neg (show ¬ k = 5 * r + 1 by omega), if_neg (show ¬ k = 5 * r by omega)]
  · have m2 : 2 * nI n = nI (2 * n) := pk_mul 2 n
    have m3 : 3 * nI n = nI (3 * n) := pk_mul 3 n
    have f1 := m_less (μ := μ) (x := 2 * n - h) (y := 3 * n - h) (show 5 * r + 1 < 240 by omega) q0 q1 (by omega) (by omega) (by omega) (by omega)
    have f2 := m_less (μ := sI (sI μ 74 (5 * r) (nI (l - (3 * n - h)))) 74 (5 * r + 1) (nI (g - (2 * n - h)))) (l := w) (g := s) (x := 0) (y := n) (show 5 * r + 2 + 1 < 240 by omega) (by simp only [mI_sI, mR_sI, mK_sI, mN_sI, mL_sI, mI_sG, mR_sG, mK_sG, mN_sG, mL_sG, mI_sJ, mR_sJ, mK_sJ, mN_sJ, mL_sJ, mI_sA, mR_sA, mK_sA, mN_sA, mL_sA, z_up, ↓reduceIte, reduceIte, Nat.reduceEqDiff, true_and, and_true, ne21, ne20]; exact q2) (by simp only [mI_sI, mR_sI, mK_sI, mN_sI, mL_sI, mI_sG, mR_sG, mK_sG, mN_sG, mL_sG, mI_sJ, mR_sJ, mK_sJ, mN_sJ, mL_sJ, mI_sA, mR_sA, mK_sA, mN_sA, mL_sA, z_up, ↓reduceIte, reduceIte, Nat.reduceEqDiff, true_and, and_true, ne31, ne30]; exact q3) (by omega) (by omega) (by omega) (by omega)
    have f2 : F_X13_less (nI (5 * r + 2)) 0 (nI n) _ = _ := f2
    refine ⟨sI (sI (sI (sI (sI μ 74 (5 * r) (nI (l - (3 * n - h)))) 74 (5 * r + 1) (nI (g - (2 * n - h)))) 74 (5 * r + 2) (nI (w - n))) 74 (5 * r + 3) (nI (s - 0))) 74 (5 * r + 4) 1, ?_, ?_, ?_, Fq_sI (Fq_sI (Fq_sI (Fq_sI (Fq_sI (Fq_refl μ) hm) hm) hm) hm) hm⟩
    · simp only [bd_some, p_let_eq, p_ok, mI_sI, mR_sI, mK_sI, mN_sI, mL_sI, mI_sG, mR_sG, mK_sG, mN_sG, mL_sG, mI_sJ, mR_sJ, mK_sJ, mN_sJ, mL_sJ, z_up, ↓reduceIte, and_self, true_and, and_true, false_and, and_false, not_true_eq_false, not_false_eq_true, Nat.reduceEqDiff, i_10, i_20, i_30, w_in, w_need1, w_need0, m_in, m_thr0, m_thr1, tM, aM, nI_1, nI_pred, reduceIte, wp_some, eq_self, bI_T, bI_F, show nI 2 = 2 from rfl, F_X13_does, F_X13_does_c164, sw2, i_21, m5, a2, a4, i4, k4, l4, ic, kc, hc, m2, m3, e13, mx (show 2 * n < 2 ^ 30 by omega) (show h < 2 ^ 30 by omega), mx (show 3 * n < 2 ^ 30 by omega) (show h < 2 ^ 30 by omega), f1, f2]
    · unfold isR lk
      simp only [mI_sI, mR_sI, mK_sI, mN_sI, mL_sI, mI_sG, mR_sG, mK_sG, mN_sG, mL_sG, mI_sJ, mR_sJ, mK_sJ, mN_sJ, mL_sJ, mI_sA, mR_sA, mK_sA, mN_sA, mL_sA, z_up, ↓reduceIte, reduceIte, Nat.reduceEqDiff, true_and, and_true, ne01, ne02, ne03, ne04, ne12, ne13, ne14, ne23, ne24, ne34]
      repeat (first | exact rfl | refine ⟨rfl, ?_⟩)
    · intro k hk
      simp only [mI_sI, mR_sI, mK_sI, mN_sI, mL_sI, mI_sG, mR_sG, mK_sG, mN_sG, mL_sG, mI_sJ, mR_sJ, mK_sJ, mN_sJ, mL_sJ, mI_sA, mR_sA, mK_sA, mN_sA, mL_sA, z_up, ↓reduceIte, reduceIte, Nat.reduceEqDiff, true_and, and_true]
      rw [if_neg (show ¬ k = 5 * r + 4 by omega), if_neg (show ¬ k = 5 * r + 3 by omega), if_neg (show ¬ k = 5 * r + 2 by omega), if_neg (show ¬ k = 5 * r + 1 by omega), if_neg (show ¬ k = 5 * r by omega)]
  · refine ⟨sI μ 74 (5 * r + 4) 0, ?_, ?_, ?_, Fq_sI (Fq_refl μ) hm⟩
    · simp only [bd_some, p_let_eq, p_ok, mI_sI, mR_sI, mK_sI, mN_sI, mL_sI, mI_sG, mR_sG, mK_sG, mN_sG, mL_sG, mI_sJ, mR_sJ, mK_sJ, mN_sJ, mL_sJ, z_up, ↓reduceIte, and_self, true_and, and_true, false_and, and_false, not_true_eq_false, not_false_eq_true, Nat.reduceEqDiff, i_10, i_20, i_30, w_in, w_need1, w_need0, m_in, m_thr0, m_thr1, tM, aM, nI_1, nI_pred, reduceIte, wp_some, eq_self, bI_T, bI_F, show nI 3 = 3 from rfl, F_X13_does, F_X13_does_c164, sw3, m5, a4, i4, k4, l4]
    · unfold isR lk
      simp only [mI_sI, mR_sI, mK_sI, mN_sI, mL_sI, mI_sG, mR_sG, mK_sG, mN_sG, mL_sG, mI_sJ, mR_sJ, mK_sJ, mN_sJ, mL_sJ, mI_sA, mR_sA, mK_sA, mN_sA, mL_sA, z_up, ↓reduceIte, reduceIte, Nat.reduceEqDiff, true_and, and_true, q0, q1, q2, q3, ne04, ne14, ne24, ne34]
      repeat (first | exact rfl | refine ⟨rfl, ?_⟩)
    · intro k hk
      simp only [mI_sI, mR_sI, mK_sI, mN_sI, mL_sI, mI_sG, mR_sG, mK_sG, mN_sG, mL_sG, mI_sJ, mR_sJ, mK_sJ, mN_sJ, mL_sJ, mI_sA, mR_sA, mK_sA, mN_sA, mL_sA, z_up, ↓reduceIte, reduceIte, Nat.reduceEqDiff, true_and, and_true]
      rw [if_neg (show ¬ k = 5 * r + 4 by omega)]
