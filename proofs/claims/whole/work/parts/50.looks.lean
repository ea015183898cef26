/-! look, meets -/
theorem c_copy {μ : p_M} {a c h : Nat} {L : LK} (ha : mK μ a = 4 ∧ a < mN μ) (hc : mK μ c = 4 ∧ c < mN μ) (h65 : a ≠ 65) (ne : c ≠ a) (hi : isL (mI μ c) L h) (hL : okL L) : ∃ μ', F_X3_copy a c μ = some (0, μ') ∧ isL (mI μ' a) L h ∧ Fq [a] [] μ μ' := by
  obtain ⟨l, g, w, s, y⟩ := L
  obtain ⟨q0, q1, q2, q3, q4, q5⟩ := hi
  obtain ⟨o1, o2, o3, o4, o5⟩ := hL
  dsimp only at *
  have hm : a ∈ [a] ∧ a ≠ 65 := ⟨List.mem_singleton.mpr rfl, h65⟩
  have y01 : nI y = 0 ∨ nI y = 1 := by
    have : y = 0 ∨ y = 1 := by omega
    rcases this with rfl | rfl
    · exact Or.inl rfl
    · exact Or.inr rfl
  have ne : (c = a) = False := eq_false ne
  refine ⟨sI (sI (sI (sI (sI (sI μ a 0 (nI l)) a 1 (nI g)) a 2 (nI w)) a 3 (nI s)) a 4 (nI y)) a 5 (nI h), ?_, ?_, Fq_sI (Fq_sI (Fq_sI (Fq_sI (Fq_sI (Fq_sI (Fq_refl μ) hm) hm) hm) hm) hm) hm⟩
  · simp only [bd_some, p_let_eq, p_ok, mI_sI, mR_sI, mK_sI, mN_sI, mL_sI, mI_sG, mR_sG, mK_sG, mN_sG, mL_sG, mI_sJ, mR_sJ, mK_sJ, mN_sJ, mL_sJ, z_up, ↓reduceIte, and_self, true_and, and_true, false_and, and_false, not_true_eq_false, not_false_eq_true, Nat.reduceEqDiff, i_10, i_20, i_30, w_in, w_need1, w_need0, m_in, m_thr0, m_thr1, tM, aM, nI_1, nI_pred, reduceIte, wp_some, eq_self, bI_T, bI_F, F_X3_copy, ha, hc, ne, q0, q1, q2, q3, q4, q5, y01]
  · unfold isL
    simp only [mI_sI, mR_sI, mK_sI, mN_sI, mL_sI, mI_sG, mR_sG, mK_sG, mN_sG, mL_sG, mI_sJ, mR_sJ, mK_sJ, mN_sJ, mL_sJ, mI_sA, mR_sA, mK_sA, mN_sA, mL_sA, z_up, ↓reduceIte, reduceIte, Nat.reduceEqDiff, true_and, and_true]
    repeat (first | exact rfl | refine ⟨rfl, ?_⟩)
theorem m_begins {μ : p_M} {r c x y : Nat} (hr : r < 48) (hc : c < 6) (e1 : mI μ 71 c = nI x) (e2 : mI μ 72 c = nI y) : ∃ μ', F_X13_begins (nI r) (nI c) μ = some (0, μ') ∧ isR (mI μ' 74) r (x, x, y, y, 0) ∧ (∀ k, k < 5 * r ∨ 5 * r + 5 ≤ k → mI μ' 74 k = mI μ 74 k) ∧ Fq [74] [] μ μ' := by
  have hm : 74 ∈ [74] ∧ 74 ≠ 65 := by decide
  have m5 : 5 * nI r = nI (5 * r) := pk_mul 5 r
  have a1 : nI (5 * r) + 1 = nI (5 * r + 1) := nI_add _ 1
  have a2 : nI (5 * r) + 2 = nI (5 * r + 2) := nI_add _ 2
  have a3 : nI (5 * r) + 3 = nI (5 * r + 3) := nI_add _ 3
  have a4 : nI (5 * r) + 4 = nI (5 * r + 4) := nI_add _ 4
  have i0 := ix_nI (show 5 * r < 240 by omega) (by decide)
  have i1 := ix_nI (show 5 * r + 1 < 240 by omega) (by decide)
  have i2 := ix_nI (show 5 * r + 2 < 240 by omega) (by decide)
  have i3 := ix_nI (show 5 * r + 3 < 240 by omega) (by decide)
  have i4 := ix_nI (show 5 * r + 4 < 240 by omega) (by decide)
  have k0 := nI_clamp (show 5 * r < 2 ^ 31 by omega)
  have k1 := nI_clamp (show 5 * r + 1 < 2 ^ 31 by omega)
  have k2 := nI_clamp (show 5 * r + 2 < 2 ^ 31 by omega)
  have k3 := nI_clamp (show 5 * r + 3 < 2 ^ 31 by omega)
  have k4 := nI_clamp (show 5 * r + 4 < 2 ^ 31 by omega)
  have l0 : 5 * r < 240 := by omega
  have l1 : 5 * r + 1 < 240 := by omega
  have l2 : 5 * r + 2 < 240 := by omega
  have l3 : 5 * r + 3 < 240 := by omega
  have l4 : 5 * r + 4 < 240 := by omega
  have ic := ix_nI hc (by decide)
  have kc := nI_clamp (show c < 2 ^ 31 by omega)
  have ne01 : ¬ 5 * r = 5 * r + 1 := by omega
  have ne02 : ¬ 5 * r = 5 * r + 2 := by omega
  have ne03 : ¬ 5 * r = 5 * r + 3 := by omega
  have ne04 : ¬ 5 * r = 5 * r + 4 := by omega
  have ne12 : ¬ 5 * r + 1 = 5 * r + 2 := by omega
  have ne13 : ¬ 5 * r + 1 = 5 * r + 3 := by omega
  have ne14 : ¬ 5 * r + 1 = 5 * r + 4 := by omega
  have ne23 : ¬ 5 * r + 2 = 5 * r + 3 := by omega
  have ne24 : ¬ 5 * r + 2 = 5 * r + 4 := by omega
  have ne34 : ¬ 5 * r + 3 = 5 * r + 4 := by omega
  refine ⟨sI (sI (sI (sI (sI μ 74 (5 * r) (nI x)) 74 (5 * r + 1) (nI x)) 74 (5 * r + 2) (nI y)) 74 (5 * r + 3) (nI y)) 74 (5 * r + 4) 0, ?_, ?_, ?_, Fq_sI (Fq_sI (Fq_sI (Fq_sI (Fq_sI (Fq_refl μ) hm) hm) hm) hm) hm⟩
  · simp only [bd_some, p_let_eq, p_ok, mI_sI, mR_sI, mK_sI, mN_sI, mL_sI, mI_sG, mR_sG, mK_sG, mN_sG, mL_sG, mI_sJ, mR_sJ, mK_sJ, mN_sJ, mL_sJ, z_up, ↓reduceIte, and_self, true_and, and_true, false_and, and_false, not_true_eq_false, not_false_eq_true, Nat.reduceEqDiff, i_10, i_20, i_30, w_in, w_need1, w_need0, m_in, m_thr0, m_thr1, tM, aM, nI_1, nI_pred, reduceIte, wp_some, eq_self, bI_T, bI_F, F_X13_begins, m5, a1, a2, a3, a4, i0, i1, i2, i3, i4, k0, k1, k2, k3, k4, l0, l1, l2, l3, l4, ic, kc, hc, e1, e2]
  · unfold isR
    simp only [mI_sI, mR_sI, mK_sI, mN_sI, mL_sI, mI_sG, mR_sG, mK_sG, mN_sG, mL_sG, mI_sJ, mR_sJ, mK_sJ, mN_sJ, mL_sJ, mI_sA, mR_sA, mK_sA, mN_sA, mL_sA, z_up, ↓reduceIte, reduceIte, Nat.reduceEqDiff, true_and, and_true, ne01, ne02, ne03, ne04, ne12, ne13, ne14, ne23, ne24, ne34]
    repeat (first | exact rfl | refine ⟨rfl, ?_⟩)
  · intro k hk
    simp only [mI_sI, mR_sI, mK_sI, mN_sI, mL_sI, mI_sG, mR_sG, mK_sG, mN_sG, mL_sG, mI_sJ, mR_sJ, mK_sJ, mN_sJ, mL_sJ, mI_sA, mR_sA, mK_sA, mN_sA, mL_sA, z_up, ↓reduceIte, reduceIte, Nat.reduceEqDiff, true_and, and_true]
    rw [if_neg (show ¬ k = 5 * r + 4 by omega), if_neg (show ¬ k = 5 * r + 3 by omega), if_neg (show ¬ k = 5 * r + 2 by omega), if_neg (show ¬ k = 5 * r + 1 by omega), if_neg (show ¬ k = 5 * r by omega)]
def partL (L : LK) (w : Nat) : Nat := if w = 0 then L.1 else if w = 1 then L.2.1 else if w = 2 then L.2.2.1 else if w = 3 then L.2.2.2.1 else L.2.2.2.2
theorem b5 {b : Nat} (h : b ≤ 4) : b = 0 ∨ b = 1 ∨ b = 2 ∨ b = 3 ∨ b = 4 := by omega
theorem c_part {μ : p_M} {a h w : Nat} {L : LK} (ha : mK μ a = 4 ∧ a < mN μ) (hi : isL (mI μ a) L h) (hL : okL L) (hw : w ≤ 4) : F_X3_part a (nI w) μ = some (nI (partL L w), μ) := by
  obtain ⟨l, g, v, s, y⟩ := L
  obtain ⟨q0, q1, q2, q3, q4, q5⟩ := hi
  obtain ⟨o1, o2, o3, o4, o5⟩ := hL
  dsimp only at *
  have t0 : ¬ ((0 : Int32).toInt < 0 ∨ 3 < (0 : Int32).toInt) := by decide
  have t1 : ¬ ((1 : Int32).toInt < 0 ∨ 3 < (1 : Int32).toInt) := by decide
  have t2 : ¬ ((2 : Int32).toInt < 0 ∨ 3 < (2 : Int32).toInt) := by decide
  have t3 : ¬ ((3 : Int32).toInt < 0 ∨ 3 < (3 : Int32).toInt) := by decide
  have t4 : ((4 : Int32).toInt < 0 ∨ 3 < (4 : Int32).toInt) := by decide
  rcases b5 hw with rfl | rfl | rfl | rfl | rfl
  · simp only [bd_some, p_let_eq, p_ok, mI_sI, mR_sI, mK_sI, mN_sI, mL_sI, mI_sG, mR_sG, mK_sG, mN_sG, mL_sG, mI_sJ, mR_sJ, mK_sJ, mN_sJ, mL_sJ, z_up, ↓reduceIte, and_self, true_and, and_true, false_and, and_false, not_true_eq_false, not_false_eq_true, Nat.reduceEqDiff, i_10, i_20, i_30, w_in, w_need1, w_need0, m_in, m_thr0, m_thr1, tM, aM, nI_1, nI_pred, reduceIte, wp_some, eq_self, bI_T, bI_F, show nI 0 = 0 from rfl, F_X3_part, t0, ha, q0, partL]
  · simp only [bd_some, p_let_eq, p_ok, mI_sI, mR_sI, mK_sI, mN_sI, mL_sI, mI_sG, mR_sG, mK_sG, mN_sG, mL_sG, mI_sJ, mR_sJ, mK_sJ, mN_sJ, mL_sJ, z_up, ↓reduceIte, and_self, true_and, and_true, false_and, and_false, not_true_eq_false, not_false_eq_true, Nat.reduceEqDiff, i_10, i_20, i_30, w_in, w_need1, w_need0, m_in, m_thr0, m_thr1, tM, aM, nI_1, nI_pred, reduceIte, wp_some, eq_self, bI_T, bI_F, show nI 1 = 1 from rfl, F_X3_part, t1, ha, q1, partL]
  · simp only [bd_some, p_let_eq, p_ok, mI_sI, mR_sI, mK_sI, mN_sI, mL_sI, mI_sG, mR_sG, mK_sG, mN_sG, mL_sG, mI_sJ, mR_sJ, mK_sJ, mN_sJ, mL_sJ, z_up, ↓reduceIte, and_self, true_and, and_true, false_and, and_false, not_true_eq_false, not_false_eq_true, Nat.reduceEqDiff, i_10, i_20, i_30, w_in, w_need1, w_need0, m_in, m_thr0, m_thr1, tM, aM, nI_1, nI_pred, reduceIte, wp_some, eq_self, bI_T, bI_F, show nI 2 = 2 from rfl, F_X3_part, t2, i_21, ha, q2, partL]
  · simp only [bd_some, p_let_eq, p_ok, mI_sI, mR_sI, mK_sI, mN_sI, mL_sI, mI_sG, mR_sG, mK_sG, mN_sG, mL_sG, mI_sJ, mR_sJ, mK_sJ, mN_sJ, mL_sJ, z_up, ↓reduceIte, and_self, true_and, and_true, false_and, and_false, not_true_eq_false, not_false_eq_true, Nat.reduceEqDiff, i_10, i_20, i_30, w_in, w_need1, w_need0, m_in, m_thr0, m_thr1, tM, aM, nI_1, nI_pred, reduceIte, wp_some, eq_self, bI_T, bI_F, show nI 3 = 3 from rfl, F_X3_part, t3, i_31, i_32, ha, q3, partL]
  · have : y = 0 ∨ y = 1 := by omega
    rcases this with rfl | rfl
    · have q4 : mI μ a 4 = 0 := q4
      simp only [bd_some, p_let_eq, p_ok, mI_sI, mR_sI, mK_sI, mN_sI, mL_sI, mI_sG, mR_sG, mK_sG, mN_sG, mL_sG, mI_sJ, mR_sJ, mK_sJ, mN_sJ, mL_sJ, z_up, ↓reduceIte, and_self, true_and, and_true, false_and, and_false, not_true_eq_false, not_false_eq_true, Nat.reduceEqDiff, i_10, i_20, i_30, w_in, w_need1, w_need0, m_in, m_thr0, m_thr1, tM, aM, nI_1, nI_pred, reduceIte, wp_some, eq_self, bI_T, bI_F, show nI 4 = 4 from rfl, F_X3_part, F_X3_part_c64, t4, ha, q4, partL]
      rfl
    · have q4 : mI μ a 4 = 1 := q4
      simp only [bd_some, p_let_eq, p_ok, mI_sI, mR_sI, mK_sI, mN_sI, mL_sI, mI_sG, mR_sG, mK_sG, mN_sG, mL_sG, mI_sJ, mR_sJ, mK_sJ, mN_sJ, mL_sJ, z_up, ↓reduceIte, and_self, true_and, and_true, false_and, and_false, not_true_eq_false, not_false_eq_true, Nat.reduceEqDiff, i_10, i_20, i_30, w_in, w_need1, w_need0, m_in, m_thr0, m_thr1, tM, aM, nI_1, nI_pred, reduceIte, wp_some, eq_self, bI_T, bI_F, show nI 4 = 4 from rfl, F_X3_part, F_X3_part_c64, t4, ha, q4, partL]
      rfl
theorem r_part {f : Nat → Int32} {r w : Nat} {L : LK} (hi : isR f r L) (hw : w ≤ 4) : f (5 * r + w) = nI (partL L w) := by
  obtain ⟨q0, q1, q2, q3, q4⟩ := hi
  rcases b5 hw with rfl | rfl | rfl | rfl | rfl
  · exact q0
  · exact q1
  · exact q2
  · exact q3
  · exact q4
/-- what is met -/
def mtc (L : LK) (x y z : Int32) : Int32 := if nI L.1 < x then 0 else if y < nI L.2.1 then 0 else if nI L.2.2.1 < z then 0 else if nI L.2.2.2.2 = 0 then 1 else 0
theorem c_meets {μ : p_M} {a h : Nat} {L : LK} (ha : mK μ a = 4 ∧ a < mN μ) (hi : isL (mI μ a) L h) (x y z : Int32) : F_X3_surelyMeets a x y z μ = some (mtc L x y z, μ) := by
  obtain ⟨q0, q1, q2, q3, q4, q5⟩ := hi
  unfold mtc F_X3_surelyMeets
  rw [q0, q1, q2, q4]
  simp only [p_ok, ha, and_self, ↓reduceIte]
  split
  · rfl
  · split
    · rfl
    · split
      · rfl
      · split
        · first | rfl | (rename_i c; rw [if_neg c]; rfl)
        · first | rfl | (rename_i c; rw [if_pos (Decidable.not_not.mp c)]; rfl)
theorem mtc01 (L : LK) (x y z : Int32) : mtc L x y z = 0 ∨ mtc L x y z = 1 := by
  unfold mtc
  split
  · exact Or.inl rfl
  · split
    · exact Or.inl rfl
    · split
      · exact Or.inl rfl
      · split
        · exact Or.inr rfl
        · exact Or.inl rfl
theorem m_meets {μ : p_M} {r : Nat} {L : LK} (hr : r < 48) (hi : isR (mI μ 74) r L) (x y z : Int32) : F_X13_meetsIt (nI r) x y z μ = some (mtc L x y z, μ) := by
  obtain ⟨q0, q1, q2, q3, q4⟩ := hi
  have m5 : 5 * nI r = nI (5 * r) := pk_mul 5 r
  have a1 : nI (5 * r) + 1 = nI (5 * r + 1) := nI_add _ 1
  have a2 : nI (5 * r) + 2 = nI (5 * r + 2) := nI_add _ 2
  have a4 : nI (5 * r) + 4 = nI (5 * r + 4) := nI_add _ 4
  have i0 := ix_nI (show 5 * r < 240 by omega) (by decide)
  have i1 := ix_nI (show 5 * r + 1 < 240 by omega) (by decide)
  have i2 := ix_nI (show 5 * r + 2 < 240 by omega) (by decide)
  have i4 := ix_nI (show 5 * r + 4 < 240 by omega) (by decide)
  have k0 := nI_clamp (show 5 * r < 2 ^ 31 by omega)
  have k1 := nI_clamp (show 5 * r + 1 < 2 ^ 31 by omega)
  have k2 := nI_clamp (show 5 * r + 2 < 2 ^ 31 by omega)
  have k4 := nI_clamp (show 5 * r + 4 < 2 ^ 31 by omega)
  have l0 : 5 * r < 240 := by omega
  have l1 : 5 * r + 1 < 240 := by omega
  have l2 : 5 * r + 2 < 240 := by omega
  have l4 : 5 * r + 4 < 240 := by omega
  unfold mtc F_X13_meetsIt
  simp only [m5, a1, a2, a4, aM, Nat.reduceAdd, p_ok, i0, i1, i2, i4, and_self, true_and, not_false_eq_true, ↓reduceIte, k0, k1, k2, k4, l0, l1, l2, l4]
  simp only [q0, q1, q2, q4]
  split
  · rfl
  · split
    · rfl
    · split
      · rfl
      · split
        · first | rfl | (rename_i c; rw [if_neg c]; rfl)
        · first | rfl | (rename_i c; rw [if_pos (Decidable.not_not.mp c)]; rfl)
abbrev wish (a b c : Int32) : Prop := 0 ≤ a ∧ a ≤ b ∧ b ≤ 255 ∧ 0 ≤ c ∧ c ≤ 255
theorem w_wish (a b c : Int32) (μ : p_M) : F_X12_needWish a b c μ = if wish a b c then some (0, 0, μ) else some (1, 0, sG μ 1 6) := by
  unfold wish F_X12_needWish F_X12_needWish_c32 F_X12_needWish_c33
  by_cases h1 : 0 ≤ a
  · rw [if_neg (i_nlt.mpr h1)]
    by_cases h2 : a ≤ b
    · rw [if_neg (i_nlt.mpr h2)]
      by_cases h3 : b ≤ 255
      · rw [if_neg (i_nlt.mpr h3), w_in]
        by_cases h4 : 0 ≤ c ∧ c ≤ 255
        · rw [bI_pos h4, if_pos ⟨h1, h2, h3, h4⟩]; rfl
        · rw [bI_neg h4, if_neg (fun e => h4 e.2.2.2)]; rfl
      · rw [if_pos (i_nle.mp h3), if_neg (fun e => h3 e.2.2.1)]; rfl
    · rw [if_pos (i_nle.mp h2), if_neg (fun e => h2 e.2.1)]; rfl
  · rw [if_pos (i_nle.mp h1), if_neg (fun e => h1 e.1)]; rfl
theorem m_noWish (a b c : Int32) (μ : p_M) : F_X13_noWish a b c μ = some (bI (¬ wish a b c), μ) := by
  by_cases h : wish a b c
  · rw [bI_neg (fun e => e h)]
    obtain ⟨h1, h2, h3, h4⟩ := h
    unfold F_X13_noWish F_X13_noWish_c27 F_X13_noWish_c32
    rw [if_neg (i_nlt.mpr h1), if_neg (i_nlt.mpr h2), if_neg (i_nlt.mpr h3), m_in, bI_pos h4]; rfl
  · rw [bI_pos h]
    unfold wish at h
    unfold F_X13_noWish F_X13_noWish_c27 F_X13_noWish_c32
    by_cases h1 : 0 ≤ a
    · rw [if_neg (i_nlt.mpr h1)]
      by_cases h2 : a ≤ b
      · rw [if_neg (i_nlt.mpr h2)]
        by_cases h3 : b ≤ 255
        · rw [if_neg (i_nlt.mpr h3), m_in, bI_neg (fun e => h ⟨h1, h2, h3, e⟩)]; rfl
        · rw [if_pos (i_nle.mp h3)]; rfl
      · rw [if_pos (i_nle.mp h2)]; rfl
    · rw [if_pos (i_nle.mp h1)]; rfl
theorem m_noCloth (v : Int32) (μ : p_M) : F_X13_noCloth v μ = some (bI (¬ (0 ≤ v ∧ v ≤ mI μ 65 14 - 1)), μ) := by
  unfold F_X13_noCloth F_X13_noCloth_c19 tM
  rw [m_in]
  by_cases h : 0 ≤ v ∧ v ≤ mI μ 65 14 - 1
  · rw [bI_pos h, bI_neg (fun e => e h)]; rfl
  · rw [bI_neg h, bI_pos h]; rfl
/-- the recipe tried on a cloth, on both sides -/
theorem b_tries {μ : p_M} (hS : Sh μ) (hC : RCloth μ) (hR : RRec μ) {n j q q2 : Nat} (en : mI μ 0 2 = nI n) (hn : n ≤ 6) (hj : j < n) (hq : q < 2 ^ 31) (hq2 : q2 < 2 ^ 31) (hqq : ∀ m, m ≤ 20 → mI μ 68 40 = nI m → min q m = min q2 m) : ∃ (L : LK) (h : Nat) (μ1 : p_M), okL L ∧ F_X12_tryRecipe 0 (nI j) (nI q) μ = some (0, μ1) ∧ isL (mI μ1 14) L h ∧ Fq [14] [] μ μ1 ∧ ∀ μ0, Fr [14] [0] μ μ0 → ∃ μ2, F_X13_tries (nI j) (nI q2) μ0 = some (0, μ2) ∧ isR (mI μ2 74) 40 L ∧ (∀ k, k < 200 ∨ 205 ≤ k → mI μ2 74 k = mI μ0 74 k) ∧ Fq [74] [] μ0 μ2 := by
  obtain ⟨n', hn', e1, e2, e3⟩ := hC
  have : n' = n := by
    rw [en] at e1
    exact ((nI_eq (by omega) (by omega)).mp e1).symm
  subst this
  obtain ⟨x, y, z, hx, hy, hz, g1, g2, g3, g4⟩ := e3 j hj
  rw [cf_eq (show j < 6 by omega)] at g4
  obtain ⟨R, B, A, m, hm, h3, hi, hc, e, hD⟩ := rec_get hS hR
  have ok0 : okL (x, x, y, y, 0) := ⟨hx, hx, hy, hy, Nat.zero_le 1⟩
  obtain ⟨μ1, p1, p2, p3⟩ := c_copy (μ := μ) (a := 14) (c := 51 + j) (s_o14 hS) (s_o51v hS (by omega)) (by decide) (by omega) g4 ok0
  have hd : ∀ a, a ≠ 14 → a ≠ 65 → mI μ1 a = mI μ a := fun a ha hb => p3.2.1 a hb (fun e => ha (List.mem_singleton.mp e))
  have hS1 := Sh_q p3 hS
  have hRBA : R ≠ 14 ∧ B ≠ 14 ∧ A ≠ 14 ∧ R ≠ 65 ∧ B ≠ 65 ∧ A ≠ 65 := by omega
  obtain ⟨μ2, t1, t2, t3, t4⟩ := c_tries (R := R) (B := B) (A := A) (n := m) (h := z) (last := min q m) hm (Nat.min_le_right q m) (by omega) hRBA (min q m) 0 p_fu μ1 (x, x, y, y, 0) (by omega) (by rw [show p_fu = 99999 + 1 from rfl]; omega) hS1 (by rw [(Fq_fr p3).1]; exact h3) (isRec_q p3 hi) (by rw [hd R hRBA.1 hRBA.2.2.2.1, hd B hRBA.2.1 hRBA.2.2.2.2.1, hd A hRBA.2.2.1 hRBA.2.2.2.2.2, hd 69 (by decide) (by decide), hd 70 (by decide) (by decide)]; exact hc) p2 ok0
  rw [hd 69 (by decide) (by decide), hd 70 (by decide) (by decide)] at t2 t3
  refine ⟨_, z, μ2, t3, ?_, t2, Fq_trans p3 t4, fun μ0 f0 => ?_⟩
  · have ij := ix_nI (show j < 6 by omega) (by decide)
    have kj := nI_clamp (show j < 2 ^ 31 by omega)
    have lj : j < 6 := by omega
    have hmin : (if mI μ R 2 < nI q then mI μ R 2 else nI q) = nI (min q m) := by
      rw [hc.1]
      by_cases c : m < q
      · rw [if_pos (nI_lt c hq), Nat.min_eq_right (by omega)]
      · rw [if_neg (nI_nlt (by omega) (by omega)), Nat.min_eq_left (by omega)]
    have t1 : F_X12_tryRecipe_c28 p_fu 0 (nI (min q m)) 0 μ1 = _ := t1
    simp only [bd_some, p_let_eq, p_ok, mI_sI, mR_sI, mK_sI, mN_sI, mL_sI, mI_sG, mR_sG, mK_sG, mN_sG, mL_sG, mI_sJ, mR_sJ, mK_sJ, mN_sJ, mL_sJ, z_up, ↓reduceIte, and_self, true_and, and_true, false_and, and_false, not_true_eq_false, not_false_eq_true, Nat.reduceEqDiff, i_10, i_20, i_30, w_in, w_need1, w_need0, m_in, m_thr0, m_thr1, tM, aM, nI_1, nI_pred, reduceIte, wp_some, eq_self, bI_T, bI_F, F_X12_tryRecipe, s_o0 hS, s_r0_0 hS, s_r0_1 hS, s_r0_10 hS, s_r0_11 hS, s_r0_12 hS, s_r0_14 hS, s_r0_16 hS, s_r0_19 hS, s_r0_7 hS, s_r0_8 hS, s_r0_9 hS, s_a3 hS, s_l3 hS, s_o3 hS, s_r3_0 hS, s_r3_1 hS, s_r3_2 hS, s_r3_3 hS, s_r3_4 hS, s_r3_5 hS, s_o14 hS, s_r3 hS lj, ij, kj, lj, p1, show 23 ≤ 26 from by decide, Nat.le_refl, s_o0 hS1, s_r0_0 hS1, s_r0_1 hS1, s_r0_10 hS1, s_r0_11 hS1, s_r0_12 hS1, s_r0_14 hS1, s_r0_16 hS1, s_r0_19 hS1, s_r0_7 hS1, s_r0_8 hS1, s_r0_9 hS1, (Fq_fr p3).1, h3, (isRec_q p3 hi).1, hd R hRBA.1 hRBA.2.2.2.1, hmin, t1]
  · have r71 := Fr_row f0 71 (by decide)
    have r72 := Fr_row f0 72 (by decide)
    have r73 := Fr_row f0 73 (by decide)
    have r68 := Fr_row f0 68 (by decide)
    have r69 := Fr_row f0 69 (by decide)
    have r70 := Fr_row f0 70 (by decide)
    obtain ⟨μ3, b1, b2, b3, b4⟩ := m_begins (μ := μ0) (r := 40) (c := j) (x := x) (y := y) (by decide) (by omega) (by rw [r71]; exact g1) (by rw [r72]; exact g2)
    have hd3 : ∀ a, a ≠ 74 → a ≠ 65 → mI μ3 a = mI μ0 a := fun a ha hb => b4.2.1 a hb (fun e => ha (List.mem_singleton.mp e))
    obtain ⟨μ4, w1, w2, w3, w4⟩ := m_tries (n := m) (q := q2) (c := j) (h := z) (rr := mI μ R 2) (b := mI μ B) (a := mI μ A) hm hq2 (by omega) (by omega) (min q m) 0 p_fu μ3 (x, x, y, y, 0) (by rw [hqq m hm e]; omega) (by rw [show p_fu = 99999 + 1 from rfl]; omega) (by rw [hd3 68 (by decide) (by decide), r68]; exact e) (by rw [hd3 69 (by decide) (by decide), hd3 70 (by decide) (by decide), r69, r70]; exact hc) (by rw [hd3 73 (by decide) (by decide), r73]; exact g3) b2 ok0
    rw [hd3 69 (by decide) (by decide), hd3 70 (by decide) (by decide), r69, r70] at w2
    refine ⟨μ4, ?_, w2, fun k hk => (w3 k hk).trans (b3 k (by omega)), Fq_trans b4 w4⟩
    have b1 : F_X13_begins 40 (nI j) μ0 = _ := b1
    have w1 : F_X13_tries_c9 p_fu (nI j) (nI q2) 0 μ3 = _ := w1
    simp only [bd_some, p_let_eq, p_ok, mI_sI, mR_sI, mK_sI, mN_sI, mL_sI, mI_sG, mR_sG, mK_sG, mN_sG, mL_sG, mI_sJ, mR_sJ, mK_sJ, mN_sJ, mL_sJ, z_up, ↓reduceIte, and_self, true_and, and_true, false_and, and_false, not_true_eq_false, not_false_eq_true, Nat.reduceEqDiff, i_10, i_20, i_30, w_in, w_need1, w_need0, m_in, m_thr0, m_thr1, tM, aM, nI_1, nI_pred, reduceIte, wp_some, eq_self, bI_T, bI_F, F_X13_tries, b1, w1]
