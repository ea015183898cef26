/-! KINDS: carry, batch, clear -/
def RKinds (μ : p_M) : Prop := mI μ 27 = mI μ 77 ∧ (∀ j, j < 36 → mI μ 27 j = -1 ∨ ∃ x : Nat, x ≤ 100 ∧ mI μ 27 j = nI x) ∧ ∃ n : Nat, n ≤ 9 ∧ mI μ 26 2 = nI n ∧ mI μ 65 25 = nI n ∧ mI μ 28 = mI μ 78 ∧ ∀ j, j < n → ∃ x : Nat, x ≤ 5 ∧ mI μ 28 j = nI x
theorem RKinds_fr {cs ss : List Nat} {μ μ' : p_M} (f : Fr cs ss μ μ') (d : dj cs ss [26, 27, 28, 77, 78] [25] = true) (h : RKinds μ) : RKinds μ' := by
  unfold RKinds at *
  simpa only [f.1, Fr_row f 26 (dj1 d (by decide)), Fr_row f 27 (dj1 d (by decide)), Fr_row f 28 (dj1 d (by decide)), Fr_row f 77 (dj1 d (by decide)), Fr_row f 78 (dj1 d (by decide)), Fr_sc f 25 (dj2 d (by decide))] using h
theorem A_clear {μ : p_M} (hS : Sh μ) (hR : RKinds μ) : wp (F_X12_clear 0 μ) fun a μ1 => wp (F_X13_clear μ1) fun b μ2 => a = b ∧ Cn μ μ2 ∧ RKinds μ2 ∧ Fr [26] [0, 25] μ μ2 := by
  obtain ⟨r1, r2, n, hn, e1, e2, e3, e4⟩ := hR
  simp only [bd_some, p_let_eq, p_ok, mI_sI, mR_sI, mK_sI, mN_sI, mL_sI, mI_sG, mR_sG, mK_sG, mN_sG, mL_sG, mI_sJ, mR_sJ, mK_sJ, mN_sJ, mL_sJ, z_up, ↓reduceIte, and_self, true_and, and_true, false_and, and_false, not_true_eq_false, not_false_eq_true, Nat.reduceEqDiff, i_10, i_20, i_30, w_in, w_need1, w_need0, m_in, m_thr0, m_thr1, tM, aM, nI_1, nI_pred, reduceIte, wp_some, eq_self, bI_T, bI_F, F_X12_clear, F_X13_clear, s_o0 hS, s_r0_0 hS, s_r0_1 hS, s_r0_10 hS, s_r0_11 hS, s_r0_12 hS, s_r0_14 hS, s_r0_16 hS, s_r0_19 hS, s_r0_7 hS, s_r0_8 hS, s_r0_9 hS, s_o26 hS, s_r26_0 hS, s_r26_1 hS, s_r26_3 hS, e1, e2]
  refine ⟨Cn_eq rfl rfl, ?_, ?_⟩
  · unfold RKinds
    simp only [mI_sI, mR_sI, mK_sI, mN_sI, mL_sI, mI_sG, mR_sG, mK_sG, mN_sG, mL_sG, mI_sJ, mR_sJ, mK_sJ, mN_sJ, mL_sJ, mI_sA, mR_sA, mK_sA, mN_sA, mL_sA, z_up, ↓reduceIte, reduceIte, Nat.reduceEqDiff, true_and, and_true, r1, e3]
    rw [r1] at r2
    exact ⟨r2, 0, by omega, rfl, rfl, fun j hj => absurd hj (Nat.not_lt_zero j)⟩
  · repeat (first | exact Fr_refl _ | refine Fr_s65 ?_ (by decide) | refine Fr_sI ?_ (by decide) | refine Fr_sA ?_ (by decide) | refine Fr_sJ ?_ | refine Fr_sG ?_)
theorem A_batch {μ : p_M} (hS : Sh μ) (hR : RKinds μ) (v : Int32) : wp (F_L_batch 0 v 112 μ) fun k μ1 => wp (F_X13_batch v μ1) fun b μ2 => Post k b μ μ2 ∧ RKinds μ2 ∧ Fr [26, 28, 78] [0, 25] μ μ2 := by
  have hR0 := hR
  obtain ⟨r1, r2, n, hn, e1, e2, e3, e4⟩ := hR
  rcases ix3 v 6 5 6 (by decide) rfl rfl with ⟨c1, c2⟩ | ⟨j, hj, rfl, c1, c2, c3, c4⟩
  · simp only [bd_some, p_let_eq, p_ok, mI_sI, mR_sI, mK_sI, mN_sI, mL_sI, mI_sG, mR_sG, mK_sG, mN_sG, mL_sG, mI_sJ, mR_sJ, mK_sJ, mN_sJ, mL_sJ, z_up, ↓reduceIte, and_self, true_and, and_true, false_and, and_false, not_true_eq_false, not_false_eq_true, Nat.reduceEqDiff, i_10, i_20, i_30, w_in, w_need1, w_need0, m_in, m_thr0, m_thr1, tM, aM, nI_1, nI_pred, reduceIte, wp_some, eq_self, bI_T, bI_F, F_L_batch, F_X12_batch, F_X13_batch, F_X2_addBatch, w_ix, m_noKind, s_o0 hS, s_r0_0 hS, s_r0_1 hS, s_r0_10 hS, s_r0_11 hS, s_r0_12 hS, s_r0_14 hS, s_r0_16 hS, s_r0_19 hS, s_r0_7 hS, s_r0_8 hS, s_r0_9 hS, s_o26 hS, s_r26_0 hS, s_r26_1 hS, s_r26_3 hS, s_a28 hS, s_l28 hS, s_o28 hS, s_o112 hS, c1, c2]
    exact ⟨thr_post (by decide), RKinds_fr thr_fr (by decide) hR0, Fr_mono thr_fr (by decide) (by decide)⟩
  · have hc0 := c3
    by_cases cn : n < 9
    · have hi := ix_nI cn (by decide)
      have hc := nI_clamp (show n < 2 ^ 31 by omega)
      have hlt : nI n < 9 := nI_lt cn (by decide)
      have hne : ¬ nI n = 9 := fun e => by have := (nI_eq (show n < 2 ^ 31 by omega) (show 9 < 2 ^ 31 by decide)).mp e; omega
      simp only [bd_some, p_let_eq, p_ok, mI_sI, mR_sI, mK_sI, mN_sI, mL_sI, mI_sG, mR_sG, mK_sG, mN_sG, mL_sG, mI_sJ, mR_sJ, mK_sJ, mN_sJ, mL_sJ, z_up, ↓reduceIte, and_self, true_and, and_true, false_and, and_false, not_true_eq_false, not_false_eq_true, Nat.reduceEqDiff, i_10, i_20, i_30, w_in, w_need1, w_need0, m_in, m_thr0, m_thr1, tM, aM, nI_1, nI_pred, reduceIte, wp_some, eq_self, bI_T, bI_F, F_L_batch, F_X12_batch, F_X13_batch, F_X2_addBatch, w_ix, m_noKind, s_o0 hS, s_r0_0 hS, s_r0_1 hS, s_r0_10 hS, s_r0_11 hS, s_r0_12 hS, s_r0_14 hS, s_r0_16 hS, s_r0_19 hS, s_r0_7 hS, s_r0_8 hS, s_r0_9 hS, s_o26 hS, s_r26_0 hS, s_r26_1 hS, s_r26_3 hS, s_a28 hS, s_l28 hS, s_o28 hS, s_o112 hS, c1, c2, e1, e2, hi, hc, hlt, hne, cn]
      refine ⟨⟨rfl, fun _ => rfl, Cn_eq rfl rfl⟩, ?_, ?_⟩
      · unfold RKinds
        simp only [mI_sI, mR_sI, mK_sI, mN_sI, mL_sI, mI_sG, mR_sG, mK_sG, mN_sG, mL_sG, mI_sJ, mR_sJ, mK_sJ, mN_sJ, mL_sJ, mI_sA, mR_sA, mK_sA, mN_sA, mL_sA, z_up, ↓reduceIte, reduceIte, Nat.reduceEqDiff, true_and, and_true, r1, e3]
        rw [r1] at r2
        rw [e3] at e4
        refine ⟨r2, n + 1, by omega, rfl, rfl, fun i hi' => ?_⟩
        by_cases ei : i = n
        · rw [if_pos ei]; exact ⟨j, by omega, rfl⟩
        · rw [if_neg ei]; exact e4 i (by omega)
      · repeat (first | exact Fr_refl _ | refine Fr_s65 ?_ (by decide) | refine Fr_sI ?_ (by decide) | refine Fr_sA ?_ (by decide) | refine Fr_sJ ?_ | refine Fr_sG ?_)
    · have hn5 : n = 9 := by omega
      subst hn5
      have e1 : mI μ 26 2 = 9 := e1
      have e2 : mI μ 65 25 = 9 := e2
      have hlt : ¬ (9 : Int32) < 9 := by decide
      simp only [bd_some, p_let_eq, p_ok, mI_sI, mR_sI, mK_sI, mN_sI, mL_sI, mI_sG, mR_sG, mK_sG, mN_sG, mL_sG, mI_sJ, mR_sJ, mK_sJ, mN_sJ, mL_sJ, z_up, ↓reduceIte, and_self, true_and, and_true, false_and, and_false, not_true_eq_false, not_false_eq_true, Nat.reduceEqDiff, i_10, i_20, i_30, w_in, w_need1, w_need0, m_in, m_thr0, m_thr1, tM, aM, nI_1, nI_pred, reduceIte, wp_some, eq_self, bI_T, bI_F, F_L_batch, F_X12_batch, F_X13_batch, F_X2_addBatch, w_ix, m_noKind, s_o0 hS, s_r0_0 hS, s_r0_1 hS, s_r0_10 hS, s_r0_11 hS, s_r0_12 hS, s_r0_14 hS, s_r0_16 hS, s_r0_19 hS, s_r0_7 hS, s_r0_8 hS, s_r0_9 hS, s_o26 hS, s_r26_0 hS, s_r26_1 hS, s_r26_3 hS, s_a28 hS, s_l28 hS, s_o28 hS, s_o112 hS, c1, c2, e1, e2, hlt]
      refine ⟨⟨rfl, fun _ => rfl, Cn_eq rfl rfl⟩, RKinds_fr (cs := []) (ss := [0]) ?_ (by decide) hR0, ?_⟩
      · repeat (first | exact Fr_refl _ | refine Fr_s65 ?_ (by decide) | refine Fr_sI ?_ (by decide) | refine Fr_sA ?_ (by decide) | refine Fr_sJ ?_ | refine Fr_sG ?_)
      · repeat (first | exact Fr_refl _ | refine Fr_s65 ?_ (by decide) | refine Fr_sI ?_ (by decide) | refine Fr_sA ?_ (by decide) | refine Fr_sJ ?_ | refine Fr_sG ?_)
theorem A_carry {μ : p_M} (hS : Sh μ) (hR : RKinds μ) (a b v : Int32) : wp (F_L_carry 0 a b v μ) fun k μ1 => wp (F_X13_carry a b v μ1) fun _ μ2 => PostV k μ μ2 ∧ RKinds μ2 ∧ Fr [27, 77] [0] μ μ2 := by
  have hR0 := hR
  obtain ⟨r1, r2, r3⟩ := hR
  rcases ix3 a 6 5 6 (by decide) rfl rfl with ⟨c1, c2⟩ | ⟨i, hi, rfl, c1, c2, c3, c4⟩
  · simp only [bd_some, p_let_eq, p_ok, mI_sI, mR_sI, mK_sI, mN_sI, mL_sI, mI_sG, mR_sG, mK_sG, mN_sG, mL_sG, mI_sJ, mR_sJ, mK_sJ, mN_sJ, mL_sJ, z_up, ↓reduceIte, and_self, true_and, and_true, false_and, and_false, not_true_eq_false, not_false_eq_true, Nat.reduceEqDiff, i_10, i_20, i_30, w_in, w_need1, w_need0, m_in, m_thr0, m_thr1, tM, aM, nI_1, nI_pred, reduceIte, wp_some, eq_self, bI_T, bI_F, F_L_carry, F_X12_carry, F_X12_carry_c31, F_X12_carry_c32, F_X13_carry, F_X13_carry_c20, F_X13_carry_c25, F_X13_carry_c48, F_X13_carry_c53, F_X13_carry_c60, F_X2_tell, w_ix, m_noKind, s_o0 hS, s_r0_0 hS, s_r0_1 hS, s_r0_10 hS, s_r0_11 hS, s_r0_12 hS, s_r0_14 hS, s_r0_16 hS, s_r0_19 hS, s_r0_7 hS, s_r0_8 hS, s_r0_9 hS, s_o26 hS, s_r26_0 hS, s_r26_1 hS, s_r26_3 hS, s_a27 hS, s_l27 hS, s_o27 hS, s_o112 hS, c1, c2]
    exact ⟨thr_postV, RKinds_fr thr_fr (by decide) hR0, Fr_mono thr_fr (by decide) (by decide)⟩
  · have hc0 := c3
    rcases ix3 b 6 5 6 (by decide) rfl rfl with ⟨d1, d2⟩ | ⟨j, hj, rfl, d1, d2, d3, d4⟩
    · simp only [bd_some, p_let_eq, p_ok, mI_sI, mR_sI, mK_sI, mN_sI, mL_sI, mI_sG, mR_sG, mK_sG, mN_sG, mL_sG, mI_sJ, mR_sJ, mK_sJ, mN_sJ, mL_sJ, z_up, ↓reduceIte, and_self, true_and, and_true, false_and, and_false, not_true_eq_false, not_false_eq_true, Nat.reduceEqDiff, i_10, i_20, i_30, w_in, w_need1, w_need0, m_in, m_thr0, m_thr1, tM, aM, nI_1, nI_pred, reduceIte, wp_some, eq_self, bI_T, bI_F, F_L_carry, F_X12_carry, F_X12_carry_c31, F_X12_carry_c32, F_X13_carry, F_X13_carry_c20, F_X13_carry_c25, F_X13_carry_c48, F_X13_carry_c53, F_X13_carry_c60, F_X2_tell, w_ix, m_noKind, s_o0 hS, s_r0_0 hS, s_r0_1 hS, s_r0_10 hS, s_r0_11 hS, s_r0_12 hS, s_r0_14 hS, s_r0_16 hS, s_r0_19 hS, s_r0_7 hS, s_r0_8 hS, s_r0_9 hS, s_o26 hS, s_r26_0 hS, s_r26_1 hS, s_r26_3 hS, s_a27 hS, s_l27 hS, s_o27 hS, s_o112 hS, c1, c2, d1, d2]
      exact ⟨thr_postV, RKinds_fr thr_fr (by decide) hR0, Fr_mono thr_fr (by decide) (by decide)⟩
    · have hd0 := d3
      by_cases cv : -1 ≤ v ∧ v ≤ 100
      · by_cases ce : i = j
        · subst ce
          simp only [bd_some, p_let_eq, p_ok, mI_sI, mR_sI, mK_sI, mN_sI, mL_sI, mI_sG, mR_sG, mK_sG, mN_sG, mL_sG, mI_sJ, mR_sJ, mK_sJ, mN_sJ, mL_sJ, z_up, ↓reduceIte, and_self, true_and, and_true, false_and, and_false, not_true_eq_false, not_false_eq_true, Nat.reduceEqDiff, i_10, i_20, i_30, w_in, w_need1, w_need0, m_in, m_thr0, m_thr1, tM, aM, nI_1, nI_pred, reduceIte, wp_some, eq_self, bI_T, bI_F, F_L_carry, F_X12_carry, F_X12_carry_c31, F_X12_carry_c32, F_X13_carry, F_X13_carry_c20, F_X13_carry_c25, F_X13_carry_c48, F_X13_carry_c53, F_X13_carry_c60, F_X2_tell, w_ix, m_noKind, s_o0 hS, s_r0_0 hS, s_r0_1 hS, s_r0_10 hS, s_r0_11 hS, s_r0_12 hS, s_r0_14 hS, s_r0_16 hS, s_r0_19 hS, s_r0_7 hS, s_r0_8 hS, s_r0_9 hS, s_o26 hS, s_r26_0 hS, s_r26_1 hS, s_r26_3 hS, s_a27 hS, s_l27 hS, s_o27 hS, s_o112 hS, c1, c2, d1, d2, cv]
          exact ⟨thr_postV, RKinds_fr thr_fr (by decide) hR0, Fr_mono thr_fr (by decide) (by decide)⟩
        · have hne : ¬ nI i = nI j := fun e => ce ((nI_eq (by omega) (by omega)).mp e)
          have m1 : nI i * 6 + nI j = nI (6 * i + j) := by
            show nI i * nI 6 + nI j = _
            rw [pk_mul, nI_add, Nat.mul_comm]
          have m2 : 6 * nI i + nI j = nI (6 * i + j) := by
            show nI 6 * nI i + nI j = _
            rw [pk_mul, nI_add]
          have hx := ix_nI (show 6 * i + j < 36 by omega) (by decide)
          have hc := nI_clamp (show 6 * i + j < 2 ^ 31 by omega)
          have hlt : 6 * i + j < 36 := by omega
          simp only [bd_some, p_let_eq, p_ok, mI_sI, mR_sI, mK_sI, mN_sI, mL_sI, mI_sG, mR_sG, mK_sG, mN_sG, mL_sG, mI_sJ, mR_sJ, mK_sJ, mN_sJ, mL_sJ, z_up, ↓reduceIte, and_self, true_and, and_true, false_and, and_false, not_true_eq_false, not_false_eq_true, Nat.reduceEqDiff, i_10, i_20, i_30, w_in, w_need1, w_need0, m_in, m_thr0, m_thr1, tM, aM, nI_1, nI_pred, reduceIte, wp_some, eq_self, bI_T, bI_F, F_L_carry, F_X12_carry, F_X12_carry_c31, F_X12_carry_c32, F_X13_carry, F_X13_carry_c20, F_X13_carry_c25, F_X13_carry_c48, F_X13_carry_c53, F_X13_carry_c60, F_X2_tell, w_ix, m_noKind, s_o0 hS, s_r0_0 hS, s_r0_1 hS, s_r0_10 hS, s_r0_11 hS, s_r0_12 hS, s_r0_14 hS, s_r0_16 hS, s_r0_19 hS, s_r0_7 hS, s_r0_8 hS, s_r0_9 hS, s_o26 hS, s_r26_0 hS, s_r26_1 hS, s_r26_3 hS, s_a27 hS, s_l27 hS, s_o27 hS, s_o112 hS, c1, c2, d1, d2, cv, hne, m1, m2, hx, hc, hlt]
          refine ⟨⟨rfl, Cn_eq rfl rfl⟩, ?_, ?_⟩
          · unfold RKinds
            simp only [mI_sI, mR_sI, mK_sI, mN_sI, mL_sI, mI_sG, mR_sG, mK_sG, mN_sG, mL_sG, mI_sJ, mR_sJ, mK_sJ, mN_sJ, mL_sJ, mI_sA, mR_sA, mK_sA, mN_sA, mL_sA, z_up, ↓reduceIte, reduceIte, Nat.reduceEqDiff, true_and, and_true, r1]
            rw [r1] at r2
            refine ⟨fun q hq => ?_, r3⟩
            by_cases eq : q = 6 * i + j
            · rw [if_pos eq]
              by_cases hm : v = -1
              · exact Or.inl hm
              · have h0 : 0 ≤ v := by
                  have h1 := cv.1
                  have h2 : v.toInt ≠ (-1 : Int32).toInt := fun e => hm (Int32.toInt_inj.mp e)
                  rw [Int32.le_iff_toInt_le] at *
                  have : (-1 : Int32).toInt = -1 := rfl
                  have : (0 : Int32).toInt = 0 := rfl
                  omega
                obtain ⟨x, -, hx, rfl⟩ := rg3 v 0 100 0 100 rfl rfl (by decide) (by decide) ⟨h0, cv.2⟩
                exact Or.inr ⟨x, hx, rfl⟩
            · rw [if_neg eq]; exact r2 q hq
          · repeat (first | exact Fr_refl _ | refine Fr_s65 ?_ (by decide) | refine Fr_sI ?_ (by decide) | refine Fr_sA ?_ (by decide) | refine Fr_sJ ?_ | refine Fr_sG ?_)
      · simp only [bd_some, p_let_eq, p_ok, mI_sI, mR_sI, mK_sI, mN_sI, mL_sI, mI_sG, mR_sG, mK_sG, mN_sG, mL_sG, mI_sJ, mR_sJ, mK_sJ, mN_sJ, mL_sJ, z_up, ↓reduceIte, and_self, true_and, and_true, false_and, and_false, not_true_eq_false, not_false_eq_true, Nat.reduceEqDiff, i_10, i_20, i_30, w_in, w_need1, w_need0, m_in, m_thr0, m_thr1, tM, aM, nI_1, nI_pred, reduceIte, wp_some, eq_self, bI_T, bI_F, F_L_carry, F_X12_carry, F_X12_carry_c31, F_X12_carry_c32, F_X13_carry, F_X13_carry_c20, F_X13_carry_c25, F_X13_carry_c48, F_X13_carry_c53, F_X13_carry_c60, F_X2_tell, w_ix, m_noKind, s_o0 hS, s_r0_0 hS, s_r0_1 hS, s_r0_10 hS, s_r0_11 hS, s_r0_12 hS, s_r0_14 hS, s_r0_16 hS, s_r0_19 hS, s_r0_7 hS, s_r0_8 hS, s_r0_9 hS, s_o26 hS, s_r26_0 hS, s_r26_1 hS, s_r26_3 hS, s_a27 hS, s_l27 hS, s_o27 hS, s_o112 hS, c1, c2, d1, d2, cv]
        exact ⟨thr_postV, RKinds_fr thr_fr (by decide) hR0, Fr_mono thr_fr (by decide) (by decide)⟩
