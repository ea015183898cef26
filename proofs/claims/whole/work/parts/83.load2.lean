/-! frames of methods that touch the lots' own cells -/
def Fl (cs ss : List Nat) (μ μ' : p_M) : Prop := (∀ a, a < 113 → a ≠ 37 → mR μ' a = mR μ a) ∧ (∀ a, a < 113 → mK μ' a = mK μ a ∧ mL μ' a = mL μ a) ∧ mN μ ≤ mN μ' ∧ (mN μ' < p_E ∧ mN μ' ≤ mN μ + 8) ∧ (∀ a, a < 113 → a ≠ 65 → a ∉ cs → mI μ' a = mI μ a) ∧ ∀ k, k ∉ ss → mI μ' 65 k = mI μ 65 k
/-- the later memory as far as the fixed cells go -/
def star (μ μ' : p_M) : p_M := (fun a => if a < 113 then μ'.1 a else μ.1 a, fun a => if a < 113 ∧ a ≠ 37 then μ'.2.1 a else μ.2.1 a, μ'.2.2.1, μ.2.2.2.1, μ.2.2.2.2.1, mN μ, mC μ', mS μ')
theorem Fl_fr {cs ss : List Nat} {μ μ' : p_M} (h : Fl cs ss μ μ') : Fr cs ss μ (star μ μ') := by
  obtain ⟨h1, h2, h3, h4, h5, h6⟩ := h
  refine ⟨?_, rfl, rfl, rfl, fun a a1 a2 => ?_, fun k hk => ?_⟩
  · funext a
    show (if a < 113 ∧ a ≠ 37 then μ'.2.1 a else μ.2.1 a) = μ.2.1 a
    by_cases c : a < 113 ∧ a ≠ 37
    · rw [if_pos c]; exact h1 a c.1 c.2
    · rw [if_neg c]
  · show (if a < 113 then μ'.1 a else μ.1 a) = μ.1 a
    by_cases c : a < 113
    · rw [if_pos c]; exact h5 a c a1 a2
    · rw [if_neg c]
  · exact h6 k hk
theorem Sh_fl {cs ss : List Nat} {μ μ' : p_M} (f : Fl cs ss μ μ') (h : Sh μ) : Sh μ' := by
  obtain ⟨h1, h2, h3, ⟨h4, -⟩, -, -⟩ := f
  obtain ⟨⟨s1, s2, s3, s4⟩, t1, t2, t3, t4, t5, t6⟩ := h
  have aml : ∀ k, k < 80 → aM k < 113 := by decide
  refine ⟨⟨(h2 tM (by decide)).1.trans s1, by omega, h4, fun k hk hp => ?_⟩, by omega, h4, fun a ha => ?_, fun e he => ?_, (h2 112 (by decide)).1.trans t5, (h2 112 (by decide)).2.trans t6⟩
  · obtain ⟨q1, q2, q3, q4⟩ := s4 k hk hp
    refine ⟨by rw [h1 tM (by decide) (by decide)]; exact q1, (h2 _ (aml k hk)).1.trans q2, (h2 _ (aml k hk)).2.trans q3, by omega⟩
  · rw [(h2 a (by omega)).1, (h2 a (by omega)).2]; exact t3 a ha
  · have : e.1 < 113 ∧ e.1 ≠ 37 := (show ∀ e, e ∈ rCl → e.1 < 113 ∧ e.1 ≠ 37 by decide) e he
    rw [h1 e.1 this.1 this.2]
    exact t4 e he
theorem Fl_of {cs ss : List Nat} {μ μ' : p_M} (hS : Sh μ) (f : Fr cs ss μ μ') : Fl cs ss μ μ' := ⟨fun a _ _ => by rw [f.1], fun a _ => ⟨by rw [f.2.1], by rw [f.2.2.1]⟩, by rw [f.2.2.2.1]; exact Nat.le_refl _, ⟨by rw [f.2.2.2.1]; exact hS.2.2.1, by rw [f.2.2.2.1]; exact Nat.le_add_right _ _⟩, fun a _ h1 h2 => f.2.2.2.2.1 a h1 h2, f.2.2.2.2.2⟩
theorem A_load {μ : p_M} (hS : Sh μ) (hR : RLots μ) (v1 v2 : Int32) : wp (F_L_load 0 v1 v2 112 μ) fun k μ1 => wp (F_X13_load v1 v2 μ1) fun b μ2 => PostZ k b μ μ2 ∧ RLots μ2 ∧ Fl [57, 58, 59, 60, 61, 62, 63, 64, 96, 97, 102] [0, 63] μ μ2 := by
  have hR0 := hR
  obtain ⟨N, K, M, C, E, lr, hLs, hC, hK, hLot, hM, hZ, hzr, hme, hld⟩ := hR
  have hLs0 := hLs
  obtain ⟨l1, l2, l3, l4, l5, l6⟩ := hLs
  obtain ⟨n1, n2, n3⟩ := hK
  have thr : PostZ 1 0 μ (sI (sI (sG μ 1 6) 65 0 0) 65 0 1) ∧ RLots (sI (sI (sG μ 1 6) 65 0 0) 65 0 1) ∧ Fl [57, 58, 59, 60, 61, 62, 63, 64, 96, 97, 102] [0, 63] μ (sI (sI (sG μ 1 6) 65 0 0) 65 0 1) := ⟨thr_postZ (by decide), RLots_fr0 thr_fr (by decide) (by decide) (by decide) (by decide) hR0, Fl_of hS (Fr_mono thr_fr (by decide) (by decide))⟩
  have no : PostZ 0 0 μ (sI (sJ μ 112 (Int32.toNatClampNeg 0) 0) 65 0 0) ∧ RLots (sI (sJ μ 112 (Int32.toNatClampNeg 0) 0) 65 0 0) ∧ Fl [57, 58, 59, 60, 61, 62, 63, 64, 96, 97, 102] [0, 63] μ (sI (sJ μ 112 (Int32.toNatClampNeg 0) 0) 65 0 0) := by
    have f : Fr [] [0] μ (sI (sJ μ 112 (Int32.toNatClampNeg 0) 0) 65 0 0) := by repeat (first | exact Fr_refl _ | refine Fr_s65 ?_ (by decide) | refine Fr_sI ?_ (by decide) | refine Fr_sA ?_ (by decide) | refine Fr_sJ ?_ | refine Fr_sG ?_)
    exact ⟨⟨rfl, fun _ => rfl, Cn_eq rfl rfl⟩, RLots_fr0 f (by decide) (by decide) (by decide) (by decide) hR0, Fl_of hS (Fr_mono f (by decide) (by decide))⟩
  rcases ix3 v1 (mI μ 37 2) (mI μ 65 62 - 1) N (by omega) l1 (by rw [l2]) with ⟨c1, c2⟩ | ⟨j, hj, rfl, c1, c2, c3, c4⟩
  · rw [l1] at c1
    simp only [bd_some, p_let_eq, p_ok, mI_sI, mR_sI, mK_sI, mN_sI, mL_sI, mI_sG, mR_sG, mK_sG, mN_sG, mL_sG, mI_sJ, mR_sJ, mK_sJ, mN_sJ, mL_sJ, z_up, ↓reduceIte, and_self, true_and, and_true, false_and, and_false, not_true_eq_false, not_false_eq_true, Nat.reduceEqDiff, i_10, i_20, i_30, w_in, w_need1, w_need0, m_in, m_thr0, m_thr1, tM, aM, nI_1, nI_pred, reduceIte, wp_some, eq_self, bI_T, bI_F, F_L_load, F_X12_load, c_lotNo hS hLs0 c1, F_X13_load, F_X13_load_c22, F_X13_load_c27, F_X13_load_c58, m_noLot, s_o0 hS, s_r0_0 hS, s_r0_1 hS, s_r0_10 hS, s_r0_11 hS, s_r0_12 hS, s_r0_14 hS, s_r0_16 hS, s_r0_19 hS, s_r0_7 hS, s_r0_8 hS, s_r0_9 hS, s_o112 hS, c2]
    exact thr
  · have hLj := hLot j hj
    obtain ⟨P, nb, ⟨g0, g1, -⟩, ⟨w0, w1, w2, w3, w4, w5, w6, w7, -⟩, ⟨-, y1, y2, y3, y4, y5, y6, y7, y8, ⟨sx, -, sx3, y9⟩, -⟩, -⟩ := hLj
    have la := c_lotAt hS hLs0 hj g1
    rcases ix3 v2 (mI μ 0 13) (mI μ 65 47 - 1) K (by omega) n1 (by rw [n2]) with ⟨d1, d2⟩ | ⟨i, hi, rfl, d1, d2, d3, d4⟩
    · simp only [bd_some, p_let_eq, p_ok, mI_sI, mR_sI, mK_sI, mN_sI, mL_sI, mI_sG, mR_sG, mK_sG, mN_sG, mL_sG, mI_sJ, mR_sJ, mK_sJ, mN_sJ, mL_sJ, z_up, ↓reduceIte, and_self, true_and, and_true, false_and, and_false, not_true_eq_false, not_false_eq_true, Nat.reduceEqDiff, i_10, i_20, i_30, w_in, w_need1, w_need0, m_in, m_thr0, m_thr1, tM, aM, nI_1, nI_pred, reduceIte, wp_some, eq_self, bI_T, bI_F, F_L_load, F_X12_load, la, w_ix, F_X13_load, F_X13_load_c22, F_X13_load_c27, F_X13_load_c58, m_noLot, m_noMachine, s_o0 hS, s_r0_0 hS, s_r0_1 hS, s_r0_10 hS, s_r0_11 hS, s_r0_12 hS, s_r0_14 hS, s_r0_16 hS, s_r0_19 hS, s_r0_7 hS, s_r0_8 hS, s_r0_9 hS, s_o112 hS, c2, d1, d2]
      exact thr
    · obtain ⟨⟨hx, x1, x2, x3, x4⟩, -, -, -, -, -, z6, -⟩ := hM i hi
      have i4 : i < 4 := by omega
      have ii := ix_nI i4 (by decide)
      have j40 : j < 40 := by omega
      have ij := ix_nI j40 (by decide)
      have r36 := s_r36 hS i4
      have o57 := s_o57v hS i4
      have c23 : 23 ≤ 24 ∧ 24 ≤ 26 := by decide
      by_cases s0 : mI μ 96 j = 0
      · by_cases hp : P ≤ hx
        · -- it is loaded
          have hp' : nI P ≤ nI hx := nI_le hp (by omega)
          have wj : wt μ i j = false := decide_eq_false (fun h => by rw [s0] at h; exact absurd h.1 (by decide))
          have hq := cnt_lt wj hj
          generalize eq : cnt (wt μ i) N = q at *
          have hT := cnt_le (ld μ) N
          have e63 := hld.1
          generalize eT : cnt (ld μ) N = T at *
          obtain ⟨u1, u2, u3⟩ := s_q57v hS i4
          have q40 : ¬ nI 40 ≤ nI q := nI_ge (by omega) (by decide)
          have iq := ix_nI (show q < 40 by omega) (by decide)
          have kq := nI_clamp (show q < 2 ^ 31 by omega)
          have lq : q < 40 := by omega
          have c20 : 20 ≤ 20 ∧ 20 ≤ 26 := by decide
          have aq : nI q + 1 = nI (q + 1) := nI_add q 1
          have aT : nI T + 1 = nI (T + 1) := nI_add T 1
          have m1 : ¬ 57 + 2 * i = 58 + 2 * i := by omega
          have m2 : ¬ lr j = 57 + 2 * i := by omega
          have m3 : ¬ lr j = 58 + 2 * i := by omega
          have w96 : mI μ (lr j) 9 = 0 := w7.trans s0
          have w90 : mI μ (lr j) 1 = nI P := w1.trans y1
          have m96 : ¬ 96 = lr j := by omega
          have m97 : ¬ 97 = lr j := by omega
          have m102 : ¬ 102 = lr j := by omega
          have m65 : ¬ 65 = lr j := by omega
          have m90 : ¬ 90 = lr j := by omega
          have m85 : ¬ 85 = lr j := by omega
          have k96 : ¬ 96 = 57 + 2 * i := by omega
          have k97 : ¬ 97 = 57 + 2 * i := by omega
          have k102 : ¬ 102 = 57 + 2 * i := by omega
          have k65 : ¬ 65 = 57 + 2 * i := by omega
          have k90 : ¬ 90 = 57 + 2 * i := by omega
          have k85 : ¬ 85 = 57 + 2 * i := by omega
          have f96 : ¬ 96 = 58 + 2 * i := by omega
          have f97 : ¬ 97 = 58 + 2 * i := by omega
          have f102 : ¬ 102 = 58 + 2 * i := by omega
          have f65 : ¬ 65 = 58 + 2 * i := by omega
          have f90 : ¬ 90 = 58 + 2 * i := by omega
          have f85 : ¬ 85 = 58 + 2 * i := by omega
          simp only [bd_some, p_let_eq, p_ok, mI_sI, mR_sI, mK_sI, mN_sI, mL_sI, mI_sG, mR_sG, mK_sG, mN_sG, mL_sG, mI_sJ, mR_sJ, mK_sJ, mN_sJ, mL_sJ, z_up, ↓reduceIte, and_self, true_and, and_true, false_and, and_false, not_true_eq_false, not_false_eq_true, Nat.reduceEqDiff, i_10, i_20, i_30, w_in, w_need1, w_need0, m_in, m_thr0, m_thr1, tM, aM, nI_1, nI_pred, reduceIte, wp_some, eq_self, bI_T, bI_F, F_L_load, F_L_load_c16, F_X12_load, F_X12_load_c41, F_X5_enqueue, F_X5_enqueue_c32, la, w_ix, F_X13_load, F_X13_load_c22, F_X13_load_c27, F_X13_load_c58, m_noLot, m_noMachine, s_o0 hS, s_r0_0 hS, s_r0_1 hS, s_r0_10 hS, s_r0_11 hS, s_r0_12 hS, s_r0_14 hS, s_r0_16 hS, s_r0_19 hS, s_r0_7 hS, s_r0_8 hS, s_r0_9 hS, s_a36 hS, s_l36 hS, s_o36 hS, s_r36_0 hS, s_r36_1 hS, s_r36_2 hS, s_r36_3 hS, s_o112 hS, c2, d1, d2, d3, d4, c23, ii, i4, r36, o57, g1, w96, w90, x3, hp', u1, u2, u3, c20, z6, q40, iq, kq, lq, m1, m2, m3, ij, c4, j40, s0, y1, x4, e63, aq, aT, m96, m97, m102, m65, m90, m85, k96, k97, k102, k65, k90, k85, f96, f97, f102, f65, f90, f85]
          have r1 : ¬ 57 + 2 * i = 96 := by omega
          have r2 : ¬ 57 + 2 * i = 97 := by omega
          have r3 : ¬ 57 + 2 * i = 102 := by omega
          have r4 : ¬ 57 + 2 * i = 65 := by omega
          have r5 : ¬ 57 + 2 * i = lr j := by omega
          have t1 : ¬ 58 + 2 * i = 96 := by omega
          have t2 : ¬ 58 + 2 * i = 97 := by omega
          have t3 : ¬ 58 + 2 * i = 102 := by omega
          have t4 : ¬ 58 + 2 * i = 65 := by omega
          have t5 : ¬ 58 + 2 * i = lr j := by omega
          have t6 : ¬ 58 + 2 * i = 57 + 2 * i := by omega
          have v1' : ¬ lr j = 96 := by omega
          have v2' : ¬ lr j = 97 := by omega
          have v3' : ¬ lr j = 102 := by omega
          have v4' : ¬ lr j = 65 := by omega
          refine ⟨⟨?_, fun _ => ?_, Cn_eq rfl rfl⟩, load_RL (q := q) (T := T) hLs0 hC ⟨n1, n2, n3⟩ hLot hM hZ hzr hme hld hj hi s0 eq.symm eT.symm ?_ (fun k => ?_) (fun k => ?_) (fun k => ?_) (fun k => ?_) (fun k => ?_) (fun k => ?_) ?_, ?_⟩
          · simp only [mI_sI, mR_sI, mK_sI, mN_sI, mL_sI, mI_sG, mR_sG, mK_sG, mN_sG, mL_sG, mI_sJ, mR_sJ, mK_sJ, mN_sJ, mL_sJ, mI_sA, mR_sA, mK_sA, mN_sA, mL_sA, z_up, ↓reduceIte, reduceIte, Nat.reduceEqDiff, true_and, and_true]
          · rfl
          · repeat (first | exact Fr_refl _ | refine Fr_s65 ?_ (by decide) | refine Fr_sI ?_ ⟨by simp, by omega⟩ | refine Fr_sJ ?_)
          · simp only [mI_sI, mR_sI, mK_sI, mN_sI, mL_sI, mI_sG, mR_sG, mK_sG, mN_sG, mL_sG, mI_sJ, mR_sJ, mK_sJ, mN_sJ, mL_sJ, mI_sA, mR_sA, mK_sA, mN_sA, mL_sA, z_up, ↓reduceIte, reduceIte, Nat.reduceEqDiff, true_and, and_true, r1, r2, r3, r4, r5, m1]
          · simp only [mI_sI, mR_sI, mK_sI, mN_sI, mL_sI, mI_sG, mR_sG, mK_sG, mN_sG, mL_sG, mI_sJ, mR_sJ, mK_sJ, mN_sJ, mL_sJ, mI_sA, mR_sA, mK_sA, mN_sA, mL_sA, z_up, ↓reduceIte, reduceIte, Nat.reduceEqDiff, true_and, and_true, t1, t2, t3, t4, t5, t6]
          · simp only [mI_sI, mR_sI, mK_sI, mN_sI, mL_sI, mI_sG, mR_sG, mK_sG, mN_sG, mL_sG, mI_sJ, mR_sJ, mK_sJ, mN_sJ, mL_sJ, mI_sA, mR_sA, mK_sA, mN_sA, mL_sA, z_up, ↓reduceIte, reduceIte, Nat.reduceEqDiff, true_and, and_true, v1', v2', v3', v4', m2, m3]
          · simp only [mI_sI, mR_sI, mK_sI, mN_sI, mL_sI, mI_sG, mR_sG, mK_sG, mN_sG, mL_sG, mI_sJ, mR_sJ, mK_sJ, mN_sJ, mL_sJ, mI_sA, mR_sA, mK_sA, mN_sA, mL_sA, z_up, ↓reduceIte, reduceIte, Nat.reduceEqDiff, true_and, and_true, m96, k96, f96]
          · simp only [mI_sI, mR_sI, mK_sI, mN_sI, mL_sI, mI_sG, mR_sG, mK_sG, mN_sG, mL_sG, mI_sJ, mR_sJ, mK_sJ, mN_sJ, mL_sJ, mI_sA, mR_sA, mK_sA, mN_sA, mL_sA, z_up, ↓reduceIte, reduceIte, Nat.reduceEqDiff, true_and, and_true, m97, k97, f97]
          · simp only [mI_sI, mR_sI, mK_sI, mN_sI, mL_sI, mI_sG, mR_sG, mK_sG, mN_sG, mL_sG, mI_sJ, mR_sJ, mK_sJ, mN_sJ, mL_sJ, mI_sA, mR_sA, mK_sA, mN_sA, mL_sA, z_up, ↓reduceIte, reduceIte, Nat.reduceEqDiff, true_and, and_true, m102, k102, f102]
          · simp only [mI_sI, mR_sI, mK_sI, mN_sI, mL_sI, mI_sG, mR_sG, mK_sG, mN_sG, mL_sG, mI_sJ, mR_sJ, mK_sJ, mN_sJ, mL_sJ, mI_sA, mR_sA, mK_sA, mN_sA, mL_sA, z_up, ↓reduceIte, reduceIte, Nat.reduceEqDiff, true_and, and_true]
          · have fr : Fr [57 + 2 * i, 58 + 2 * i, lr j, 96, 97, 102] [0, 63] μ (sI (sI (sI (sI (sI (sJ (sI (sI (sI (sI μ (58 + 2 * i) q (nI j)) (57 + 2 * i) 2 (nI (q + 1))) (lr j) 9 1) (lr j) 10 (nI i)) 112 (Int32.toNatClampNeg 0) 1) 65 0 0) 96 j 1) 97 j (nI i)) 102 j (nI T)) 65 63 (nI (T + 1))) := by
              repeat (first | exact Fr_refl _ | refine Fr_s65 ?_ (by decide) | refine Fr_sI ?_ ⟨by simp, by omega⟩ | refine Fr_sJ ?_)
            refine ⟨fun a _ _ => by rw [fr.1], fun a _ => ⟨by rw [fr.2.1], by rw [fr.2.2.1]⟩, Nat.le_refl _, ⟨hS.2.2.1, Nat.le_add_right _ _⟩, fun a a1 a2 a3 => fr.2.2.2.2.1 a a2 (fun hm => a3 ?_), fr.2.2.2.2.2⟩
            simp only [List.mem_cons, List.not_mem_nil, or_false] at hm ⊢
            omega
        · have hp' : ¬ nI P ≤ nI hx := nI_ge (by omega) (by omega)
          have w96 : mI μ (lr j) 9 = 0 := w7.trans s0
          have w90 : mI μ (lr j) 1 = nI P := w1.trans y1
          simp only [bd_some, p_let_eq, p_ok, mI_sI, mR_sI, mK_sI, mN_sI, mL_sI, mI_sG, mR_sG, mK_sG, mN_sG, mL_sG, mI_sJ, mR_sJ, mK_sJ, mN_sJ, mL_sJ, z_up, ↓reduceIte, and_self, true_and, and_true, false_and, and_false, not_true_eq_false, not_false_eq_true, Nat.reduceEqDiff, i_10, i_20, i_30, w_in, w_need1, w_need0, m_in, m_thr0, m_thr1, tM, aM, nI_1, nI_pred, reduceIte, wp_some, eq_self, bI_T, bI_F, F_L_load, F_L_load_c16, F_X12_load, F_X12_load_c41, la, w_ix, F_X13_load, F_X13_load_c22, F_X13_load_c27, F_X13_load_c58, m_noLot, m_noMachine, s_o0 hS, s_r0_0 hS, s_r0_1 hS, s_r0_10 hS, s_r0_11 hS, s_r0_12 hS, s_r0_14 hS, s_r0_16 hS, s_r0_19 hS, s_r0_7 hS, s_r0_8 hS, s_r0_9 hS, s_a36 hS, s_l36 hS, s_o36 hS, s_r36_0 hS, s_r36_1 hS, s_r36_2 hS, s_r36_3 hS, s_o112 hS, c2, d1, d2, d3, d4, c23, ii, i4, r36, o57, g1, w96, w90, x3, hp', ij, c4, j40, s0, y1, x4]
          exact no
      · have w96 : ¬ mI μ (lr j) 9 = 0 := fun h => s0 (w7.symm.trans h)
        simp only [bd_some, p_let_eq, p_ok, mI_sI, mR_sI, mK_sI, mN_sI, mL_sI, mI_sG, mR_sG, mK_sG, mN_sG, mL_sG, mI_sJ, mR_sJ, mK_sJ, mN_sJ, mL_sJ, z_up, ↓reduceIte, and_self, true_and, and_true, false_and, and_false, not_true_eq_false, not_false_eq_true, Nat.reduceEqDiff, i_10, i_20, i_30, w_in, w_need1, w_need0, m_in, m_thr0, m_thr1, tM, aM, nI_1, nI_pred, reduceIte, wp_some, eq_self, bI_T, bI_F, F_L_load, F_L_load_c16, F_X12_load, F_X12_load_c41, la, w_ix, F_X13_load, F_X13_load_c22, F_X13_load_c27, F_X13_load_c58, m_noLot, m_noMachine, s_o0 hS, s_r0_0 hS, s_r0_1 hS, s_r0_10 hS, s_r0_11 hS, s_r0_12 hS, s_r0_14 hS, s_r0_16 hS, s_r0_19 hS, s_r0_7 hS, s_r0_8 hS, s_r0_9 hS, s_a36 hS, s_l36 hS, s_o36 hS, s_r36_0 hS, s_r36_1 hS, s_r36_2 hS, s_r36_3 hS, s_o112 hS, c2, d1, d2, d3, d4, c23, ii, i4, r36, o57, g1, w96, ij, c4, j40, s0]
        exact no
