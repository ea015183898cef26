/-! cheapest, bath -/
abbrev chC : List Nat := [15, 17, 18, 19, 20, 21, 22, 23, 24, 25, 74, 75, 76]
abbrev chS : List Nat := [0, 18, 19, 20, 21, 22]
theorem b_search {X : p_X} (hX : oX2 X) {μ : p_M} (hS : Sh μ) (hC : RCloth μ) {n j x y z most : Nat} (en : mI μ 0 2 = nI n) (hn : n ≤ 6) (hj : j < n) (hx : x ≤ y) (hy : y ≤ 255) (hz : z ≤ 255) (hm : most ≤ 6) : ∃ (B : BB) (μ1 : p_M), F_X12_searchFor X 0 (nI j) (nI x) (nI y) (nI z) (nI most) μ = some (0, 0, μ1) ∧ BC μ1 B ∧ Fq sCl [] μ μ1 ∧ ∀ μ0, Fr sCl [0] μ μ0 → ∃ μ2, F_X13_cheapestOf (nI j) (nI x) (nI y) (nI z) (nI most) μ0 = some (if B.isSome = true then 1 else 0, μ2) ∧ MB μ2 B ∧ (∀ k, k < 205 → mI μ2 74 k = mI μ0 74 k) ∧ Fq [74, 75, 76] [18, 19, 20, 21, 22] μ0 μ2 := by
  obtain ⟨n', hn', e1, e2, e3⟩ := hC
  have : n' = n := by
    rw [en] at e1
    exact ((nI_eq (by omega) (by omega)).mp e1).symm
  subst this
  obtain ⟨s, t, h, hs, ht, hh, g1, g2, g3, g4⟩ := e3 j hj
  rw [cf_eq (show j < 6 by omega)] at g4
  have ok0 : okL (s, s, t, t, 0) := ⟨hs, hs, ht, ht, Nat.zero_le 1⟩
  have fq0 : Fq sCl [] μ (sI (sI (sI (sI (sI μ 15 5 (nI x)) 15 6 (nI y)) 15 7 (nI z)) 15 3 (-1)) 15 4 0) := Fq_sI (Fq_sI (Fq_sI (Fq_sI (Fq_sI (Fq_refl μ) (by decide)) (by decide)) (by decide)) (by decide)) (by decide)
  have hS0 := Sh_q fq0 hS
  have j15 : ¬ 51 + j = 15 := by omega
  obtain ⟨μ1, p1, p2, p3⟩ := c_copy (μ := sI (sI (sI (sI (sI μ 15 5 (nI x)) 15 6 (nI y)) 15 7 (nI z)) 15 3 (-1)) 15 4 0) (a := 19) (c := 51 + j) (s_o19 hS0) (s_o51v hS0 (by omega)) (by decide) (by omega) (by simp only [mI_sI, mR_sI, mK_sI, mN_sI, mL_sI, mI_sG, mR_sG, mK_sG, mN_sG, mL_sG, mI_sJ, mR_sJ, mK_sJ, mN_sJ, mL_sJ, mI_sA, mR_sA, mK_sA, mN_sA, mL_sA, z_up, ↓reduceIte, reduceIte, Nat.reduceEqDiff, true_and, and_true, j15]; exact g4) ok0
  have hS1 := Sh_q p3 hS0
  have d15 : mI μ1 15 = mI (sI (sI (sI (sI (sI μ 15 5 (nI x)) 15 6 (nI y)) 15 7 (nI z)) 15 3 (-1)) 15 4 0) 15 := Fq_row p3 15 (by decide)
  have st : St μ1 0 (s, s, t, t, 0) h x y z (fun _ => 0) none := by
    refine ⟨hS1, p2, ⟨?_, ?_, ?_, by omega, hy, hz⟩, fun j hj => by omega, ?_⟩
    · rw [d15]; simp only [mI_sI, mR_sI, mK_sI, mN_sI, mL_sI, mI_sG, mR_sG, mK_sG, mN_sG, mL_sG, mI_sJ, mR_sJ, mK_sJ, mN_sJ, mL_sJ, mI_sA, mR_sA, mK_sA, mN_sA, mL_sA, z_up, ↓reduceIte, reduceIte, Nat.reduceEqDiff, true_and, and_true]
    · rw [d15]; simp only [mI_sI, mR_sI, mK_sI, mN_sI, mL_sI, mI_sG, mR_sG, mK_sG, mN_sG, mL_sG, mI_sJ, mR_sJ, mK_sJ, mN_sJ, mL_sJ, mI_sA, mR_sA, mK_sA, mN_sA, mL_sA, z_up, ↓reduceIte, reduceIte, Nat.reduceEqDiff, true_and, and_true]
    · rw [d15]; simp only [mI_sI, mR_sI, mK_sI, mN_sI, mL_sI, mI_sG, mR_sG, mK_sG, mN_sG, mL_sG, mI_sJ, mR_sJ, mK_sJ, mN_sJ, mL_sJ, mI_sA, mR_sA, mK_sA, mN_sA, mL_sA, z_up, ↓reduceIte, reduceIte, Nat.reduceEqDiff, true_and, and_true]
    · show mI μ1 15 3 = -1
      rw [d15]; simp only [mI_sI, mR_sI, mK_sI, mN_sI, mL_sI, mI_sG, mR_sG, mK_sG, mN_sG, mL_sG, mI_sJ, mR_sJ, mK_sJ, mN_sJ, mL_sJ, mI_sA, mR_sA, mK_sA, mN_sA, mL_sA, z_up, ↓reduceIte, reduceIte, Nat.reduceEqDiff, true_and, and_true]
  obtain ⟨μ2, q1, q2, q3⟩ := c_desc hX hh hm most 0 8 (by omega) (by omega) μ1 (s, s, t, t, 0) 0 (fun _ => 0) none (by omega) ok0 st
  rw [sC_eq] at q3
  refine ⟨_, μ2, ?_, q3, Fq_trans fq0 (Fq_trans (Fq_mono p3 (by decide) (by decide)) q2.1), fun μ0 f0 => ?_⟩
  · have q1 : F_X9_descend X 8 15 0 (nI most) 0 μ1 = some (0, μ2) := q1
    have ij := ix_nI (show j < 6 by omega) (by decide)
    have kj := nI_clamp (show j < 2 ^ 31 by omega)
    have lj : j < 6 := by omega
    have ci : 0 ≤ nI j ∧ nI j < nI n' := ⟨nI_pos' (by omega), nI_lt hj (by omega)⟩
    have cw : wish (nI x) (nI y) (nI z) = True := eq_true ⟨nI_pos' (by omega), nI_le hx (by omega), (show nI y ≤ nI 255 from nI_le hy (by decide)), nI_pos' (by omega), (show nI z ≤ nI 255 from nI_le hz (by decide))⟩
    have cm : 0 ≤ nI most ∧ nI most ≤ 6 := ⟨nI_pos' (by omega), (show nI most ≤ nI 6 from nI_le hm (by decide))⟩
    have mm : ¬ 6 < nI most := (show ¬ nI 6 < nI most from nI_nlt hm (by decide))
    have z7 : ¬ (0 : Int32) < 0 ∧ Int32.toNatClampNeg 0 < 7 := by decide
    have z0 : Int32.toNatClampNeg 0 = 0 := rfl
    have l7 : 0 < 7 := by decide
    have c23 : 23 ≤ 23 ∧ 23 ≤ 26 := by decide
    have r160 : mR μ 16 0 = some 19 := s_r16_0 hS
    simp only [bd_some, p_let_eq, p_ok, mI_sI, mR_sI, mK_sI, mN_sI, mL_sI, mI_sG, mR_sG, mK_sG, mN_sG, mL_sG, mI_sJ, mR_sJ, mK_sJ, mN_sJ, mL_sJ, z_up, ↓reduceIte, and_self, true_and, and_true, false_and, and_false, not_true_eq_false, not_false_eq_true, Nat.reduceEqDiff, i_10, i_20, i_30, w_in, w_need1, w_need0, m_in, m_thr0, m_thr1, tM, aM, nI_1, nI_pred, reduceIte, wp_some, eq_self, bI_T, bI_F, F_X12_searchFor, F_X9_wishFor, F_X9_run, w_ix, w_wish, s_o0 hS, s_r0_0 hS, s_r0_1 hS, s_r0_10 hS, s_r0_11 hS, s_r0_12 hS, s_r0_14 hS, s_r0_16 hS, s_r0_19 hS, s_r0_7 hS, s_r0_8 hS, s_r0_9 hS, s_a3 hS, s_l3 hS, s_o3 hS, s_r3_0 hS, s_r3_1 hS, s_r3_2 hS, s_r3_3 hS, s_r3_4 hS, s_r3_5 hS, s_o15 hS, s_r15_0 hS, s_r15_1 hS, s_r15_2 hS, s_a16 hS, s_l16 hS, s_o16 hS, s_r16_0 hS, s_r16_1 hS, s_r16_2 hS, s_r16_3 hS, s_r16_4 hS, s_r16_5 hS, s_r16_6 hS, s_o19 hS, s_r3 hS lj, en, ci, cw, cm, mm, ij, kj, lj, z7, z0, l7, c23, r160, p1, s_o15 hS1, q1]
  · have r71 := Fr_row f0 71 (by decide)
    have r72 := Fr_row f0 72 (by decide)
    have r73 := Fr_row f0 73 (by decide)
    obtain ⟨μ3, b1, b2, b3, b4⟩ := m_begins (μ := sI (sI (sI (sI (sI μ0 65 20 (nI x)) 65 21 (nI y)) 65 22 (nI z)) 65 18 (-1)) 65 19 0) (r := 41) (c := j) (x := s) (y := t) (by decide) (by omega) (by simp only [mI_sI, mR_sI, mK_sI, mN_sI, mL_sI, mI_sG, mR_sG, mK_sG, mN_sG, mL_sG, mI_sJ, mR_sJ, mK_sJ, mN_sJ, mL_sJ, mI_sA, mR_sA, mK_sA, mN_sA, mL_sA, z_up, ↓reduceIte, reduceIte, Nat.reduceEqDiff, true_and, and_true]; rw [r71]; exact g1) (by simp only [mI_sI, mR_sI, mK_sI, mN_sI, mL_sI, mI_sG, mR_sG, mK_sG, mN_sG, mL_sG, mI_sJ, mR_sJ, mK_sJ, mN_sJ, mL_sJ, mI_sA, mR_sA, mK_sA, mN_sA, mL_sA, z_up, ↓reduceIte, reduceIte, Nat.reduceEqDiff, true_and, and_true]; rw [r72]; exact g2)
    have ms : Ms μ3 0 j (s, s, t, t, 0) h x y z (fun _ => 0) none := by
      refine ⟨b2, ?_, ⟨?_, ?_, ?_, by omega, hy, hz⟩, fun j hj => by omega, ?_⟩
      · rw [Fq_row b4 73 (by decide)]; simp only [mI_sI, mR_sI, mK_sI, mN_sI, mL_sI, mI_sG, mR_sG, mK_sG, mN_sG, mL_sG, mI_sJ, mR_sJ, mK_sJ, mN_sJ, mL_sJ, mI_sA, mR_sA, mK_sA, mN_sA, mL_sA, z_up, ↓reduceIte, reduceIte, Nat.reduceEqDiff, true_and, and_true]; rw [r73]; exact g3
      · rw [Fq_sc b4 20 rfl]; simp only [mI_sI, mR_sI, mK_sI, mN_sI, mL_sI, mI_sG, mR_sG, mK_sG, mN_sG, mL_sG, mI_sJ, mR_sJ, mK_sJ, mN_sJ, mL_sJ, mI_sA, mR_sA, mK_sA, mN_sA, mL_sA, z_up, ↓reduceIte, reduceIte, Nat.reduceEqDiff, true_and, and_true]
      · rw [Fq_sc b4 21 rfl]; simp only [mI_sI, mR_sI, mK_sI, mN_sI, mL_sI, mI_sG, mR_sG, mK_sG, mN_sG, mL_sG, mI_sJ, mR_sJ, mK_sJ, mN_sJ, mL_sJ, mI_sA, mR_sA, mK_sA, mN_sA, mL_sA, z_up, ↓reduceIte, reduceIte, Nat.reduceEqDiff, true_and, and_true]
      · rw [Fq_sc b4 22 rfl]; simp only [mI_sI, mR_sI, mK_sI, mN_sI, mL_sI, mI_sG, mR_sG, mK_sG, mN_sG, mL_sG, mI_sJ, mR_sJ, mK_sJ, mN_sJ, mL_sJ, mI_sA, mR_sA, mK_sA, mN_sA, mL_sA, z_up, ↓reduceIte, reduceIte, Nat.reduceEqDiff, true_and, and_true]
      · show mI μ3 65 18 = -1
        rw [Fq_sc b4 18 rfl]; simp only [mI_sI, mR_sI, mK_sI, mN_sI, mL_sI, mI_sG, mR_sG, mK_sG, mN_sG, mL_sG, mI_sJ, mR_sJ, mK_sJ, mN_sJ, mL_sJ, mI_sA, mR_sA, mK_sA, mN_sA, mL_sA, z_up, ↓reduceIte, reduceIte, Nat.reduceEqDiff, true_and, and_true]
    obtain ⟨μ4, w1, w2, w3⟩ := m_seek (c := j) (show j < 6 by omega) hh hm most 0 8 (by omega) (by omega) μ3 (s, s, t, t, 0) 0 (fun _ => 0) none (by omega) ok0 ms
    have b1 : F_X13_begins 41 (nI j) _ = some (0, μ3) := b1
    have w1 : F_X13_seeks 8 (nI j) 0 (nI most) 0 μ3 = some (0, μ4) := w1
    refine ⟨μ4, ?_, w3, fun k hk => ?_, Fq_trans (Fq_s65 (Fq_s65 (Fq_s65 (Fq_s65 (Fq_s65 (Fq_refl μ0) (by decide)) (by decide)) (by decide)) (by decide)) (by decide)) (Fq_trans (Fq_mono b4 (by decide) (by decide)) (Fq_mono w2.1 (by decide) (by decide)))⟩
    · generalize sM h x y z most 0 (s, s, t, t, 0) 0 (fun _ => 0) none = B at *
      cases B with
      | none =>
        have w3 : mI μ4 65 18 = -1 := w3
        have z1 : (-1 : Int32) < 0 := by decide
        simp only [F_X13_cheapestOf, F_X13_cheapestOf_c54, bd_some, p_ok, tM, b1, w1, w3, z1, eq_self, true_or, ↓reduceIte, Option.isSome_none, Bool.false_eq_true]
      | some q =>
        obtain ⟨f1, -, f3, -⟩ := w3
        have z1 : ¬ nI q.1 < 0 := nI_pos (by omega)
        simp only [F_X13_cheapestOf, F_X13_cheapestOf_c54, bd_some, p_ok, tM, b1, w1, f1, z1, eq_self, or_true, ↓reduceIte, Option.isSome_some]
    · rw [w2.2.1 k (by omega), b3 k (by omega)]
      simp only [mI_sI, mR_sI, mK_sI, mN_sI, mL_sI, mI_sG, mR_sG, mK_sG, mN_sG, mL_sG, mI_sJ, mR_sJ, mK_sJ, mN_sJ, mL_sJ, mI_sA, mR_sA, mK_sA, mN_sA, mL_sA, z_up, ↓reduceIte, reduceIte, Nat.reduceEqDiff, true_and, and_true]
theorem A_cheapest {X : p_X} (hX : oX2 X) {μ : p_M} (hS : Sh μ) (hC : RCloth μ) (v1 v2 v3 v4 v5 : Int32) : wp (F_L_cheapest X 0 v1 v2 v3 v4 v5 112 μ) fun k μ1 => wp (F_X13_cheapest v1 v2 v3 v4 v5 μ1) fun b μ2 => Post k b μ μ2 ∧ (∀ k, k < 205 → mI μ2 74 k = mI μ 74 k) ∧ Fr chC chS μ μ2 := by
  have hC0 := hC
  obtain ⟨n, hn, e1, e2, -⟩ := hC0
  have thr : ∀ v : Int32, ¬ v = 0 → Post v 0 μ (sI (sI (sG μ 1 6) 65 0 0) 65 0 v) ∧ Fr chC chS μ (sI (sI (sG μ 1 6) 65 0 0) 65 0 v) := fun v hv => ⟨thr_post hv, Fr_mono thr_fr (by decide) (by decide)⟩
  rcases ix3 v1 (mI μ 0 2) (mI μ 65 14 - 1) n (by omega) e1 (by rw [e2]) with ⟨c1, c2⟩ | ⟨j, hj, rfl, c1, c2, c3, c4⟩
  · simp only [bd_some, p_let_eq, p_ok, mI_sI, mR_sI, mK_sI, mN_sI, mL_sI, mI_sG, mR_sG, mK_sG, mN_sG, mL_sG, mI_sJ, mR_sJ, mK_sJ, mN_sJ, mL_sJ, z_up, ↓reduceIte, and_self, true_and, and_true, false_and, and_false, not_true_eq_false, not_false_eq_true, Nat.reduceEqDiff, i_10, i_20, i_30, w_in, w_need1, w_need0, m_in, m_thr0, m_thr1, tM, aM, nI_1, nI_pred, reduceIte, wp_some, eq_self, bI_T, bI_F, F_L_cheapest, F_X12_cheapest, F_X12_searchFor, F_X13_cheapest, F_X13_cheapest_c52, w_ix, m_noCloth, s_o0 hS, s_r0_0 hS, s_r0_1 hS, s_r0_10 hS, s_r0_11 hS, s_r0_12 hS, s_r0_14 hS, s_r0_16 hS, s_r0_19 hS, s_r0_7 hS, s_r0_8 hS, s_r0_9 hS, s_o112 hS, c1, c2]
    exact ⟨(thr 1 (by decide)).1, fun _ _ => trivial, (thr 1 (by decide)).2⟩
  · by_cases c5 : wish v2 v3 v4
    · have w5 : wish v2 v3 v4 = True := eq_true c5
      by_cases c6 : 0 ≤ v5 ∧ v5 ≤ 6
      · obtain ⟨d1, d2, d3, d4, d5⟩ := c5
        obtain ⟨y, -, hy, ey⟩ := rg3 v3 0 255 0 255 rfl rfl (by decide) (by decide) ⟨Int32.le_iff_toInt_le.mpr (Int.le_trans (Int32.le_iff_toInt_le.mp d1) (Int32.le_iff_toInt_le.mp d2)), d3⟩
        subst ey
        obtain ⟨x, -, hx, ex⟩ := rg3 v2 0 y 0 (nI y) rfl rfl (by omega) (by decide) ⟨d1, d2⟩
        subst ex
        obtain ⟨z, -, hz, ez⟩ := rg3 v4 0 255 0 255 rfl rfl (by decide) (by decide) ⟨d4, d5⟩
        subst ez
        obtain ⟨most, -, hm, em⟩ := rg3 v5 0 6 0 6 rfl rfl (by decide) (by decide) c6
        subst em
        obtain ⟨B, μ1, t1, t2, t3, t4⟩ := b_search hX hS hC e1 hn hj hx hy hz hm
        have hS1 := Sh_q t3 hS
        obtain ⟨μ3, u1, u2, u3, u4⟩ := t4 (sI (sJ μ1 112 (Int32.toNatClampNeg 0) (mI μ1 15 3).toInt64) 65 0 0) (Fr_s65 (Fr_sJ (Fr_mono (Fq_fr t3) (by decide) (by decide))) (by decide))
        have m14 : mI μ1 65 14 = mI μ 65 14 := Fq_sc t3 14 rfl
        have fin : (∀ b : Int32, mI μ1 15 3 = b → Post 0 b μ μ3 ∧ (∀ k, k < 205 → mI μ3 74 k = mI μ 74 k) ∧ Fr chC chS μ μ3) := by
          intro b hb
          refine ⟨⟨?_, fun _ => ?_, ?_⟩, fun k hk => ?_, ?_⟩
          · rw [Fq_sc u4 0 rfl]; simp only [mI_sI, mR_sI, mK_sI, mN_sI, mL_sI, mI_sG, mR_sG, mK_sG, mN_sG, mL_sG, mI_sJ, mR_sJ, mK_sJ, mN_sJ, mL_sJ, mI_sA, mR_sA, mK_sA, mN_sA, mL_sA, z_up, ↓reduceIte, reduceIte, Nat.reduceEqDiff, true_and, and_true]
          · rw [Fq_J u4, ← hb]; rfl
          · refine Cn_eq ?_ ?_
            · rw [Fq_C u4]; exact (show mC μ1 = mC μ from Fq_C t3)
            · rw [Fq_S u4]; exact (show mS μ1 = mS μ from Fq_S t3)
          · rw [u3 k hk]
            show mI μ1 74 k = mI μ 74 k
            rw [Fq_row t3 74 (by decide)]
          · exact Fr_trans (Fr_s65 (Fr_sJ (Fr_mono (Fq_fr t3) (by decide) (by decide))) (by decide)) (Fr_mono (Fq_fr u4) (by decide) (by decide))
        cases B with
        | none =>
          have t2 : mI μ1 15 3 = -1 := t2
          rw [t2] at u1
          simp only [Option.isSome_none, Bool.false_eq_true, ↓reduceIte] at u1
          simp only [bd_some, p_let_eq, p_ok, mI_sI, mR_sI, mK_sI, mN_sI, mL_sI, mI_sG, mR_sG, mK_sG, mN_sG, mL_sG, mI_sJ, mR_sJ, mK_sJ, mN_sJ, mL_sJ, z_up, ↓reduceIte, and_self, true_and, and_true, false_and, and_false, not_true_eq_false, not_false_eq_true, Nat.reduceEqDiff, i_10, i_20, i_30, w_in, w_need1, w_need0, m_in, m_thr0, m_thr1, tM, aM, nI_1, nI_pred, reduceIte, wp_some, eq_self, bI_T, bI_F, F_L_cheapest, F_X12_cheapest, F_X13_cheapest, F_X13_cheapest_c45, F_X13_cheapest_c76, m_noCloth, m_noWish, s_o0 hS, s_r0_0 hS, s_r0_1 hS, s_r0_10 hS, s_r0_11 hS, s_r0_12 hS, s_r0_14 hS, s_r0_16 hS, s_r0_19 hS, s_r0_7 hS, s_r0_8 hS, s_r0_9 hS, s_o112 hS, s_o0 hS1, s_r0_0 hS1, s_r0_1 hS1, s_r0_10 hS1, s_r0_11 hS1, s_r0_12 hS1, s_r0_14 hS1, s_r0_16 hS1, s_r0_19 hS1, s_r0_7 hS1, s_r0_8 hS1, s_r0_9 hS1, s_o15 hS1, s_r15_0 hS1, s_r15_1 hS1, s_r15_2 hS1, s_o112 hS1, c2, w5, c6, t1, m14, t2, u1]
          exact fin (-1) t2
        | some q =>
          have t20 := t2
          obtain ⟨f1, -⟩ := t2
          obtain ⟨f2, -⟩ := u2
          rw [f1] at u1
          simp only [Option.isSome_some, ↓reduceIte] at u1
          simp only [bd_some, p_let_eq, p_ok, mI_sI, mR_sI, mK_sI, mN_sI, mL_sI, mI_sG, mR_sG, mK_sG, mN_sG, mL_sG, mI_sJ, mR_sJ, mK_sJ, mN_sJ, mL_sJ, z_up, ↓reduceIte, and_self, true_and, and_true, false_and, and_false, not_true_eq_false, not_false_eq_true, Nat.reduceEqDiff, i_10, i_20, i_30, w_in, w_need1, w_need0, m_in, m_thr0, m_thr1, tM, aM, nI_1, nI_pred, reduceIte, wp_some, eq_self, bI_T, bI_F, F_L_cheapest, F_X12_cheapest, F_X13_cheapest, F_X13_cheapest_c45, F_X13_cheapest_c76, m_noCloth, m_noWish, s_o0 hS, s_r0_0 hS, s_r0_1 hS, s_r0_10 hS, s_r0_11 hS, s_r0_12 hS, s_r0_14 hS, s_r0_16 hS, s_r0_19 hS, s_r0_7 hS, s_r0_8 hS, s_r0_9 hS, s_o112 hS, s_o0 hS1, s_r0_0 hS1, s_r0_1 hS1, s_r0_10 hS1, s_r0_11 hS1, s_r0_12 hS1, s_r0_14 hS1, s_r0_16 hS1, s_r0_19 hS1, s_r0_7 hS1, s_r0_8 hS1, s_r0_9 hS1, s_o15 hS1, s_r15_0 hS1, s_r15_1 hS1, s_r15_2 hS1, s_o112 hS1, c2, w5, c6, t1, m14, f1, u1, f2]
          exact fin _ f1
      · simp only [bd_some, p_let_eq, p_ok, mI_sI, mR_sI, mK_sI, mN_sI, mL_sI, mI_sG, mR_sG, mK_sG, mN_sG, mL_sG, mI_sJ, mR_sJ, mK_sJ, mN_sJ, mL_sJ, z_up, ↓reduceIte, and_self, true_and, and_true, false_and, and_false, not_true_eq_false, not_false_eq_true, Nat.reduceEqDiff, i_10, i_20, i_30, w_in, w_need1, w_need0, m_in, m_thr0, m_thr1, tM, aM, nI_1, nI_pred, reduceIte, wp_some, eq_self, bI_T, bI_F, F_L_cheapest, F_X12_cheapest, F_X12_searchFor, F_X13_cheapest, F_X13_cheapest_c40, F_X13_cheapest_c45, F_X13_cheapest_c52, w_ix, w_wish, m_noWish, m_noCloth, s_o0 hS, s_r0_0 hS, s_r0_1 hS, s_r0_10 hS, s_r0_11 hS, s_r0_12 hS, s_r0_14 hS, s_r0_16 hS, s_r0_19 hS, s_r0_7 hS, s_r0_8 hS, s_r0_9 hS, s_o112 hS, c1, c2, w5, c6]
        exact ⟨(thr 2 (by decide)).1, fun _ _ => trivial, (thr 2 (by decide)).2⟩
    · have w5 : wish v2 v3 v4 = False := eq_false c5
      simp only [bd_some, p_let_eq, p_ok, mI_sI, mR_sI, mK_sI, mN_sI, mL_sI, mI_sG, mR_sG, mK_sG, mN_sG, mL_sG, mI_sJ, mR_sJ, mK_sJ, mN_sJ, mL_sJ, z_up, ↓reduceIte, and_self, true_and, and_true, false_and, and_false, not_true_eq_false, not_false_eq_true, Nat.reduceEqDiff, i_10, i_20, i_30, w_in, w_need1, w_need0, m_in, m_thr0, m_thr1, tM, aM, nI_1, nI_pred, reduceIte, wp_some, eq_self, bI_T, bI_F, F_L_cheapest, F_X12_cheapest, F_X12_searchFor, F_X13_cheapest, F_X13_cheapest_c40, F_X13_cheapest_c45, F_X13_cheapest_c52, w_ix, w_wish, m_noWish, m_noCloth, s_o0 hS, s_r0_0 hS, s_r0_1 hS, s_r0_10 hS, s_r0_11 hS, s_r0_12 hS, s_r0_14 hS, s_r0_16 hS, s_r0_19 hS, s_r0_7 hS, s_r0_8 hS, s_r0_9 hS, s_o112 hS, c1, c2, w5]
      exact ⟨(thr 2 (by decide)).1, fun _ _ => trivial, (thr 2 (by decide)).2⟩
