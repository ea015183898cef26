/-! known, sorted -/
theorem c_sorted {c : p_M} {l P nb : Nat} {pl jj : Nat → Int32} (hS : Sh c) (S : LotS c l P nb) (hP : P ≤ 60) (e1 : mI c l 1 = nI P) (day what : Int32) (hpl : ∀ p, p < P → mI c (l + 5) p = pl p) (hjd : ∀ p, p < P → F_X12_judged 0 l (nI p) day c = some (jj p, c)) : ∀ (r k n : Nat), k + r = P → r < n → F_X12_sorted_c18 n 0 day what l (nI (cnt (fun p => decide (pl p = 0 ∧ jj p = what)) k)) (nI k) c = some (0, nI (cnt (fun p => decide (pl p = 0 ∧ jj p = what)) P), c) := by
  obtain ⟨s0, s1, -, -, s4, -, -, -, s8, s9, -, -⟩ := S
  intro r
  induction r with
  | zero =>
    intro k n hk hn
    obtain ⟨n, rfl⟩ : ∃ k, n = k + 1 := ⟨n - 1, by omega⟩
    have hk : k = P := by omega
    subst hk
    have c1 : nI k ≤ nI k := nI_le (Nat.le_refl _) (by omega)
    simp only [F_X12_sorted_c18, p_ok, s1, e1, c1, and_self, ↓reduceIte]
  | succ r ih =>
    intro k n hk hn
    obtain ⟨n, rfl⟩ : ∃ k, n = k + 1 := ⟨n - 1, by omega⟩
    have c1 : ¬ nI P ≤ nI k := nI_ge (by omega) (by omega)
    have ik := ix_nI (show k < P by omega) (by omega)
    have kk := nI_clamp (show k < 2 ^ 31 by omega)
    have lk : k < P := by omega
    have ak : nI k + 1 = nI (k + 1) := nI_add k 1
    have r1 := ih (k + 1) n (by omega) (by omega)
    have e := hpl k lk
    have ej := hjd k lk
    by_cases h1 : pl k = 0
    · have q1 : F_X4_isStillHere l (nI k) c = some (1, c) := by
        simp only [F_X4_isStillHere, F_X4_isStillHere_c14, bd_some, p_ok, s1, s4, s8, s9, ik, kk, lk, e, h1, and_self, true_and, not_true_eq_false, not_false_eq_true, ↓reduceIte, or_true]
      by_cases h2 : jj k = what
      · have hc : cnt (fun p => decide (pl p = 0 ∧ jj p = what)) (k + 1) = cnt (fun p => decide (pl p = 0 ∧ jj p = what)) k + 1 := by
          show cnt _ k + (if decide (pl k = 0 ∧ jj k = what) = true then 1 else 0) = _
          rw [if_pos (decide_eq_true ⟨h1, h2⟩)]
        rw [hc] at r1
        have ac : nI (cnt (fun p => decide (pl p = 0 ∧ jj p = what)) k) + 1 = nI (cnt (fun p => decide (pl p = 0 ∧ jj p = what)) k + 1) := nI_add _ 1
        simp only [F_X12_sorted_c18, F_X12_sorted_c54, bd_some, p_ok, s_o0 hS, s_r0_0 hS, s_r0_1 hS, s_r0_10 hS, s_r0_11 hS, s_r0_12 hS, s_r0_14 hS, s_r0_16 hS, s_r0_19 hS, s_r0_7 hS, s_r0_8 hS, s_r0_9 hS, s1, e1, c1, q1, i_10, ej, h2, ak, ac, and_self, not_true_eq_false, ↓reduceIte]
        exact r1
      · have hc : cnt (fun p => decide (pl p = 0 ∧ jj p = what)) (k + 1) = cnt (fun p => decide (pl p = 0 ∧ jj p = what)) k := by
          show cnt _ k + (if decide (pl k = 0 ∧ jj k = what) = true then 1 else 0) = _
          rw [if_neg (fun q => h2 (of_decide_eq_true q).2), Nat.add_zero]
        rw [hc] at r1
        simp only [F_X12_sorted_c18, F_X12_sorted_c54, bd_some, p_ok, s_o0 hS, s_r0_0 hS, s_r0_1 hS, s_r0_10 hS, s_r0_11 hS, s_r0_12 hS, s_r0_14 hS, s_r0_16 hS, s_r0_19 hS, s_r0_7 hS, s_r0_8 hS, s_r0_9 hS, s1, e1, c1, q1, i_10, ej, h2, ak, and_self, not_false_eq_true, ↓reduceIte]
        exact r1
    · have q1 : F_X4_isStillHere l (nI k) c = some (0, c) := by
        simp only [F_X4_isStillHere, F_X4_isStillHere_c14, bd_some, p_ok, s1, s4, s8, s9, ik, kk, lk, e, h1, and_self, true_and, not_false_eq_true, ↓reduceIte, true_or]
      have hc : cnt (fun p => decide (pl p = 0 ∧ jj p = what)) (k + 1) = cnt (fun p => decide (pl p = 0 ∧ jj p = what)) k := by
        show cnt _ k + (if decide (pl k = 0 ∧ jj k = what) = true then 1 else 0) = _
        rw [if_neg (fun q => h1 (of_decide_eq_true q).1), Nat.add_zero]
      rw [hc] at r1
      simp only [F_X12_sorted_c18, F_X12_sorted_c54, bd_some, p_ok, s1, e1, c1, q1, ak, and_self, ↓reduceIte]
      exact r1
theorem m_sorted {m : p_M} {P j : Nat} {jj : Nat → Int32} (hP : P ≤ 60) (hj : j < 40) (e90 : mI m 90 j = nI P) (day what : Int32) (hjd : ∀ p, p < P → F_X13_knownOf (nI j) (nI p) day m = some (jj p, m)) : ∀ (r k n : Nat), k + r = P → r < n → F_X13_sortedOf_c6 n (nI j) day what (nI (cnt (fun p => decide (mI m 103 (60 * j + p) = 0 ∧ jj p = what)) k)) (nI k) m = some (nI (cnt (fun p => decide (mI m 103 (60 * j + p) = 0 ∧ jj p = what)) P), m) := by
  have ij := ix_nI hj (by decide)
  have kj := nI_clamp (show j < 2 ^ 31 by omega)
  have m60 : 60 * nI j = nI (60 * j) := pk_mul 60 j
  intro r
  induction r with
  | zero =>
    intro k n hk hn
    obtain ⟨n, rfl⟩ : ∃ k, n = k + 1 := ⟨n - 1, by omega⟩
    have hk : k = P := by omega
    subst hk
    have c1 : nI k ≤ nI k := nI_le (Nat.le_refl _) (by omega)
    simp only [F_X13_sortedOf_c6, p_ok, aM, ij, kj, hj, e90, c1, and_self, true_and, not_false_eq_true, ↓reduceIte]
  | succ r ih =>
    intro k n hk hn
    obtain ⟨n, rfl⟩ : ∃ k, n = k + 1 := ⟨n - 1, by omega⟩
    have c1 : ¬ nI P ≤ nI k := nI_ge (by omega) (by omega)
    have a60 : nI (60 * j) + nI k = nI (60 * j + k) := nI_add _ _
    have i1 := ix_nI (show 60 * j + k < 2400 by omega) (by decide)
    have k1 := nI_clamp (show 60 * j + k < 2 ^ 31 by omega)
    have l1 : 60 * j + k < 2400 := by omega
    have ak : nI k + 1 = nI (k + 1) := nI_add k 1
    have a0 : ∀ x : Int32, x + 0 = x := fun x => Int32.add_zero x
    have r1 := ih (k + 1) n (by omega) (by omega)
    have ej := hjd k (by omega)
    by_cases h1 : mI m 103 (60 * j + k) = 0
    · by_cases h2 : jj k = what
      · have hc : cnt (fun p => decide (mI m 103 (60 * j + p) = 0 ∧ jj p = what)) (k + 1) = cnt (fun p => decide (mI m 103 (60 * j + p) = 0 ∧ jj p = what)) k + 1 := by
          show cnt _ k + (if decide (mI m 103 (60 * j + k) = 0 ∧ jj k = what) = true then 1 else 0) = _
          rw [if_pos (decide_eq_true ⟨h1, h2⟩)]
        rw [hc] at r1
        have ac : nI (cnt (fun p => decide (mI m 103 (60 * j + p) = 0 ∧ jj p = what)) k) + 1 = nI (cnt (fun p => decide (mI m 103 (60 * j + p) = 0 ∧ jj p = what)) k + 1) := nI_add _ 1
        simp only [F_X13_sortedOf_c6, F_X13_sortedOf_c51, bd_some, p_ok, aM, ij, kj, hj, e90, c1, m60, a60, i1, k1, l1, h1, ej, h2, ak, ac, and_self, true_and, not_true_eq_false, not_false_eq_true, ↓reduceIte]
        exact r1
      · have hc : cnt (fun p => decide (mI m 103 (60 * j + p) = 0 ∧ jj p = what)) (k + 1) = cnt (fun p => decide (mI m 103 (60 * j + p) = 0 ∧ jj p = what)) k := by
          show cnt _ k + (if decide (mI m 103 (60 * j + k) = 0 ∧ jj k = what) = true then 1 else 0) = _
          rw [if_neg (fun q => h2 (of_decide_eq_true q).2), Nat.add_zero]
        rw [hc] at r1
        simp only [F_X13_sortedOf_c6, F_X13_sortedOf_c50, F_X13_sortedOf_c51, bd_some, p_ok, aM, ij, kj, hj, e90, c1, m60, a60, i1, k1, l1, h1, ej, h2, ak, a0, and_self, true_and, not_true_eq_false, not_false_eq_true, ↓reduceIte]
        exact r1
    · have hc : cnt (fun p => decide (mI m 103 (60 * j + p) = 0 ∧ jj p = what)) (k + 1) = cnt (fun p => decide (mI m 103 (60 * j + p) = 0 ∧ jj p = what)) k := by
        show cnt _ k + (if decide (mI m 103 (60 * j + k) = 0 ∧ jj k = what) = true then 1 else 0) = _
        rw [if_neg (fun q => h1 (of_decide_eq_true q).1), Nat.add_zero]
      rw [hc] at r1
      simp only [F_X13_sortedOf_c6, F_X13_sortedOf_c50, F_X13_sortedOf_c51, p_ok, aM, ij, kj, hj, e90, c1, m60, a60, i1, k1, l1, h1, ak, a0, and_self, true_and, not_false_eq_true, ↓reduceIte]
      exact r1
/-- what is known of each piece of a lot, on both sides -/
theorem b_known {μ : p_M} {N M C K j l : Nat} (hS : Sh μ) (hN : N ≤ 40) (hj : j < N) (hLj : LotR μ C K M j l) (hme : MeaR μ N M) (day : Int32) : ∃ P nb : Nat, 1 ≤ P ∧ P ≤ 60 ∧ LotS μ l P nb ∧ mI μ l 1 = nI P ∧ mI μ 90 j = nI P ∧ ∀ p, p < P → (F_X6_shadeOn 38 (mI μ (l + 6) p) day μ = some (shd (mI μ 104) (mI μ 105) (mI μ 106) (mI μ 107) j p day M, μ) ∧ F_X12_judged 0 l (nI p) day μ = some (jdg (shd (mI μ 104) (mI μ 105) (mI μ 106) (mI μ 107) j p day M) (mI μ 92 j) (mI μ 93 j), μ)) ∧ ∀ m : p_M, mI m 104 = mI μ 104 → mI m 105 = mI μ 105 → mI m 106 = mI μ 106 → mI m 107 = mI μ 107 → mI m 92 j = mI μ 92 j → mI m 93 j = mI μ 93 j → mI m 65 69 = mI μ 65 69 → F_X13_shadeOf (nI j) (nI p) day m = some (shd (mI μ 104) (mI μ 105) (mI μ 106) (mI μ 107) j p day M, m) ∧ F_X13_knownOf (nI j) (nI p) day m = some (jdg (shd (mI μ 104) (mI μ 105) (mI μ 106) (mI μ 107) j p day M) (mI μ 92 j) (mI μ 93 j), m) := by
  obtain ⟨P, nb, S, V, G, -, -, -, Pm⟩ := hLj
  have hX := MeaX_of (c := μ) (m := μ) (N := N) (M := M) hN (by rw [mg_self]; exact hme)
  refine ⟨P, nb, G.2.2.1, G.2.2.2.1, S, V.2.1.trans G.2.1, G.2.1, fun p hp => ⟨?_, fun m h1 h2 h3 h4 h5 h6 h7 => ?_⟩⟩
  · have := c_judged hS hX (show j < 40 by omega) G.2.2.2.1 S hp (Pm p hp) day
    rw [V.2.2.2.2.1, V.2.2.2.2.2.1] at this
    exact this
  · have := m_known (m := m) (M := M) (j := j) (p := p) hme.1 (by omega) (by rw [h7]; exact hme.2.2.1) (fun k hk => by
      obtain ⟨-, -, ⟨x, -, g3, g3'⟩, -⟩ := hme.2.2.2.2 k hk
      exact ⟨x, g3, by rw [h3]; exact g3'⟩) day
    rw [h1, h2, h3, h4, h5, h6] at this
    exact this
theorem A_known {μ : p_M} (hS : Sh μ) (hR : RLots μ) (v1 v2 v3 : Int32) : wp (F_L_known 0 v1 v2 v3 112 μ) fun k μ1 => wp (F_X13_known v1 v2 v3 μ1) fun b μ2 => Post k b μ μ2 ∧ Fr [] [0] μ μ2 := by
  obtain ⟨N, K, M, C, E, lr, hLs, hC, hK, hLot, hM, hZ, hzr, hme, hld⟩ := hR
  have hLs0 := hLs
  obtain ⟨l1, l2, l3, -⟩ := hLs
  rcases ix3 v1 (mI μ 37 2) (mI μ 65 62 - 1) N (by omega) l1 (by rw [l2]) with ⟨c1, c2⟩ | ⟨j, hj, rfl, c1, c2, c3, c4⟩
  · rw [l1] at c1
    simp only [bd_some, p_let_eq, p_ok, mI_sI, mR_sI, mK_sI, mN_sI, mL_sI, mI_sG, mR_sG, mK_sG, mN_sG, mL_sG, mI_sJ, mR_sJ, mK_sJ, mN_sJ, mL_sJ, z_up, ↓reduceIte, and_self, true_and, and_true, false_and, and_false, not_true_eq_false, not_false_eq_true, Nat.reduceEqDiff, i_10, i_20, i_30, w_in, w_need1, w_need0, m_in, m_thr0, m_thr1, tM, aM, nI_1, nI_pred, reduceIte, wp_some, eq_self, bI_T, bI_F, F_L_known, F_X12_known, c_lotNo hS hLs0 c1, F_X13_known, F_X13_known_c30, F_X13_noPiece, F_X13_noPiece_c24, F_X13_noPiece_c29, m_noLot, s_o0 hS, s_r0_0 hS, s_r0_1 hS, s_r0_10 hS, s_r0_11 hS, s_r0_12 hS, s_r0_14 hS, s_r0_16 hS, s_r0_19 hS, s_r0_7 hS, s_r0_8 hS, s_r0_9 hS, s_o112 hS, c2, or_true]
    exact ⟨thr_post (by decide), thr_fr⟩
  · obtain ⟨P, nb, P1, P2, S, e1, e90, hk⟩ := b_known hS l3 hj (hLot j hj) hme v3
    have g1 := S.2.1
    have la := c_lotAt hS hLs0 hj g1
    have j40 : j < 40 := by omega
    have ij := ix_nI j40 (by decide)
    rcases ix3 v2 (nI P) (nI P - 1) P (by omega) rfl rfl with ⟨d1, d2⟩ | ⟨p, hp, rfl, d1, d2, d3, d4⟩
    · simp only [bd_some, p_let_eq, p_ok, mI_sI, mR_sI, mK_sI, mN_sI, mL_sI, mI_sG, mR_sG, mK_sG, mN_sG, mL_sG, mI_sJ, mR_sJ, mK_sJ, mN_sJ, mL_sJ, z_up, ↓reduceIte, and_self, true_and, and_true, false_and, and_false, not_true_eq_false, not_false_eq_true, Nat.reduceEqDiff, i_10, i_20, i_30, w_in, w_need1, w_need0, m_in, m_thr0, m_thr1, tM, aM, nI_1, nI_pred, reduceIte, wp_some, eq_self, bI_T, bI_F, F_L_known, F_X12_known, la, g1, w_ix, e1, d1, F_X13_known, F_X13_known_c30, F_X13_noPiece, F_X13_noPiece_c24, F_X13_noPiece_c29, m_noLot, s_o0 hS, s_r0_0 hS, s_r0_1 hS, s_r0_10 hS, s_r0_11 hS, s_r0_12 hS, s_r0_14 hS, s_r0_16 hS, s_r0_19 hS, s_r0_7 hS, s_r0_8 hS, s_r0_9 hS, s_o112 hS, c2, ij, c4, j40, e90, d2, or_true]
      exact ⟨thr_post (by decide), thr_fr⟩
    · obtain ⟨⟨-, k1⟩, k2⟩ := hk p hp
      obtain ⟨-, k3⟩ := k2 (sI (sJ μ 112 (Int32.toNatClampNeg 0) (jdg (shd (mI μ 104) (mI μ 105) (mI μ 106) (mI μ 107) j p v3 M) (mI μ 92 j) (mI μ 93 j)).toInt64) 65 0 0) rfl rfl rfl rfl rfl rfl rfl
      simp only [bd_some, p_let_eq, p_ok, mI_sI, mR_sI, mK_sI, mN_sI, mL_sI, mI_sG, mR_sG, mK_sG, mN_sG, mL_sG, mI_sJ, mR_sJ, mK_sJ, mN_sJ, mL_sJ, z_up, ↓reduceIte, and_self, true_and, and_true, false_and, and_false, not_true_eq_false, not_false_eq_true, Nat.reduceEqDiff, i_10, i_20, i_30, w_in, w_need1, w_need0, m_in, m_thr0, m_thr1, tM, aM, nI_1, nI_pred, reduceIte, wp_some, eq_self, bI_T, bI_F, F_L_known, F_X12_known, la, g1, w_ix, e1, d1, k1, F_X13_known, F_X13_known_c30, F_X13_noPiece, F_X13_noPiece_c24, F_X13_noPiece_c29, m_noLot, s_o0 hS, s_r0_0 hS, s_r0_1 hS, s_r0_10 hS, s_r0_11 hS, s_r0_12 hS, s_r0_14 hS, s_r0_16 hS, s_r0_19 hS, s_r0_7 hS, s_r0_8 hS, s_r0_9 hS, s_o112 hS, c2, ij, c4, j40, e90, d2, true_or, k3]
      exact val_post rfl
theorem A_sorted {μ : p_M} (hS : Sh μ) (hR : RLots μ) (v1 v2 v3 : Int32) : wp (F_L_sorted 0 v1 v2 v3 112 μ) fun k μ1 => wp (F_X13_sorted v1 v2 v3 μ1) fun b μ2 => Post k b μ μ2 ∧ Fr [] [0] μ μ2 := by
  obtain ⟨N, K, M, C, E, lr, hLs, hC, hK, hLot, hM, hZ, hzr, hme, hld⟩ := hR
  have hLs0 := hLs
  obtain ⟨l1, l2, l3, -⟩ := hLs
  rcases ix3 v1 (mI μ 37 2) (mI μ 65 62 - 1) N (by omega) l1 (by rw [l2]) with ⟨c1, c2⟩ | ⟨j, hj, rfl, c1, c2, c3, c4⟩
  · rw [l1] at c1
    simp only [bd_some, p_let_eq, p_ok, mI_sI, mR_sI, mK_sI, mN_sI, mL_sI, mI_sG, mR_sG, mK_sG, mN_sG, mL_sG, mI_sJ, mR_sJ, mK_sJ, mN_sJ, mL_sJ, z_up, ↓reduceIte, and_self, true_and, and_true, false_and, and_false, not_true_eq_false, not_false_eq_true, Nat.reduceEqDiff, i_10, i_20, i_30, w_in, w_need1, w_need0, m_in, m_thr0, m_thr1, tM, aM, nI_1, nI_pred, reduceIte, wp_some, eq_self, bI_T, bI_F, F_L_sorted, F_X12_sorted, c_lotNo hS hLs0 c1, F_X13_sorted, F_X13_sorted_c40, F_X13_sorted_c51, m_noLot, s_o0 hS, s_r0_0 hS, s_r0_1 hS, s_r0_10 hS, s_r0_11 hS, s_r0_12 hS, s_r0_14 hS, s_r0_16 hS, s_r0_19 hS, s_r0_7 hS, s_r0_8 hS, s_r0_9 hS, s_o112 hS, c2]
    exact ⟨thr_post (by decide), thr_fr⟩
  · obtain ⟨P, nb, P1, P2, S, e1, e90, hk⟩ := b_known hS l3 hj (hLot j hj) hme v2
    have g1 := S.2.1
    have la := c_lotAt hS hLs0 hj g1
    have j40 : j < 40 := by omega
    by_cases cw : 0 ≤ v3 ∧ v3 ≤ 3
    · obtain ⟨P', nb', S', -, G', -, -, Pz, -⟩ := hLot j hj
      have eP : P' = P := (nI_eq (show P' < 2 ^ 31 by have := G'.2.2.2.1; omega) (show P < 2 ^ 31 by omega)).mp (G'.2.1.symm.trans e90)
      subst eP
      have q1 := c_sorted (pl := fun p => mI μ 103 (60 * j + p)) (jj := fun p => jdg (shd (mI μ 104) (mI μ 105) (mI μ 106) (mI μ 107) j p v2 M) (mI μ 92 j) (mI μ 93 j)) hS S P2 e1 v2 v3 (fun p hp => (Pz p hp).1) (fun p hp => (hk p hp).1.2) P' 0 p_fu (by omega) (show P' < 100000 by omega)
      have q1 : F_X12_sorted_c18 p_fu 0 v2 v3 (lr j) 0 0 μ = some (0, nI (cnt (fun p => decide (mI μ 103 (60 * j + p) = 0 ∧ jdg (shd (mI μ 104) (mI μ 105) (mI μ 106) (mI μ 107) j p v2 M) (mI μ 92 j) (mI μ 93 j) = v3)) P'), μ) := q1
      obtain ⟨n0, hn0⟩ : ∃ n0, n0 = cnt (fun p => decide (mI μ 103 (60 * j + p) = 0 ∧ jdg (shd (mI μ 104) (mI μ 105) (mI μ 106) (mI μ 107) j p v2 M) (mI μ 92 j) (mI μ 93 j) = v3)) P' := ⟨_, rfl⟩
      rw [← hn0] at q1
      obtain ⟨ν, hν⟩ : ∃ ν, ν = sI (sJ μ 112 (Int32.toNatClampNeg 0) (nI n0).toInt64) 65 0 0 := ⟨_, rfl⟩
      have r : ∀ a, a ≠ 65 → mI ν a = mI μ a := fun a ha => by rw [hν, mI_sI, if_neg ha]; rfl
      have q2 := m_sorted (m := ν) (jj := fun p => jdg (shd (mI μ 104) (mI μ 105) (mI μ 106) (mI μ 107) j p v2 M) (mI μ 92 j) (mI μ 93 j)) P2 j40 (by rw [r 90 (by decide)]; exact e90) v2 v3 (fun p hp => ((hk p hp).2 ν (r 104 (by decide)) (r 105 (by decide)) (r 106 (by decide)) (r 107 (by decide)) (by rw [r 92 (by decide)]) (by rw [r 93 (by decide)]) (by rw [hν]; rfl)).2) P' 0 p_fu (by omega) (show P' < 100000 by omega)
      rw [r 103 (by decide), ← hn0] at q2
      have q2 : F_X13_sortedOf (nI j) v2 v3 ν = some (nI n0, ν) := q2
      rw [hν] at q2
      simp only [bd_some, p_let_eq, p_ok, mI_sI, mR_sI, mK_sI, mN_sI, mL_sI, mI_sG, mR_sG, mK_sG, mN_sG, mL_sG, mI_sJ, mR_sJ, mK_sJ, mN_sJ, mL_sJ, z_up, ↓reduceIte, and_self, true_and, and_true, false_and, and_false, not_true_eq_false, not_false_eq_true, Nat.reduceEqDiff, i_10, i_20, i_30, w_in, w_need1, w_need0, m_in, m_thr0, m_thr1, tM, aM, nI_1, nI_pred, reduceIte, wp_some, eq_self, bI_T, bI_F, F_L_sorted, F_X12_sorted, la, w_what, cw, q1, F_X13_sorted, F_X13_sorted_c33, F_X13_sorted_c51, m_noLot, s_o0 hS, s_r0_0 hS, s_r0_1 hS, s_r0_10 hS, s_r0_11 hS, s_r0_12 hS, s_r0_14 hS, s_r0_16 hS, s_r0_19 hS, s_r0_7 hS, s_r0_8 hS, s_r0_9 hS, s_o112 hS, c2, q2]
      exact val_post rfl
    · simp only [bd_some, p_let_eq, p_ok, mI_sI, mR_sI, mK_sI, mN_sI, mL_sI, mI_sG, mR_sG, mK_sG, mN_sG, mL_sG, mI_sJ, mR_sJ, mK_sJ, mN_sJ, mL_sJ, z_up, ↓reduceIte, and_self, true_and, and_true, false_and, and_false, not_true_eq_false, not_false_eq_true, Nat.reduceEqDiff, i_10, i_20, i_30, w_in, w_need1, w_need0, m_in, m_thr0, m_thr1, tM, aM, nI_1, nI_pred, reduceIte, wp_some, eq_self, bI_T, bI_F, F_L_sorted, F_X12_sorted, la, w_what, cw, F_X13_sorted, F_X13_sorted_c33, F_X13_sorted_c40, F_X13_sorted_c51, m_noLot, s_o0 hS, s_r0_0 hS, s_r0_1 hS, s_r0_10 hS, s_r0_11 hS, s_r0_12 hS, s_r0_14 hS, s_r0_16 hS, s_r0_19 hS, s_r0_7 hS, s_r0_8 hS, s_r0_9 hS, s_o112 hS, c2]
      exact ⟨thr_post (by decide), thr_fr⟩
