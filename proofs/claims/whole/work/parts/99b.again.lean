/-! again -/
theorem RHouse_of {μ μ' : p_M} (hR : mR μ' 0 = mR μ 0) (hr : ∀ a, a ∈ [10, 11, 12, 13, 84] → mI μ' a = mI μ a) (hs : mI μ' 65 41 = mI μ 65 41) (h : RHouse μ) : RHouse μ' := by
  unfold RHouse at *
  rw [hR, hr 10 (by decide), hr 11 (by decide), hr 12 (by decide), hr 13 (by decide), hr 84 (by decide), hs]
  exact h
theorem m_190 {m : p_M} {j N n : Nat} (hj : j < 40) (hN : N < 40) (ne : j ≠ N) : F_X13_again_c190 (n + 1 + 1 + 1 + 1) (nI j) (nI N) 2 m = F_X13_again_c249 p_fu (nI j) (nI N) 0 (sI (sI (sI (sI (sI m 74 (5 * N + 2) (mI m 74 (5 * j + 2))) 74 (5 * N + 3) (mI m 74 (5 * j + 3))) 74 (5 * N + 4) (mI m 74 (5 * j + 4))) 74 (5 * N) 1000000) 74 (5 * N + 1) (-1)) := by
  have m5j : 5 * nI j = nI (5 * j) := pk_mul 5 j
  have m5N : 5 * nI N = nI (5 * N) := pk_mul 5 N
  have j2 : nI (5 * j) + 2 = nI (5 * j + 2) := nI_add _ 2
  have j3 : nI (5 * j) + 3 = nI (5 * j + 3) := nI_add _ 3
  have j4 : nI (5 * j) + 4 = nI (5 * j + 4) := nI_add _ 4
  have N1 : nI (5 * N) + 1 = nI (5 * N + 1) := nI_add _ 1
  have N2 : nI (5 * N) + 2 = nI (5 * N + 2) := nI_add _ 2
  have N3 : nI (5 * N) + 3 = nI (5 * N + 3) := nI_add _ 3
  have N4 : nI (5 * N) + 4 = nI (5 * N + 4) := nI_add _ 4
  have b2 : (2 : Int32) + 1 = 3 := by decide
  have b3 : (3 : Int32) + 1 = 4 := by decide
  have b4 : (4 : Int32) + 1 = 5 := by decide
  have d2 : ¬ (5 : Int32) ≤ 2 := by decide
  have d3 : ¬ (5 : Int32) ≤ 3 := by decide
  have d4 : ¬ (5 : Int32) ≤ 4 := by decide
  have d5 : (5 : Int32) ≤ 5 := by decide
  have ij2 := ix_nI (show 5 * j + 2 < 240 by omega) (by decide)
  have ij3 := ix_nI (show 5 * j + 3 < 240 by omega) (by decide)
  have ij4 := ix_nI (show 5 * j + 4 < 240 by omega) (by decide)
  have iN0 := ix_nI (show 5 * N < 240 by omega) (by decide)
  have iN1 := ix_nI (show 5 * N + 1 < 240 by omega) (by decide)
  have iN2 := ix_nI (show 5 * N + 2 < 240 by omega) (by decide)
  have iN3 := ix_nI (show 5 * N + 3 < 240 by omega) (by decide)
  have iN4 := ix_nI (show 5 * N + 4 < 240 by omega) (by decide)
  have kj2 := nI_clamp (show 5 * j + 2 < 2 ^ 31 by omega)
  have kj3 := nI_clamp (show 5 * j + 3 < 2 ^ 31 by omega)
  have kj4 := nI_clamp (show 5 * j + 4 < 2 ^ 31 by omega)
  have kN0 := nI_clamp (show 5 * N < 2 ^ 31 by omega)
  have kN1 := nI_clamp (show 5 * N + 1 < 2 ^ 31 by omega)
  have kN2 := nI_clamp (show 5 * N + 2 < 2 ^ 31 by omega)
  have kN3 := nI_clamp (show 5 * N + 3 < 2 ^ 31 by omega)
  have kN4 := nI_clamp (show 5 * N + 4 < 2 ^ 31 by omega)
  have lj2 : 5 * j + 2 < 240 := by omega
  have lj3 : 5 * j + 3 < 240 := by omega
  have lj4 : 5 * j + 4 < 240 := by omega
  have lN0 : 5 * N < 240 := by omega
  have lN1 : 5 * N + 1 < 240 := by omega
  have lN2 : 5 * N + 2 < 240 := by omega
  have lN3 : 5 * N + 3 < 240 := by omega
  have lN4 : 5 * N + 4 < 240 := by omega
  have n1 : ¬ 5 * j + 3 = 5 * N + 2 := by omega
  have n2 : ¬ 5 * j + 4 = 5 * N + 3 := by omega
  have n3 : ¬ 5 * j + 4 = 5 * N + 2 := by omega
  simp only [F_X13_again_c190, p_ok, aM, m5j, m5N, j2, j3, j4, N1, N2, N3, N4, b2, b3, b4, d2, d3, d4, d5, ij2, ij3, ij4, iN0, iN1, iN2, iN3, iN4, kj2, kj3, kj4, kN0, kN1, kN2, kN3, kN4, lj2, lj3, lj4, lN0, lN1, lN2, lN3, lN4, mI_sI, z_up, n1, n2, n3, and_self, true_and, not_false_eq_true, ↓reduceIte]
abbrev gC : List Nat := [37, 68, 69, 70, 74, 89, 90, 91, 92, 93, 94, 95, 97, 99, 100, 101, 103]
theorem A_again {μ : p_M} (hS : Sh μ) (hE : mN μ + 8 < p_E) (hR : RLots μ) (hRC : RCloth μ) (hRR : RRec μ) (hRH : RHouse μ) (hRM : RMisc μ) (v1 : Int32) : wp (F_L_again 0 v1 112 μ) fun k μ1 => wp (F_X13_again v1 μ1) fun b μ2 => Post k b μ μ2 ∧ RLots μ2 ∧ (∀ k, 40 ≤ k → mI μ2 68 k = mI μ 68 k) ∧ (∀ k, 800 ≤ k → mI μ2 69 k = mI μ 69 k ∧ mI μ2 70 k = mI μ 70 k) ∧ Fl gC [0, 62] μ μ2 := by
  have hR0 := hR
  obtain ⟨N, K, M, C, E, lr, hLs, hC, hK, hLot, hM, hZ, hzr, hme, hld⟩ := hR
  have hLs0 := hLs
  obtain ⟨l1, l2, l3, l4, l5, l6⟩ := hLs
  obtain ⟨n, hn6, n1, n2, hcl⟩ := hRC
  have hCn : C = n := (nI_eq (show C < 2 ^ 31 by have := hC.2; omega) (show n < 2 ^ 31 by omega)).mp (hC.1.symm.trans n2)
  have o37 : 37 < mN μ ∧ mK μ 37 = 0 := ⟨(s_o37 hS).2, (s_o37 hS).1⟩
  have thr : ∀ x : Int32, ¬ x = 0 → Post x 0 μ (sI (sI (sG μ 1 6) 65 0 0) 65 0 x) ∧ RLots (sI (sI (sG μ 1 6) 65 0 0) 65 0 x) ∧ Fl gC [0, 62] μ (sI (sI (sG μ 1 6) 65 0 0) 65 0 x) := fun x hx => ⟨thr_post hx, RLots_fr0 thr_fr (by decide) (by decide) (by decide) (by decide) hR0, Fl_of hS (Fr_mono thr_fr (by decide) (by decide))⟩
  have fno : Fr [] [0] μ (sI (sJ μ 112 (Int32.toNatClampNeg 0) (Int32.toInt64 (-1))) 65 0 0) := by repeat (first | exact Fr_refl _ | refine Fr_s65 ?_ (by decide) | refine Fr_sI ?_ (by decide) | refine Fr_sA ?_ (by decide) | refine Fr_sJ ?_ | refine Fr_sG ?_)
  have no : Post 0 (-1) μ (sI (sJ μ 112 (Int32.toNatClampNeg 0) (Int32.toInt64 (-1))) 65 0 0) ∧ RLots (sI (sJ μ 112 (Int32.toNatClampNeg 0) (Int32.toInt64 (-1))) 65 0 0) ∧ Fl gC [0, 62] μ (sI (sJ μ 112 (Int32.toNatClampNeg 0) (Int32.toInt64 (-1))) 65 0 0) := ⟨⟨rfl, fun _ => rfl, Cn_eq rfl rfl⟩, RLots_fr0 fno (by decide) (by decide) (by decide) (by decide) hR0, Fl_of hS (Fr_mono fno (by decide) (by decide))⟩
  rcases ix3 v1 (mI μ 37 2) (mI μ 65 62 - 1) N (by omega) l1 (by rw [l2]) with ⟨c1, c2⟩ | ⟨j, hj, rfl, c1, c2, c3, c4⟩
  · rw [l1] at c1
    simp only [bd_some, p_let_eq, p_ok, mI_sI, mR_sI, mK_sI, mN_sI, mL_sI, mI_sG, mR_sG, mK_sG, mN_sG, mL_sG, mI_sJ, mR_sJ, mK_sJ, mN_sJ, mL_sJ, z_up, ↓reduceIte, and_self, true_and, and_true, false_and, and_false, not_true_eq_false, not_false_eq_true, Nat.reduceEqDiff, i_10, i_20, i_30, w_in, w_need1, w_need0, m_in, m_thr0, m_thr1, tM, aM, nI_1, nI_pred, reduceIte, wp_some, eq_self, bI_T, bI_F, F_L_again, F_X12_again, c_lotNo hS hLs0 c1, F_X13_again, F_X13_again_c41, m_noLot, s_o0 hS, s_r0_0 hS, s_r0_1 hS, s_r0_10 hS, s_r0_11 hS, s_r0_12 hS, s_r0_14 hS, s_r0_16 hS, s_r0_19 hS, s_r0_7 hS, s_r0_8 hS, s_r0_9 hS, s_o112 hS, c2]
    exact ⟨(thr 1 (by decide)).1, (thr 1 (by decide)).2.1, fun _ _ => trivial, fun _ _ => trivial, (thr 1 (by decide)).2.2⟩
  · obtain ⟨⟨d, hd, t1, t2⟩, -⟩ := hRM
    obtain ⟨P, nb, P1, P2, S, e1, e90, hk⟩ := b_known hS l3 hj (hLot j hj) hme (nI d)
    obtain ⟨P', nb', S', V, G, Lo, Cc, Pz, Pm⟩ := hLot j hj
    have eP : P' = P := (nI_eq (show P' < 2 ^ 31 by have := G.2.2.2.1; omega) (show P < 2 ^ 31 by omega)).mp (G.2.1.symm.trans e90)
    subst eP
    have g1 := S.2.1
    have la := c_lotAt hS hLs0 hj g1
    have j40 : j < 40 := by omega
    have ij := ix_nI j40 (by decide)
    have hlj : 113 ≤ lr j := S.1
    have e9 : mI μ (lr j) 9 = mI μ 96 j := V.2.2.2.2.2.2.2.1
    by_cases w : mI μ 96 j = 3
    · -- how many are dark
      obtain ⟨sh, hsh⟩ : ∃ sh : Nat → Int32, sh = fun p => shd (mI μ 104) (mI μ 105) (mI μ 106) (mI μ 107) j p (nI d) M := ⟨_, rfl⟩
      obtain ⟨jj, hjj⟩ : ∃ jj : Nat → Int32, jj = fun p => jdg (sh p) (mI μ 92 j) (mI μ 93 j) := ⟨_, rfl⟩
      obtain ⟨pl, hpl⟩ : ∃ pl : Nat → Int32, pl = fun p => mI μ 103 (60 * j + p) := ⟨_, rfl⟩
      have hk : ∀ p, p < P' → (F_X6_shadeOn 38 (mI μ (lr j + 6) p) (nI d) μ = some (sh p, μ) ∧ F_X12_judged 0 (lr j) (nI p) (nI d) μ = some (jj p, μ)) ∧ ∀ m : p_M, mI m 104 = mI μ 104 → mI m 105 = mI μ 105 → mI m 106 = mI μ 106 → mI m 107 = mI μ 107 → mI m 92 j = mI μ 92 j → mI m 93 j = mI μ 93 j → mI m 65 69 = mI μ 65 69 → F_X13_shadeOf (nI j) (nI p) (nI d) m = some (sh p, m) ∧ F_X13_knownOf (nI j) (nI p) (nI d) m = some (jj p, m) := by
        rw [hjj, hsh]; exact hk
      have hshok : ∀ p, jj p = 3 → ∃ x : Nat, x ≤ 255 ∧ sh p = nI x := fun p hp => by
        rcases shd_ok (a := mI μ 104) (b := mI μ 105) (s := mI μ 106) (t := mI μ 107) (j := j) (p := p) (day := nI d) (M := M) (fun k hk => by
          obtain ⟨-, -, ⟨x, -, q3, q3'⟩, -⟩ := hme.2.2.2.2 k hk
          exact ⟨x, q3, q3'⟩) M (Nat.le_refl _) with h | ⟨x, hx, h⟩
        · exfalso
          rw [hjj] at hp
          have hp : jdg (sh p) (mI μ 92 j) (mI μ 93 j) = 3 := hp
          have h' : sh p = -1 := by rw [hsh]; exact h
          unfold jdg at hp
          rw [if_pos h'] at hp
          exact absurd hp (by decide)
        · exact ⟨x, hx, by rw [hsh]; exact h⟩
      obtain ⟨dk, hdk⟩ : ∃ dk : Nat → Bool, dk = fun p => decide (pl p = 0 ∧ jj p = 3) := ⟨_, rfl⟩
      obtain ⟨nn, hnn⟩ : ∃ nn, nn = cnt dk P' := ⟨_, rfl⟩
      have nn60 : nn ≤ 60 := by have := cnt_le dk P'; omega
      have q1 := c_sorted (pl := pl) (jj := jj) hS S P2 e1 (nI d) 3 (fun p hp => by rw [hpl]; exact (Pz p hp).1) (fun p hp => (hk p hp).1.2) P' 0 p_fu (by omega) (show P' < 100000 by omega)
      rw [← hdk, ← hnn] at q1
      have q1 : F_X12_sorted_c18 p_fu 0 (nI d) 3 (lr j) 0 0 μ = some (0, nI nn, μ) := q1
      have c33 : (0 : Int32) ≤ 3 ∧ (3 : Int32) ≤ 3 := by decide
      have sC : F_X12_sorted 0 (nI j) (nI d) 3 μ = some (0, nI nn, μ) := by
        simp only [bd_some, p_let_eq, p_ok, mI_sI, mR_sI, mK_sI, mN_sI, mL_sI, mI_sG, mR_sG, mK_sG, mN_sG, mL_sG, mI_sJ, mR_sJ, mK_sJ, mN_sJ, mL_sJ, z_up, ↓reduceIte, and_self, true_and, and_true, false_and, and_false, not_true_eq_false, not_false_eq_true, Nat.reduceEqDiff, i_10, i_20, i_30, w_in, w_need1, w_need0, m_in, m_thr0, m_thr1, tM, aM, nI_1, nI_pred, reduceIte, wp_some, eq_self, bI_T, bI_F, F_X12_sorted, la, w_what, c33, q1, s_o0 hS, s_r0_0 hS, s_r0_1 hS, s_r0_10 hS, s_r0_11 hS, s_r0_12 hS, s_r0_14 hS, s_r0_16 hS, s_r0_19 hS, s_r0_7 hS, s_r0_8 hS, s_r0_9 hS]
      have sM : ∀ ν : p_M, (∀ a, a ∈ [90, 92, 93, 103, 104, 105, 106, 107] → mI ν a = mI μ a) → mI ν 65 69 = mI μ 65 69 → F_X13_sortedOf (nI j) (nI d) 3 ν = some (nI nn, ν) := fun ν r r69 => by
        have q2 := m_sorted (m := ν) (jj := jj) P2 j40 (by rw [r 90 (by decide)]; exact e90) (nI d) 3 (fun p hp => ((hk p hp).2 ν (r 104 (by decide)) (r 105 (by decide)) (r 106 (by decide)) (r 107 (by decide)) (by rw [r 92 (by decide)]) (by rw [r 93 (by decide)]) r69).2) P' 0 p_fu (by omega) (show P' < 100000 by omega)
        have e : (fun p => decide (mI ν 103 (60 * j + p) = 0 ∧ jj p = 3)) = dk := by rw [hdk, hpl, r 103 (by decide)]
        rw [e, ← hnn] at q2
        exact q2
      have q2 := sM (sI (sJ μ 112 (Int32.toNatClampNeg 0) (Int32.toInt64 (-1))) 65 0 0) (fun a ha => by
        rw [mI_sI, if_neg (by simp only [List.mem_cons, List.not_mem_nil, or_false] at ha; omega)]; rfl) rfl
      obtain ⟨r, hr5, hrk, hval⟩ := h_value hS hRH
      have v13 := hval 13 (by decide) 13 rfl
      have hok : okS (mI μ 84) := by rcases hRH with ⟨-, -, h⟩ | ⟨-, -, h⟩ <;> exact h.2.1
      obtain ⟨x13, hx13, ex13⟩ := hok.2.2.2.2.1
      obtain ⟨tm, -, htm, etm⟩ := G.2.2.2.2.2.2.2.2.2.2.2.1
      have etm' : mI μ (lr j) 14 = nI tm := V.2.2.2.2.2.2.2.2.2.2.2.2.trans etm
      have k13 : Int32.toNatClampNeg 13 = 13 := by decide
      have n13 : ¬ (13 : Int32) < 0 := by decide
      have l13 : 13 < 36 := by decide
      by_cases ct : x13 ≤ tm
      · have ct' : nI x13 ≤ nI tm := nI_le ct (by omega)
        simp only [bd_some, p_let_eq, p_ok, mI_sI, mR_sI, mK_sI, mN_sI, mL_sI, mI_sG, mR_sG, mK_sG, mN_sG, mL_sG, mI_sJ, mR_sJ, mK_sJ, mN_sJ, mL_sJ, z_up, ↓reduceIte, and_self, true_and, and_true, false_and, and_false, not_true_eq_false, not_false_eq_true, Nat.reduceEqDiff, i_10, i_20, i_30, w_in, w_need1, w_need0, m_in, m_thr0, m_thr1, tM, aM, nI_1, nI_pred, reduceIte, wp_some, eq_self, bI_T, bI_F, F_L_again, F_X12_again, F_X12_again_c53, F_X12_needWashed, la, g1, e9, w, t1, sC, hr5, hrk, v13, ex13, etm', ct', F_X13_again, F_X13_again_c34, F_X13_again_c83, m_noLot, s_o0 hS, s_r0_0 hS, s_r0_1 hS, s_r0_10 hS, s_r0_11 hS, s_r0_12 hS, s_r0_14 hS, s_r0_16 hS, s_r0_19 hS, s_r0_7 hS, s_r0_8 hS, s_r0_9 hS, s_o112 hS, c2, ij, c4, j40, t2, q2, k13, n13, l13, etm]
        exact ⟨no.1, no.2.1, fun _ _ => trivial, fun _ _ => trivial, no.2.2⟩
      · have ct' : ¬ nI x13 ≤ nI tm := nI_ge (by omega) (by omega)
        by_cases c0 : nn = 0
        · have z0 : nI nn = 0 := by rw [c0]; rfl
          rw [z0] at sC q2
          simp only [bd_some, p_let_eq, p_ok, mI_sI, mR_sI, mK_sI, mN_sI, mL_sI, mI_sG, mR_sG, mK_sG, mN_sG, mL_sG, mI_sJ, mR_sJ, mK_sJ, mN_sJ, mL_sJ, z_up, ↓reduceIte, and_self, true_and, and_true, false_and, and_false, not_true_eq_false, not_false_eq_true, Nat.reduceEqDiff, i_10, i_20, i_30, w_in, w_need1, w_need0, m_in, m_thr0, m_thr1, tM, aM, nI_1, nI_pred, reduceIte, wp_some, eq_self, bI_T, bI_F, F_L_again, F_X12_again, F_X12_again_c53, F_X12_needWashed, la, g1, e9, w, t1, sC, hr5, hrk, v13, ex13, etm', ct', F_X13_again, F_X13_again_c34, F_X13_again_c83, m_noLot, s_o0 hS, s_r0_0 hS, s_r0_1 hS, s_r0_10 hS, s_r0_11 hS, s_r0_12 hS, s_r0_14 hS, s_r0_16 hS, s_r0_19 hS, s_r0_7 hS, s_r0_8 hS, s_r0_9 hS, s_o112 hS, c2, ij, c4, j40, t2, q2, k13, n13, l13, etm]
          exact ⟨no.1, no.2.1, fun _ _ => trivial, fun _ _ => trivial, no.2.2⟩
        · have z0 : ¬ nI nn = 0 := nI_ne0 (by omega) (by omega)
          by_cases hN : N < 40
          · have hN40 : nI N < 40 := nI_lt (b := 40) hN (by decide)
            have hne : ¬ nI N = 40 := fun e => by have := (nI_eq (show N < 2 ^ 31 by omega) (show 40 < 2 ^ 31 by decide)).mp e; omega
            obtain ⟨-, -, -, nbH, hnbH, -, -, -, e68, -⟩ := rec_get hS hRR
            obtain ⟨cl, hclC, ecl⟩ := G.1
            have hcl6 : cl < 6 := by omega
            obtain ⟨x, y, z, hx, hy, hz, s1, s2, s3, -⟩ := hcl cl (by omega)
            obtain ⟨kd, -, hkd, ekd⟩ := G.2.2.2.2.1
            obtain ⟨fr, -, hfr, efr⟩ := G.2.2.2.2.2.1
            obtain ⟨to, -, hto, eto⟩ := G.2.2.2.2.2.2.1
            obtain ⟨st, -, hst, est⟩ := G.2.2.2.2.2.2.2.1
            obtain ⟨du, -, hdu, edu⟩ := G.2.2.2.2.2.2.2.2.1
            obtain ⟨w0, w1, w2, w3, w4, w5, w6, -⟩ := V
            have w0 : mI μ (lr j) 0 = nI cl := w0.trans ecl
            have w2 : mI μ (lr j) 2 = nI kd := w2.trans ekd
            have w3 : mI μ (lr j) 3 = nI du := w3.trans edu
            have w4 : mI μ (lr j) 4 = nI fr := w4.trans efr
            have w5 : mI μ (lr j) 5 = nI to := w5.trans eto
            have w6 : mI μ (lr j) 6 = nI st := w6.trans est
            obtain ⟨b14, hb14, e14⟩ := hok.2.2.2.2.2.1
            obtain ⟨b15, hb15, hb15', e15⟩ := hok.2.2.2.2.2.2.1
            obtain ⟨L0, hh, cc', kk1, kk2, kk3, kk4, kk5, kk6, kk7⟩ := Lo
            obtain ⟨l, hl⟩ : ∃ l, mN μ = l := ⟨_, rfl⟩
            have h113 : 113 ≤ l := by have := hS.2.1; omega
            have hEl : l + 8 < p_E := by omega
            have lrl : ∀ j, j < N → 113 ≤ lr j ∧ lr j + 7 ≤ l := fun j hj => by
              obtain ⟨P, nb, ⟨s0, -, -, -, -, -, -, -, -, -, s10, -⟩, -⟩ := hLot j hj
              exact ⟨s0, by have := s10.2.2; omega⟩
            have hlo := lrl j hj
            -- the class makes it
            have T1 := c_newLot (μ := μ) (v1 := nI cl) (v3 := nI kd) (v4 := nI du) (nb := 1) (P := nn) hl hEl nn60 (by decide)
            have T1 : F_X4_init l (nI cl) (nI nn) (nI kd) (nI du) 1 (sN μ 5 0 (q_N 5)) = some (0, nwL μ (nI cl) (nI nn) (nI kd) (nI du) 1 nn) := T1
            obtain ⟨ν1, hν1⟩ : ∃ ν1, ν1 = nwL μ (nI cl) (nI nn) (nI kd) (nI du) 1 nn := ⟨_, rfl⟩
            have S1 : LotS ν1 l nn 1 := by rw [hν1]; exact nwL_S hl h113 hEl
            have N1 : mN ν1 = l + 7 := by rw [hν1]; exact nwL_N hl
            have F1 : Fl [] [] μ ν1 := by rw [hν1]; exact Fl_nw hS hl hEl
            have old1 : ∀ a, a < l → mI ν1 a = mI μ a ∧ mR ν1 a = mR μ a ∧ mK ν1 a = mK μ a ∧ mL ν1 a = mL μ a := fun a ha => by rw [hν1]; exact nwL_old hl ha
            have I1 : ∀ k, mI ν1 l k = if k = 3 then nI du else if k = 2 then nI kd else if k = 1 then nI nn else if k = 0 then nI cl else if k = 13 then -1 else if k = 12 then -1 else if k = 10 then -1 else if k = 9 then 0 else 0 := fun k => by
              rw [hν1, nwL_I hl, if_neg (by omega), nwC_I hl, if_neg (by omega), if_neg (by omega), if_neg (by omega), if_neg (by omega), if_neg (by omega), nwA_I hl, if_pos rfl]
            have I5 : mI ν1 (l + 5) = fun _ => 0 := by
              rw [hν1, nwL_I hl, if_neg (by omega), nwC_I hl, if_neg (by omega), if_pos rfl]
            have I6 : mI ν1 (l + 6) = fun k => if k < nn then -1 else 0 := by
              rw [hν1, nwL_I hl, if_pos rfl]
            have CS1 : mC ν1 = mC μ + 7 ∧ mS ν1 = mS μ + 17 + 6 + 3 + 1 + 1 + nn + nn := by rw [hν1]; exact nwL_CS
            rw [← hν1] at T1
            have hS1 := Sh_fl F1 hS
            obtain ⟨ν2, hν2⟩ : ∃ ν2, ν2 = sI (sI (sI ν1 l 4 (nI fr)) l 5 (nI to)) l 6 (nI st) := ⟨_, rfl⟩
            have W1 : F_X4_wishFor l (nI fr) (nI to) (nI st) ν1 = some (0, ν2) := by
              rw [hν2]
              simp only [F_X4_wishFor, p_ok, p_let_eq, S1.2.1, and_self, ↓reduceIte]
            have f12 : Fq [l, l + 1, l + 2, l + 3, l + 4] [] ν1 ν2 := by
              rw [hν2]
              exact Fq_sI (Fq_sI (Fq_sI (Fq_refl _) ⟨by simp, by omega⟩) ⟨by simp, by omega⟩) ⟨by simp, by omega⟩
            have f12' : Fq [l, l + 1, l + 2, l + 3, l + 4] [] ν1 (sI ν2 (l + 2) 2 0) := Fq_sI f12 ⟨by simp, by omega⟩
            have rowq : ∀ {ν : p_M}, Fq [l, l + 1, l + 2, l + 3, l + 4] [] ν1 ν → ∀ a, a < l → mI ν a = mI μ a := fun {ν} f a ha => by
              by_cases h : a = 65
              · subst h
                funext k
                rw [f.2.2 k (by simp), (old1 65 (by omega)).1]
              · rw [f.2.1 a h (by simp only [List.mem_cons, List.not_mem_nil, or_false]; omega), (old1 a ha).1]
            have K2 : mK ν2 = mK ν1 := by show ν2.2.2.2.1 = ν1.2.2.2.1; rw [f12.1]
            have N2 : mN ν2 = mN ν1 := by show ν2.2.2.2.2.2.1 = ν1.2.2.2.2.2.1; rw [f12.1]
            have R2 : mR ν2 = mR ν1 := by show ν2.2.1 = ν1.2.1; rw [f12.1]
            have hS2 := Sh_q f12 hS1
            have hRH2 : RHouse ν2 := RHouse_of (μ := μ) (by rw [R2]; exact (old1 0 (by omega)).2.1) (fun a ha => rowq f12 a (by simp only [List.mem_cons, List.not_mem_nil, or_false] at ha; omega)) (by rw [rowq f12 65 (by omega)]) hRH
            obtain ⟨r', hr5', hrk', hval'⟩ := h_value hS2 hRH2
            have v14 : F_X1_value r' 14 ν2 = some (nI b14, ν2) := by rw [hval' 14 (by decide) 14 rfl, rowq f12 84 (by omega), e14]
            have v15 : F_X1_value r' 15 ν2 = some (nI b15, ν2) := by rw [hval' 15 (by decide) 15 rfl, rowq f12 84 (by omega), e15]
            rw [R2] at hr5'
            rw [K2, N2] at hrk'
            have rec2 : isRec (sI ν2 (l + 2) 2 0) (l + 2) (l + 3) (l + 4) 1 := isRec_q f12' S1.2.2.2.2.2.2.2.1
            have hadd := cr_add (k := 0) rec2 (by rw [mI_sI, if_pos rfl, z_up, if_pos rfl]; rfl) (by decide) (by decide) (by omega) (by omega) (by omega) (nI b14) (nI b15)
            obtain ⟨ν3, hν3⟩ : ∃ ν3, ν3 = sI (sI (sI (sI ν2 (l + 2) 2 0) (l + 3) 0 (nI b14)) (l + 4) 0 (nI b15)) (l + 2) 2 (nI 1) := ⟨_, rfl⟩
            have f13 : Fq [l, l + 1, l + 2, l + 3, l + 4] [] ν1 ν3 := by
              rw [hν3]
              exact Fq_sI (Fq_sI (Fq_sI f12' ⟨by simp, by omega⟩) ⟨by simp, by omega⟩) ⟨by simp, by omega⟩
            have X8 : F_X8_setOnly (l + 2) (nI b14) (nI b15) ν2 = some (0, ν3) := by
              rw [hν3]
              have hadd : F_X8_add (l + 2) (nI b14) (nI b15) (sI ν2 (l + 2) 2 0) = some (0, sI (sI (sI (sI ν2 (l + 2) 2 0) (l + 3) 0 (nI b14)) (l + 4) 0 (nI b15)) (l + 2) 2 (nI 1)) := hadd
              simp only [F_X8_setOnly, bd_some, p_ok, p_let_eq, K2, N2, S1.2.2.2.2.2.2.2.1.1, hadd, and_self, ↓reduceIte]
            have atm : nI tm + 1 = nI (tm + 1) := nI_add tm 1
            obtain ⟨ν4, hν4⟩ : ∃ ν4, ν4 = sI (sI ν3 l 13 (nI j)) l 14 (nI (tm + 1)) := ⟨_, rfl⟩
            have f14 : Fq [l, l + 1, l + 2, l + 3, l + 4] [] ν1 ν4 := by
              rw [hν4]
              exact Fq_sI (Fq_sI f13 ⟨by simp, by omega⟩) ⟨by simp, by omega⟩
            have K3 : mK ν3 = mK ν1 := by show ν3.2.2.2.1 = ν1.2.2.2.1; rw [f13.1]
            have N3 : mN ν3 = mN ν1 := by show ν3.2.2.2.2.2.1 = ν1.2.2.2.2.2.1; rw [f13.1]
            have R3 : mR ν3 = mR ν1 := by show ν3.2.1 = ν1.2.1; rw [f13.1]
            have K4 : mK ν4 = mK ν1 := by show ν4.2.2.2.1 = ν1.2.2.2.1; rw [f14.1]
            have N4 : mN ν4 = mN ν1 := by show ν4.2.2.2.2.2.1 = ν1.2.2.2.2.2.1; rw [f14.1]
            have R4 : mR ν4 = mR ν1 := by show ν4.2.1 = ν1.2.1; rw [f14.1]
            have oOld : mK ν1 (lr j) = 5 ∧ lr j < mN ν1 := by rw [(old1 (lr j) (by omega)).2.2.1, N1]; exact ⟨g1.1, by omega⟩
            have oOld1 : mK ν1 (lr j + 1) = 4 ∧ lr j + 1 < mN ν1 := by rw [(old1 (lr j + 1) (by omega)).2.2.1, N1]; exact ⟨S.2.2.2.2.2.2.1.1, by omega⟩
            obtain ⟨ν5, k1, k2, k3⟩ := c_copy (μ := ν4) (a := l + 1) (c := lr j + 1) (h := hh) (L := L0) (by rw [K4, N4]; exact S1.2.2.2.2.2.2.1) (by rw [K4, N4]; exact oOld1) (by omega) (by omega) (by rw [rowq f14 (lr j + 1) (by omega)]; exact kk3) kk1
            have f15 : Fq [l, l + 1, l + 2, l + 3, l + 4] [] ν1 ν5 := Fq_trans f14 (Fq_mono k3 (by simp) (fun a h => h))
            have hS5 := Sh_q f15 hS1
            have K5 : mK ν5 = mK ν1 := by show ν5.2.2.2.1 = ν1.2.2.2.1; rw [f15.1]
            have N5 : mN ν5 = mN ν1 := by show ν5.2.2.2.2.2.1 = ν1.2.2.2.2.2.1; rw [f15.1]
            have R5 : mR ν5 = mR ν1 := by show ν5.2.1 = ν1.2.1; rw [f15.1]
            have L5 : mL ν5 = mL ν1 := by show ν5.2.2.2.2.1 = ν1.2.2.2.2.1; rw [f15.1]
            have So : LotS ν5 (lr j) P' nb := LotS_pt (μ := μ) (by rw [N5, N1]; omega) (fun a h1 h2 => ⟨by rw [R5]; exact (old1 a (by omega)).2.1, by rw [K5]; exact (old1 a (by omega)).2.2.1, by rw [L5]; exact (old1 a (by omega)).2.2.2⟩) S
            have e015 : mI ν5 0 15 = nI d := by rw [rowq f15 0 (by omega)]; exact t1
            have hX := MeaX_of (c := μ) (m := μ) (N := N) (M := M) l3 (by rw [mg_self]; exact hme)
            have hjd : ∀ ν, Fq [lr j + 5] [] ν5 ν → ∀ p, p < P' → F_X6_shadeOn 38 (mI ν (lr j + 6) p) (mI ν5 0 15) ν = some (sh p, ν) ∧ F_X12_judged 0 (lr j) (nI p) (mI ν5 0 15) ν = some (jj p, ν) := fun ν f p hp => by
              have rr : ∀ a, a < l → a ≠ lr j + 5 → mI ν a = mI μ a := fun a h1 h2 => by
                by_cases h : a = 65
                · subst h
                  funext k
                  rw [f.2.2 k (by simp), rowq f15 65 (by omega)]
                · rw [f.2.1 a h (by simp only [List.mem_cons, List.not_mem_nil, or_false]; omega), rowq f15 a h1]
              have Sν : LotS ν (lr j) P' nb := LotS_pt (μ := ν5) (by show ν5.2.2.2.2.2.1 ≤ ν.2.2.2.2.2.1; rw [f.1]; exact Nat.le_refl _) (fun a _ _ => ⟨by show ν.2.1 a = ν5.2.1 a; rw [f.1], by show ν.2.2.2.1 a = ν5.2.2.2.1 a; rw [f.1], by show ν.2.2.2.2.1 a = ν5.2.2.2.2.1 a; rw [f.1]⟩) So
              have hXν : MeaX ν (mI μ 104) (mI μ 105) (mI μ 106) (mI μ 107) M := by
                unfold MeaX
                rw [rr 38 (by omega) (by omega), rr 39 (by omega) (by omega), rr 40 (by omega) (by omega), rr 41 (by omega) (by omega)]
                exact hX
              have := c_judged (Sh_q f hS5) hXν j40 P2 Sν hp (by rw [rr (lr j + 6) (by omega) (by omega)]; exact Pm p hp) (nI d)
              rw [e015, hjj, hsh]
              rw [rr (lr j) (by omega) (by omega), w4, w5, ← efr, ← eto] at this
              exact this
            obtain ⟨ν6, mv1, mv2, mv3⟩ := c_move (c := ν5) (lo := lr j) (P := P') (v2 := l + 1) (sh := sh) (jj := jj) (pl := pl) hS5 So P2 (by rw [rowq f15 (lr j) (by omega)]; exact e1) (by rw [K5, N5]; exact S1.2.2.2.2.2.2.1) hjd P' 0 p_fu ν5 255 0 (by omega) (show P' < 100000 by omega) (Fq_refl ν5) (fun p _ hp => by rw [rowq f15 _ (by omega), hpl]; exact (Pz p hp).1)
            rw [← hdk] at mv1
            have hsD : ∀ p, dk p = true → ∃ x : Nat, x ≤ 255 ∧ sh p = nI x := fun p hp => by
              rw [hdk] at hp
              exact hshok p (of_decide_eq_true hp).2
            have hex : ∃ p, 0 ≤ p ∧ p < 0 + P' ∧ dk p = true := by
              obtain ⟨p, h1, h2⟩ := cnt_pos P' (by rw [← hnn]; exact c0)
              exact ⟨p, Nat.zero_le _, by omega, h2⟩
            obtain ⟨mq1, mq2⟩ := md_eq hsD P' 0 hex
            obtain ⟨⟨aL, haL, eaL⟩, aG, haG, eaG⟩ := md_nat hsD P' 0
            have mv1 : F_X12_moveDark 0 (lr j) (l + 1) ν5 = some (0, sI (sI ν6 (l + 1) 0 (nI aL)) (l + 1) 1 (nI aG)) := by
              rw [← eaL, ← eaG]; exact mv1
            obtain ⟨ν7, hν7⟩ : ∃ ν7, ν7 = sI (sI ν6 (l + 1) 0 (nI aL)) (l + 1) 1 (nI aG) := ⟨_, rfl⟩
            rw [← hν7] at mv1
            have f57 : Fq [lr j + 5, l + 1] [] ν5 ν7 := by
              rw [hν7]
              exact Fq_sI (Fq_sI (Fq_mono mv2 (by simp) (fun a h => h)) ⟨by simp, by omega⟩) ⟨by simp, by omega⟩
            have hS7 := Sh_q f57 hS5
            have K7 : mK ν7 = mK ν1 := by rw [← K5]; show ν7.2.2.2.1 = ν5.2.2.2.1; rw [f57.1]
            have N7 : mN ν7 = mN ν1 := by rw [← N5]; show ν7.2.2.2.2.2.1 = ν5.2.2.2.2.2.1; rw [f57.1]
            have R7 : mR ν7 = mR ν1 := by rw [← R5]; show ν7.2.1 = ν5.2.1; rw [f57.1]
            have L7 : mL ν7 = mL ν1 := by rw [← L5]; show ν7.2.2.2.2.1 = ν5.2.2.2.2.1; rw [f57.1]
            have C7 : mC ν7 = mC ν1 := by show ν7.2.2.2.2.2.2.1 = ν1.2.2.2.2.2.2.1; rw [f57.1, f15.1]
            have Q7 : mS ν7 = mS ν1 := by show ν7.2.2.2.2.2.2.2 = ν1.2.2.2.2.2.2.2; rw [f57.1, f15.1]
            have row7 : ∀ a, a < l → a ≠ lr j + 5 → mI ν7 a = mI μ a := fun a h1 h2 => by
              by_cases h : a = 65
              · subst h
                funext k
                rw [f57.2.2 k (by simp), rowq f15 65 (by omega)]
              · rw [f57.2.1 a h (by simp only [List.mem_cons, List.not_mem_nil, or_false]; omega), rowq f15 a h1]
            have hLE : LstE ν7 N E lr := by
              unfold LstE
              rw [R7, N7, K7, L7, (old1 37 (by omega)).2.1]
              rcases l4 with h | ⟨q1, q2, q3, q4, q5, q6, q7, q8⟩
              · exact Or.inl h
              · have oE := old1 E (by omega)
                exact Or.inr ⟨q1, q2, q3, by omega, oE.2.2.1.trans q5, by rw [oE.2.2.2]; exact q6, by rw [oE.2.2.2]; exact q7, fun j hj => by rw [oE.2.1]; exact q8 j hj⟩
            obtain ⟨E', ν8, z1, z2⟩ := c_addLot (μ := ν7) (l := l) hS7 (by rw [K7, N7]; exact S1.2.1) (by rw [row7 37 (by omega) (by omega)]; exact l1) hN hLE
            obtain ⟨y1, y2, y3, y4, y5, y6, y7, y8, y9, y10, y11, y12, y13, y14, y15, y16, y17⟩ := z2
            rw [N7, N1] at y10 y11 y12 y13 y14 y15
            have i8 : ∀ a, a < l → a ≠ 37 → a ≠ lr j + 5 → mI ν8 a = mI μ a := fun a ha h37 h5 => (y12 a (by omega) h37).trans (row7 a ha h5)
            have o112 : mK ν8 112 = 22 ∧ ¬ (0 : Int32) < 0 ∧ (0 : Int32).toNatClampNeg < mL ν8 112 ∧ 112 < mN ν8 := by
              have q := s_o112 hS7
              rw [(y11 112 (by omega)).1, (y11 112 (by omega)).2]
              exact ⟨q.1, q.2.1, q.2.2.1, by omega⟩
            have n0 : ¬ 0 = l := by omega
            have nlo : ¬ lr j = l := by omega
            have ll : l < l + 1 := by omega
            have l0' : 0 < l := by omega
            have l37' : 37 < l := by omega
            have llo : lr j < l := by omega
            have llo1 : lr j < l + 1 := by omega
            have wo4 : mI ν1 (lr j) 4 = nI fr := by rw [(old1 (lr j) (by omega)).1]; exact w4
            have wo5 : mI ν1 (lr j) 5 = nI to := by rw [(old1 (lr j) (by omega)).1]; exact w5
            have wo6 : mI ν1 (lr j) 6 = nI st := by rw [(old1 (lr j) (by omega)).1]; exact w6
            have wo14 : mI ν3 (lr j) 14 = nI tm := by rw [rowq f13 (lr j) (by omega)]; exact etm'
            have ro8 : mR ν1 (lr j) 8 = some (lr j + 1) := by rw [(old1 (lr j) (by omega)).2.1]; exact S.2.2.2.1
            have hlrk : mK μ r = 2 ∧ r < l := by rw [← hl]; exact hrk
            have hcls : F_X12_again 0 (nI j) μ = some (0, nI N, ν8) := by
              rw [hν4] at k1
              simp only [bd_some, p_let_eq, p_ok, mI_sI, mR_sI, mK_sI, mN_sI, mL_sI, mI_sG, mR_sG, mK_sG, mN_sG, mL_sG, mI_sJ, mR_sJ, mK_sJ, mN_sJ, mL_sJ, z_up, ↓reduceIte, and_self, true_and, and_true, false_and, and_false, not_true_eq_false, not_false_eq_true, Nat.reduceEqDiff, i_10, i_20, i_30, w_in, w_need1, w_need0, m_in, m_thr0, m_thr1, tM, aM, nI_1, nI_pred, reduceIte, wp_some, eq_self, bI_T, bI_F, F_X12_again, F_X12_needWashed, la, g1.1, e9, w, t1, sC, hr5, hlrk, v13, ex13, etm', ct', z0, s_o0 hS, s_r0_0 hS, s_r0_1 hS, s_r0_10 hS, s_r0_11 hS, s_r0_12 hS, s_r0_14 hS, s_r0_16 hS, s_r0_19 hS, s_r0_7 hS, s_r0_8 hS, s_r0_9 hS, o37, l1, hN40, hl, mK_sN, mN_sN, mR_sN, mI_sN, n0, nlo, (s_o0 hS).1, w0, w2, w3, T1, ll, l0', l37', llo, llo1, S1.2.1, oOld, wo4, wo5, wo6, W1, K2, N2, R2, S1.2.2.1, s_o0 hS1, s_r0_0 hS1, s_r0_1 hS1, s_r0_10 hS1, s_r0_11 hS1, s_r0_12 hS1, s_r0_14 hS1, s_r0_16 hS1, s_r0_19 hS1, s_r0_7 hS1, s_r0_8 hS1, s_r0_9 hS1, hr5', hrk', v14, v15, S1.2.2.2.2.2.2.2.1.1, X8, K3, N3, R3, mK_sI, mN_sI, mR_sI, mI_sI, wo14, atm, S1.2.2.2.1, ro8, S1.2.2.2.2.2.2.1, k1, K5, N5, R5, mv1, K7, N7, z1, and_self, true_and, not_false_eq_true, ↓reduceIte]
            obtain ⟨m0, hm0⟩ : ∃ m0, m0 = sI (sJ ν8 112 (Int32.toNatClampNeg 0) (nI N).toInt64) 65 0 0 := ⟨_, rfl⟩
            have m0r : ∀ a, a ≠ 65 → mI m0 a = mI ν8 a := fun a ha => by rw [hm0, mI_sI, if_neg ha]; rfl
            have m0s : ∀ k, k ≠ 0 → mI m0 65 k = mI μ 65 k := fun k hk => by
              rw [hm0, mI_sI, if_pos rfl, z_up, if_neg hk]
              show mI ν8 65 k = _
              rw [i8 65 (by omega) (by decide) (by omega)]
            have m0row : ∀ a, 66 ≤ a → a ≤ 111 → mI m0 a = mI μ a := fun a h1 h2 => (m0r a (by omega)).trans (i8 a (by omega) (by omega) (by omega))
            have q2' := sM m0 (fun a ha => m0row a (by simp only [List.mem_cons, List.not_mem_nil, or_false] at ha; omega) (by simp only [List.mem_cons, List.not_mem_nil, or_false] at ha; omega)) (m0s 69 (by decide))
            obtain ⟨m1, A1, A2, A3, A4, A5, A6, A7, A8, A9, A10, A11, A12, A13, A14, A15, A16, A17, A18, A19⟩ := m_adds (m := m0) (N := N) (nb := nbH) (c := cl) (x := x) (y := y) hN hnbH (by rw [m0s 62 (by decide)]; exact l2) (by rw [m0row 68 (by decide) (by decide)]; exact e68) hcl6 (by rw [m0row 71 (by decide) (by decide)]; exact s1) (by rw [m0row 72 (by decide) (by decide)]; exact s2) (nI nn) (nI kd) (nI fr) (nI to) (nI st) (nI du)
            have m1row : ∀ a, 66 ≤ a → a ≤ 111 → a ∉ [68, 69, 70, 74, 89, 90, 91, 92, 93, 94, 95, 97, 99, 100] → mI m1 a = mI μ a := fun a h1 h2 h3 => (A19.2.1 a (by omega) h3).trans (m0row a h1 h2)
            have neN : ¬ j = N := by omega
            have neN' : ¬ N = j := by omega
            obtain ⟨m2, hm2⟩ : ∃ m2, m2 = sI (sI (sI (sI (sI m1 100 N (nI j)) 101 N (nI (tm + 1))) 68 N 1) 69 (20 * N) (nI b14)) 70 (20 * N) (nI b15) := ⟨_, rfl⟩
            obtain ⟨m3, hm3⟩ : ∃ m3, m3 = sI (sI (sI (sI (sI m2 74 (5 * N + 2) (mI m2 74 (5 * j + 2))) 74 (5 * N + 3) (mI m2 74 (5 * j + 3))) 74 (5 * N + 4) (mI m2 74 (5 * j + 4))) 74 (5 * N) 1000000) 74 (5 * N + 1) (-1) := ⟨_, rfl⟩
            have f2 : Fq [68, 69, 70, 100, 101] [] m1 m2 := by
              rw [hm2]
              repeat (first | exact Fq_refl _ | refine Fq_sI ?_ (by decide))
            have f3 : Fq [74] [] m2 m3 := by
              rw [hm3]
              repeat (first | exact Fq_refl _ | refine Fq_sI ?_ (by decide))
            have m3row : ∀ a, 66 ≤ a → a ≤ 111 → a ∉ [68, 69, 70, 74, 89, 90, 91, 92, 93, 94, 95, 97, 99, 100, 101] → mI m3 a = mI μ a := fun a h1 h2 h3 => by
              rw [f3.2.1 a (by omega) (fun h => h3 (by simp only [List.mem_cons, List.not_mem_nil, or_false] at h ⊢; omega)), f2.2.1 a (by omega) (fun h => h3 (by simp only [List.mem_cons, List.not_mem_nil, or_false] at h ⊢; omega))]
              exact m1row a h1 h2 (fun h => h3 (by simp only [List.mem_cons, List.not_mem_nil, or_false] at h ⊢; omega))
            have m3s : ∀ k, k ≠ 0 → k ≠ 62 → mI m3 65 k = mI μ 65 k := fun k h1 h2 => by
              rw [f3.2.2 k (by simp), f2.2.2 k (by simp), A19.2.2 k (by simp only [List.mem_cons, List.not_mem_nil, or_false]; exact h2)]
              exact m0s k h1
            have q90 : mI m3 90 j = nI P' := by
              rw [Fq_row f3 90 (by decide), Fq_row f2 90 (by decide), A4, if_neg neN, m0row 90 (by decide) (by decide)]; exact e90
            have q92 : mI m3 92 j = mI μ 92 j := by
              rw [Fq_row f3 92 (by decide), Fq_row f2 92 (by decide), A6, if_neg neN, m0row 92 (by decide) (by decide)]
            have q93 : mI m3 93 j = mI μ 93 j := by
              rw [Fq_row f3 93 (by decide), Fq_row f2 93 (by decide), A7, if_neg neN, m0row 93 (by decide) (by decide)]
            have q42 : mI m3 65 42 = nI d := by rw [m3s 42 (by decide) (by decide)]; exact t2
            have hkn : ∀ ν, Fq [74, 103] [] m3 ν → ∀ p, p < P' → F_X13_shadeOf (nI j) (nI p) (mI m3 65 42) ν = some (sh p, ν) ∧ F_X13_knownOf (nI j) (nI p) (mI m3 65 42) ν = some (jj p, ν) := fun ν f p hp => by
              rw [q42]
              exact (hk p hp).2 ν ((Fq_row f 104 (by decide)).trans (m3row 104 (by decide) (by decide) (by decide))) ((Fq_row f 105 (by decide)).trans (m3row 105 (by decide) (by decide) (by decide))) ((Fq_row f 106 (by decide)).trans (m3row 106 (by decide) (by decide) (by decide))) ((Fq_row f 107 (by decide)).trans (m3row 107 (by decide) (by decide) (by decide))) (by rw [Fq_row f 92 (by decide)]; exact q92) (by rw [Fq_row f 93 (by decide)]; exact q93) (by rw [f.2.2 69 (by simp)]; exact m3s 69 (by decide) (by decide))
            have r103 : mI m3 103 = mI μ 103 := m3row 103 (by decide) (by decide) (by decide)
            have n01 : ¬ 5 * N = 5 * N + 1 := by omega
            obtain ⟨m', B1, B2, B3, B4, B5, B6, B7⟩ := m_move (m := m3) (j := j) (N := N) (P := P') (sh := sh) (jj := jj) (pl := pl) j40 hN P2 q90 hkn P' 0 p_fu m3 1000000 (-1) (by omega) (show P' < 100000 by omega) (Fq_refl m3) (by rw [hm3]; simp only [mI_sI, z_up, n01, ↓reduceIte]) (by rw [hm3]; simp only [mI_sI, z_up, ↓reduceIte]) (fun p _ hp => by rw [r103, hpl])
            rw [← hdk, ← mq1, eaL] at B3
            rw [← hdk, ← mq2, eaG] at B4
            have B1 : F_X13_again_c249 p_fu (nI j) (nI N) 0 m3 = some (nI N, m') := B1
            have h190 : F_X13_again_c190 p_fu (nI j) (nI N) 2 m2 = some (nI N, m') := by
              have := m_190 (m := m2) (j := j) (N := N) (n := 99996) j40 hN neN
              rw [← hm3, B1] at this
              exact this
            have iN := ix_nI hN (by decide)
            have kN := nI_clamp (show N < 2 ^ 31 by omega)
            have iN2 := ix_nI (show N < 42 by omega) (by decide)
            have lN42 : N < 42 := by omega
            have m20 : 20 * nI N = nI (20 * N) := pk_mul 20 N
            have i20 := ix_nI (show 20 * N < 840 by omega) (by decide)
            have k20 := nI_clamp (show 20 * N < 2 ^ 31 by omega)
            have l20 : 20 * N < 840 := by omega
            have k14 : Int32.toNatClampNeg 14 = 14 := by decide
            have n14 : ¬ (14 : Int32) < 0 := by decide
            have l14 : 14 < 36 := by decide
            have k15 : Int32.toNatClampNeg 15 = 15 := by decide
            have n15 : ¬ (15 : Int32) < 0 := by decide
            have l15 : 15 < 36 := by decide
            have hmod : F_X13_again (nI j) (sJ ν8 112 (Int32.toNatClampNeg 0) (nI N).toInt64) = some (nI N, m') := by
              have g62 : mI m0 65 62 = nI N := by rw [m0s 62 (by decide)]; exact l2
              have g42 : mI m0 65 42 = nI d := by rw [m0s 42 (by decide)]; exact t2
              have g96 : mI m0 96 j = 3 := by rw [m0row 96 (by decide) (by decide)]; exact w
              have g84 : mI m0 84 13 = nI x13 := by rw [m0row 84 (by decide) (by decide)]; exact ex13
              have g101 : mI m0 101 j = nI tm := by rw [m0row 101 (by decide) (by decide)]; exact etm
              have g89 : mI m0 89 j = nI cl := by rw [m0row 89 (by decide) (by decide)]; exact ecl
              have g91 : mI m0 91 j = nI kd := by rw [m0row 91 (by decide) (by decide)]; exact ekd
              have g92 : mI m0 92 j = nI fr := by rw [m0row 92 (by decide) (by decide)]; exact efr
              have g93 : mI m0 93 j = nI to := by rw [m0row 93 (by decide) (by decide)]; exact eto
              have g94 : mI m0 94 j = nI st := by rw [m0row 94 (by decide) (by decide)]; exact est
              have g95 : mI m0 95 j = nI du := by rw [m0row 95 (by decide) (by decide)]; exact edu
              have h101 : mI m1 101 j = nI tm := by rw [m1row 101 (by decide) (by decide) (by decide)]; exact etm
              have h14 : mI m1 84 14 = nI b14 := by rw [m1row 84 (by decide) (by decide) (by decide)]; exact e14
              have h15 : mI m1 84 15 = nI b15 := by rw [m1row 84 (by decide) (by decide) (by decide)]; exact e15
              have h34 : F_X13_again_c34 (nI j) 0 m0 = some (nI N, m') := by
                rw [hm2] at h190
                simp only [F_X13_again_c34, bd_some, p_ok, tM, aM, m_thr0, g42, q2', ij, c4, j40, k13, n13, l13, g84, g101, ct', z0, g62, hne, g89, g91, g92, g93, g94, g95, A1, iN, kN, hN, iN2, lN42, m20, i20, k20, l20, k14, n14, l14, k15, n15, l15, mI_sI, z_up, Nat.reduceEqDiff, h101, h14, h15, atm, h190, and_self, true_and, not_false_eq_true, not_true_eq_false, ↓reduceIte]
              have n62 : mI (sJ ν8 112 (Int32.toNatClampNeg 0) (nI N).toInt64) 65 62 = nI N := by
                show mI ν8 65 62 = nI N
                rw [i8 65 (by omega) (by decide) (by omega)]; exact l2
              have c2' : 0 ≤ nI j ∧ nI j ≤ nI N - 1 := by rw [← l2]; exact c2
              unfold F_X13_again tM
              rw [← hm0, m_noLot, bd_some, g62, bI_neg (fun h => h c2'), m_thr0, bd_some]
              simp only [p_ok, aM, ij, c4, j40, g96, h34, and_self, true_and, not_false_eq_true, not_true_eq_false, ↓reduceIte]
            -- what came of it
            have hm'2 : m'.2 = (sJ ν8 112 (Int32.toNatClampNeg 0) (nI N).toInt64).2 := by rw [B2.1, f3.1, f2.1, A19.1, hm0]; rfl
            have RR : mR m' = mR ν8 := by show m'.2.1 = ν8.2.1; rw [hm'2]; rfl
            have KK : mK m' = mK ν8 := by show m'.2.2.2.1 = ν8.2.2.2.1; rw [hm'2]; rfl
            have LL : mL m' = mL ν8 := by show m'.2.2.2.2.1 = ν8.2.2.2.2.1; rw [hm'2]; rfl
            have NN : mN m' = mN ν8 := by show m'.2.2.2.2.2.1 = ν8.2.2.2.2.2.1; rw [hm'2]; rfl
            have CC : mC m' = mC ν8 := by show m'.2.2.2.2.2.2.1 = ν8.2.2.2.2.2.2.1; rw [hm'2]; rfl
            have SS : mS m' = mS ν8 := by show m'.2.2.2.2.2.2.2 = ν8.2.2.2.2.2.2.2; rw [hm'2]; rfl
            have JJ : mJ m' 112 0 = (nI N).toInt64 := by
              show m'.2.2.1 112 0 = _
              rw [hm'2]
              exact mJ_sJ (μ := ν8) (a := 112) (k := 0) _
            have mr : ∀ a, a ≠ 65 → ¬ (66 ≤ a ∧ a ≤ 111) → mI m' a = mI ν8 a := fun a h1 h2 => by
              rw [B2.2.1 a h1 (by simp only [List.mem_cons, List.not_mem_nil, or_false]; omega), f3.2.1 a h1 (by simp only [List.mem_cons, List.not_mem_nil, or_false]; omega), f2.2.1 a h1 (by simp only [List.mem_cons, List.not_mem_nil, or_false]; omega), A19.2.1 a h1 (by simp only [List.mem_cons, List.not_mem_nil, or_false]; omega), m0r a h1]
            have mM : ∀ a, 66 ≤ a → a ≤ 111 → a ∉ [68, 69, 70, 74, 89, 90, 91, 92, 93, 94, 95, 97, 99, 100, 101, 103] → mI m' a = mI μ a := fun a h1 h2 h3 => by
              rw [B2.2.1 a (by omega) (fun h => h3 (by simp only [List.mem_cons, List.not_mem_nil, or_false] at h ⊢; omega))]
              exact m3row a h1 h2 (fun h => h3 (by simp only [List.mem_cons, List.not_mem_nil, or_false] at h ⊢; omega))
            have ms : ∀ k, k ≠ 0 → k ≠ 62 → mI m' 65 k = mI μ 65 k := fun k h1 h2 => by
              rw [B2.2.2 k (by simp)]; exact m3s k h1 h2
            -- rows of the Model behind the first five
            have u2 : ∀ a, a ≠ 65 → a ≠ 74 → a ≠ 103 → mI m' a = mI m2 a := fun a h1 h2 h3 => by
              rw [B2.2.1 a h1 (by simp only [List.mem_cons, List.not_mem_nil, or_false]; omega), f3.2.1 a h1 (by simp only [List.mem_cons, List.not_mem_nil, or_false]; omega)]
            have U1 : ∀ a, a ≠ 65 → a ≠ 74 → a ≠ 103 → a ≠ 68 → a ≠ 69 → a ≠ 70 → a ≠ 100 → a ≠ 101 → mI m' a = mI m1 a := fun a h1 h2 h3 h4 h5 h6 h7 h8 => by
              rw [u2 a h1 h2 h3, f2.2.1 a h1 (by simp only [List.mem_cons, List.not_mem_nil, or_false]; omega)]
            have U68 : ∀ k, mI m' 68 k = if k = N then 1 else mI m1 68 k := fun k => by rw [u2 68 (by decide) (by decide) (by decide), hm2]; rfl
            have U69 : ∀ k, mI m' 69 k = if k = 20 * N then nI b14 else mI m1 69 k := fun k => by rw [u2 69 (by decide) (by decide) (by decide), hm2]; rfl
            have U70 : ∀ k, mI m' 70 k = if k = 20 * N then nI b15 else mI m1 70 k := fun k => by rw [u2 70 (by decide) (by decide) (by decide), hm2]; rfl
            have U100 : ∀ k, mI m' 100 k = if k = N then nI j else mI m1 100 k := fun k => by rw [u2 100 (by decide) (by decide) (by decide), hm2]; rfl
            have U101 : ∀ k, mI m' 101 k = if k = N then nI (tm + 1) else mI m1 101 k := fun k => by rw [u2 101 (by decide) (by decide) (by decide), hm2]; rfl
            have e74 : mI m2 74 = mI m1 74 := Fq_row f2 74 (by decide)
            have U74 : ∀ k, k < 5 * N ∨ 5 * N + 5 ≤ k → mI m' 74 k = mI μ 74 k := fun k hk => by
              rw [B5 k (by omega) (by omega), hm3]
              have a1 : ¬ k = 5 * N := by omega
              have a2 : ¬ k = 5 * N + 1 := by omega
              have a3 : ¬ k = 5 * N + 2 := by omega
              have a4 : ¬ k = 5 * N + 3 := by omega
              have a5 : ¬ k = 5 * N + 4 := by omega
              simp only [mI_sI, z_up, a1, a2, a3, a4, a5, ↓reduceIte]
              rw [e74, A18 k hk, m0row 74 (by decide) (by decide)]
            have hj74 : ∀ k, k < 5 → mI m2 74 (5 * j + k) = mI μ 74 (5 * j + k) := fun k hk => by
              rw [e74, A18 (5 * j + k) (by omega), m0row 74 (by decide) (by decide)]
            have U742 : mI m' 74 (5 * N + 2) = mI μ 74 (5 * j + 2) := by
              have a1 : ¬ 5 * N + 2 = 5 * N := by omega
              rw [B5 _ (by omega) (by omega), hm3]
              simp only [mI_sI, z_up, a1, Nat.reduceEqDiff, Nat.add_left_cancel_iff, ↓reduceIte]
              exact hj74 2 (by decide)
            have U743 : mI m' 74 (5 * N + 3) = mI μ 74 (5 * j + 3) := by
              have a1 : ¬ 5 * N + 3 = 5 * N := by omega
              rw [B5 _ (by omega) (by omega), hm3]
              simp only [mI_sI, z_up, a1, Nat.reduceEqDiff, Nat.add_left_cancel_iff, ↓reduceIte]
              exact hj74 3 (by decide)
            have U744 : mI m' 74 (5 * N + 4) = mI μ 74 (5 * j + 4) := by
              have a1 : ¬ 5 * N + 4 = 5 * N := by omega
              rw [B5 _ (by omega) (by omega), hm3]
              simp only [mI_sI, z_up, a1, Nat.reduceEqDiff, Nat.add_left_cancel_iff, ↓reduceIte]
              exact hj74 4 (by decide)
            -- the new lot's cells
            have hi7 : ∀ a, l ≤ a → a ≤ l + 6 → mI m' a = mI ν7 a := fun a h1 h2 => (mr a (by omega) (by omega)).trans (y12 a (by omega) (by omega))
            have q57 : ∀ a, l ≤ a → a ≤ l + 6 → a ≠ l + 1 → mI m' a = mI ν4 a := fun a h1 h2 h3 => by
              rw [hi7 a h1 h2, f57.2.1 a (by omega) (by simp only [List.mem_cons, List.not_mem_nil, or_false]; omega), k3.2.1 a (by omega) (by simp only [List.mem_cons, List.not_mem_nil, or_false]; omega)]
            have V0 : ∀ k, mI m' l k = if k = 14 then nI (tm + 1) else if k = 13 then nI j else if k = 6 then nI st else if k = 5 then nI to else if k = 4 then nI fr else mI ν1 l k := fun k => by
              rw [q57 l (by omega) (by omega) (by omega), hν4, mI_sI, if_pos rfl, z_up, mI_sI, if_pos rfl, z_up, hν3, mI_sI, if_neg (show ¬ l = l + 2 by omega), mI_sI, if_neg (show ¬ l = l + 4 by omega), mI_sI, if_neg (show ¬ l = l + 3 by omega), mI_sI, if_neg (show ¬ l = l + 2 by omega), hν2, mI_sI, if_pos rfl, z_up, mI_sI, if_pos rfl, z_up, mI_sI, if_pos rfl, z_up]
            have V2 : mI m' (l + 2) 2 = nI 1 := by
              rw [q57 _ (by omega) (by omega) (by omega), hν4, mI_sI, if_neg (by omega), mI_sI, if_neg (by omega), hν3, mI_sI, if_pos rfl, z_up, if_pos rfl]
            have V3 : mI m' (l + 3) 0 = nI b14 := by
              rw [q57 _ (by omega) (by omega) (by omega), hν4, mI_sI, if_neg (by omega), mI_sI, if_neg (by omega), hν3, mI_sI, if_neg (show ¬ l + 3 = l + 2 by omega), mI_sI, if_neg (show ¬ l + 3 = l + 4 by omega), mI_sI, if_pos rfl, z_up, if_pos rfl]
            have V4 : mI m' (l + 4) 0 = nI b15 := by
              rw [q57 _ (by omega) (by omega) (by omega), hν4, mI_sI, if_neg (by omega), mI_sI, if_neg (by omega), hν3, mI_sI, if_neg (show ¬ l + 4 = l + 2 by omega), mI_sI, if_pos rfl, z_up, if_pos rfl]
            have V5 : ∀ k, mI m' (l + 5) k = 0 := fun k => by
              rw [q57 _ (by omega) (by omega) (by omega), hν4, mI_sI, if_neg (by omega), mI_sI, if_neg (by omega), hν3, mI_sI, if_neg (by omega), mI_sI, if_neg (by omega), mI_sI, if_neg (by omega), mI_sI, if_neg (by omega), hν2, mI_sI, if_neg (by omega), mI_sI, if_neg (by omega), mI_sI, if_neg (by omega), I5]
            have V6 : ∀ k, k < nn → mI m' (l + 6) k = -1 := fun k hk => by
              rw [q57 _ (by omega) (by omega) (by omega), hν4, mI_sI, if_neg (by omega), mI_sI, if_neg (by omega), hν3, mI_sI, if_neg (by omega), mI_sI, if_neg (by omega), mI_sI, if_neg (by omega), mI_sI, if_neg (by omega), hν2, mI_sI, if_neg (by omega), mI_sI, if_neg (by omega), mI_sI, if_neg (by omega), I6]
              exact if_pos hk
            have V1 : ∀ k, mI m' (l + 1) k = if k = 1 then nI aG else if k = 0 then nI aL else mI ν5 (l + 1) k := fun k => by
              rw [hi7 _ (by omega) (by omega), hν7, mI_sI, if_pos rfl, z_up, mI_sI, if_pos rfl, z_up, mv2.2.1 _ (by omega) (by simp only [List.mem_cons, List.not_mem_nil, or_false]; omega)]
            have hE'l : ∀ a, l ≤ a → a ≤ l + 6 → a ≠ E' := fun a h1 h2 h3 => by
              rcases y10 with ⟨q1, q2⟩ | q1
              · rcases l4 with ⟨q, -⟩ | ⟨-, -, -, q, -⟩
                · omega
                · omega
              · omega
            have hEl' : ∀ j, j < N → ∀ a, lr j ≤ a → a ≤ lr j + 6 → a ≠ E' := fun j hj a h1 h2 h3 => by
              rcases y10 with ⟨q1, q2⟩ | q1
              · have := l6 j hj; omega
              · have := (lrl j hj).2; omega
            have RF : ∀ a, a < l → a ≠ 37 → a ≠ E' → mR m' a = mR μ a := fun a h1 h2 h3 => by rw [RR, y13 a (by omega) h2 h3, R7, (old1 a h1).2.1]
            have KF : ∀ a, a < l → mK m' a = mK μ a ∧ mL m' a = mL μ a := fun a h1 => by
              rw [KK, LL, (y11 a (by omega)).1, (y11 a (by omega)).2, K7, L7]
              exact (old1 a h1).2.2
            have Snew : LotS m' l nn 1 := by
              refine LotS_pt (μ := ν1) (by omega) (fun a h1 h2 => ⟨?_, ?_, ?_⟩) S1
              · rw [RR, y13 a (by omega) (by omega) (hE'l a h1 h2), R7]
              · rw [KK, (y11 a (by omega)).1, K7]
              · rw [LL, (y11 a (by omega)).2, L7]
            have w96 : mI m' 96 N = 0 := by rw [mM 96 (by decide) (by decide) (by decide)]; exact (hzr.1 N (Nat.le_refl _) hN).1
            have w98 : mI m' 98 N = 0 := by rw [mM 98 (by decide) (by decide) (by decide)]; exact (hzr.1 N (Nat.le_refl _) hN).2.1
            have z103 : ∀ q, q < 60 * j ∨ 60 * j + 60 ≤ q → mI m' 103 q = mI μ 103 q := fun q hq => by rw [B7 q hq, r103]
            have r104 : mI m' 104 = mI μ 104 := mM 104 (by decide) (by decide) (by decide)
            have r105 : mI m' 105 = mI μ 105 := mM 105 (by decide) (by decide) (by decide)
            have U89 : ∀ k, mI m' 89 k = if k = N then nI cl else mI μ 89 k := fun k => by rw [U1 89 (by decide) (by decide) (by decide) (by decide) (by decide) (by decide) (by decide) (by decide), A3, m0row 89 (by decide) (by decide)]
            have U90 : ∀ k, mI m' 90 k = if k = N then nI nn else mI μ 90 k := fun k => by rw [U1 90 (by decide) (by decide) (by decide) (by decide) (by decide) (by decide) (by decide) (by decide), A4, m0row 90 (by decide) (by decide)]
            have U91 : ∀ k, mI m' 91 k = if k = N then nI kd else mI μ 91 k := fun k => by rw [U1 91 (by decide) (by decide) (by decide) (by decide) (by decide) (by decide) (by decide) (by decide), A5, m0row 91 (by decide) (by decide)]
            have U92 : ∀ k, mI m' 92 k = if k = N then nI fr else mI μ 92 k := fun k => by rw [U1 92 (by decide) (by decide) (by decide) (by decide) (by decide) (by decide) (by decide) (by decide), A6, m0row 92 (by decide) (by decide)]
            have U93 : ∀ k, mI m' 93 k = if k = N then nI to else mI μ 93 k := fun k => by rw [U1 93 (by decide) (by decide) (by decide) (by decide) (by decide) (by decide) (by decide) (by decide), A7, m0row 93 (by decide) (by decide)]
            have U94 : ∀ k, mI m' 94 k = if k = N then nI st else mI μ 94 k := fun k => by rw [U1 94 (by decide) (by decide) (by decide) (by decide) (by decide) (by decide) (by decide) (by decide), A8, m0row 94 (by decide) (by decide)]
            have U95 : ∀ k, mI m' 95 k = if k = N then nI du else mI μ 95 k := fun k => by rw [U1 95 (by decide) (by decide) (by decide) (by decide) (by decide) (by decide) (by decide) (by decide), A9, m0row 95 (by decide) (by decide)]
            have U97 : ∀ k, mI m' 97 k = if k = N then -1 else mI μ 97 k := fun k => by rw [U1 97 (by decide) (by decide) (by decide) (by decide) (by decide) (by decide) (by decide) (by decide), A10, m0row 97 (by decide) (by decide)]
            have U99 : ∀ k, mI m' 99 k = if k = N then -1 else mI μ 99 k := fun k => by rw [U1 99 (by decide) (by decide) (by decide) (by decide) (by decide) (by decide) (by decide) (by decide), A11, m0row 99 (by decide) (by decide)]
            have hnew : LotR m' C K M N l := by
              refine ⟨nn, 1, Snew, ?_, ?_, ⟨(aL, aG, L0.2.2.1, L0.2.2.2.1, L0.2.2.2.2), hh, cc', ⟨haL, haG, kk1.2.2.1, kk1.2.2.2.1, kk1.2.2.2.2⟩, kk2, ?_, ?_, kk5, ?_, ?_⟩, ⟨by decide, ?_, V2, fun q hq => ?_⟩, fun p hp => ⟨?_, 0, by decide, ?_⟩, fun p hp => ?_⟩
              · unfold LotV
                rw [V0, V0, V0, V0, V0, V0, V0, V0, V0, V0, V0, V0, V0, I1, I1, I1, I1, I1, I1, I1, I1, I1, I1, I1, I1, I1, U89, U90, U91, U92, U93, U94, U95, U97, U99, U100, U101, w96, w98]
                exact ⟨(if_pos rfl).symm, (if_pos rfl).symm, (if_pos rfl).symm, (if_pos rfl).symm, (if_pos rfl).symm, (if_pos rfl).symm, (if_pos rfl).symm, rfl, (if_pos rfl).symm, rfl, (if_pos rfl).symm, (if_pos rfl).symm, (if_pos rfl).symm⟩
              · unfold LotG bnN
                rw [U89, U90, U91, U92, U93, U94, U95, U101, w96, w98, if_pos rfl, if_pos rfl, if_pos rfl, if_pos rfl, if_pos rfl, if_pos rfl, if_pos rfl, if_pos rfl]
                exact ⟨⟨cl, hclC, rfl⟩, rfl, by omega, nn60, ⟨kd, by omega, hkd, rfl⟩, ⟨fr, by omega, hfr, rfl⟩, ⟨to, by omega, hto, rfl⟩, ⟨st, by omega, hst, rfl⟩, ⟨du, by omega, hdu, rfl⟩, ⟨0, by decide, by decide, rfl⟩, ⟨0, by omega, rfl, fun h => absurd h (by decide)⟩, ⟨tm + 1, by omega, by omega, rfl⟩, fun h => by rcases h with h | h <;> exact absurd h (by decide)⟩
              · obtain ⟨q0, q1', q2'', q3, q4, q5⟩ := k2
                unfold isL
                rw [V1, V1, V1, V1, V1, V1]
                exact ⟨rfl, rfl, q2'', q3, q4, q5⟩
              · obtain ⟨q0, q1', q2'', q3, q4⟩ := kk4
                exact ⟨B3, B4, U742.trans q2'', U743.trans q3, U744.trans q4⟩
              · rw [U89, if_pos rfl, ← kk6, ecl]
              · rw [mM 73 (by decide) (by decide) (by decide)]; exact kk7
              · rw [U68, if_pos rfl]; rfl
              · have hq0 : q = 0 := by omega
                subst hq0
                refine ⟨b14, b15, by omega, hb15, hb15', V3, V4, ?_, ?_⟩
                · rw [U69, if_pos (by omega)]
                · rw [U70, if_pos (by omega)]
              · rw [V5, z103 _ (by omega)]; exact (hzr.2 _ (by omega) (by omega)).symm
              · rw [z103 _ (by omega)]; exact hzr.2 _ (by omega) (by omega)
              · rw [V6 p hp, r104, r105]
                refine (lastM_none M (fun k hk e => ?_)).symm
                obtain ⟨-, -, -, -, j', p', q1, q2, q3', -⟩ := hme.2.2.2.2 k hk
                have := (nI_eq (show j' < 2 ^ 31 by omega) (show N < 2 ^ 31 by omega)).mp (q3'.symm.trans e)
                omega
            have hd2 : ∀ a, a ∈ [68, 89, 90, 91, 92, 93, 94, 95, 97, 99, 100, 101] → ∀ k, k ≠ N → mI m' a k = mI μ a k := fun a ha k hk => by
              have hx1 : a = 68 ∨ a = 89 ∨ a = 90 ∨ a = 91 ∨ a = 92 ∨ a = 93 ∨ a = 94 ∨ a = 95 ∨ a = 97 ∨ a = 99 ∨ a = 100 ∨ a = 101 := by
                simp only [List.mem_cons, List.not_mem_nil, or_false] at ha; omega
              rcases hx1 with rfl | rfl | rfl | rfl | rfl | rfl | rfl | rfl | rfl | rfl | rfl | rfl
              · rw [U68, if_neg hk, A14 k hk, m0row 68 (by decide) (by decide)]
              · rw [U89, if_neg hk]
              · rw [U90, if_neg hk]
              · rw [U91, if_neg hk]
              · rw [U92, if_neg hk]
              · rw [U93, if_neg hk]
              · rw [U94, if_neg hk]
              · rw [U95, if_neg hk]
              · rw [U97, if_neg hk]
              · rw [U99, if_neg hk]
              · rw [U100, if_neg hk, A12, if_neg hk, m0row 100 (by decide) (by decide)]
              · rw [U101, if_neg hk, m1row 101 (by decide) (by decide) (by decide)]
            have hd3 : ∀ k, k < 20 * N ∨ 20 * N + 20 ≤ k → mI m' 69 k = mI μ 69 k ∧ mI m' 70 k = mI μ 70 k := fun k hk => by
              have := A16 k hk
              rw [m0row 69 (by decide) (by decide), m0row 70 (by decide) (by decide)] at this
              rw [U69, U70, if_neg (by omega), if_neg (by omega)]
              exact this
            have hd1 : ∀ a, 66 ≤ a → a ≤ 107 → a ∉ [68, 69, 70, 74, 89, 90, 91, 92, 93, 94, 95, 97, 99, 100, 101, 103] → mI m' a = mI μ a := fun a h1 h2 h3 => mM a h1 (by omega) h3
            have mvP : ∀ p, mI m' (lr j + 5) p = if 0 ≤ p ∧ p < P' ∧ pl p = 0 ∧ jj p = 3 then 1 else mI μ (lr j + 5) p := fun p => by
              rw [mr _ (by omega) (by omega), y12 _ (by omega) (by omega), hν7, mI_sI, if_neg (by omega), mI_sI, if_neg (by omega), mv3 p, rowq f15 _ (by omega)]
            have hrow : ∀ a, a < l → a ≠ 37 → a ≠ 65 → a ≠ lr j + 5 → ¬ (66 ≤ a ∧ a ≤ 111) → mI m' a = mI μ a := fun a h1 h2 h3 h4 h5 => (mr a h3 h5).trans (i8 a h1 h2 h4)
            have lrne : ∀ j', j' < N → j' ≠ j → lr j' + 7 ≤ lr j ∨ lr j + 7 ≤ lr j' := fun j' h1 h2 => by
              by_cases c : j' < j
              · exact Or.inl (l5 j' j c hj)
              · exact Or.inr (l5 j j' (by omega) h1)
            simp only [bd_some, p_let_eq, p_ok, mI_sI, mR_sI, mK_sI, mN_sI, mL_sI, mI_sG, mR_sG, mK_sG, mN_sG, mL_sG, mI_sJ, mR_sJ, mK_sJ, mN_sJ, mL_sJ, z_up, ↓reduceIte, and_self, true_and, and_true, false_and, and_false, not_true_eq_false, not_false_eq_true, Nat.reduceEqDiff, i_10, i_20, i_30, w_in, w_need1, w_need0, m_in, m_thr0, m_thr1, tM, aM, nI_1, nI_pred, reduceIte, wp_some, eq_self, bI_T, bI_F, F_L_again, s_o0 hS, s_r0_0 hS, s_r0_1 hS, s_r0_10 hS, s_r0_11 hS, s_r0_12 hS, s_r0_14 hS, s_r0_16 hS, s_r0_19 hS, s_r0_7 hS, s_r0_8 hS, s_r0_9 hS, hcls, o112]
            rw [hmod]
            simp only [wp_some]
            refine ⟨⟨?_, fun _ => JJ, ?_, ?_⟩, new_RL hLs0 hC hK hLot hM hZ hzr hme hld hN hl ?_ ?_ y3 ?_ ?_ ?_ ?_ (fun j hj => ?_) ?_ ?_ (fun j hj a h1 h2 => ?_) (fun j' hj' a h1 h2 h3 => ?_) (fun j' hj' P hP hp90 hp => ?_) ?_ (fun a h1 h2 => ?_) hd1 hd2 hd3 (fun k hk => ?_) (fun k h1 h2 => ?_) ?_ (fun k h1 h2 => ms k h1 h2) hnew, fun k hk => ?_, fun k hk => hd3 k (by omega), ?_⟩
            · rw [B2.2.2 0 (by simp), f3.2.2 0 (by simp), f2.2.2 0 (by simp), Fq_sc A19 0 (by decide), hm0, mI_sI, if_pos rfl, z_up, if_pos rfl]
            · rw [CC]; have := CS1.1; omega
            · rw [SS]; have := CS1.2; omega
            · rw [mr 37 (by decide) (by omega)]; exact y1
            · rw [RR]; exact y2
            · rw [NN]; exact y4
            · rw [KK]; exact y5
            · rw [LL]; exact y6
            · rw [LL]; exact y7
            · rw [RR]; exact y8 j hj
            · rw [RR]; exact y9
            · exact y10
            · have q := lrl j hj
              exact ⟨RF a (by omega) (by omega) (hEl' j hj a h1 h2), KF a (by omega)⟩
            · have q := lrl j' hj'
              refine hrow a (by omega) (by omega) (by omega) ?_ (by omega)
              by_cases c : j' = j
              · subst c; exact h3
              · have := lrne j' hj' c; omega
            · have q := lrl j' hj'
              by_cases c : j' = j
              · subst c
                have : P = P' := (nI_eq (show P < 2 ^ 31 by omega) (show P' < 2 ^ 31 by omega)).mp (hp90.symm.trans e90)
                subst this
                intro p hp'
                obtain ⟨h1, x', h2, h3⟩ := hp p hp'
                rw [mvP, B6 p (by omega), r103]
                by_cases c : 0 ≤ p ∧ p < P ∧ pl p = 0 ∧ jj p = 3
                · rw [if_pos c, if_pos c]; exact ⟨rfl, 1, by decide, rfl⟩
                · rw [if_neg c, if_neg c]; exact ⟨h1, x', h2, h3⟩
              · exact LotP_pt hP (hrow _ (by omega) (by omega) (by omega) (by have := lrne j' hj' c; omega) (by omega)) (fun k h1 h2 => z103 k (by omega)) hp
            · rw [NN]; omega
            · exact hrow a (by omega) h2 (by omega) (by omega) (by omega)
            · exact U74 k hk
            · rw [z103 k (by omega)]; exact hzr.2 k (by omega) h2
            · rw [B2.2.2 62 (by simp), f3.2.2 62 (by simp), f2.2.2 62 (by simp)]; exact A2
            · exact hd2 68 (by decide) k (by omega)
            · refine ⟨fun a h1 h2 => RF a (by omega) h2 (by omega), fun a h1 => KF a (by omega), by rw [NN]; omega, ⟨by rw [NN]; omega, by rw [NN]; omega⟩, fun a h1 h2 h3 => ?_, fun k hk => ms k (fun e => hk (by rw [e]; decide)) (fun e => hk (by rw [e]; decide))⟩
              by_cases c : 66 ≤ a ∧ a ≤ 111
              · exact mM a c.1 c.2 (fun h => h3 (by simp only [List.mem_cons, List.not_mem_nil, or_false] at h ⊢; omega))
              · exact hrow a (by omega) (fun e => h3 (by rw [e]; decide)) h2 (by omega) c
          · have hN40 : N = 40 := by omega
            subst hN40
            have l1 : mI μ 37 2 = 40 := l1
            have l2 : mI μ 65 62 = 40 := l2
            have q : ¬ (40 : Int32) < 40 := by decide
            have c2' : 0 ≤ nI j ∧ nI j ≤ 40 - 1 := by rw [← l2]; exact c2
            simp only [bd_some, p_let_eq, p_ok, mI_sI, mR_sI, mK_sI, mN_sI, mL_sI, mI_sG, mR_sG, mK_sG, mN_sG, mL_sG, mI_sJ, mR_sJ, mK_sJ, mN_sJ, mL_sJ, z_up, ↓reduceIte, and_self, true_and, and_true, false_and, and_false, not_true_eq_false, not_false_eq_true, Nat.reduceEqDiff, i_10, i_20, i_30, w_in, w_need1, w_need0, m_in, m_thr0, m_thr1, tM, aM, nI_1, nI_pred, reduceIte, wp_some, eq_self, bI_T, bI_F, F_L_again, F_X12_again, F_X12_again_c53, F_X12_needWashed, la, g1, e9, w, t1, sC, hr5, hrk, v13, ex13, etm', ct', z0, o37, l1, q, F_X13_again, F_X13_again_c34, F_X13_again_c83, m_noLot, s_o0 hS, s_r0_0 hS, s_r0_1 hS, s_r0_10 hS, s_r0_11 hS, s_r0_12 hS, s_r0_14 hS, s_r0_16 hS, s_r0_19 hS, s_r0_7 hS, s_r0_8 hS, s_r0_9 hS, s_o112 hS, c2', ij, c4, j40, t2, q2, k13, n13, l13, etm, l2]
            exact ⟨no.1, no.2.1, fun _ _ => trivial, fun _ _ => trivial, no.2.2⟩
    · simp only [bd_some, p_let_eq, p_ok, mI_sI, mR_sI, mK_sI, mN_sI, mL_sI, mI_sG, mR_sG, mK_sG, mN_sG, mL_sG, mI_sJ, mR_sJ, mK_sJ, mN_sJ, mL_sJ, z_up, ↓reduceIte, and_self, true_and, and_true, false_and, and_false, not_true_eq_false, not_false_eq_true, Nat.reduceEqDiff, i_10, i_20, i_30, w_in, w_need1, w_need0, m_in, m_thr0, m_thr1, tM, aM, nI_1, nI_pred, reduceIte, wp_some, eq_self, bI_T, bI_F, F_L_again, F_X12_again, F_X12_needWashed, la, g1, e9, w, F_X13_again, F_X13_again_c34, F_X13_again_c41, m_noLot, s_o0 hS, s_r0_0 hS, s_r0_1 hS, s_r0_10 hS, s_r0_11 hS, s_r0_12 hS, s_r0_14 hS, s_r0_16 hS, s_r0_19 hS, s_r0_7 hS, s_r0_8 hS, s_r0_9 hS, s_o112 hS, c2, ij, c4, j40]
      exact ⟨(thr 2 (by decide)).1, (thr 2 (by decide)).2.1, fun _ _ => trivial, fun _ _ => trivial, (thr 2 (by decide)).2.2⟩
