/-! measure -/
theorem lastM_ext {a b a' b' : Nat → Int32} {j p : Nat} : ∀ m, (∀ k, k < m → a' k = a k ∧ b' k = b k) → lastM a' b' j p m = lastM a b j p m := by
  intro m
  induction m with
  | zero => intro _; rfl
  | succ m ih =>
    intro h
    show (if a' m = nI j ∧ b' m = nI p then nI m else lastM a' b' j p m) = if a m = nI j ∧ b m = nI p then nI m else lastM a b j p m
    rw [(h m (by omega)).1, (h m (by omega)).2, ih (fun k hk => h k (by omega))]
theorem mea_RL {μ μ2 : p_M} {N K M C E j p x d : Nat} {lr : Nat → Nat} {o : Int32} (hLs : LstR μ N E lr) (hC : mI μ 65 14 = nI C ∧ C ≤ 6) (hK : mI μ 0 13 = nI K ∧ mI μ 65 47 = nI K ∧ K ≤ 4) (hLot : ∀ j, j < N → LotR μ C K M j (lr j)) (hM : ∀ i, i < K → MacR μ N i) (hZ : ∀ i, K ≤ i → i < 4 → MacZ μ i) (hzr : ZroR μ N) (hme : MeaR μ N M) (hld : LdR μ N) (hj : j < N) (hp : p < 60) (hM2 : M < 250) (hx : x ≤ 255) (hd : d ≤ 400)
    (f : Fr [38, 39, 40, 41, lr j + 6, 104, 105, 106, 107] [0, 69, 70] μ μ2)
    (p3 : mI μ2 38 3 = nI (M + 1)) (p4 : mI μ2 38 4 = o) (s70 : mI μ2 65 70 = o) (s69 : mI μ2 65 69 = nI (M + 1))
    (q39 : ∀ k, mI μ2 39 k = if k = M then nI x else mI μ 39 k) (q40 : ∀ k, mI μ2 40 k = if k = M then nI d else mI μ 40 k) (q41 : ∀ k, mI μ2 41 k = if k = M then lastM (mI μ 104) (mI μ 105) j p M else mI μ 41 k) (q6 : ∀ k, mI μ2 (lr j + 6) k = if k = p then nI M else mI μ (lr j + 6) k)
    (q104 : ∀ k, mI μ2 104 k = if k = M then nI j else mI μ 104 k) (q105 : ∀ k, mI μ2 105 k = if k = M then nI p else mI μ 105 k) (q106 : ∀ k, mI μ2 106 k = if k = M then nI x else mI μ 106 k) (q107 : ∀ k, mI μ2 107 k = if k = M then nI d else mI μ 107 k) : RLots μ2 := by
  obtain ⟨l1, l2, l3, l4, l5, l6⟩ := hLs
  have hlj : 113 ≤ lr j := by obtain ⟨P, nb, ⟨s0, -⟩, -⟩ := hLot j hj; exact s0
  have row : ∀ a, a ≠ 65 → a ≠ 38 → a ≠ 39 → a ≠ 40 → a ≠ 41 → a ≠ lr j + 6 → a ≠ 104 → a ≠ 105 → a ≠ 106 → a ≠ 107 → mI μ2 a = mI μ a := fun a h1 h2 h3 h4 h5 h6 h7 h8 h9 h10 => f.2.2.2.2.1 a h1 (by
    simp only [List.mem_cons, List.not_mem_nil, or_false]
    omega)
  have rL : ∀ a, a < 104 → a ≠ 65 → a ≠ 38 → a ≠ 39 → a ≠ 40 → a ≠ 41 → mI μ2 a = mI μ a := fun a h0 h1 h2 h3 h4 h5 => row a h1 h2 h3 h4 h5 (by omega) (by omega) (by omega) (by omega) (by omega)
  have sc : ∀ k, k ≠ 0 → k ≠ 69 → k ≠ 70 → mI μ2 65 k = mI μ 65 k := fun k h1 h2 h3 => f.2.2.2.2.2 k (by
    simp only [List.mem_cons, List.not_mem_nil, or_false]
    omega)
  have ext : ∀ (j' p' m : Nat), m ≤ M → lastM (mI μ2 104) (mI μ2 105) j' p' m = lastM (mI μ 104) (mI μ 105) j' p' m := fun j' p' m hm => lastM_ext m (fun k hk => ⟨by rw [q104, if_neg (by omega)], by rw [q105, if_neg (by omega)]⟩)
  refine ⟨N, K, M + 1, C, E, lr, ⟨?_, ?_, l3, ?_, l5, l6⟩, ⟨(sc 14 (by decide) (by decide) (by decide)).trans hC.1, hC.2⟩, ⟨?_, (sc 47 (by decide) (by decide) (by decide)).trans hK.2.1, hK.2.2⟩, fun j' hj' => ?_, fun i' hi' => ?_, fun i' h1 h2 => ?_, ?_, ?_, ?_⟩
  · rw [rL 37 (by omega) (by omega) (by omega) (by omega) (by omega) (by omega)]; exact l1
  · rw [sc 62 (by decide) (by decide) (by decide)]; exact l2
  · rw [f.1, f.2.1, f.2.2.1, f.2.2.2.1]; exact l4
  · rw [rL 0 (by omega) (by omega) (by omega) (by omega) (by omega) (by omega)]; exact hK.1
  · obtain ⟨P, nb, S, V, G, L, Cc, Pz, Pm⟩ := hLot j' hj'
    have hl' : 113 ≤ lr j' := S.1
    have far : j' ≠ j → lr j' + 7 ≤ lr j ∨ lr j + 7 ≤ lr j' := fun h => by
      by_cases c : j' < j
      · exact Or.inl (l5 j' j c hj)
      · exact Or.inr (l5 j j' (by omega) hj')
    have cell : ∀ a, lr j' ≤ a → a ≤ lr j' + 5 → mI μ2 a = mI μ a := fun a h1 h2 => row a (by omega) (by omega) (by omega) (by omega) (by omega) (by
      by_cases c : j' = j
      · subst c; omega
      · have := far c; omega) (by omega) (by omega) (by omega) (by omega)
    have rM : ∀ a, 66 ≤ a → a ≤ 103 → mI μ2 a = mI μ a := fun a h1 h2 => rL a (by omega) (by omega) (by omega) (by omega) (by omega) (by omega)
    refine ⟨P, nb, LotS_pt (by rw [f.2.2.2.1]; exact Nat.le_refl _) (fun a _ _ => ⟨by rw [f.1], by rw [f.2.1], by rw [f.2.2.1]⟩) S, LotV_pt (cell _ (by omega) (by omega)) (fun a h1 h2 => by rw [rM a (by omega) (by omega)]) V, LotG_pt (Nat.le_refl C) (Nat.le_refl K) (fun a h1 h2 => by rw [rM a (by omega) (by omega)]) G, LotL_pt (cell _ (by omega) (by omega)) (fun k _ _ => by rw [rM 74 (by omega) (by omega)]) (by rw [rM 89 (by omega) (by omega)]) (fun c _ _ => by rw [rM 73 (by omega) (by omega)]) L, LotC_pt (cell _ (by omega) (by omega)) (cell _ (by omega) (by omega)) (cell _ (by omega) (by omega)) (by rw [rM 68 (by omega) (by omega)]) (fun k _ _ => by rw [rM 69 (by omega) (by omega), rM 70 (by omega) (by omega)]; exact ⟨rfl, rfl⟩) Cc, LotP_pt G.2.2.2.1 (cell _ (by omega) (by omega)) (fun k _ _ => by rw [rM 103 (by omega) (by omega)]) Pz, fun p' hp' => ?_⟩
    have hP := G.2.2.2.1
    have hL : lastM (mI μ2 104) (mI μ2 105) j' p' (M + 1) = if nI j = nI j' ∧ nI p = nI p' then nI M else lastM (mI μ 104) (mI μ 105) j' p' M := by
      show (if mI μ2 104 M = nI j' ∧ mI μ2 105 M = nI p' then nI M else lastM (mI μ2 104) (mI μ2 105) j' p' M) = _
      rw [q104, q105, if_pos rfl, if_pos rfl, ext j' p' M (Nat.le_refl _)]
    rw [hL]
    by_cases c : j' = j
    · subst c
      rw [q6]
      by_cases cp : p' = p
      · subst cp
        rw [if_pos rfl, if_pos ⟨rfl, rfl⟩]
      · rw [if_neg cp, if_neg (fun q => cp ((nI_eq (show p < 2 ^ 31 by omega) (show p' < 2 ^ 31 by omega)).mp q.2).symm)]
        exact Pm p' hp'
    · rw [if_neg (fun q => c ((nI_eq (show j < 2 ^ 31 by omega) (show j' < 2 ^ 31 by omega)).mp q.1).symm), row (lr j' + 6) (by omega) (by omega) (by omega) (by omega) (by omega) (by have := far c; omega) (by omega) (by omega) (by omega) (by omega)]
      exact Pm p' hp'
  · have e1 := rL (57 + 2 * i') (by omega) (by omega) (by omega) (by omega) (by omega) (by omega)
    have e2 := rL (58 + 2 * i') (by omega) (by omega) (by omega) (by omega) (by omega) (by omega)
    have r96 := rL 96 (by omega) (by omega) (by omega) (by omega) (by omega) (by omega)
    have r97 := rL 97 (by omega) (by omega) (by omega) (by omega) (by omega) (by omega)
    unfold MacR
    rw [wt_g r96 r97, e1, e2, rL 85 (by omega) (by omega) (by omega) (by omega) (by omega) (by omega), rL 86 (by omega) (by omega) (by omega) (by omega) (by omega) (by omega), rL 87 (by omega) (by omega) (by omega) (by omega) (by omega) (by omega), rL 88 (by omega) (by omega) (by omega) (by omega) (by omega) (by omega), r96, r97, rL 102 (by omega) (by omega) (by omega) (by omega) (by omega) (by omega)]
    exact hM i' hi'
  · have e1 := rL (57 + 2 * i') (by omega) (by omega) (by omega) (by omega) (by omega) (by omega)
    unfold MacZ
    rw [e1, rL 88 (by omega) (by omega) (by omega) (by omega) (by omega) (by omega)]
    exact hZ i' h1 h2
  · unfold ZroR
    rw [rL 96 (by omega) (by omega) (by omega) (by omega) (by omega) (by omega), rL 98 (by omega) (by omega) (by omega) (by omega) (by omega) (by omega), rL 101 (by omega) (by omega) (by omega) (by omega) (by omega) (by omega), rL 103 (by omega) (by omega) (by omega) (by omega) (by omega) (by omega)]
    exact hzr
  · obtain ⟨h1, h2, h3, h4, h5⟩ := hme
    refine ⟨by omega, p3, s69, p4.trans s70.symm, fun k hk => ?_⟩
    by_cases c : k = M
    · subst c
      refine ⟨by rw [q39, q106, if_pos rfl, if_pos rfl], by rw [q40, q107, if_pos rfl, if_pos rfl], ⟨x, by omega, hx, by rw [q106, if_pos rfl]⟩, ⟨d, by omega, hd, by rw [q107, if_pos rfl]⟩, j, p, hj, hp, by rw [q104, if_pos rfl], by rw [q105, if_pos rfl], ?_⟩
      rw [q41, if_pos rfl, ext j p k (Nat.le_refl _)]
    · obtain ⟨g1, g2, ⟨x', x1, x2, x3⟩, ⟨d', d1, d2, d3⟩, j', p', j1, p1, g4, g5, g6⟩ := h5 k (by omega)
      refine ⟨by rw [q39, q106, if_neg c, if_neg c]; exact g1, by rw [q40, q107, if_neg c, if_neg c]; exact g2, ⟨x', x1, x2, by rw [q106, if_neg c]; exact x3⟩, ⟨d', d1, d2, by rw [q107, if_neg c]; exact d3⟩, j', p', j1, p1, by rw [q104, if_neg c]; exact g4, by rw [q105, if_neg c]; exact g5, ?_⟩
      rw [q41, if_neg c, ext j' p' k (by omega)]
      exact g6
  · unfold LdR
    rw [sc 63 (by decide) (by decide) (by decide), ld_g (rL 96 (by omega) (by omega) (by omega) (by omega) (by omega) (by omega)), rL 102 (by omega) (by omega) (by omega) (by omega) (by omega) (by omega)]
    exact hld
theorem A_measure {μ : p_M} (hS : Sh μ) (hR : RLots μ) (hRM : RMisc μ) (v1 v2 v3 : Int32) : wp (F_L_measure 0 v1 v2 v3 112 μ) fun k μ1 => wp (F_X13_measure v1 v2 v3 μ1) fun b μ2 => Post k b μ μ2 ∧ RLots μ2 ∧ Fl [38, 39, 40, 41, 104, 105, 106, 107] [0, 69, 70] μ μ2 := by
  have hR0 := hR
  obtain ⟨N, K, M, C, E, lr, hLs, hC, hK, hLot, hM, hZ, hzr, hme, hld⟩ := hR
  have hLs0 := hLs
  obtain ⟨l1, l2, l3, -, l5, -⟩ := hLs
  have thr : ∀ x : Int32, ¬ x = 0 → Post x 0 μ (sI (sI (sG μ 1 6) 65 0 0) 65 0 x) ∧ RLots (sI (sI (sG μ 1 6) 65 0 0) 65 0 x) ∧ Fl [38, 39, 40, 41, 104, 105, 106, 107] [0, 69, 70] μ (sI (sI (sG μ 1 6) 65 0 0) 65 0 x) := fun x hx => ⟨thr_post hx, RLots_fr0 thr_fr (by decide) (by decide) (by decide) (by decide) hR0, Fl_of hS (Fr_mono thr_fr (by decide) (by decide))⟩
  rcases ix3 v1 (mI μ 37 2) (mI μ 65 62 - 1) N (by omega) l1 (by rw [l2]) with ⟨c1, c2⟩ | ⟨j, hj, rfl, c1, c2, c3, c4⟩
  · rw [l1] at c1
    simp only [bd_some, p_let_eq, p_ok, mI_sI, mR_sI, mK_sI, mN_sI, mL_sI, mI_sG, mR_sG, mK_sG, mN_sG, mL_sG, mI_sJ, mR_sJ, mK_sJ, mN_sJ, mL_sJ, z_up, ↓reduceIte, and_self, true_and, and_true, false_and, and_false, not_true_eq_false, not_false_eq_true, Nat.reduceEqDiff, i_10, i_20, i_30, w_in, w_need1, w_need0, m_in, m_thr0, m_thr1, tM, aM, nI_1, nI_pred, reduceIte, wp_some, eq_self, bI_T, bI_F, F_L_measure, F_X12_measure, c_lotNo hS hLs0 c1, F_X13_measure, F_X13_measure_c66, F_X13_noPiece, F_X13_noPiece_c24, F_X13_noPiece_c29, m_noLot, s_o0 hS, s_r0_0 hS, s_r0_1 hS, s_r0_10 hS, s_r0_11 hS, s_r0_12 hS, s_r0_14 hS, s_r0_16 hS, s_r0_19 hS, s_r0_7 hS, s_r0_8 hS, s_r0_9 hS, s_o112 hS, c2, or_true]
    exact thr 1 (by decide)
  · obtain ⟨P, nb, S, V, G, Lo, -, -, Pm⟩ := hLot j hj
    have hlj : 113 ≤ lr j := S.1
    obtain ⟨-, g1, -, r8, -, r16, o4, -, -, -, s10, s11⟩ := S
    have la := c_lotAt hS hLs0 hj g1
    have j40 : j < 40 := by omega
    have ij := ix_nI j40 (by decide)
    have e90 : mI μ 90 j = nI P := G.2.1
    have e1 : mI μ (lr j) 1 = nI P := V.2.1.trans G.2.1
    have hP : P ≤ 60 := G.2.2.2.1
    have e9 : mI μ (lr j) 9 = mI μ 96 j := V.2.2.2.2.2.2.2.1
    rcases ix3 v2 (nI P) (nI P - 1) P (by omega) rfl rfl with ⟨d1, d2⟩ | ⟨p, hp, rfl, d1, d2, d3, d4⟩
    · simp only [bd_some, p_let_eq, p_ok, mI_sI, mR_sI, mK_sI, mN_sI, mL_sI, mI_sG, mR_sG, mK_sG, mN_sG, mL_sG, mI_sJ, mR_sJ, mK_sJ, mN_sJ, mL_sJ, z_up, ↓reduceIte, and_self, true_and, and_true, false_and, and_false, not_true_eq_false, not_false_eq_true, Nat.reduceEqDiff, i_10, i_20, i_30, w_in, w_need1, w_need0, m_in, m_thr0, m_thr1, tM, aM, nI_1, nI_pred, reduceIte, wp_some, eq_self, bI_T, bI_F, F_L_measure, F_X12_measure, la, g1, w_ix, e1, d1, F_X13_measure, F_X13_measure_c66, F_X13_noPiece, F_X13_noPiece_c24, F_X13_noPiece_c29, m_noLot, s_o0 hS, s_r0_0 hS, s_r0_1 hS, s_r0_10 hS, s_r0_11 hS, s_r0_12 hS, s_r0_14 hS, s_r0_16 hS, s_r0_19 hS, s_r0_7 hS, s_r0_8 hS, s_r0_9 hS, s_o112 hS, c2, ij, c4, j40, e90, d2, or_true]
      exact thr 1 (by decide)
    · by_cases w : mI μ 96 j = 3
      · by_cases cx : 0 ≤ v3 ∧ v3 ≤ 255
        · obtain ⟨x, -, hx, rfl⟩ := rg3 v3 0 255 0 255 rfl rfl (by decide) (by decide) cx
          obtain ⟨m1, m2, m3, m4, m5⟩ := hme
          have ip := ix_nI hp (by omega)
          by_cases cM : M < 250
          · obtain ⟨⟨d, hd, t1, t2⟩, -⟩ := hRM
            have cM' : nI M < 250 := nI_lt (b := 250) cM (by decide)
            have nM : ¬ nI M = 250 := fun e => by have := (nI_eq (show M < 2 ^ 31 by omega) (show 250 < 2 ^ 31 by decide)).mp e; omega
            have iM := ix_nI cM (by decide)
            have kM := nI_clamp (show M < 2 ^ 31 by omega)
            have aM' : nI M + 1 = nI (M + 1) := nI_add M 1
            have pM : nI (M + 1) - 1 = nI M := nI_pred M
            have nM1 : ¬ nI M = -1 := nI_nm1 (by omega)
            have e6 := Pm p hp
            obtain ⟨L0, hh, cc, kk1, kk2, kk3, kk4, -⟩ := Lo
            have m5j : 5 * nI j = nI (5 * j) := pk_mul 5 j
            have a51 : nI (5 * j) + 1 = nI (5 * j + 1) := nI_add _ 1
            have i50 := ix_nI (show 5 * j < 240 by omega) (by decide)
            have k50 := nI_clamp (show 5 * j < 2 ^ 31 by omega)
            have l50 : 5 * j < 240 := by omega
            have i51 := ix_nI (show 5 * j + 1 < 240 by omega) (by decide)
            have k51 := nI_clamp (show 5 * j + 1 < 2 ^ 31 by omega)
            have l51 : 5 * j + 1 < 240 := by omega
            have n6a : ¬ lr j + 6 = 39 := by omega
            have n6b : ¬ lr j + 6 = 40 := by omega
            have n6c : ¬ lr j + 6 = 41 := by omega
            have n6d : ¬ lr j + 6 = 38 := by omega
            have n1a : ¬ lr j + 1 = 39 := by omega
            have n1b : ¬ lr j + 1 = 40 := by omega
            have n1c : ¬ lr j + 1 = 41 := by omega
            have n1d : ¬ lr j + 1 = 38 := by omega
            have n16 : ¬ lr j + 1 = lr j + 6 := by omega
            have n38 : ¬ 38 = lr j + 6 := by omega
            have n39 : ¬ 39 = lr j + 6 := by omega
            have n40 : ¬ 40 = lr j + 6 := by omega
            have n41 : ¬ 41 = lr j + 6 := by omega
            have n65 : ¬ 65 = lr j + 6 := by omega
            have n74 : ¬ 74 = lr j + 6 := by omega
            have n90 : ¬ 90 = lr j + 6 := by omega
            have n96 : ¬ 96 = lr j + 6 := by omega
            have n104 : ¬ 104 = lr j + 6 := by omega
            have n105 : ¬ 105 = lr j + 6 := by omega
            have n106 : ¬ 106 = lr j + 6 := by omega
            have n107 : ¬ 107 = lr j + 6 := by omega
            have u104 : ¬ lr j + 6 = 104 := by omega
            have u105 : ¬ lr j + 6 = 105 := by omega
            have u106 : ¬ lr j + 6 = 106 := by omega
            have u107 : ¬ lr j + 6 = 107 := by omega
            have u65 : ¬ lr j + 6 = 65 := by omega
            have hfl : ∀ μ2 : p_M, Fr [38, 39, 40, 41, lr j + 6, 104, 105, 106, 107] [0, 69, 70] μ μ2 → Fl [38, 39, 40, 41, 104, 105, 106, 107] [0, 69, 70] μ μ2 := fun μ2 fr => by
              refine ⟨fun a _ _ => by rw [fr.1], fun a _ => ⟨by rw [fr.2.1], by rw [fr.2.2.1]⟩, by rw [fr.2.2.2.1]; exact Nat.le_refl _, ⟨by rw [fr.2.2.2.1]; exact hS.2.2.1, by rw [fr.2.2.2.1]; exact Nat.le_add_right _ _⟩, fun a a1 a2 a3 => fr.2.2.2.2.1 a a2 (fun hm => a3 ?_), fr.2.2.2.2.2⟩
              simp only [List.mem_cons, List.not_mem_nil, or_false] at hm ⊢
              omega
            have e50 : mI μ 74 (5 * j) = mI μ (lr j + 1) 0 := kk4.1.trans kk3.1.symm
            have e51 : mI μ 74 (5 * j + 1) = mI μ (lr j + 1) 1 := kk4.2.1.trans kk3.2.1.symm
            by_cases co : mI μ (lr j + 1) 0 ≤ nI x ∧ nI x ≤ mI μ (lr j + 1) 1
            · have a0 : mI μ 65 70 + 0 = mI μ 65 70 := Int32.add_zero _
              simp only [bd_some, p_let_eq, p_ok, mI_sI, mR_sI, mK_sI, mN_sI, mL_sI, mI_sG, mR_sG, mK_sG, mN_sG, mL_sG, mI_sJ, mR_sJ, mK_sJ, mN_sJ, mL_sJ, z_up, ↓reduceIte, and_self, true_and, and_true, false_and, and_false, not_true_eq_false, not_false_eq_true, Nat.reduceEqDiff, i_10, i_20, i_30, w_in, w_need1, w_need0, m_in, m_thr0, m_thr1, tM, aM, nI_1, nI_pred, reduceIte, wp_some, eq_self, bI_T, bI_F, F_L_measure, F_X12_measure, F_X12_measure_c104, F_X12_needWashed, F_X6_tell, la, g1, w_ix, e1, d1, e9, w, cx, r16, s10, s11, ip, d4, hp, s_o0 hS, s_r0_0 hS, s_r0_1 hS, s_r0_10 hS, s_r0_11 hS, s_r0_12 hS, s_r0_14 hS, s_r0_16 hS, s_r0_19 hS, s_r0_7 hS, s_r0_8 hS, s_r0_9 hS, s_o38 hS, s_r38_0 hS, s_r38_1 hS, s_r38_2 hS, s_r38_5 hS, s_r38_6 hS, s_r38_7 hS, s_r38_8 hS, s_a39 hS, s_l39 hS, s_o39 hS, s_a40 hS, s_l40 hS, s_o40 hS, s_a41 hS, s_l41 hS, s_o41 hS, s_o112 hS, s_o38 hS, m2, cM', iM, kM, cM, t1, e6, aM', pM, nM1, n6a, n6b, n6c, n6d, r8, o4, n1a, n1b, n1c, n1d, n16, n38, n39, n40, n41, n65, n74, n90, n96, co, F_X13_measure, F_X13_measure_c35, F_X13_measure_c59, F_X13_measure_c168, F_X13_noPiece, F_X13_noPiece_c24, F_X13_noPiece_c29, m_noLot, c2, ij, c4, j40, e90, d2, m3, nM, t2, m5j, a51, i50, k50, l50, i51, k51, l51, e50, e51, n104, n105, n106, n107, a0, true_or]
              refine ⟨⟨?_, fun _ => rfl, Cn_eq rfl rfl⟩, mea_RL (o := mI μ 65 70) hLs0 hC hK hLot hM hZ hzr ⟨m1, m2, m3, m4, m5⟩ hld hj (show p < 60 by omega) cM hx hd ?_ ?_ ?_ ?_ ?_ (fun k => ?_) (fun k => ?_) (fun k => ?_) (fun k => ?_) (fun k => ?_) (fun k => ?_) (fun k => ?_) (fun k => ?_), hfl _ ?_⟩
              · simp only [mI_sI, mR_sI, mK_sI, mN_sI, mL_sI, mI_sG, mR_sG, mK_sG, mN_sG, mL_sG, mI_sJ, mR_sJ, mK_sJ, mN_sJ, mL_sJ, mI_sA, mR_sA, mK_sA, mN_sA, mL_sA, z_up, ↓reduceIte, reduceIte, Nat.reduceEqDiff, true_and, and_true]
              · repeat (first | exact Fr_refl _ | refine Fr_s65 ?_ (by decide) | refine Fr_sI ?_ ⟨by simp, by omega⟩ | refine Fr_sJ ?_)
              · simp only [mI_sI, mR_sI, mK_sI, mN_sI, mL_sI, mI_sG, mR_sG, mK_sG, mN_sG, mL_sG, mI_sJ, mR_sJ, mK_sJ, mN_sJ, mL_sJ, mI_sA, mR_sA, mK_sA, mN_sA, mL_sA, z_up, ↓reduceIte, reduceIte, Nat.reduceEqDiff, true_and, and_true, n38]
              · simp only [mI_sI, mR_sI, mK_sI, mN_sI, mL_sI, mI_sG, mR_sG, mK_sG, mN_sG, mL_sG, mI_sJ, mR_sJ, mK_sJ, mN_sJ, mL_sJ, mI_sA, mR_sA, mK_sA, mN_sA, mL_sA, z_up, ↓reduceIte, reduceIte, Nat.reduceEqDiff, true_and, and_true, n38, m4]
              · simp only [mI_sI, mR_sI, mK_sI, mN_sI, mL_sI, mI_sG, mR_sG, mK_sG, mN_sG, mL_sG, mI_sJ, mR_sJ, mK_sJ, mN_sJ, mL_sJ, mI_sA, mR_sA, mK_sA, mN_sA, mL_sA, z_up, ↓reduceIte, reduceIte, Nat.reduceEqDiff, true_and, and_true]
              · simp only [mI_sI, mR_sI, mK_sI, mN_sI, mL_sI, mI_sG, mR_sG, mK_sG, mN_sG, mL_sG, mI_sJ, mR_sJ, mK_sJ, mN_sJ, mL_sJ, mI_sA, mR_sA, mK_sA, mN_sA, mL_sA, z_up, ↓reduceIte, reduceIte, Nat.reduceEqDiff, true_and, and_true]
              · simp only [mI_sI, mR_sI, mK_sI, mN_sI, mL_sI, mI_sG, mR_sG, mK_sG, mN_sG, mL_sG, mI_sJ, mR_sJ, mK_sJ, mN_sJ, mL_sJ, mI_sA, mR_sA, mK_sA, mN_sA, mL_sA, z_up, ↓reduceIte, reduceIte, Nat.reduceEqDiff, true_and, and_true, n39]
              · simp only [mI_sI, mR_sI, mK_sI, mN_sI, mL_sI, mI_sG, mR_sG, mK_sG, mN_sG, mL_sG, mI_sJ, mR_sJ, mK_sJ, mN_sJ, mL_sJ, mI_sA, mR_sA, mK_sA, mN_sA, mL_sA, z_up, ↓reduceIte, reduceIte, Nat.reduceEqDiff, true_and, and_true, n40]
              · simp only [mI_sI, mR_sI, mK_sI, mN_sI, mL_sI, mI_sG, mR_sG, mK_sG, mN_sG, mL_sG, mI_sJ, mR_sJ, mK_sJ, mN_sJ, mL_sJ, mI_sA, mR_sA, mK_sA, mN_sA, mL_sA, z_up, ↓reduceIte, reduceIte, Nat.reduceEqDiff, true_and, and_true, n41]
              · simp only [mI_sI, mR_sI, mK_sI, mN_sI, mL_sI, mI_sG, mR_sG, mK_sG, mN_sG, mL_sG, mI_sJ, mR_sJ, mK_sJ, mN_sJ, mL_sJ, mI_sA, mR_sA, mK_sA, mN_sA, mL_sA, z_up, ↓reduceIte, reduceIte, Nat.reduceEqDiff, true_and, and_true, n6a, n6b, n6c, n6d, u104, u105, u106, u107, u65]
              · simp only [mI_sI, mR_sI, mK_sI, mN_sI, mL_sI, mI_sG, mR_sG, mK_sG, mN_sG, mL_sG, mI_sJ, mR_sJ, mK_sJ, mN_sJ, mL_sJ, mI_sA, mR_sA, mK_sA, mN_sA, mL_sA, z_up, ↓reduceIte, reduceIte, Nat.reduceEqDiff, true_and, and_true, n104]
              · simp only [mI_sI, mR_sI, mK_sI, mN_sI, mL_sI, mI_sG, mR_sG, mK_sG, mN_sG, mL_sG, mI_sJ, mR_sJ, mK_sJ, mN_sJ, mL_sJ, mI_sA, mR_sA, mK_sA, mN_sA, mL_sA, z_up, ↓reduceIte, reduceIte, Nat.reduceEqDiff, true_and, and_true, n105]
              · simp only [mI_sI, mR_sI, mK_sI, mN_sI, mL_sI, mI_sG, mR_sG, mK_sG, mN_sG, mL_sG, mI_sJ, mR_sJ, mK_sJ, mN_sJ, mL_sJ, mI_sA, mR_sA, mK_sA, mN_sA, mL_sA, z_up, ↓reduceIte, reduceIte, Nat.reduceEqDiff, true_and, and_true, n106]
              · simp only [mI_sI, mR_sI, mK_sI, mN_sI, mL_sI, mI_sG, mR_sG, mK_sG, mN_sG, mL_sG, mI_sJ, mR_sJ, mK_sJ, mN_sJ, mL_sJ, mI_sA, mR_sA, mK_sA, mN_sA, mL_sA, z_up, ↓reduceIte, reduceIte, Nat.reduceEqDiff, true_and, and_true, n107]
              · repeat (first | exact Fr_refl _ | refine Fr_s65 ?_ (by decide) | refine Fr_sI ?_ ⟨by simp, by omega⟩ | refine Fr_sJ ?_)
            · simp only [bd_some, p_let_eq, p_ok, mI_sI, mR_sI, mK_sI, mN_sI, mL_sI, mI_sG, mR_sG, mK_sG, mN_sG, mL_sG, mI_sJ, mR_sJ, mK_sJ, mN_sJ, mL_sJ, z_up, ↓reduceIte, and_self, true_and, and_true, false_and, and_false, not_true_eq_false, not_false_eq_true, Nat.reduceEqDiff, i_10, i_20, i_30, w_in, w_need1, w_need0, m_in, m_thr0, m_thr1, tM, aM, nI_1, nI_pred, reduceIte, wp_some, eq_self, bI_T, bI_F, F_L_measure, F_X12_measure, F_X12_measure_c104, F_X12_needWashed, F_X6_tell, la, g1, w_ix, e1, d1, e9, w, cx, r16, s10, s11, ip, d4, hp, s_o0 hS, s_r0_0 hS, s_r0_1 hS, s_r0_10 hS, s_r0_11 hS, s_r0_12 hS, s_r0_14 hS, s_r0_16 hS, s_r0_19 hS, s_r0_7 hS, s_r0_8 hS, s_r0_9 hS, s_o38 hS, s_r38_0 hS, s_r38_1 hS, s_r38_2 hS, s_r38_5 hS, s_r38_6 hS, s_r38_7 hS, s_r38_8 hS, s_a39 hS, s_l39 hS, s_o39 hS, s_a40 hS, s_l40 hS, s_o40 hS, s_a41 hS, s_l41 hS, s_o41 hS, s_o112 hS, s_o38 hS, m2, cM', iM, kM, cM, t1, e6, aM', pM, nM1, n6a, n6b, n6c, n6d, r8, o4, n1a, n1b, n1c, n1d, n16, n38, n39, n40, n41, n65, n74, n90, n96, co, F_X13_measure, F_X13_measure_c35, F_X13_measure_c59, F_X13_measure_c168, F_X13_noPiece, F_X13_noPiece_c24, F_X13_noPiece_c29, m_noLot, c2, ij, c4, j40, e90, d2, m3, nM, t2, m5j, a51, i50, k50, l50, i51, k51, l51, e50, e51, n104, n105, n106, n107, true_or]
              refine ⟨⟨?_, fun _ => rfl, Cn_eq rfl rfl⟩, mea_RL (o := mI μ 65 70 + 1) hLs0 hC hK hLot hM hZ hzr ⟨m1, m2, m3, m4, m5⟩ hld hj (show p < 60 by omega) cM hx hd ?_ ?_ ?_ ?_ ?_ (fun k => ?_) (fun k => ?_) (fun k => ?_) (fun k => ?_) (fun k => ?_) (fun k => ?_) (fun k => ?_) (fun k => ?_), hfl _ ?_⟩
              · simp only [mI_sI, mR_sI, mK_sI, mN_sI, mL_sI, mI_sG, mR_sG, mK_sG, mN_sG, mL_sG, mI_sJ, mR_sJ, mK_sJ, mN_sJ, mL_sJ, mI_sA, mR_sA, mK_sA, mN_sA, mL_sA, z_up, ↓reduceIte, reduceIte, Nat.reduceEqDiff, true_and, and_true]
              · repeat (first | exact Fr_refl _ | refine Fr_s65 ?_ (by decide) | refine Fr_sI ?_ ⟨by simp, by omega⟩ | refine Fr_sJ ?_)
              · simp only [mI_sI, mR_sI, mK_sI, mN_sI, mL_sI, mI_sG, mR_sG, mK_sG, mN_sG, mL_sG, mI_sJ, mR_sJ, mK_sJ, mN_sJ, mL_sJ, mI_sA, mR_sA, mK_sA, mN_sA, mL_sA, z_up, ↓reduceIte, reduceIte, Nat.reduceEqDiff, true_and, and_true, n38]
              · simp only [mI_sI, mR_sI, mK_sI, mN_sI, mL_sI, mI_sG, mR_sG, mK_sG, mN_sG, mL_sG, mI_sJ, mR_sJ, mK_sJ, mN_sJ, mL_sJ, mI_sA, mR_sA, mK_sA, mN_sA, mL_sA, z_up, ↓reduceIte, reduceIte, Nat.reduceEqDiff, true_and, and_true, n38, m4]
              · simp only [mI_sI, mR_sI, mK_sI, mN_sI, mL_sI, mI_sG, mR_sG, mK_sG, mN_sG, mL_sG, mI_sJ, mR_sJ, mK_sJ, mN_sJ, mL_sJ, mI_sA, mR_sA, mK_sA, mN_sA, mL_sA, z_up, ↓reduceIte, reduceIte, Nat.reduceEqDiff, true_and, and_true]
              · simp only [mI_sI, mR_sI, mK_sI, mN_sI, mL_sI, mI_sG, mR_sG, mK_sG, mN_sG, mL_sG, mI_sJ, mR_sJ, mK_sJ, mN_sJ, mL_sJ, mI_sA, mR_sA, mK_sA, mN_sA, mL_sA, z_up, ↓reduceIte, reduceIte, Nat.reduceEqDiff, true_and, and_true]
              · simp only [mI_sI, mR_sI, mK_sI, mN_sI, mL_sI, mI_sG, mR_sG, mK_sG, mN_sG, mL_sG, mI_sJ, mR_sJ, mK_sJ, mN_sJ, mL_sJ, mI_sA, mR_sA, mK_sA, mN_sA, mL_sA, z_up, ↓reduceIte, reduceIte, Nat.reduceEqDiff, true_and, and_true, n39]
              · simp only [mI_sI, mR_sI, mK_sI, mN_sI, mL_sI, mI_sG, mR_sG, mK_sG, mN_sG, mL_sG, mI_sJ, mR_sJ, mK_sJ, mN_sJ, mL_sJ, mI_sA, mR_sA, mK_sA, mN_sA, mL_sA, z_up, ↓reduceIte, reduceIte, Nat.reduceEqDiff, true_and, and_true, n40]
              · simp only [mI_sI, mR_sI, mK_sI, mN_sI, mL_sI, mI_sG, mR_sG, mK_sG, mN_sG, mL_sG, mI_sJ, mR_sJ, mK_sJ, mN_sJ, mL_sJ, mI_sA, mR_sA, mK_sA, mN_sA, mL_sA, z_up, ↓reduceIte, reduceIte, Nat.reduceEqDiff, true_and, and_true, n41]
              · simp only [mI_sI, mR_sI, mK_sI, mN_sI, mL_sI, mI_sG, mR_sG, mK_sG, mN_sG, mL_sG, mI_sJ, mR_sJ, mK_sJ, mN_sJ, mL_sJ, mI_sA, mR_sA, mK_sA, mN_sA, mL_sA, z_up, ↓reduceIte, reduceIte, Nat.reduceEqDiff, true_and, and_true, n6a, n6b, n6c, n6d, u104, u105, u106, u107, u65]
              · simp only [mI_sI, mR_sI, mK_sI, mN_sI, mL_sI, mI_sG, mR_sG, mK_sG, mN_sG, mL_sG, mI_sJ, mR_sJ, mK_sJ, mN_sJ, mL_sJ, mI_sA, mR_sA, mK_sA, mN_sA, mL_sA, z_up, ↓reduceIte, reduceIte, Nat.reduceEqDiff, true_and, and_true, n104]
              · simp only [mI_sI, mR_sI, mK_sI, mN_sI, mL_sI, mI_sG, mR_sG, mK_sG, mN_sG, mL_sG, mI_sJ, mR_sJ, mK_sJ, mN_sJ, mL_sJ, mI_sA, mR_sA, mK_sA, mN_sA, mL_sA, z_up, ↓reduceIte, reduceIte, Nat.reduceEqDiff, true_and, and_true, n105]
              · simp only [mI_sI, mR_sI, mK_sI, mN_sI, mL_sI, mI_sG, mR_sG, mK_sG, mN_sG, mL_sG, mI_sJ, mR_sJ, mK_sJ, mN_sJ, mL_sJ, mI_sA, mR_sA, mK_sA, mN_sA, mL_sA, z_up, ↓reduceIte, reduceIte, Nat.reduceEqDiff, true_and, and_true, n106]
              · simp only [mI_sI, mR_sI, mK_sI, mN_sI, mL_sI, mI_sG, mR_sG, mK_sG, mN_sG, mL_sG, mI_sJ, mR_sJ, mK_sJ, mN_sJ, mL_sJ, mI_sA, mR_sA, mK_sA, mN_sA, mL_sA, z_up, ↓reduceIte, reduceIte, Nat.reduceEqDiff, true_and, and_true, n107]
              · repeat (first | exact Fr_refl _ | refine Fr_s65 ?_ (by decide) | refine Fr_sI ?_ ⟨by simp, by omega⟩ | refine Fr_sJ ?_)
          · have hM250 : M = 250 := by omega
            subst hM250
            have m2 : mI μ 38 3 = 250 := m2
            have m3 : mI μ 65 69 = 250 := m3
            have q : ¬ (250 : Int32) < 250 := by decide
            simp only [bd_some, p_let_eq, p_ok, mI_sI, mR_sI, mK_sI, mN_sI, mL_sI, mI_sG, mR_sG, mK_sG, mN_sG, mL_sG, mI_sJ, mR_sJ, mK_sJ, mN_sJ, mL_sJ, z_up, ↓reduceIte, and_self, true_and, and_true, false_and, and_false, not_true_eq_false, not_false_eq_true, Nat.reduceEqDiff, i_10, i_20, i_30, w_in, w_need1, w_need0, m_in, m_thr0, m_thr1, tM, aM, nI_1, nI_pred, reduceIte, wp_some, eq_self, bI_T, bI_F, F_L_measure, F_X12_measure, F_X12_measure_c104, F_X12_needWashed, F_X6_tell, la, g1, w_ix, e1, d1, e9, w, cx, r16, s10, s11, ip, d4, hp, s_o0 hS, s_r0_0 hS, s_r0_1 hS, s_r0_10 hS, s_r0_11 hS, s_r0_12 hS, s_r0_14 hS, s_r0_16 hS, s_r0_19 hS, s_r0_7 hS, s_r0_8 hS, s_r0_9 hS, s_o38 hS, s_r38_0 hS, s_r38_1 hS, s_r38_2 hS, s_r38_5 hS, s_r38_6 hS, s_r38_7 hS, s_r38_8 hS, s_o112 hS, s_o38 hS, m2, q, F_X13_measure, F_X13_measure_c35, F_X13_measure_c59, F_X13_noPiece, F_X13_noPiece_c24, F_X13_noPiece_c29, m_noLot, c2, ij, c4, j40, e90, d2, m3, true_or]
            have f : Fr [] [0] μ (sI (sJ μ 112 (Int32.toNatClampNeg 0) (Int32.toInt64 (-1))) 65 0 0) := by repeat (first | exact Fr_refl _ | refine Fr_s65 ?_ (by decide) | refine Fr_sI ?_ (by decide) | refine Fr_sA ?_ (by decide) | refine Fr_sJ ?_ | refine Fr_sG ?_)
            exact ⟨⟨rfl, fun _ => rfl, Cn_eq rfl rfl⟩, RLots_fr0 f (by decide) (by decide) (by decide) (by decide) hR0, Fl_of hS (Fr_mono f (by decide) (by decide))⟩
        · simp only [bd_some, p_let_eq, p_ok, mI_sI, mR_sI, mK_sI, mN_sI, mL_sI, mI_sG, mR_sG, mK_sG, mN_sG, mL_sG, mI_sJ, mR_sJ, mK_sJ, mN_sJ, mL_sJ, z_up, ↓reduceIte, and_self, true_and, and_true, false_and, and_false, not_true_eq_false, not_false_eq_true, Nat.reduceEqDiff, i_10, i_20, i_30, w_in, w_need1, w_need0, m_in, m_thr0, m_thr1, tM, aM, nI_1, nI_pred, reduceIte, wp_some, eq_self, bI_T, bI_F, F_L_measure, F_X12_measure, F_X12_needWashed, la, g1, w_ix, e1, d1, e9, w, cx, F_X13_measure, F_X13_measure_c35, F_X13_measure_c59, F_X13_measure_c66, F_X13_noPiece, F_X13_noPiece_c24, F_X13_noPiece_c29, m_noLot, s_o0 hS, s_r0_0 hS, s_r0_1 hS, s_r0_10 hS, s_r0_11 hS, s_r0_12 hS, s_r0_14 hS, s_r0_16 hS, s_r0_19 hS, s_r0_7 hS, s_r0_8 hS, s_r0_9 hS, s_o112 hS, c2, ij, c4, j40, e90, d2, true_or]
          exact thr 3 (by decide)
      · simp only [bd_some, p_let_eq, p_ok, mI_sI, mR_sI, mK_sI, mN_sI, mL_sI, mI_sG, mR_sG, mK_sG, mN_sG, mL_sG, mI_sJ, mR_sJ, mK_sJ, mN_sJ, mL_sJ, z_up, ↓reduceIte, and_self, true_and, and_true, false_and, and_false, not_true_eq_false, not_false_eq_true, Nat.reduceEqDiff, i_10, i_20, i_30, w_in, w_need1, w_need0, m_in, m_thr0, m_thr1, tM, aM, nI_1, nI_pred, reduceIte, wp_some, eq_self, bI_T, bI_F, F_L_measure, F_X12_measure, F_X12_needWashed, la, g1, w_ix, e1, d1, e9, w, F_X13_measure, F_X13_measure_c35, F_X13_measure_c66, F_X13_noPiece, F_X13_noPiece_c24, F_X13_noPiece_c29, m_noLot, s_o0 hS, s_r0_0 hS, s_r0_1 hS, s_r0_10 hS, s_r0_11 hS, s_r0_12 hS, s_r0_14 hS, s_r0_16 hS, s_r0_19 hS, s_r0_7 hS, s_r0_8 hS, s_r0_9 hS, s_o112 hS, c2, ij, c4, j40, e90, d2, true_or]
        exact thr 2 (by decide)
