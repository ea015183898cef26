/-! ready, deliver -/
theorem b_find {μ : p_M} {N K M C E d : Nat} {lr : Nat → Nat} (hS : Sh μ) (hLs : LstR μ N E lr) (hLot : ∀ j, j < N → LotR μ C K M j (lr j)) (hme : MeaR μ N M) (hRH : RHouse μ) (t1 : mI μ 0 15 = nI d) (t2 : mI μ 65 42 = nI d) (cv : Int32) : ∃ (n st bd : Nat) (O P : Nat → Nat) (L : List Nat) (c3 : p_M), n ≤ 250 ∧ (1 ≤ st ∧ st ≤ 20) ∧ bd ≤ 50 ∧ mI μ 84 16 = nI st ∧ (∀ j, j < N → (∃ nb, LotS μ (lr j) (P j) nb) ∧ mI μ (lr j) 1 = nI (P j) ∧ mI μ 90 j = nI (P j) ∧ P j ≤ 60 ∧ mI μ (lr j) 3 = mI μ 95 j ∧ LotP μ j (lr j) (P j)) ∧ (∀ i, i < n → O i < 2 ^ 20 ∧ lof (O i) < N ∧ pof (O i) < P (lof (O i))) ∧ (∀ i j, i < j → j < n → O i < O j) ∧ L = pkB (fun i => sha (O i)) n st bd (n + 1) 0 ∧ F_X12_findPacks 0 cv μ = some (nI L.length, c3) ∧ okC μ N n lr O c3 ∧ (∀ i, i < L.length → mI c3 44 i = nI (nth L i)) ∧ (∀ a, 113 ≤ a → mI c3 a = mI μ a) ∧ ∀ m0, SmR μ m0 → ∃ m1, F_X13_gathers cv m0 = some (0, m1) ∧ Fq [108, 109] [73] m0 m1 ∧ okM m1 n st bd d O := by
  have hN : N ≤ 40 := hLs.2.2.1
  have e37 : mI μ 37 2 = nI N := hLs.1
  have hLE : LstE μ N E lr := hLs.2.2.2.1
  obtain ⟨P, hPd⟩ : ∃ P : Nat → Nat, P = fun j => (mI μ 90 j).toNatClampNeg := ⟨_, rfl⟩
  have hLL : ∀ j, j < N → (∃ nb, LotS μ (lr j) (P j) nb) ∧ mI μ (lr j) 1 = nI (P j) ∧ mI μ 90 j = nI (P j) ∧ (1 ≤ P j ∧ P j ≤ 60) ∧ LotP μ j (lr j) (P j) ∧ LotM μ j (lr j) (P j) M ∧ mI μ (lr j) 0 = mI μ 89 j ∧ mI μ (lr j) 9 = mI μ 96 j ∧ mI μ (lr j) 4 = mI μ 92 j ∧ mI μ (lr j) 5 = mI μ 93 j := fun j hj => by
    obtain ⟨P', nb, S, V, G, -, -, Pz, Pm⟩ := hLot j hj
    have e : P j = P' := by
      rw [hPd]
      show (mI μ 90 j).toNatClampNeg = P'
      rw [G.2.1, nI_clamp (by have := G.2.2.2.1; omega)]
    rw [e]
    exact ⟨⟨nb, S⟩, V.2.1.trans G.2.1, G.2.1, ⟨G.2.2.1, G.2.2.2.1⟩, Pz, Pm, V.1, V.2.2.2.2.2.2.2.1, V.2.2.2.2.1, V.2.2.2.2.2.1⟩
  have hB : GB μ N M d lr P := ⟨hS, hN, t1, t2, hLs.2.1, hme, hLL⟩
  have hP60 : ∀ j, j < N → P j ≤ 60 := fun j hj => (hLL j hj).2.2.2.1.2
  have hok : okS (mI μ 84) := by rcases hRH with ⟨-, -, h⟩ | ⟨-, -, h⟩ <;> exact h.2.1
  obtain ⟨st, hs1, hs2, est⟩ := hok.2.2.2.2.2.2.2.1
  obtain ⟨bd, hbd, ebd⟩ := hok.2.2.2.2.2.2.2.2
  have f0 : Fq [38, 42] [] μ (sI μ 38 9 0) := Fq_sI (Fq_refl μ) (by decide)
  have hI0 : GI N P (fmg μ) M (0, fun _ => 0) 0 0 := ⟨⟨fun k hk => absurd hk (Nat.not_lt_zero _), fun k k' _ hk => absurd hk (Nat.not_lt_zero _)⟩, fun k hk => absurd hk (Nat.not_lt_zero _), Nat.zero_le _⟩
  obtain ⟨c1, g1, g2, g3, g4, g5⟩ := c_gathL (cv := cv) hB e37 hLE N 0 p_fu (sI μ 38 9 0) (0, fun _ => 0) (by omega) (show N < 100000 by omega) f0 (fun k hk => by rw [mI_sI, if_pos rfl, z_up, if_neg hk]) ⟨by rw [mI_sI, if_pos rfl, z_up, if_pos rfl]; rfl, fun k hk => absurd hk (Nat.not_lt_zero _)⟩ hI0
  obtain ⟨s, hs⟩ : ∃ s, s = gL (gdg μ d M cv) (cdg μ d M) P N 0 (0, fun _ => 0) := ⟨_, rfl⟩
  rw [← hs] at g4 g5
  have hn : s.1 ≤ 250 := by
    have h1 := g5.2.2
    have h2 := cnt_has (fmg μ) (60 * N + 0) M
    have := hme.1
    omega
  have hb : ∀ k, k < s.1 → s.2 k < 2 ^ 20 := fun k hk => (okE_b hN hP60 (g5.2.1 k hk).1).1
  have hS1 := Sh_q g2 hS
  obtain ⟨c2, O, k1, k2, k3, k4⟩ := c_srt hn g5.1 hb hS1 g4
  have hO : ∀ i, i < s.1 → O i < 2 ^ 20 ∧ lof (O i) < N ∧ pof (O i) < P (lof (O i)) := fun i hi => by
    obtain ⟨k, q1, q2⟩ := k2.2.1 i hi
    have := okE_b hN hP60 (g5.2.1 k q1).1
    rw [q2]
    exact ⟨this.1, this.2.2⟩
  have hS2 := Sh_q k4 hS1
  obtain ⟨c3, p1, p2, p3, p4⟩ := c_packs (n := s.1) (st := st) (bd := bd) (O := O) hn hs1 hs2 hbd (fun i hi => (hO i hi).1) k2.1 (s.1 + 1) 0 0 p_fu c2 (by omega) (by omega) (show s.1 + 1 < 100000 by omega) (Nat.le_refl _) hS2 (by rw [Fq_row k4 38 (by decide)]; exact g4.1) k3
  have fA : Fq [38, 42, 43, 44, 45] [] μ c3 := Fq_trans (Fq_mono g2 (by decide) (by decide)) (Fq_trans (Fq_mono k4 (by decide) (by decide)) (Fq_mono p4 (by decide) (by decide)))
  have e38 : mI c3 38 = mI c1 38 := by rw [Fq_row p4 38 (by decide), Fq_row k4 38 (by decide)]
  have e43 : mI c3 43 = mI c2 43 := Fq_row p4 43 (by decide)
  refine ⟨s.1, st, bd, O, P, pkB (fun i => sha (O i)) s.1 st bd (s.1 + 1) 0, c3, hn, ⟨hs1, hs2⟩, hbd, est, fun j hj => ?_, hO, k2.1, rfl, ?_, ⟨fA.1, fun a h1 h2 => ?_, fun j hj a h1 h2 h3 => ?_, by rw [e38]; exact g4.1, fun k hk => by rw [e38]; exact g3 k hk, fun i hi => by rw [e43]; exact k3 i hi⟩, fun i hi => ?_, fun a ha => fA.2.1 a (by omega) (by simp only [List.mem_cons, List.not_mem_nil, or_false]; omega), fun m0 hm => ?_⟩
  · obtain ⟨q1, q2, q3, q4, q5, -⟩ := hLL j hj
    refine ⟨q1, q2, q3, q4.2, ?_, q5⟩
    obtain ⟨P', nb, S, V, -⟩ := hLot j hj
    exact V.2.2.2.1
  · have hRH1 : RHouse c1 := RHouse_of (μ := μ) (by show c1.2.1 0 = μ.2.1 0; rw [g2.1]) (fun a ha => g2.2.1 a (by simp only [List.mem_cons, List.not_mem_nil, or_false] at ha; omega) (by simp only [List.mem_cons, List.not_mem_nil, or_false] at ha ⊢; omega)) (g2.2.2 41 (by simp)) hRH
    obtain ⟨r, hr5, hrk, hval⟩ := h_value hS1 hRH1
    have e84 : mI c1 84 = mI μ 84 := Fq_row g2 84 (by decide)
    have v16 : F_X1_value r 16 c1 = some (nI st, c1) := by rw [hval 16 (by decide) 16 rfl, e84, est]
    have v17 : F_X1_value r 17 c1 = some (nI bd, c1) := by rw [hval 17 (by decide) 17 rfl, e84, ebd]
    have o37 : 37 < mN c1 ∧ mK c1 37 = 0 := ⟨(s_o37 hS1).2, (s_o37 hS1).1⟩
    have e37' : mI c1 37 2 = nI N := by rw [Fq_row g2 37 (by decide)]; exact e37
    have cN : nI N ≤ nI N := nI_le (Nat.le_refl _) (by omega)
    have mx1 : (if (1 : Int32) < nI st then nI st else 1) = nI st := by
      by_cases q : st = 1
      · rw [q]; rfl
      · rw [if_pos (show (1 : Int32) < nI st from nI_lt (a := 1) (by omega) (by omega))]
    have p1 : F_X6_formPacks_c16 p_fu 38 (nI bd) (nI st) 0 0 c2 = some (nI (0 + (pkB (fun i => sha (O i)) s.1 st bd (s.1 + 1) 0).length), c3) := p1
    rw [Nat.zero_add] at p1
    have hfp : F_X6_formPacks 38 (nI st) (nI bd) c1 = some (nI (pkB (fun i => sha (O i)) s.1 st bd (s.1 + 1) 0).length, c3) := by
      unfold F_X6_formPacks
      simp only [bd_s2, p_ok, s_o38 hS1, k1, mx1, p1, and_self, ↓reduceIte]
    have g1 : F_X12_findPacks_c9 p_fu 0 cv 0 (sI μ 38 9 0) = F_X12_findPacks_c9 (0 + 1) 0 cv (nI N) c1 := g1
    have hend : F_X12_findPacks_c9 (0 + 1) 0 cv (nI N) c1 = some (nI (pkB (fun i => sha (O i)) s.1 st bd (s.1 + 1) 0).length, c3) := by
      unfold F_X12_findPacks_c9
      simp only [bd_s2, p_ok, s_o0 hS1, s_r0_0 hS1, s_r0_1 hS1, s_r0_10 hS1, s_r0_11 hS1, s_r0_12 hS1, s_r0_14 hS1, s_r0_16 hS1, s_r0_19 hS1, s_r0_7 hS1, s_r0_8 hS1, s_r0_9 hS1, s_o38 hS1, o37, e37', cN, hr5, hrk, v16, v17, hfp, and_self, ↓reduceIte]
    have hgn : F_X6_gatherNone 38 μ = some (0, sI μ 38 9 0) := by
      simp only [F_X6_gatherNone, p_ok, p_let_eq, s_o38 hS, and_self, ↓reduceIte]
    unfold F_X12_findPacks
    simp only [bd_s2, p_ok, s_o0 hS, s_r0_0 hS, s_r0_1 hS, s_r0_10 hS, s_r0_11 hS, s_r0_12 hS, s_r0_14 hS, s_r0_16 hS, s_r0_19 hS, s_r0_7 hS, s_r0_8 hS, s_r0_9 hS, s_o38 hS, hgn, g1, hend, and_self, ↓reduceIte]
  · by_cases q : a = 65
    · subst q; funext k; exact fA.2.2 k (by simp)
    · exact fA.2.1 a q h2
  · have : 113 ≤ lr j := by obtain ⟨⟨nb, S⟩, -⟩ := hLL j hj; exact S.1
    exact fA.2.1 a (by omega) (by simp only [List.mem_cons, List.not_mem_nil, or_false]; omega)
  · have := p2 i hi
    rw [Nat.zero_add] at this
    exact this
  · have f1 : Fq [108, 109] [73] m0 (sI m0 65 73 0) := Fq_s65 (Fq_refl m0) (by decide)
    obtain ⟨m1, q1, q2, ⟨q3, T, q4, q5⟩, -⟩ := m_gathL (cv := cv) hB N 0 p_fu (sI m0 65 73 0) (0, fun _ => 0) (by omega) (show N < 100000 by omega) (SmR_q hm f1) ⟨rfl, fun _ => 0, ⟨fun i j _ hj => absurd hj (Nat.not_lt_zero _), fun i hi => absurd hi (Nat.not_lt_zero _), fun k hk => absurd hk (Nat.not_lt_zero _)⟩, fun i hi => absurd hi (Nat.not_lt_zero _)⟩ hI0
    rw [← hs] at q3 q4 q5
    have hu := srt_uniq k2 q4
    have f2 := Fq_trans f1 q2
    have e84 : mI m1 84 = mI μ 84 := by rw [Fq_row f2 84 (by decide)]; exact hm.1 84 (by decide)
    refine ⟨m1, q1, f2, q3, by rw [e84]; exact est, by rw [e84]; exact ebd, ?_, fun i hi => ?_⟩
    · rw [Fq_sc f2 42 (by decide), hm.2 42 (by decide)]; exact t2
    · rw [hu i hi]; exact q5 i hi
theorem SmR_c {μ c : p_M} {N n : Nat} {lr O : Nat → Nat} {v : Int64} (h : okC μ N n lr O c) : SmR μ (sI (sJ c 112 (Int32.toNatClampNeg 0) v) 65 0 0) := ⟨fun a ha => by
  rw [mI_sI, if_neg (by simp only [List.mem_cons, List.not_mem_nil, or_false] at ha; omega)]
  exact h.2.1 a (by simp only [List.mem_cons, List.not_mem_nil, or_false] at ha; omega) (by simp only [List.mem_cons, List.not_mem_nil, or_false] at ha ⊢; omega), fun k hk => by
  rw [mI_sI, if_pos rfl, z_up, if_neg (by simp only [List.mem_cons, List.not_mem_nil, or_false] at hk; omega)]
  show mI c 65 k = _
  rw [h.2.1 65 (by decide) (by decide)]⟩
theorem i_acs (a x : Int32) : a + x - a = x := by rw [Int32.add_comm]; exact Int32.add_sub_cancel x a
/-- both sides keep their pieces alike -/
theorem plc_D {N d : Nat} {lr P : Nat → Nat} (h5 : ∀ i j, i < j → j < N → lr i + 7 ≤ lr j) (hP : ∀ j, j < N → P j ≤ 60) : ∀ (D : List Nat) (c m : p_M), (∀ e, e ∈ D → lof e < N ∧ pof e < P (lof e)) → (∀ j, j < N → ∀ p, p < P j → mI c (lr j + 5) p = mI m 103 (60 * j + p) ∧ ∃ x : Nat, x ≤ 2 ∧ mI m 103 (60 * j + p) = nI x) → (∀ j, j < N → ∀ p, p < P j → mI (D.foldl (dC1 lr) c) (lr j + 5) p = mI (D.foldl (dM1 d) m) 103 (60 * j + p) ∧ ∃ x : Nat, x ≤ 2 ∧ mI (D.foldl (dM1 d) m) 103 (60 * j + p) = nI x) ∧ ∀ k, 60 * N ≤ k → mI (D.foldl (dM1 d) m) 103 k = mI m 103 k := by
  intro D
  induction D with
  | nil => intro c m _ h; exact ⟨h, fun k _ => rfl⟩
  | cons e D ih =>
    intro c m hD h
    obtain ⟨e1, e2⟩ := hD e (List.mem_cons_self ..)
    have := hP _ e1
    have hr : ∀ k, mI (dM1 d m e) 103 k = if k = 60 * lof e + pof e then 2 else mI m 103 k := fun k => rfl
    obtain ⟨q1, q2⟩ := ih (dC1 lr c e) (dM1 d m e) (fun e' he' => hD e' (List.mem_cons_of_mem _ he')) (fun j hj p hp => by
      obtain ⟨h1, x, h2, h3⟩ := h j hj p hp
      have hp60 := hP j hj
      rw [hr]
      unfold dC1
      rw [mI_sI]
      by_cases cj : j = lof e
      · subst cj
        rw [if_pos rfl, z_up]
        by_cases cp : p = pof e
        · rw [if_pos cp, if_pos (by omega)]; exact ⟨rfl, 2, by decide, rfl⟩
        · rw [if_neg cp, if_neg (by omega)]; exact ⟨h1, x, h2, h3⟩
      · rw [if_neg (by
          by_cases c2 : j < lof e
          · have := h5 j (lof e) c2 e1; omega
          · have := h5 (lof e) j (by omega) hj; omega), if_neg (by omega)]
        exact ⟨h1, x, h2, h3⟩)
    exact ⟨q1, fun k hk => by rw [show List.foldl (dM1 d) m (e :: D) = D.foldl (dM1 d) (dM1 d m e) from rfl, q2 k hk, hr, if_neg (by omega)]⟩
theorem dcs_in {O : Nat → Nat} {st : Nat} : ∀ (L : List Nat) (e : Nat), e ∈ dcs O st L → ∃ b k, b ∈ L ∧ b ≤ k ∧ k < b + st ∧ e = O k := by
  intro L
  induction L with
  | nil => intro e h; cases h
  | cons b L ih =>
    intro e h
    have h : e ∈ rng O st b ++ dcs O st L := h
    rcases List.mem_append.mp h with h | h
    · obtain ⟨k, k1, k2, k3⟩ := rng_in st b e h
      exact ⟨b, k, List.mem_cons_self .., k1, k2, k3⟩
    · obtain ⟨b', k, h1, h2⟩ := ih e h
      exact ⟨b', k, List.mem_cons_of_mem _ h1, h2⟩
abbrev pC : List Nat := [0, 38, 42, 43, 44, 45, 103, 108, 109]
theorem A_ready {μ : p_M} (hS : Sh μ) (hR : RLots μ) (hRC : RCloth μ) (hRH : RHouse μ) (hRM : RMisc μ) (v1 : Int32) : wp (F_L_ready 0 v1 112 μ) fun k μ1 => wp (F_X13_ready v1 μ1) fun b μ2 => Post k b μ μ2 ∧ RLots μ2 ∧ RMisc μ2 ∧ (∀ j, j ≠ 17 → j ≠ 18 → mI μ2 0 j = mI μ 0 j) ∧ Fl pC [0, 73, 74, 75] μ μ2 := by
  have hR0 := hR
  obtain ⟨N, K, M, C, E, lr, hLs, hC, hK, hLot, hM, hZ, hzr, hme, hld⟩ := hR
  obtain ⟨n0, hn6, n1, n2, -⟩ := hRC
  have hRM0 := hRM
  obtain ⟨⟨d, hd, t1, t2⟩, t3, t4⟩ := hRM
  rcases ix3 v1 (nI n0) (nI n0 - 1) n0 (by omega) rfl rfl with ⟨c1, c2⟩ | ⟨cl, hcl, rfl, c1, c2, c3, c4⟩
  · have f := @thr_fr μ 1
    simp only [bd_some, p_let_eq, p_ok, mI_sI, mR_sI, mK_sI, mN_sI, mL_sI, mI_sG, mR_sG, mK_sG, mN_sG, mL_sG, mI_sJ, mR_sJ, mK_sJ, mN_sJ, mL_sJ, z_up, ↓reduceIte, and_self, true_and, and_true, false_and, and_false, not_true_eq_false, not_false_eq_true, Nat.reduceEqDiff, i_10, i_20, i_30, w_in, w_need1, w_need0, m_in, m_thr0, m_thr1, tM, aM, nI_1, nI_pred, reduceIte, wp_some, eq_self, bI_T, bI_F, F_L_ready, F_X12_ready, w_ix, n1, c1, F_X13_ready, m_noCloth, n2, c2, s_o0 hS, s_r0_0 hS, s_r0_1 hS, s_r0_10 hS, s_r0_11 hS, s_r0_12 hS, s_r0_14 hS, s_r0_16 hS, s_r0_19 hS, s_r0_7 hS, s_r0_8 hS, s_r0_9 hS, s_o112 hS]
    exact ⟨thr_post (by decide), RLots_fr0 f (by decide) (by decide) (by decide) (by decide) hR0, hRM0, fun _ _ _ => trivial, Fl_of hS (Fr_mono f (by decide) (by decide))⟩
  · obtain ⟨n, st, bd, O, P, L, c3, hn, ⟨hs1, hs2⟩, hbd, est, hLL, hO, hmo, hLd, hcls, hokC, h44, h113, hmod⟩ := b_find hS hLs hLot hme hRH t1 t2 (nI cl)
    obtain ⟨m0, hm0⟩ : ∃ m0, m0 = sI (sJ c3 112 (Int32.toNatClampNeg 0) (nI L.length).toInt64) 65 0 0 := ⟨_, rfl⟩
    obtain ⟨m1, q1, q2, q3⟩ := hmod m0 (by rw [hm0]; exact SmR_c hokC)
    have hpk := m_packs (n := n) (st := st) (bd := bd) (d := d) (w := 0) (T := O) hn hs1 hs2 hbd (by decide) (fun i hi => ⟨by have := (hO i hi).2.1; have := hLs.2.2.1; omega, by have h1 := (hO i hi).2; have := (hLL _ h1.1).2.2.2.1; omega, (hO i hi).1⟩) hmo (n + 1) 0 0 p_fu m1 (by omega) (by omega) (show n + 1 < 100000 by omega) (Nat.le_refl _) q3
    rw [← hLd, Nat.zero_add, Nat.sub_zero, List.take_zero] at hpk
    have hpk : F_X13_packsOf 0 m1 = some (nI L.length, m1) := hpk
    have Kq : mK c3 = mK μ := by show c3.2.2.2.1 = μ.2.2.2.1; rw [hokC.1]
    have Nq : mN c3 = mN μ := by show c3.2.2.2.2.2.1 = μ.2.2.2.2.2.1; rw [hokC.1]
    have Rq : mR c3 = mR μ := by show c3.2.1 = μ.2.1; rw [hokC.1]
    have Lq : mL c3 = mL μ := by show c3.2.2.2.2.1 = μ.2.2.2.2.1; rw [hokC.1]
    have hSc : Sh c3 := by
      unfold Sh ShM at *
      rw [Kq, Nq, Rq, Lq]; exact hS
    have o112 := s_o112 hSc
    have e2 : m1.2 = (sJ c3 112 (Int32.toNatClampNeg 0) (nI L.length).toInt64).2 := by rw [q2.1, hm0]; rfl
    have RR : mR m1 = mR μ := by rw [← Rq]; show m1.2.1 = c3.2.1; rw [e2]; rfl
    have KK : mK m1 = mK μ := by rw [← Kq]; show m1.2.2.2.1 = c3.2.2.2.1; rw [e2]; rfl
    have LL : mL m1 = mL μ := by rw [← Lq]; show m1.2.2.2.2.1 = c3.2.2.2.2.1; rw [e2]; rfl
    have NN : mN m1 = mN μ := by rw [← Nq]; show m1.2.2.2.2.2.1 = c3.2.2.2.2.2.1; rw [e2]; rfl
    have CC : mC m1 = mC μ := by show m1.2.2.2.2.2.2.1 = μ.2.2.2.2.2.2.1; rw [e2]; show c3.2.2.2.2.2.2.1 = _; rw [hokC.1]
    have SS : mS m1 = mS μ := by show m1.2.2.2.2.2.2.2 = μ.2.2.2.2.2.2.2; rw [e2]; show c3.2.2.2.2.2.2.2 = _; rw [hokC.1]
    have JJ : mJ m1 112 0 = (nI L.length).toInt64 := by
      show m1.2.2.1 112 0 = _
      rw [e2]
      exact mJ_sJ (μ := c3) (a := 112) (k := 0) _
    have rw1 : ∀ a, a ≠ 65 → a ≠ 108 → a ≠ 109 → mI m1 a = mI c3 a := fun a h1 h2 h3 => by
      rw [q2.2.1 a h1 (by simp only [List.mem_cons, List.not_mem_nil, or_false]; omega), hm0, mI_sI, if_neg h1]; rfl
    have rwL : ∀ a, a < 113 → a ≠ 65 → a ≠ 108 → a ≠ 109 → a ∉ [38, 42, 43, 44, 45] → mI m1 a = mI μ a := fun a h0 h1 h2 h3 h4 => (rw1 a h1 h2 h3).trans (hokC.2.1 a h0 h4)
    have sc : ∀ k, k ≠ 0 → k ≠ 73 → mI m1 65 k = mI μ 65 k := fun k h1 h2 => by
      rw [q2.2.2 k (by simp only [List.mem_cons, List.not_mem_nil, or_false]; exact h2), hm0, mI_sI, if_pos rfl, z_up, if_neg h1]
      show mI c3 65 k = _
      rw [hokC.2.1 65 (by decide) (by decide)]
    have g14 : mI m0 65 14 = nI n0 := by
      rw [hm0, mI_sI, if_pos rfl, z_up, if_neg (by decide)]
      show mI c3 65 14 = _
      rw [hokC.2.1 65 (by decide) (by decide)]; exact n2
    have hmodl : F_X13_ready (nI cl) (sJ c3 112 (Int32.toNatClampNeg 0) (nI L.length).toInt64) = some (nI L.length, m1) := by
      unfold F_X13_ready tM
      rw [← hm0, m_noCloth, bd_s2, g14, bI_neg (fun h => h c2), m_thr0, bd_s2]
      simp only [↓reduceIte]
      rw [q1, bd_s2, hpk, bd_s2]
    have hclsl : F_X12_ready 0 (nI cl) μ = some (0, nI L.length, c3) := by
      simp only [bd_some, p_let_eq, p_ok, mI_sI, mR_sI, mK_sI, mN_sI, mL_sI, mI_sG, mR_sG, mK_sG, mN_sG, mL_sG, mI_sJ, mR_sJ, mK_sJ, mN_sJ, mL_sJ, z_up, ↓reduceIte, and_self, true_and, and_true, false_and, and_false, not_true_eq_false, not_false_eq_true, Nat.reduceEqDiff, i_10, i_20, i_30, w_in, w_need1, w_need0, m_in, m_thr0, m_thr1, tM, aM, nI_1, nI_pred, reduceIte, wp_some, eq_self, bI_T, bI_F, F_X12_ready, w_ix, n1, c1, s_o0 hS, s_r0_0 hS, s_r0_1 hS, s_r0_10 hS, s_r0_11 hS, s_r0_12 hS, s_r0_14 hS, s_r0_16 hS, s_r0_19 hS, s_r0_7 hS, s_r0_8 hS, s_r0_9 hS, hcls]
    simp only [bd_some, p_let_eq, p_ok, mI_sI, mR_sI, mK_sI, mN_sI, mL_sI, mI_sG, mR_sG, mK_sG, mN_sG, mL_sG, mI_sJ, mR_sJ, mK_sJ, mN_sJ, mL_sJ, z_up, ↓reduceIte, and_self, true_and, and_true, false_and, and_false, not_true_eq_false, not_false_eq_true, Nat.reduceEqDiff, i_10, i_20, i_30, w_in, w_need1, w_need0, m_in, m_thr0, m_thr1, tM, aM, nI_1, nI_pred, reduceIte, wp_some, eq_self, bI_T, bI_F, F_L_ready, s_o0 hS, s_r0_0 hS, s_r0_1 hS, s_r0_10 hS, s_r0_11 hS, s_r0_12 hS, s_r0_14 hS, s_r0_16 hS, s_r0_19 hS, s_r0_7 hS, s_r0_8 hS, s_r0_9 hS, hclsl, o112]
    rw [hmodl]
    simp only [wp_some]
    have h113r : ∀ j, j < N → 113 ≤ lr j := fun j hj => by obtain ⟨⟨nb, S⟩, -⟩ := hLL j hj; exact S.1
    refine ⟨⟨?_, fun _ => JJ, Cn_eq CC SS⟩, plc_RL hLs hC hK hLot hM hZ hzr hme hld RR KK LL NN ?_ (fun a h1 h2 => ?_) (fun k hk => ?_) (fun a h1 h2 h3 => ?_) (fun k hk => ?_) (fun j hj a h1 h2 h3 => ?_) (fun j hj P' hP' h90 => ?_) (fun k hk => ?_), ⟨⟨d, hd, ?_, ?_⟩, ?_, ?_⟩, fun j _ _ => ?_, ?_⟩
    · rw [q2.2.2 0 (by simp), hm0, mI_sI, if_pos rfl, z_up, if_pos rfl]
    · rw [rwL 0 (by decide) (by decide) (by decide) (by decide) (by decide)]
    · exact rwL a (by omega) (by omega) (by omega) (by omega) (fun h => h2 (List.mem_cons_of_mem _ h))
    · rw [rw1 38 (by decide) (by decide) (by decide)]; exact hokC.2.2.2.2.1 k hk
    · exact rwL a (by omega) (by omega) (by omega) (by omega) (by simp only [List.mem_cons, List.not_mem_nil, or_false]; omega)
    · exact sc k (fun e => hk (by rw [e]; decide)) (fun e => hk (by rw [e]; decide))
    · have := h113r j hj
      rw [rw1 a (by omega) (by omega) (by omega)]; exact h113 a (by omega)
    · obtain ⟨P2, nb2, S2, -, G2, -, -, Pz2, -⟩ := hLot j hj
      have : P2 = P' := (nI_eq (show P2 < 2 ^ 31 by have := G2.2.2.2.1; omega) (show P' < 2 ^ 31 by omega)).mp (G2.2.1.symm.trans h90)
      subst this
      have := h113r j hj
      exact LotP_pt hP' (by rw [rw1 _ (by omega) (by omega) (by omega)]; exact h113 _ (by omega)) (fun k _ _ => by rw [rwL 103 (by decide) (by decide) (by decide) (by decide) (by decide)]) Pz2
    · rw [rwL 103 (by decide) (by decide) (by decide) (by decide) (by decide)]
    · rw [rwL 0 (by decide) (by decide) (by decide) (by decide) (by decide)]; exact t1
    · rw [sc 42 (by decide) (by decide)]; exact t2
    · rw [rwL 0 (by decide) (by decide) (by decide) (by decide) (by decide), sc 74 (by decide) (by decide)]; exact t3
    · rw [rwL 0 (by decide) (by decide) (by decide) (by decide) (by decide), sc 75 (by decide) (by decide)]; exact t4
    · rw [rwL 0 (by decide) (by decide) (by decide) (by decide) (by decide)]
    · refine ⟨fun a _ _ => by rw [RR], fun a _ => ⟨by rw [KK], by rw [LL]⟩, by rw [NN]; exact Nat.le_refl _, ⟨by rw [NN]; exact hS.2.2.1, by rw [NN]; exact Nat.le_add_right _ _⟩, fun a h1 h2 h3 => rwL a h1 h2 (fun e => h3 (by rw [e]; decide)) (fun e => h3 (by rw [e]; decide)) (fun h => h3 (by simp only [List.mem_cons, List.not_mem_nil, or_false] at h ⊢; omega)), fun k hk => sc k (fun e => hk (by rw [e]; decide)) (fun e => hk (by rw [e]; decide))⟩
