/-! parts of a lot that stay -/
theorem LotS_pt {μ μ' : p_M} {l P nb : Nat} (hN : mN μ ≤ mN μ') (h : ∀ a, l ≤ a → a ≤ l + 6 → mR μ' a = mR μ a ∧ mK μ' a = mK μ a ∧ mL μ' a = mL μ a) (s : LotS μ l P nb) : LotS μ' l P nb := by
  obtain ⟨s0, s1, s2, s3, s4, s5, s6, s7, s8, s9, s10, s11⟩ := s
  have e0 := h l (by omega) (by omega)
  have e1 := h (l + 1) (by omega) (by omega)
  have e2 := h (l + 2) (by omega) (by omega)
  have e3 := h (l + 3) (by omega) (by omega)
  have e4 := h (l + 4) (by omega) (by omega)
  have e5 := h (l + 5) (by omega) (by omega)
  have e6 := h (l + 6) (by omega) (by omega)
  exact ⟨s0, ⟨e0.2.1.trans s1.1, by have := s1.2; omega⟩, by rw [e0.1]; exact s2, by rw [e0.1]; exact s3, by rw [e0.1]; exact s4, by rw [e0.1]; exact s5, ⟨e1.2.1.trans s6.1, by have := s6.2; omega⟩, isRec_g hN ⟨e2.1, e2.2.1⟩ ⟨e3.2.1, e3.2.2⟩ ⟨e4.2.1, e4.2.2⟩ s7, ⟨s8.1, e5.2.1.trans s8.2.1, by have := s8.2.2; omega⟩, e5.2.2.trans s9, ⟨s10.1, e6.2.1.trans s10.2.1, by have := s10.2.2; omega⟩, e6.2.2.trans s11⟩
theorem LotV_pt {μ μ' : p_M} {j l : Nat} (h0 : mI μ' l = mI μ l) (hr : ∀ a, 89 ≤ a → a ≤ 101 → mI μ' a j = mI μ a j) (v : LotV μ j l) : LotV μ' j l := by
  unfold LotV at *
  rw [h0, hr 89 (by decide) (by decide), hr 90 (by decide) (by decide), hr 91 (by decide) (by decide), hr 92 (by decide) (by decide), hr 93 (by decide) (by decide), hr 94 (by decide) (by decide), hr 95 (by decide) (by decide), hr 96 (by decide) (by decide), hr 97 (by decide) (by decide), hr 98 (by decide) (by decide), hr 99 (by decide) (by decide), hr 100 (by decide) (by decide), hr 101 (by decide) (by decide)]
  exact v
theorem LotG_pt {μ μ' : p_M} {C C' K K' j P nb : Nat} (hC : C ≤ C') (hK : K ≤ K') (hr : ∀ a, 89 ≤ a → a ≤ 101 → mI μ' a j = mI μ a j) (g : LotG μ C K j P nb) : LotG μ' C' K' j P nb := by
  unfold LotG bnN at *
  rw [hr 89 (by decide) (by decide), hr 90 (by decide) (by decide), hr 91 (by decide) (by decide), hr 92 (by decide) (by decide), hr 93 (by decide) (by decide), hr 94 (by decide) (by decide), hr 95 (by decide) (by decide), hr 96 (by decide) (by decide), hr 97 (by decide) (by decide), hr 98 (by decide) (by decide), hr 101 (by decide) (by decide)]
  obtain ⟨⟨c', hc1, hc2⟩, q1, q2, q3, q4, q5, q6, q7, q8, q9, q10, q11, q12⟩ := g
  exact ⟨⟨c', by omega, hc2⟩, q1, q2, q3, q4, q5, q6, q7, q8, q9, q10, q11, fun hq => by
    obtain ⟨i, hi, e⟩ := q12 hq
    exact ⟨i, by omega, e⟩⟩
theorem LotL_pt {μ μ' : p_M} {j l : Nat} (h1 : mI μ' (l + 1) = mI μ (l + 1)) (h74 : ∀ k, 5 * j ≤ k → k < 5 * j + 5 → mI μ' 74 k = mI μ 74 k) (h89 : mI μ' 89 j = mI μ 89 j) (h73 : ∀ c, mI μ 89 j = nI c → c < 6 → mI μ' 73 c = mI μ 73 c) (g : LotL μ j l) : LotL μ' j l := by
  obtain ⟨L, h, c, k1, k2, k3, k4, k5, k6, k7⟩ := g
  refine ⟨L, h, c, k1, k2, by rw [h1]; exact k3, ?_, k5, by rw [h89]; exact k6, by rw [h73 c k6 k5]; exact k7⟩
  unfold isR at *
  rw [h74 _ (by omega) (by omega), h74 _ (by omega) (by omega), h74 _ (by omega) (by omega), h74 _ (by omega) (by omega), h74 _ (by omega) (by omega)]
  exact k4
theorem LotC_pt {μ μ' : p_M} {j l nb : Nat} (h2 : mI μ' (l + 2) = mI μ (l + 2)) (h3 : mI μ' (l + 3) = mI μ (l + 3)) (h4 : mI μ' (l + 4) = mI μ (l + 4)) (h68 : mI μ' 68 j = mI μ 68 j) (h69 : ∀ k, 20 * j ≤ k → k < 20 * j + 20 → mI μ' 69 k = mI μ 69 k ∧ mI μ' 70 k = mI μ 70 k) (g : LotC μ j l nb) : LotC μ' j l nb := by
  obtain ⟨b1, b2, b3, b4⟩ := g
  refine ⟨b1, h68.trans b2, by rw [h2]; exact b3, fun q hq => ?_⟩
  rw [h3, h4, (h69 _ (by omega) (by omega)).1, (h69 _ (by omega) (by omega)).2]
  exact b4 q hq
theorem LotP_pt {μ μ' : p_M} {j l P : Nat} (hP : P ≤ 60) (h5 : mI μ' (l + 5) = mI μ (l + 5)) (h : ∀ k, 60 * j ≤ k → k < 60 * j + 60 → mI μ' 103 k = mI μ 103 k) (g : LotP μ j l P) : LotP μ' j l P := fun p hp => by
  rw [h5, h _ (by omega) (by omega)]
  exact g p hp
theorem LotM_pt {μ μ' : p_M} {j l P M : Nat} (h6 : mI μ' (l + 6) = mI μ (l + 6)) (h104 : mI μ' 104 = mI μ 104) (h105 : mI μ' 105 = mI μ 105) (g : LotM μ j l P M) : LotM μ' j l P M := fun p hp => by
  rw [h6, h104, h105]
  exact g p hp
/-! load -/
theorem load_RL {μ μ2 : p_M} {N K M C E j i q T : Nat} {lr : Nat → Nat} (hLs : LstR μ N E lr) (hC : mI μ 65 14 = nI C ∧ C ≤ 6) (hK : mI μ 0 13 = nI K ∧ mI μ 65 47 = nI K ∧ K ≤ 4) (hLot : ∀ j, j < N → LotR μ C K M j (lr j)) (hM : ∀ i, i < K → MacR μ N i) (hZ : ∀ i, K ≤ i → i < 4 → MacZ μ i) (hzr : ZroR μ N) (hme : MeaR μ N M) (hld : LdR μ N) (hj : j < N) (hi : i < K) (h0 : mI μ 96 j = 0) (hq : q = cnt (wt μ i) N) (hT : T = cnt (ld μ) N) (f : Fr [57 + 2 * i, 58 + 2 * i, lr j, 96, 97, 102] [0, 63] μ μ2) (p1 : ∀ k, mI μ2 (57 + 2 * i) k = if k = 2 then nI (q + 1) else mI μ (57 + 2 * i) k) (p2 : ∀ k, mI μ2 (58 + 2 * i) k = if k = q then nI j else mI μ (58 + 2 * i) k) (p3 : ∀ k, mI μ2 (lr j) k = if k = 10 then nI i else if k = 9 then 1 else mI μ (lr j) k) (p4 : ∀ k, mI μ2 96 k = if k = j then 1 else mI μ 96 k) (p5 : ∀ k, mI μ2 97 k = if k = j then nI i else mI μ 97 k) (p6 : ∀ k, mI μ2 102 k = if k = j then nI T else mI μ 102 k) (p7 : mI μ2 65 63 = nI (T + 1)) : RLots μ2 := by
  have hLs0 := hLs
  obtain ⟨l1, l2, l3, l4, l5, l6⟩ := hLs
  have hlj : 113 ≤ lr j := by obtain ⟨P, nb, ⟨s0, -⟩, -⟩ := hLot j hj; exact s0
  have row : ∀ a, a ≠ 65 → a ≠ 57 + 2 * i → a ≠ 58 + 2 * i → a ≠ lr j → a ≠ 96 → a ≠ 97 → a ≠ 102 → mI μ2 a = mI μ a := fun a h1 h2 h3 h4 h5 h6 h7 => f.2.2.2.2.1 a h1 (by
    simp only [List.mem_cons, List.not_mem_nil, or_false]
    omega)
  have sc : ∀ k, k ≠ 0 → k ≠ 63 → mI μ2 65 k = mI μ 65 k := fun k h1 h2 => f.2.2.2.2.2 k (by
    simp only [List.mem_cons, List.not_mem_nil, or_false]
    omega)
  have wj : ∀ i', wt μ i' j = false := fun i' => decide_eq_false (fun h => by rw [h0] at h; exact absurd h.1 (by decide))
  have w2o : ∀ i' j', j' ≠ j → wt μ2 i' j' = wt μ i' j' := fun i' j' h => by
    unfold wt
    rw [p4 j', p5 j', if_neg h, if_neg h]
  have w2i : wt μ2 i j = true := decide_eq_true ⟨by rw [p4 j, if_pos rfl], by rw [p5 j, if_pos rfl]⟩
  have w2n : ∀ i', i' < 4 → i' ≠ i → wt μ2 i' j = false := fun i' h4 h => decide_eq_false (fun hh => by
    have e := hh.2
    rw [p5 j, if_pos rfl] at e
    have := (nI_eq (show i < 2 ^ 31 by omega) (show i' < 2 ^ 31 by omega)).mp e
    omega)
  have cI : cnt (wt μ2 i) N = q + 1 := by
    rw [hq]
    exact cnt_up (wj i) w2i (fun j' h => (w2o i j' h).symm) hj
  have cO : ∀ i', i' < 4 → i' ≠ i → wt μ2 i' = wt μ i' := fun i' h4 h => by
    funext j'
    by_cases c : j' = j
    · subst c
      rw [w2n i' h4 h, wj]
    · exact w2o i' j' c
  have ldj : ld μ j = false := decide_eq_false (fun h => h h0)
  have ld2 : ld μ2 j = true := decide_eq_true (by rw [p4 j, if_pos rfl]; decide)
  have ldo : ∀ j', j' ≠ j → ld μ j' = ld μ2 j' := fun j' h => by
    unfold ld
    rw [p4 j', if_neg h]
  have cL : cnt (ld μ2) N = T + 1 := by
    rw [hT]
    exact cnt_up ldj ld2 ldo hj
  have ldq : ∀ j', j' < N → wt μ i j' = true → ld μ j' = true := fun j' _ h => decide_eq_true (by
    have := (of_decide_eq_true h).1
    rw [this]
    decide)
  have hT40 : T ≤ 40 := by have := cnt_le (ld μ) N; omega
  have hq40 : q < 40 := by have := cnt_lt (wj i) hj; omega
  refine ⟨N, K, M, C, E, lr, ⟨?_, ?_, l3, ?_, l5, l6⟩, ⟨(sc 14 (by decide) (by decide)).trans hC.1, hC.2⟩, ⟨?_, (sc 47 (by decide) (by decide)).trans hK.2.1, hK.2.2⟩, fun j' hj' => ?_, fun i' hi' => ?_, fun i' h1 h2 => ?_, ?_, ?_, ?_⟩
  · rw [row 37 (by omega) (by omega) (by omega) (by omega) (by omega) (by omega) (by omega)]; exact l1
  · rw [sc 62 (by decide) (by decide)]; exact l2
  · rw [f.1, f.2.1, f.2.2.1, f.2.2.2.1]; exact l4
  · rw [row 0 (by omega) (by omega) (by omega) (by omega) (by omega) (by omega) (by omega)]; exact hK.1
  · obtain ⟨P, nb, S, V, G, L, Cc, Pz, Pm⟩ := hLot j' hj'
    have hl' : 113 ≤ lr j' := S.1
    have far : j' ≠ j → lr j' + 7 ≤ lr j ∨ lr j + 7 ≤ lr j' := fun h => by
      by_cases c : j' < j
      · exact Or.inl (l5 j' j c hj)
      · exact Or.inr (l5 j j' (by omega) hj')
    have cell : ∀ a, lr j' + 1 ≤ a → a ≤ lr j' + 6 → mI μ2 a = mI μ a := fun a h1 h2 => row a (by omega) (by omega) (by omega) (by
      by_cases c : j' = j
      · subst c; omega
      · have := far c; omega) (by omega) (by omega) (by omega)
    have r104 := row 104 (by omega) (by omega) (by omega) (by omega) (by omega) (by omega) (by omega)
    have r105 := row 105 (by omega) (by omega) (by omega) (by omega) (by omega) (by omega) (by omega)
    have r103 := row 103 (by omega) (by omega) (by omega) (by omega) (by omega) (by omega) (by omega)
    have r68 := row 68 (by omega) (by omega) (by omega) (by omega) (by omega) (by omega) (by omega)
    have r69 := row 69 (by omega) (by omega) (by omega) (by omega) (by omega) (by omega) (by omega)
    have r70 := row 70 (by omega) (by omega) (by omega) (by omega) (by omega) (by omega) (by omega)
    have r73 := row 73 (by omega) (by omega) (by omega) (by omega) (by omega) (by omega) (by omega)
    have r74 := row 74 (by omega) (by omega) (by omega) (by omega) (by omega) (by omega) (by omega)
    have rw_ : ∀ a, 89 ≤ a → a ≤ 101 → a ≠ 96 → a ≠ 97 → mI μ2 a = mI μ a := fun a h1 h2 h3 h4 => row a (by omega) (by omega) (by omega) (by omega) h3 h4 (by omega)
    refine ⟨P, nb, LotS_pt (by rw [f.2.2.2.1]; exact Nat.le_refl _) (fun a _ _ => ⟨by rw [f.1], by rw [f.2.1], by rw [f.2.2.1]⟩) S, ?_, ?_, LotL_pt (cell _ (by omega) (by omega)) (fun k _ _ => by rw [r74]) (by rw [rw_ 89 (by decide) (by decide) (by decide) (by decide)]) (fun c _ _ => by rw [r73]) L, LotC_pt (cell _ (by omega) (by omega)) (cell _ (by omega) (by omega)) (cell _ (by omega) (by omega)) (by rw [r68]) (fun k _ _ => by rw [r69, r70]; exact ⟨rfl, rfl⟩) Cc, LotP_pt G.2.2.2.1 (cell _ (by omega) (by omega)) (fun k _ _ => by rw [r103]) Pz, LotM_pt (cell _ (by omega) (by omega)) r104 r105 Pm⟩
    · by_cases c : j' = j
      · subst c
        obtain ⟨w0, w1, w2, w3, w4, w5, w6, w7, w8, w9, w10, w11, w12⟩ := V
        unfold LotV
        simp only [p3, p4, p5, rw_ 89 (by decide) (by decide) (by decide) (by decide), rw_ 90 (by decide) (by decide) (by decide) (by decide), rw_ 91 (by decide) (by decide) (by decide) (by decide), rw_ 92 (by decide) (by decide) (by decide) (by decide), rw_ 93 (by decide) (by decide) (by decide) (by decide), rw_ 94 (by decide) (by decide) (by decide) (by decide), rw_ 95 (by decide) (by decide) (by decide) (by decide), rw_ 98 (by decide) (by decide) (by decide) (by decide), rw_ 99 (by decide) (by decide) (by decide) (by decide), rw_ 100 (by decide) (by decide) (by decide) (by decide), rw_ 101 (by decide) (by decide) (by decide) (by decide), Nat.reduceEqDiff, ↓reduceIte]
        exact ⟨w0, w1, w2, w3, w4, w5, w6, trivial, trivial, w9, w10, w11, w12⟩
      · refine LotV_pt (row (lr j') (by omega) (by omega) (by omega) (by have := far c; omega) (by omega) (by omega) (by omega)) (fun a h1 h2 => ?_) V
        by_cases c1 : a = 96
        · subst c1; rw [p4, if_neg c]
        · by_cases c2 : a = 97
          · subst c2; rw [p5, if_neg c]
          · rw [rw_ a h1 h2 c1 c2]
    · by_cases c : j' = j
      · subst c
        obtain ⟨⟨c', hc1, hc2⟩, q1, q2, q3, q4, q5, q6, q7, q8, q9, ⟨d, q10, q10', q10''⟩, q11, q12⟩ := G
        unfold LotG bnN at *
        simp only [p4, p5, rw_ 89 (by decide) (by decide) (by decide) (by decide), rw_ 90 (by decide) (by decide) (by decide) (by decide), rw_ 91 (by decide) (by decide) (by decide) (by decide), rw_ 92 (by decide) (by decide) (by decide) (by decide), rw_ 93 (by decide) (by decide) (by decide) (by decide), rw_ 94 (by decide) (by decide) (by decide) (by decide), rw_ 95 (by decide) (by decide) (by decide) (by decide), rw_ 98 (by decide) (by decide) (by decide) (by decide), rw_ 101 (by decide) (by decide) (by decide) (by decide), ↓reduceIte]
        exact ⟨⟨c', hc1, hc2⟩, q1, q2, q3, q4, q5, q6, q7, q8, ⟨1, by decide, by decide, rfl⟩, ⟨d, q10, q10', fun h => absurd h (by decide)⟩, q11, fun _ => ⟨i, hi, rfl⟩⟩
      · refine LotG_pt (Nat.le_refl C) (Nat.le_refl K) (fun a h1 h2 => ?_) G
        by_cases c1 : a = 96
        · subst c1; rw [p4, if_neg c]
        · by_cases c2 : a = 97
          · subst c2; rw [p5, if_neg c]
          · rw [rw_ a h1 h2 c1 c2]
  · have i4 : i' < 4 := by omega
    have r85 := row 85 (by omega) (by omega) (by omega) (by omega) (by omega) (by omega) (by omega)
    have r86 := row 86 (by omega) (by omega) (by omega) (by omega) (by omega) (by omega) (by omega)
    have r87 := row 87 (by omega) (by omega) (by omega) (by omega) (by omega) (by omega) (by omega)
    have r88 := row 88 (by omega) (by omega) (by omega) (by omega) (by omega) (by omega) (by omega)
    obtain ⟨y0, y1, y2, y3, y4, y5, y6, y7, y8, y9⟩ := hM i' hi'
    have y5' : mI μ2 86 i' = -1 ∨ ∃ j0 : Nat, j0 < N ∧ mI μ2 86 i' = nI j0 ∧ mI μ2 96 j0 = 2 ∧ mI μ2 97 j0 = nI i' := by
      rw [r86]
      rcases y5 with h | ⟨j0, h1, h2, h3, h4⟩
      · exact Or.inl h
      · have c : ¬ j0 = j := fun h => by rw [h, h0] at h3; exact absurd h3 (by decide)
        exact Or.inr ⟨j0, h1, h2, by rw [p4, if_neg c]; exact h3, by rw [p5, if_neg c]; exact h4⟩
    by_cases ci : i' = i
    · subst ci
      refine ⟨?_, ?_, ?_, ?_, ?_, y5', ?_, fun m hm => ?_, fun m m' a a' h1 h2 h3 h4 h5 h6 => ?_, fun a ha hw => ?_⟩
      · rw [r85, p1 0]; exact y0
      · rw [r86, p1 3]; exact y1
      · rw [r87, p1 4]; exact y2
      · rw [r88, p1 5]; exact y3
      · rw [r87]; exact y4
      · rw [p1 2, cI]; rfl
      · rw [cI] at hm
        rw [p2 m]
        by_cases cm : m = q
        · rw [if_pos cm]
          exact ⟨j, hj, rfl, w2i⟩
        · rw [if_neg cm]
          obtain ⟨a, b1, b2, b3⟩ := y7 m (by omega)
          have ca : ¬ a = j := fun h => by rw [h, wj] at b3; cases b3
          exact ⟨a, b1, b2, by rw [w2o i' a ca]; exact b3⟩
      · rw [cI] at h2
        rw [p2 m, if_neg (show ¬ m = q by omega)] at h5
        rw [p2 m'] at h6
        obtain ⟨b, b1, b2, b3⟩ := y7 m (by omega)
        have eb : b = a := (nI_eq (show b < 2 ^ 31 by omega) (show a < 2 ^ 31 by omega)).mp (b2.symm.trans h5)
        subst eb
        have cb : ¬ b = j := fun h => by rw [h, wj] at b3; cases b3
        by_cases cm : m' = q
        · rw [if_pos cm] at h6
          have ea : j = a' := (nI_eq (show j < 2 ^ 31 by omega) (show a' < 2 ^ 31 by omega)).mp h6
          subst ea
          obtain ⟨t, t1, t2⟩ := hld.2 b b1 (ldq b b1 b3)
          exact ⟨t, T, by omega, by omega, by rw [p6, if_neg cb]; exact t2, by rw [p6, if_pos rfl]⟩
        · rw [if_neg cm] at h6
          obtain ⟨b', b1', b2', b3'⟩ := y7 m' (by omega)
          have eb' : b' = a' := (nI_eq (show b' < 2 ^ 31 by omega) (show a' < 2 ^ 31 by omega)).mp (b2'.symm.trans h6)
          subst eb'
          have cb' : ¬ b' = j := fun h => by rw [h, wj] at b3'; cases b3'
          obtain ⟨t, t', u1, u0, u2, u3⟩ := y8 m m' b b' h1 (by omega) b1 b1' b2 b2'
          exact ⟨t, t', u1, u0, by rw [p6, if_neg cb]; exact u2, by rw [p6, if_neg cb']; exact u3⟩
      · rw [cI]
        by_cases ca : a = j
        · exact ⟨q, by omega, by rw [p2, if_pos rfl, ca]⟩
        · rw [w2o i' a ca] at hw
          obtain ⟨m, m1, m2⟩ := y9 a ha hw
          exact ⟨m, by omega, by rw [p2, if_neg (show ¬ m = q by omega)]; exact m2⟩
    · have e1 := row (57 + 2 * i') (by omega) (by omega) (by omega) (by omega) (by omega) (by omega) (by omega)
      have e2 := row (58 + 2 * i') (by omega) (by omega) (by omega) (by omega) (by omega) (by omega) (by omega)
      have cw := cO i' i4 ci
      unfold MacR
      rw [e1, e2, cw, r85, r87, r88]
      rw [r86] at y5' ⊢
      refine ⟨y0, y1, y2, y3, y4, y5', y6, y7, fun m m' a a' h1 h2 h3 h4 h5 h6 => ?_, y9⟩
      obtain ⟨b, b1, b2, b3⟩ := y7 m (by omega)
      have eb : b = a := (nI_eq (show b < 2 ^ 31 by omega) (show a < 2 ^ 31 by omega)).mp (b2.symm.trans h5)
      subst eb
      have cb : ¬ b = j := fun h => by rw [h, wj] at b3; cases b3
      obtain ⟨b', b1', b2', b3'⟩ := y7 m' h2
      have eb' : b' = a' := (nI_eq (show b' < 2 ^ 31 by omega) (show a' < 2 ^ 31 by omega)).mp (b2'.symm.trans h6)
      subst eb'
      have cb' : ¬ b' = j := fun h => by rw [h, wj] at b3'; cases b3'
      obtain ⟨t, t', u1, u0, u2, u3⟩ := y8 m m' b b' h1 h2 h3 h4 h5 h6
      exact ⟨t, t', u1, u0, by rw [p6, if_neg cb]; exact u2, by rw [p6, if_neg cb']; exact u3⟩
  · have e1 := row (57 + 2 * i') (by omega) (by omega) (by omega) (by omega) (by omega) (by omega) (by omega)
    have r88 := row 88 (by omega) (by omega) (by omega) (by omega) (by omega) (by omega) (by omega)
    unfold MacZ
    rw [e1, r88]
    exact hZ i' h1 h2
  · unfold ZroR
    rw [row 98 (by omega) (by omega) (by omega) (by omega) (by omega) (by omega) (by omega), row 101 (by omega) (by omega) (by omega) (by omega) (by omega) (by omega) (by omega), row 103 (by omega) (by omega) (by omega) (by omega) (by omega) (by omega) (by omega)]
    exact ⟨fun k h1 h2 => by rw [p4, if_neg (show ¬ k = j by omega)]; exact hzr.1 k h1 h2, hzr.2⟩
  · unfold MeaR
    rw [row 38 (by omega) (by omega) (by omega) (by omega) (by omega) (by omega) (by omega), row 39 (by omega) (by omega) (by omega) (by omega) (by omega) (by omega) (by omega), row 40 (by omega) (by omega) (by omega) (by omega) (by omega) (by omega) (by omega), row 41 (by omega) (by omega) (by omega) (by omega) (by omega) (by omega) (by omega), row 104 (by omega) (by omega) (by omega) (by omega) (by omega) (by omega) (by omega), row 105 (by omega) (by omega) (by omega) (by omega) (by omega) (by omega) (by omega), row 106 (by omega) (by omega) (by omega) (by omega) (by omega) (by omega) (by omega), row 107 (by omega) (by omega) (by omega) (by omega) (by omega) (by omega) (by omega), sc 69 (by decide) (by decide), sc 70 (by decide) (by decide)]
    exact hme
  · refine ⟨by rw [cL]; exact p7, fun j' hj' hl' => ?_⟩
    rw [cL]
    by_cases c : j' = j
    · subst c
      exact ⟨T, by omega, by rw [p6, if_pos rfl]⟩
    · rw [← ldo j' c] at hl'
      obtain ⟨t, t1, t2⟩ := hld.2 j' hj' hl'
      exact ⟨t, by omega, by rw [p6, if_neg c]; exact t2⟩
