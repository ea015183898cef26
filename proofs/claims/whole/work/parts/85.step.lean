/-! a step of a machine: what both sides hold afterwards -/
def QueR (μ : p_M) (N i : Nat) : Prop := mI μ (57 + 2 * i) 2 = nI (cnt (wt μ i) N) ∧ (∀ m, m < cnt (wt μ i) N → ∃ j : Nat, j < N ∧ mI μ (58 + 2 * i) m = nI j ∧ wt μ i j = true) ∧ (∀ m m' j j', m < m' → m' < cnt (wt μ i) N → j < N → j' < N → mI μ (58 + 2 * i) m = nI j → mI μ (58 + 2 * i) m' = nI j' → ∃ t t' : Nat, t < t' ∧ t' < 64 ∧ mI μ 102 j = nI t ∧ mI μ 102 j' = nI t') ∧ ∀ j, j < N → wt μ i j = true → ∃ m, m < cnt (wt μ i) N ∧ mI μ (58 + 2 * i) m = nI j
theorem stp_RL {μ μ2 : p_M} {N K M C E j i dn : Nat} {lr : Nat → Nat} {s' m' w' in' k' mi' : Int32} (hLs : LstR μ N E lr) (hC : mI μ 65 14 = nI C ∧ C ≤ 6) (hK : mI μ 0 13 = nI K ∧ mI μ 65 47 = nI K ∧ K ≤ 4) (hLot : ∀ j, j < N → LotR μ C K M j (lr j)) (hM : ∀ i, i < K → MacR μ N i) (hZ : ∀ i, K ≤ i → i < 4 → MacZ μ i) (hzr : ZroR μ N) (hme : MeaR μ N M) (hld : LdR μ N) (hj : j < N) (hi : i < K) (hw : mI μ 96 j = 1 ∨ mI μ 96 j = 2) (hm : mI μ 97 j = nI i)
    (f : Fr [30, 32, 33, 57 + 2 * i, 58 + 2 * i, lr j, lr j + 1, 74, 81, 82, 86, 87, 88, 96, 97, 98, 99] [0, 31, 32, 34, 35, 36, 37] μ μ2)
    (p0 : mI μ2 (57 + 2 * i) 0 = mI μ (57 + 2 * i) 0) (p3 : mI μ2 (57 + 2 * i) 3 = in') (p4 : mI μ2 (57 + 2 * i) 4 = k') (p5 : mI μ2 (57 + 2 * i) 5 = mi')
    (q86 : ∀ k, mI μ2 86 k = if k = i then in' else mI μ 86 k) (q87 : ∀ k, mI μ2 87 k = if k = i then k' else mI μ 87 k) (q88 : ∀ k, mI μ2 88 k = if k = i then mi' else mI μ 88 k)
    (v0 : ∀ k, k ≠ 9 → k ≠ 10 → k ≠ 11 → k ≠ 12 → mI μ2 (lr j) k = mI μ (lr j) k) (v9 : mI μ2 (lr j) 9 = s') (v10 : mI μ2 (lr j) 10 = m') (v11 : mI μ2 (lr j) 11 = nI dn) (v12 : mI μ2 (lr j) 12 = w')
    (r96 : ∀ k, mI μ2 96 k = if k = j then s' else mI μ 96 k) (r97 : ∀ k, mI μ2 97 k = if k = j then m' else mI μ 97 k) (r98 : ∀ k, mI μ2 98 k = if k = j then nI dn else mI μ 98 k) (r99 : ∀ k, mI μ2 99 k = if k = j then w' else mI μ 99 k)
    (hL : ∃ (L : LK) (h c : Nat), okL L ∧ h ≤ 9 ∧ isL (mI μ2 (lr j + 1)) L h ∧ isR (mI μ2 74) j L ∧ c < 6 ∧ mI μ 89 j = nI c ∧ mI μ 73 c = nI h)
    (r74 : ∀ k, k < 5 * j ∨ 5 * j + 5 ≤ k → mI μ2 74 k = mI μ 74 k)
    (hs : (s' = 2 ∧ m' = nI i ∧ in' = nI j) ∨ (s' = 3 ∧ m' = -1 ∧ in' = -1)) (hn : ∀ nb : Nat, nb ≤ 20 → mI μ 68 j = nI nb → dn ≤ nb ∧ (s' = 2 → dn < nb)) (hk : k' = -1 ∨ ∃ k : Nat, k ≤ 5 ∧ k' = nI k) (hQ : QueR μ2 N i) : RLots μ2 := by
  obtain ⟨l1, l2, l3, l4, l5, l6⟩ := hLs
  have hlj : 113 ≤ lr j := by obtain ⟨P, nb, ⟨s0, -⟩, -⟩ := hLot j hj; exact s0
  have row : ∀ a, a ≠ 65 → a ≠ 30 → a ≠ 32 → a ≠ 33 → a ≠ 57 + 2 * i → a ≠ 58 + 2 * i → a ≠ lr j → a ≠ lr j + 1 → a ≠ 74 → a ≠ 81 → a ≠ 82 → a ≠ 86 → a ≠ 87 → a ≠ 88 → a ≠ 96 → a ≠ 97 → a ≠ 98 → a ≠ 99 → mI μ2 a = mI μ a := fun a h1 h2 h3 h4 h5 h6 h7 h8 h9 h10 h11 h12 h13 h14 h15 h16 h17 h18 => f.2.2.2.2.1 a h1 (by
    simp only [List.mem_cons, List.not_mem_nil, or_false]
    omega)
  have rowL : ∀ a, a < 113 → a ≠ 65 → a ≠ 30 → a ≠ 32 → a ≠ 33 → a ≠ 57 + 2 * i → a ≠ 58 + 2 * i → a ≠ 74 → a ≠ 81 → a ≠ 82 → a ≠ 86 → a ≠ 87 → a ≠ 88 → a ≠ 96 → a ≠ 97 → a ≠ 98 → a ≠ 99 → mI μ2 a = mI μ a := fun a h0 h1 h2 h3 h4 h5 h6 h9 h10 h11 h12 h13 h14 h15 h16 h17 h18 => row a h1 h2 h3 h4 h5 h6 (by omega) (by omega) h9 h10 h11 h12 h13 h14 h15 h16 h17 h18
  have rM : ∀ a, 89 ≤ a → a ≤ 107 → a ≠ 96 → a ≠ 97 → a ≠ 98 → a ≠ 99 → mI μ2 a = mI μ a := fun a h1 h2 h3 h4 h5 h6 => rowL a (by omega) (by omega) (by omega) (by omega) (by omega) (by omega) (by omega) (by omega) (by omega) (by omega) (by omega) (by omega) (by omega) h3 h4 h5 h6
  have rowF : ∀ a, a < 57 → a ≠ 30 → a ≠ 32 → a ≠ 33 → mI μ2 a = mI μ a := fun a h1 h2 h3 h4 => rowL a (by omega) (by omega) h2 h3 h4 (by omega) (by omega) (by omega) (by omega) (by omega) (by omega) (by omega) (by omega) (by omega) (by omega) (by omega) (by omega)
  have rowG : ∀ a, 66 ≤ a → a ≤ 73 → mI μ2 a = mI μ a := fun a h1 h2 => rowL a (by omega) (by omega) (by omega) (by omega) (by omega) (by omega) (by omega) (by omega) (by omega) (by omega) (by omega) (by omega) (by omega) (by omega) (by omega) (by omega) (by omega)
  have far7 : ∀ a, 113 ≤ a → a ≠ lr j → a ≠ lr j + 1 → mI μ2 a = mI μ a := fun a h1 h2 h3 => row a (by omega) (by omega) (by omega) (by omega) (by omega) (by omega) h2 h3 (by omega) (by omega) (by omega) (by omega) (by omega) (by omega) (by omega) (by omega) (by omega) (by omega)
  have sc : ∀ k, k ≠ 0 → k ≠ 31 → k ≠ 32 → k ≠ 34 → k ≠ 35 → k ≠ 36 → k ≠ 37 → mI μ2 65 k = mI μ 65 k := fun k h1 h2 h3 h4 h5 h6 h7 => f.2.2.2.2.2 k (by
    simp only [List.mem_cons, List.not_mem_nil, or_false]
    omega)
  have n2 : s' = 2 ∨ s' = 3 := by rcases hs with h | h; exact Or.inl h.1; exact Or.inr h.1
  have ns1 : ¬ s' = 1 := by rcases n2 with h | h <;> rw [h] <;> decide
  have ns0 : ¬ s' = 0 := by rcases n2 with h | h <;> rw [h] <;> decide
  have w2o : ∀ i' j', j' ≠ j → wt μ2 i' j' = wt μ i' j' := fun i' j' h => by
    unfold wt
    rw [r96 j', r97 j', if_neg h, if_neg h]
  have w2j : ∀ i', wt μ2 i' j = false := fun i' => decide_eq_false (fun h => by
    rw [r96 j, if_pos rfl] at h
    exact ns1 h.1)
  have wj : ∀ i', i' < 4 → i' ≠ i → wt μ i' j = false := fun i' h4 h => decide_eq_false (fun hh => by
    have e := hh.2
    rw [hm] at e
    have := (nI_eq (show i < 2 ^ 31 by omega) (show i' < 2 ^ 31 by omega)).mp e
    omega)
  have cO : ∀ i', i' < 4 → i' ≠ i → wt μ2 i' = wt μ i' := fun i' h4 h => by
    funext j'
    by_cases c : j' = j
    · subst c
      rw [w2j i', wj i' h4 h]
    · exact w2o i' j' c
  have ldE : ld μ2 = ld μ := by
    funext j'
    unfold ld
    rw [r96 j']
    by_cases c : j' = j
    · subst c
      rw [if_pos rfl]
      have h0 : ¬ mI μ 96 j' = 0 := by rcases hw with h | h <;> rw [h] <;> decide
      rw [decide_eq_true h0, decide_eq_true ns0]
    · rw [if_neg c]
  refine ⟨N, K, M, C, E, lr, ⟨?_, ?_, l3, ?_, l5, l6⟩, ⟨(sc 14 (by decide) (by decide) (by decide) (by decide) (by decide) (by decide) (by decide)).trans hC.1, hC.2⟩, ⟨?_, (sc 47 (by decide) (by decide) (by decide) (by decide) (by decide) (by decide) (by decide)).trans hK.2.1, hK.2.2⟩, fun j' hj' => ?_, fun i' hi' => ?_, fun i' h1 h2 => ?_, ?_, ?_, ?_⟩
  · rw [rowF 37 (by omega) (by omega) (by omega) (by omega)]; exact l1
  · rw [sc 62 (by decide) (by decide) (by decide) (by decide) (by decide) (by decide) (by decide)]; exact l2
  · rw [f.1, f.2.1, f.2.2.1, f.2.2.2.1]; exact l4
  · rw [rowF 0 (by omega) (by omega) (by omega) (by omega)]; exact hK.1
  · obtain ⟨P, nb, S, V, G, L, Cc, Pz, Pm⟩ := hLot j' hj'
    have hl' : 113 ≤ lr j' := S.1
    have far : j' ≠ j → lr j' + 7 ≤ lr j ∨ lr j + 7 ≤ lr j' := fun h => by
      by_cases c : j' < j
      · exact Or.inl (l5 j' j c hj)
      · exact Or.inr (l5 j j' (by omega) hj')
    have cell : ∀ a, lr j' + 2 ≤ a → a ≤ lr j' + 6 → mI μ2 a = mI μ a := fun a h1 h2 => far7 a (by omega) (by
      by_cases c : j' = j
      · subst c; omega
      · have := far c; omega) (by
      by_cases c : j' = j
      · subst c; omega
      · have := far c; omega)
    have r104 := rM 104 (by omega) (by omega) (by omega) (by omega) (by omega) (by omega)
    have r105 := rM 105 (by omega) (by omega) (by omega) (by omega) (by omega) (by omega)
    have r103 := rM 103 (by omega) (by omega) (by omega) (by omega) (by omega) (by omega)
    have r68 := rowG 68 (by omega) (by omega)
    have r69 := rowG 69 (by omega) (by omega)
    have r70 := rowG 70 (by omega) (by omega)
    have r73 := rowG 73 (by omega) (by omega)
    have r89 := rM 89 (by omega) (by omega) (by omega) (by omega) (by omega) (by omega)
    have hS' : LotS μ2 (lr j') P nb := LotS_pt (by rw [f.2.2.2.1]; exact Nat.le_refl _) (fun a _ _ => ⟨by rw [f.1], by rw [f.2.1], by rw [f.2.2.1]⟩) S
    have hC' : LotC μ2 j' (lr j') nb := LotC_pt (cell _ (by omega) (by omega)) (cell _ (by omega) (by omega)) (cell _ (by omega) (by omega)) (by rw [r68]) (fun k _ _ => by rw [r69, r70]; exact ⟨rfl, rfl⟩) Cc
    have hP' : LotP μ2 j' (lr j') P := LotP_pt G.2.2.2.1 (cell _ (by omega) (by omega)) (fun k _ _ => by rw [r103]) Pz
    have hM' : LotM μ2 j' (lr j') P M := LotM_pt (cell _ (by omega) (by omega)) r104 r105 Pm
    by_cases c : j' = j
    · subst c
      refine ⟨P, nb, hS', ?_, ?_, ?_, hC', hP', hM'⟩
      · obtain ⟨w0, w1, w2, w3, w4, w5, w6, w7, w8, w9, w10, w11, w12⟩ := V
        unfold LotV
        rw [v0 0 (by decide) (by decide) (by decide) (by decide), v0 1 (by decide) (by decide) (by decide) (by decide), v0 2 (by decide) (by decide) (by decide) (by decide), v0 3 (by decide) (by decide) (by decide) (by decide), v0 4 (by decide) (by decide) (by decide) (by decide), v0 5 (by decide) (by decide) (by decide) (by decide), v0 6 (by decide) (by decide) (by decide) (by decide), v9, v10, v11, v12, v0 13 (by decide) (by decide) (by decide) (by decide), v0 14 (by decide) (by decide) (by decide) (by decide), r96, r97, r98, r99, if_pos rfl, if_pos rfl, if_pos rfl, if_pos rfl, r89, rM 90 (by omega) (by omega) (by omega) (by omega) (by omega) (by omega), rM 91 (by omega) (by omega) (by omega) (by omega) (by omega) (by omega), rM 92 (by omega) (by omega) (by omega) (by omega) (by omega) (by omega), rM 93 (by omega) (by omega) (by omega) (by omega) (by omega) (by omega), rM 94 (by omega) (by omega) (by omega) (by omega) (by omega) (by omega), rM 95 (by omega) (by omega) (by omega) (by omega) (by omega) (by omega), rM 100 (by omega) (by omega) (by omega) (by omega) (by omega) (by omega), rM 101 (by omega) (by omega) (by omega) (by omega) (by omega) (by omega)]
        exact ⟨w0, w1, w2, w3, w4, w5, w6, rfl, rfl, rfl, rfl, w11, w12⟩
      · obtain ⟨⟨c', hc1, hc2⟩, q1, q2, q3, q4, q5, q6, q7, q8, q9, -, q11, -⟩ := G
        have hnb := hn nb Cc.1 Cc.2.1
        unfold LotG bnN at *
        rw [r96, r97, r98, if_pos rfl, if_pos rfl, if_pos rfl, r89, rM 90 (by omega) (by omega) (by omega) (by omega) (by omega) (by omega), rM 91 (by omega) (by omega) (by omega) (by omega) (by omega) (by omega), rM 92 (by omega) (by omega) (by omega) (by omega) (by omega) (by omega), rM 93 (by omega) (by omega) (by omega) (by omega) (by omega) (by omega), rM 94 (by omega) (by omega) (by omega) (by omega) (by omega) (by omega), rM 95 (by omega) (by omega) (by omega) (by omega) (by omega) (by omega), rM 101 (by omega) (by omega) (by omega) (by omega) (by omega) (by omega)]
        refine ⟨⟨c', hc1, hc2⟩, q1, q2, q3, q4, q5, q6, q7, q8, ?_, ⟨dn, hnb.1, rfl, hnb.2⟩, q11, fun h => ?_⟩
        · rcases n2 with h | h
          · exact ⟨2, by decide, by decide, h⟩
          · exact ⟨3, by decide, by decide, h⟩
        · rcases hs with g | g
          · exact ⟨i, hi, g.2.1⟩
          · rcases h with h | h
            · exact absurd h ns1
            · rw [g.1] at h; exact absurd h (by decide)
      · obtain ⟨L0, h, c, k1, k2, k3, k4, k5, k6, k7⟩ := hL
        exact ⟨L0, h, c, k1, k2, k3, k4, k5, by rw [r89]; exact k6, by rw [r73]; exact k7⟩
    · have fr := far c
      have rr : ∀ a, 89 ≤ a → a ≤ 101 → mI μ2 a j' = mI μ a j' := fun a h1 h2 => by
        by_cases c1 : a = 96
        · subst c1; rw [r96, if_neg c]
        · by_cases c2 : a = 97
          · subst c2; rw [r97, if_neg c]
          · by_cases c3 : a = 98
            · subst c3; rw [r98, if_neg c]
            · by_cases c4 : a = 99
              · subst c4; rw [r99, if_neg c]
              · rw [rM a h1 (by omega) c1 c2 c3 c4]
      exact ⟨P, nb, hS', LotV_pt (far7 _ (by omega) (by omega) (by omega)) rr V, LotG_pt (Nat.le_refl C) (Nat.le_refl K) rr G, LotL_pt (far7 _ (by omega) (by omega) (by omega)) (fun k h1 h2 => r74 k (by omega)) (by rw [r89]) (fun c _ _ => by rw [r73]) L, hC', hP', hM'⟩
  · have i4 : i' < 4 := by omega
    have r85 := rowL 85 (by omega) (by omega) (by omega) (by omega) (by omega) (by omega) (by omega) (by omega) (by omega) (by omega) (by omega) (by omega) (by omega) (by omega) (by omega) (by omega) (by omega)
    have r102 := rM 102 (by omega) (by omega) (by omega) (by omega) (by omega) (by omega)
    obtain ⟨y0, y1, y2, y3, y4, y5, y6, y7, y8, y9⟩ := hM i' hi'
    by_cases ci : i' = i
    · subst ci
      obtain ⟨z6, z7, z8, z9⟩ := hQ
      refine ⟨?_, ?_, ?_, ?_, ?_, ?_, z6, z7, z8, z9⟩
      · rw [r85, p0]; exact y0
      · rw [p3, q86, if_pos rfl]
      · rw [p4, q87, if_pos rfl]
      · rw [p5, q88, if_pos rfl]
      · rw [q87, if_pos rfl]; exact hk
      · rw [q86, if_pos rfl]
        rcases hs with g | g
        · exact Or.inr ⟨j, hj, g.2.2, by rw [r96, if_pos rfl]; exact g.1, by rw [r97, if_pos rfl]; exact g.2.1⟩
        · exact Or.inl g.2.2
    · have e1 := rowL (57 + 2 * i') (by omega) (by omega) (by omega) (by omega) (by omega) (by omega) (by omega) (by omega) (by omega) (by omega) (by omega) (by omega) (by omega) (by omega) (by omega) (by omega) (by omega)
      have e2 := rowL (58 + 2 * i') (by omega) (by omega) (by omega) (by omega) (by omega) (by omega) (by omega) (by omega) (by omega) (by omega) (by omega) (by omega) (by omega) (by omega) (by omega) (by omega) (by omega)
      have y5' : mI μ2 86 i' = -1 ∨ ∃ j0 : Nat, j0 < N ∧ mI μ2 86 i' = nI j0 ∧ mI μ2 96 j0 = 2 ∧ mI μ2 97 j0 = nI i' := by
        rw [q86, if_neg ci]
        rcases y5 with h | ⟨j0, h1, h2, h3, h4⟩
        · exact Or.inl h
        · have c : ¬ j0 = j := fun h => by
            rw [h, hm] at h4
            have := (nI_eq (show i < 2 ^ 31 by omega) (show i' < 2 ^ 31 by omega)).mp h4
            omega
          exact Or.inr ⟨j0, h1, h2, by rw [r96, if_neg c]; exact h3, by rw [r97, if_neg c]; exact h4⟩
      refine ⟨by rw [r85, e1]; exact y0, by rw [e1, q86, if_neg ci]; exact y1, by rw [e1, q87, if_neg ci]; exact y2, by rw [e1, q88, if_neg ci]; exact y3, by rw [q87, if_neg ci]; exact y4, y5', ?_, ?_, ?_, ?_⟩
      · rw [e1, cO i' i4 ci]; exact y6
      · rw [e2, cO i' i4 ci]; exact y7
      · rw [e2, cO i' i4 ci, r102]; exact y8
      · rw [e2, cO i' i4 ci]; exact y9
  · have e1 := rowL (57 + 2 * i') (by omega) (by omega) (by omega) (by omega) (by omega) (by omega) (by omega) (by omega) (by omega) (by omega) (by omega) (by omega) (by omega) (by omega) (by omega) (by omega) (by omega)
    unfold MacZ
    rw [e1, q88, if_neg (show ¬ i' = i by omega)]
    exact hZ i' h1 h2
  · refine ⟨fun k h1 h2 => ?_, ?_⟩
    · rw [r96, r98, rM 101 (by omega) (by omega) (by omega) (by omega) (by omega) (by omega), if_neg (show ¬ k = j by omega), if_neg (show ¬ k = j by omega)]
      exact hzr.1 k h1 h2
    · rw [rM 103 (by omega) (by omega) (by omega) (by omega) (by omega) (by omega)]
      exact hzr.2
  · unfold MeaR
    rw [rowF 38 (by omega) (by omega) (by omega) (by omega), rowF 39 (by omega) (by omega) (by omega) (by omega), rowF 40 (by omega) (by omega) (by omega) (by omega), rowF 41 (by omega) (by omega) (by omega) (by omega), rM 104 (by omega) (by omega) (by omega) (by omega) (by omega) (by omega), rM 105 (by omega) (by omega) (by omega) (by omega) (by omega) (by omega), rM 106 (by omega) (by omega) (by omega) (by omega) (by omega) (by omega), rM 107 (by omega) (by omega) (by omega) (by omega) (by omega) (by omega), sc 69 (by decide) (by decide) (by decide) (by decide) (by decide) (by decide) (by decide), sc 70 (by decide) (by decide) (by decide) (by decide) (by decide) (by decide) (by decide)]
    exact hme
  · unfold LdR
    rw [sc 63 (by decide) (by decide) (by decide) (by decide) (by decide) (by decide) (by decide), ldE, rM 102 (by omega) (by omega) (by omega) (by omega) (by omega) (by omega)]
    exact hld
