/-! one LOT more: what both sides hold afterwards -/
theorem lastM_none {a b : Nat → Int32} {j p : Nat} : ∀ m, (∀ k, k < m → ¬ a k = nI j) → lastM a b j p m = -1 := by
  intro m
  induction m with
  | zero => intro _; rfl
  | succ m ih =>
    intro h
    show (if a m = nI j ∧ b m = nI p then nI m else lastM a b j p m) = -1
    rw [if_neg (fun q => h m (by omega) q.1)]
    exact ih (fun k hk => h k (by omega))
theorem new_RL {μ μ2 : p_M} {N K M C E E' l : Nat} {lr : Nat → Nat} (hLs : LstR μ N E lr) (hC : mI μ 65 14 = nI C ∧ C ≤ 6) (hK : mI μ 0 13 = nI K ∧ mI μ 65 47 = nI K ∧ K ≤ 4) (hLot : ∀ j, j < N → LotR μ C K M j (lr j)) (hM : ∀ i, i < K → MacR μ N i) (hZ : ∀ i, K ≤ i → i < 4 → MacZ μ i) (hzr : ZroR μ N) (hme : MeaR μ N M) (hld : LdR μ N) (hN : N < 40) (hl : mN μ = l)
    (a1 : mI μ2 37 2 = nI (N + 1)) (a2 : mR μ2 37 1 = some E') (a3 : 113 ≤ E') (a4 : E' < mN μ2) (a5 : mK μ2 E' = 25) (a6 : N + 1 ≤ mL μ2 E') (a7 : mL μ2 E' = 10 ∨ mL μ2 E' = 15 ∨ mL μ2 E' = 22 ∨ mL μ2 E' = 33 ∨ mL μ2 E' = 49) (a8 : ∀ j, j < N → mR μ2 E' j = some (lr j)) (a9 : mR μ2 E' N = some l) (a10 : E' = E ∧ 1 ≤ N ∨ E' = l + 7)
    (b1 : ∀ j, j < N → ∀ a, lr j ≤ a → a ≤ lr j + 6 → mR μ2 a = mR μ a ∧ mK μ2 a = mK μ a ∧ mL μ2 a = mL μ a) (b2 : ∀ j, j < N → ∀ a, lr j ≤ a → a ≤ lr j + 6 → a ≠ lr j + 5 → mI μ2 a = mI μ a) (b3 : ∀ j, j < N → ∀ P, P ≤ 60 → mI μ 90 j = nI P → LotP μ j (lr j) P → LotP μ2 j (lr j) P) (hNN : mN μ ≤ mN μ2)
    (c1 : ∀ a, a < 65 → a ≠ 37 → mI μ2 a = mI μ a) (d1 : ∀ a, 66 ≤ a → a ≤ 107 → a ∉ [68, 69, 70, 74, 89, 90, 91, 92, 93, 94, 95, 97, 99, 100, 101, 103] → mI μ2 a = mI μ a) (d2 : ∀ a, a ∈ [68, 89, 90, 91, 92, 93, 94, 95, 97, 99, 100, 101] → ∀ k, k ≠ N → mI μ2 a k = mI μ a k)
    (d3 : ∀ k, k < 20 * N ∨ 20 * N + 20 ≤ k → mI μ2 69 k = mI μ 69 k ∧ mI μ2 70 k = mI μ 70 k) (d4 : ∀ k, k < 5 * N ∨ 5 * N + 5 ≤ k → mI μ2 74 k = mI μ 74 k) (d5 : ∀ k, 60 * (N + 1) ≤ k → k < 2400 → mI μ2 103 k = 0)
    (e1 : mI μ2 65 62 = nI (N + 1)) (e2 : ∀ k, k ≠ 0 → k ≠ 62 → mI μ2 65 k = mI μ 65 k) (hnew : LotR μ2 C K M N l) : RLots μ2 := by
  obtain ⟨l1, l2, l3, l4, l5, l6⟩ := hLs
  have dd : ∀ a, 66 ≤ a → a ≤ 107 → a ≠ 68 → a ≠ 69 → a ≠ 70 → a ≠ 74 → a ≠ 89 → a ≠ 90 → a ≠ 91 → a ≠ 92 → a ≠ 93 → a ≠ 94 → a ≠ 95 → a ≠ 97 → a ≠ 99 → a ≠ 100 → a ≠ 101 → a ≠ 103 → mI μ2 a = mI μ a := fun a h1 h2 g1 g2 g3 g4 g5 g6 g7 g8 g9 g10 g11 g12 g13 g14 g15 g16 => d1 a h1 h2 (by
    simp only [List.mem_cons, List.not_mem_nil, or_false]
    omega)
  have r96 : mI μ2 96 = mI μ 96 := d1 96 (by decide) (by decide) (by decide)
  have r98 : mI μ2 98 = mI μ 98 := d1 98 (by decide) (by decide) (by decide)
  have r102 : mI μ2 102 = mI μ 102 := d1 102 (by decide) (by decide) (by decide)
  have r104 : mI μ2 104 = mI μ 104 := d1 104 (by decide) (by decide) (by decide)
  have r105 : mI μ2 105 = mI μ 105 := d1 105 (by decide) (by decide) (by decide)
  have r106 : mI μ2 106 = mI μ 106 := d1 106 (by decide) (by decide) (by decide)
  have r107 : mI μ2 107 = mI μ 107 := d1 107 (by decide) (by decide) (by decide)
  have r73 : mI μ2 73 = mI μ 73 := d1 73 (by decide) (by decide) (by decide)
  have r85 : mI μ2 85 = mI μ 85 := d1 85 (by decide) (by decide) (by decide)
  have r86 : mI μ2 86 = mI μ 86 := d1 86 (by decide) (by decide) (by decide)
  have r87 : mI μ2 87 = mI μ 87 := d1 87 (by decide) (by decide) (by decide)
  have r88 : mI μ2 88 = mI μ 88 := d1 88 (by decide) (by decide) (by decide)
  have h96N : mI μ 96 N = 0 := (hzr.1 N (Nat.le_refl _) hN).1
  have lrl : ∀ j, j < N → 113 ≤ lr j ∧ lr j + 7 ≤ l := fun j hj => by
    obtain ⟨P, nb, ⟨s0, -, -, -, -, -, -, -, -, -, s10, -⟩, -⟩ := hLot j hj
    exact ⟨s0, by have := s10.2.2; omega⟩
  have w2o : ∀ i j', j' ≠ N → wt μ2 i j' = wt μ i j' := fun i j' h => by
    unfold wt
    rw [r96, d2 97 (by decide) j' h]
  have w2N : ∀ i, wt μ2 i N = false := fun i => decide_eq_false (fun h => by
    have := h.1
    rw [r96, h96N] at this
    exact absurd this (by decide))
  have cw : ∀ i, cnt (wt μ2 i) (N + 1) = cnt (wt μ i) N := fun i => by
    show cnt (wt μ2 i) N + (if wt μ2 i N = true then 1 else 0) = _
    rw [w2N, if_neg Bool.false_ne_true, Nat.add_zero]
    exact cnt_ext (fun j hj => w2o i j (by omega))
  have ldE : ld μ2 = ld μ := ld_g r96
  have ldN : ld μ N = false := decide_eq_false (fun h => h h96N)
  have cl : cnt (ld μ) (N + 1) = cnt (ld μ) N := by
    show cnt (ld μ) N + (if ld μ N = true then 1 else 0) = _
    rw [ldN, if_neg Bool.false_ne_true, Nat.add_zero]
  refine ⟨N + 1, K, M, C, E', fun j => if j = N then l else lr j, ⟨a1, e1, by omega, Or.inr ⟨by omega, a2, a3, a4, a5, a6, a7, fun j hj => ?_⟩, fun i j hij hj => ?_, fun j hj => ?_⟩, ⟨(e2 14 (by decide) (by decide)).trans hC.1, hC.2⟩, ⟨?_, (e2 47 (by decide) (by decide)).trans hK.2.1, hK.2.2⟩, fun j hj => ?_, fun i hi => ?_, fun i h1 h2 => ?_, ⟨fun j h1 h2 => ?_, d5⟩, ?_, ?_⟩
  · by_cases c : j = N
    · subst c; dsimp only; rw [if_pos rfl]; exact a9
    · dsimp only; rw [if_neg c]; exact a8 j (by omega)
  · dsimp only
    rw [if_neg (show ¬ i = N by omega)]
    by_cases c : j = N
    · rw [if_pos c]; exact (lrl i (by omega)).2
    · rw [if_neg c]; exact l5 i j hij (by omega)
  · dsimp only
    rcases a10 with ⟨h1, h2⟩ | h1
    · subst h1
      rcases l4 with ⟨q, -⟩ | ⟨-, -, -, q, -⟩
      · omega
      · by_cases c : j = N
        · rw [if_pos c]; exact Or.inl (by omega)
        · rw [if_neg c]; exact l6 j (by omega)
    · subst h1
      by_cases c : j = N
      · rw [if_pos c]; exact Or.inr (Nat.le_refl _)
      · rw [if_neg c]; exact Or.inr (by have := (lrl j (by omega)).2; omega)
  · rw [c1 0 (by decide) (by decide)]; exact hK.1
  · dsimp only
    by_cases c : j = N
    · subst c; rw [if_pos rfl]; exact hnew
    · rw [if_neg c]
      have hj' : j < N := by omega
      obtain ⟨P, nb, S, V, G, L, Cc, Pz, Pm⟩ := hLot j hj'
      have rr : ∀ a, 89 ≤ a → a ≤ 101 → mI μ2 a j = mI μ a j := fun a h1 h2 => by
        by_cases q1 : a = 96
        · subst q1; rw [r96]
        · by_cases q2 : a = 98
          · subst q2; rw [r98]
          · refine d2 a ?_ j c
            simp only [List.mem_cons, List.not_mem_nil, or_false]
            omega
      have cell := b2 j hj'
      refine ⟨P, nb, LotS_pt hNN (b1 j hj') S, LotV_pt (cell _ (by omega) (by omega) (by omega)) rr V, LotG_pt (Nat.le_refl C) (Nat.le_refl K) rr G, LotL_pt (cell _ (by omega) (by omega) (by omega)) (fun k h1 h2 => d4 k (by omega)) (rr 89 (by decide) (by decide)) (fun c _ _ => by rw [r73]) L, LotC_pt (cell _ (by omega) (by omega) (by omega)) (cell _ (by omega) (by omega) (by omega)) (cell _ (by omega) (by omega) (by omega)) (d2 68 (by decide) j c) (fun k h1 h2 => d3 k (by omega)) Cc, b3 j hj' P G.2.2.2.1 G.2.1 Pz, LotM_pt (cell _ (by omega) (by omega) (by omega)) r104 r105 Pm⟩
  · obtain ⟨y0, y1, y2, y3, y4, y5, y6, y7, y8, y9⟩ := hM i hi
    have e57 : mI μ2 (57 + 2 * i) = mI μ (57 + 2 * i) := c1 _ (by omega) (by omega)
    have e58 : mI μ2 (58 + 2 * i) = mI μ (58 + 2 * i) := c1 _ (by omega) (by omega)
    unfold MacR
    rw [cw i, e57, e58, r85, r86, r87, r88, r96, r102]
    refine ⟨y0, y1, y2, y3, y4, ?_, y6, fun m hm => ?_, fun m m' j j' h1 h2 h3 h4 h5 h6 => ?_, fun j hj hw => ?_⟩
    · rcases y5 with h | ⟨j0, h1, h2, h3, h4⟩
      · exact Or.inl h
      · exact Or.inr ⟨j0, by omega, h2, h3, by rw [d2 97 (by decide) j0 (by omega)]; exact h4⟩
    · obtain ⟨j, g1, g2, g3⟩ := y7 m hm
      exact ⟨j, by omega, g2, by rw [w2o i j (by omega)]; exact g3⟩
    · obtain ⟨q, g1, g2, -⟩ := y7 m (by omega)
      obtain ⟨q', g1', g2', -⟩ := y7 m' h2
      have z1 : q = j := (nI_eq (show q < 2 ^ 31 by omega) (show j < 2 ^ 31 by omega)).mp (g2.symm.trans h5)
      have z2 : q' = j' := (nI_eq (show q' < 2 ^ 31 by omega) (show j' < 2 ^ 31 by omega)).mp (g2'.symm.trans h6)
      exact y8 m m' j j' h1 h2 (by omega) (by omega) h5 h6
    · by_cases c : j = N
      · rw [c, w2N] at hw; cases hw
      · rw [w2o i j c] at hw
        exact y9 j (by omega) hw
  · unfold MacZ
    rw [c1 (57 + 2 * i) (by omega) (by omega), r88]
    exact hZ i h1 h2
  · rw [r96, r98, d2 101 (by decide) j (by omega)]
    exact hzr.1 j (by omega) h2
  · obtain ⟨h1, h2, h3, h4, h5⟩ := hme
    unfold MeaR
    rw [c1 38 (by decide) (by decide), c1 39 (by decide) (by decide), c1 40 (by decide) (by decide), c1 41 (by decide) (by decide), r104, r105, r106, r107, e2 69 (by decide) (by decide), e2 70 (by decide) (by decide)]
    refine ⟨h1, h2, h3, h4, fun m hm => ?_⟩
    obtain ⟨g1, g2, g3, g4, j, p, g5, g6⟩ := h5 m hm
    exact ⟨g1, g2, g3, g4, j, p, by omega, g6⟩
  · refine ⟨?_, fun j hj hw => ?_⟩
    · rw [e2 63 (by decide) (by decide), ldE, cl]; exact hld.1
    · rw [ldE] at hw ⊢
      rw [cl, r102]
      by_cases c : j = N
      · rw [c, ldN] at hw; cases hw
      · exact hld.2 j (by omega) hw
