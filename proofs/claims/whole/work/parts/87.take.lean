/-! both sides take the same LOT -/
theorem b_next {c m : p_M} {N K M C E i : Nat} {lr : Nat → Nat} (hS : Sh c) (hLs : LstR (mg c m) N E lr) (hLot : ∀ j, j < N → LotR (mg c m) C K M j (lr j)) (hMi : MacR (mg c m) N i) (hld : LdR (mg c m) N) (hKd : RKinds (mg c m)) (i4 : i < 4) : (F_X12_firstNotBarred 0 (57 + 2 * i) c = some (0, -1, c) ∧ F_X13_nextFor (nI i) m = some (-1, m)) ∨ ∃ p j k x : Nat, p < cnt (wt (mg c m) i) N ∧ j < N ∧ mI c (58 + 2 * i) p = nI j ∧ wt (mg c m) i j = true ∧ F_X12_firstNotBarred 0 (57 + 2 * i) c = some (0, nI p, c) ∧ F_X13_nextFor (nI i) m = some (nI j, m) ∧ k ≤ 5 ∧ mI m 91 j = nI k ∧ mI c (lr j) 2 = nI k ∧ x ≤ 100 ∧ crr (mI m 77) (mI m 87 i) k = nI x ∧ crr (mI c 27) (mI c (57 + 2 * i) 4) k = nI x := by
  have hN : N ≤ 40 := hLs.2.2.1
  have e62 : mI m 65 62 = nI N := hLs.2.1
  obtain ⟨-, -, y2, -, y4, -, y6, y7, y8, y9⟩ := hMi
  rw [mg_c (show ¬ (65 ≤ 57 + 2 * i ∧ 57 + 2 * i ≤ 111) by omega)] at y2 y6
  rw [mg_c (show ¬ (65 ≤ 58 + 2 * i ∧ 58 + 2 * i ≤ 111) by omega)] at y7 y8 y9
  have y2 : mI c (57 + 2 * i) 4 = mI m 87 i := y2
  have y4 : okB (mI m 87 i) := y4
  have y8 : ∀ m1 m1' j j', m1 < m1' → m1' < cnt (wt (mg c m) i) N → j < N → j' < N → mI c (58 + 2 * i) m1 = nI j → mI c (58 + 2 * i) m1' = nI j' → ∃ t t' : Nat, t < t' ∧ t' < 64 ∧ mI m 102 j = nI t ∧ mI m 102 j' = nI t' := y8
  have hq40 : cnt (wt (mg c m) i) N ≤ 40 := by have := cnt_le (wt (mg c m) i) N; omega
  have r77 : mI c 27 = mI m 77 := hKd.1
  have hcr : ∀ j, j < 36 → mI m 77 j = -1 ∨ ∃ x : Nat, x ≤ 100 ∧ mI m 77 j = nI x := fun j hj => by
    have h := hKd.2.1 j hj
    have h : mI c 27 j = -1 ∨ ∃ x : Nat, x ≤ 100 ∧ mI c 27 j = nI x := h
    rw [r77] at h
    exact h
  have hkd : ∀ j, j < N → (mI m 91 j).toNatClampNeg ≤ 5 ∧ mI m 91 j = nI ((mI m 91 j).toNatClampNeg) := fun j hj => by
    obtain ⟨P, nb, -, -, ⟨-, -, -, -, ⟨x, -, x2, x3⟩, -⟩, -⟩ := hLot j hj
    have x3 : mI m 91 j = nI x := x3
    rw [x3, nI_clamp (show x < 2 ^ 31 by omega)]
    exact ⟨x2, rfl⟩
  have hlot : ∀ j, j < N → F_X12_lotAt 0 (nI j) c = some (0, lr j, c) ∧ (mK c (lr j) = 5 ∧ lr j < mN c) ∧ (mI m 91 j).toNatClampNeg ≤ 5 ∧ mI c (lr j) 2 = nI ((mI m 91 j).toNatClampNeg) := fun j hj => by
    obtain ⟨P, nb, ⟨s0, s1, -⟩, V, -⟩ := hLot j hj
    have v2 := V.2.2.1
    rw [mg_c (show ¬ (65 ≤ lr j ∧ lr j ≤ 111) by omega)] at v2
    have v2 : mI c (lr j) 2 = mI m 91 j := v2
    exact ⟨c_lotAt2 hS hLs hj s1, s1, (hkd j hj).1, v2.trans (hkd j hj).2⟩
  have hqu : ∀ m1, m1 < cnt (wt (mg c m) i) N → (mI c (58 + 2 * i) m1).toNatClampNeg < N ∧ mI c (58 + 2 * i) m1 = nI ((mI c (58 + 2 * i) m1).toNatClampNeg) := fun m1 h1 => by
    obtain ⟨j, j1, j2, -⟩ := y7 m1 h1
    rw [j2, nI_clamp (show j < 2 ^ 31 by omega)]
    exact ⟨j1, rfl⟩
  have htn : ∀ j, j < N → mI m 96 j = 1 → (mI m 102 j).toNatClampNeg < 64 ∧ mI m 102 j = nI ((mI m 102 j).toNatClampNeg) := fun j hj h1 => by
    have h2 : ld (mg c m) j = true := decide_eq_true (show ¬ mI m 96 j = 0 by rw [h1]; decide)
    obtain ⟨t, t1, t2⟩ := hld.2 j hj h2
    have t2 : mI m 102 j = nI t := t2
    have := cnt_le (ld (mg c m)) N
    rw [t2, nI_clamp (show t < 2 ^ 31 by omega)]
    exact ⟨by omega, rfl⟩
  obtain ⟨v, f1, f2⟩ := c_first hS i4 hlot hq40 y6 y2 y4 hqu (cnt (wt (mg c m) i) N) 0 p_fu (by omega) (show cnt (wt (mg c m) i) N < 100000 by omega)
  obtain ⟨b, g1, g2⟩ := m_next i4 hN e62 rfl y4 hkd htn hcr N 0 p_fu (-1) (by omega) (show N < 100000 by omega) (Or.inl ⟨rfl, fun j hj => by omega⟩)
  have f1 : F_X12_firstNotBarred 0 (57 + 2 * i) c = some (0, v, c) := f1
  have g1 : F_X13_nextFor (nI i) m = some (b, m) := g1
  rcases f2 with ⟨rfl, f2⟩ | ⟨p, -, p2, rfl, p4, p5⟩
  · rcases g2 with ⟨rfl, -⟩ | ⟨x, x1, rfl, ⟨x3, x4⟩, -⟩
    · exact Or.inl ⟨f1, g1⟩
    · exfalso
      obtain ⟨m0, n1, n2⟩ := y9 x x1 x3
      have := f2 m0 (by omega) n1
      rw [n2, nI_clamp (show x < 2 ^ 31 by omega), r77] at this
      exact x4 this
  · obtain ⟨j, j1, j2, j3⟩ := y7 p p2
    rw [j2, nI_clamp (show j < 2 ^ 31 by omega), r77] at p4
    rcases g2 with ⟨rfl, h⟩ | ⟨x, x1, rfl, ⟨x3, x4⟩, x5⟩
    · exact absurd ⟨j3, p4⟩ (h j j1)
    · have ex : x = j := by
        obtain ⟨m0, n1, n2⟩ := y9 x x1 x3
        by_cases c1 : m0 < p
        · exfalso
          have := p5 m0 (by omega) c1
          rw [n2, nI_clamp (show x < 2 ^ 31 by omega), r77] at this
          exact x4 this
        · by_cases c2 : m0 = p
          · subst c2
            exact (nI_eq (show x < 2 ^ 31 by omega) (show j < 2 ^ 31 by omega)).mp (n2.symm.trans j2)
          · exfalso
            obtain ⟨t, t', t1, t2, t3, t4⟩ := y8 p m0 j x (by omega) n1 j1 x1 j2 n2
            have : (mI m 102 x).toNatClampNeg ≤ (mI m 102 j).toNatClampNeg := x5 j j1 ⟨j3, p4⟩
            rw [t3, t4, nI_clamp (show t < 2 ^ 31 by omega), nI_clamp (show t' < 2 ^ 31 by omega)] at this
            omega
      subst ex
      obtain ⟨k1, k2⟩ := hkd x x1
      have h4 := (hlot x x1).2.2.2
      rcases crr_ok hcr y4 k1 with h | ⟨z, z1, z2⟩
      · exact absurd h x4
      · exact Or.inr ⟨p, x, (mI m 91 x).toNatClampNeg, z, p2, x1, j2, x3, f1, g1, k1, k2, h4, z1, z2, by rw [r77, y2]; exact z2⟩
/-! the queue closes up -/
theorem c_shift {i q : Nat} (i4 : i < 4) (hq : q < 40) : ∀ (r p n : Nat) (c : p_M), Sh c → p + r = q → r < n → mI c (57 + 2 * i) 2 = nI q → ∃ c', F_X5_takeIn_c27 n (57 + 2 * i) (nI p) c = some (0, c') ∧ (∀ k, mI c' (58 + 2 * i) k = if p ≤ k ∧ k < q then mI c (58 + 2 * i) (k + 1) else mI c (58 + 2 * i) k) ∧ Fq [58 + 2 * i] [] c c' := by
  intro r
  induction r with
  | zero =>
    intro p n c hS hp hn e
    obtain ⟨n, rfl⟩ : ∃ k, n = k + 1 := ⟨n - 1, by omega⟩
    have o57 := s_o57v hS i4
    have c1 : nI q ≤ nI p := nI_le (by omega) (by omega)
    refine ⟨c, ?_, fun k => ?_, Fq_refl c⟩
    · simp only [F_X5_takeIn_c27, p_ok, o57, e, c1, and_self, ↓reduceIte]
    · rw [if_neg (by omega)]
  | succ r ih =>
    intro p n c hS hp hn e
    obtain ⟨n, rfl⟩ : ∃ k, n = k + 1 := ⟨n - 1, by omega⟩
    have o57 := s_o57v hS i4
    obtain ⟨u1, u2, u3⟩ := s_q57v hS i4
    have c1 : ¬ nI q ≤ nI p := nI_ge (by omega) (by omega)
    have ip := ix_nI (show p < 40 by omega) (by decide)
    have kp := nI_clamp (show p < 2 ^ 31 by omega)
    have lp : p < 40 := by omega
    have ip1 := ix_nI (show p + 1 < 40 by omega) (by decide)
    have kp1 := nI_clamp (show p + 1 < 2 ^ 31 by omega)
    have lp1 : p + 1 < 40 := by omega
    have ap : nI p + 1 = nI (p + 1) := nI_add p 1
    have hf : Fq [58 + 2 * i] [] c (sI c (58 + 2 * i) p (mI c (58 + 2 * i) (p + 1))) := Fq_sI (Fq_refl c) ⟨by simp, by omega⟩
    have e1 : mI (sI c (58 + 2 * i) p (mI c (58 + 2 * i) (p + 1))) (57 + 2 * i) 2 = nI q := by
      rw [mI_sI, if_neg (show ¬ 57 + 2 * i = 58 + 2 * i by omega)]; exact e
    obtain ⟨c', g1, g2, g3⟩ := ih (p + 1) n _ (Sh_q hf hS) (by omega) (by omega) e1
    refine ⟨c', ?_, fun k => ?_, Fq_trans hf g3⟩
    · simp only [F_X5_takeIn_c27, bd_some, p_ok, p_let_eq, o57, e, c1, u1, u2, u3, ip, kp, lp, ip1, kp1, lp1, ap, and_self, true_and, not_false_eq_true, ↓reduceIte]
      exact g1
    · rw [g2 k, mI_sI, if_pos rfl, z_up, z_up]
      by_cases h : k = p
      · subst h
        rw [if_neg (show ¬ (k + 1 ≤ k ∧ k < q) by omega), if_pos rfl, if_pos (show k ≤ k ∧ k < q by omega)]
      · by_cases h2 : p ≤ k ∧ k < q
        · rw [if_pos (show p + 1 ≤ k ∧ k < q by omega), if_neg (show ¬ k + 1 = p by omega), if_pos h2]
        · rw [if_neg (show ¬ (p + 1 ≤ k ∧ k < q) by omega), if_neg h, if_neg h2]
theorem c_takeIn {c : p_M} {i q p j : Nat} (hS : Sh c) (i4 : i < 4) (hq : q < 40) (hp : p ≤ q) (e2 : mI c (57 + 2 * i) 2 = nI (q + 1)) (ej : mI c (58 + 2 * i) p = nI j) (v : Int32) : ∃ c', F_X5_takeIn (57 + 2 * i) (nI p) v c = some (0, c') ∧ (∀ k, mI c' (57 + 2 * i) k = if k = 2 then nI q else if k = 4 then v else if k = 3 then nI j else mI c (57 + 2 * i) k) ∧ (∀ k, mI c' (58 + 2 * i) k = if p ≤ k ∧ k < q then mI c (58 + 2 * i) (k + 1) else mI c (58 + 2 * i) k) ∧ Fq [57 + 2 * i, 58 + 2 * i] [] c c' := by
  have o57 := s_o57v hS i4
  obtain ⟨u1, u2, u3⟩ := s_q57v hS i4
  have ip := ix_nI (show p < 40 by omega) (by decide)
  have kp := nI_clamp (show p < 2 ^ 31 by omega)
  have lp : p < 40 := by omega
  have pr : nI (q + 1) - 1 = nI q := nI_pred q
  have m1 : 57 + 2 * i ∈ [57 + 2 * i, 58 + 2 * i] ∧ 57 + 2 * i ≠ 65 := ⟨by simp, by omega⟩
  have hf : Fq [57 + 2 * i, 58 + 2 * i] [] c (sI (sI (sI c (57 + 2 * i) 3 (nI j)) (57 + 2 * i) 4 v) (57 + 2 * i) 2 (nI q)) := Fq_sI (Fq_sI (Fq_sI (Fq_refl c) m1) m1) m1
  have e1 : mI (sI (sI (sI c (57 + 2 * i) 3 (nI j)) (57 + 2 * i) 4 v) (57 + 2 * i) 2 (nI q)) (57 + 2 * i) 2 = nI q := by
    rw [mI_sI, if_pos rfl, z_up, if_pos rfl]
  obtain ⟨c', g1, g2, g3⟩ := c_shift i4 hq (q - p) p p_fu _ (Sh_q hf hS) (by omega) (show q - p < 100000 by omega) e1
  refine ⟨c', ?_, fun k => ?_, fun k => ?_, Fq_trans hf (Fq_mono g3 (by simp) (fun a h => h))⟩
  · simp only [F_X5_takeIn, bd_some, p_ok, p_let_eq, o57, u1, u2, u3, ip, kp, lp, ej, mK_sI, mN_sI, mI_sI, z_up, e2, pr, and_self, true_and, not_false_eq_true, ↓reduceIte, Nat.reduceEqDiff]
    exact g1
  · rw [g3.2.1 _ (by omega) (by simp only [List.mem_cons, List.not_mem_nil, or_false]; omega)]
    simp only [mI_sI, ↓reduceIte, z_up]
  · rw [g2 k]
    simp only [mI_sI, show ¬ 58 + 2 * i = 57 + 2 * i by omega, ↓reduceIte]
