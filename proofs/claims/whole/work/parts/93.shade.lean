/-! what is known of a piece -/
def shd (a b s t : Nat → Int32) (j p : Nat) (day : Int32) : Nat → Int32
  | 0 => -1
  | m + 1 => if a m = nI j ∧ b m = nI p ∧ ¬ day < t m then s m else shd a b s t j p day m
def MeaX (c : p_M) (a b s t : Nat → Int32) (M : Nat) : Prop := M ≤ 250 ∧ mI c 38 3 = nI M ∧ ∀ k, k < M → mI c 39 k = s k ∧ mI c 40 k = t k ∧ (∃ x : Nat, x ≤ 255 ∧ s k = nI x) ∧ ∃ j p : Nat, j < 40 ∧ p < 60 ∧ a k = nI j ∧ b k = nI p ∧ mI c 41 k = lastM a b j p k
theorem lastM_shd (a b s t : Nat → Int32) (j p : Nat) (day : Int32) : ∀ m, (lastM a b j p m = -1 ∧ shd a b s t j p day m = -1) ∨ ∃ k : Nat, k < m ∧ lastM a b j p m = nI k ∧ a k = nI j ∧ b k = nI p ∧ shd a b s t j p day m = if day < t k then shd a b s t j p day k else s k := by
  intro m
  induction m with
  | zero => exact Or.inl ⟨rfl, rfl⟩
  | succ m ih =>
    by_cases h : a m = nI j ∧ b m = nI p
    · refine Or.inr ⟨m, by omega, if_pos h, h.1, h.2, ?_⟩
      show (if a m = nI j ∧ b m = nI p ∧ ¬ day < t m then s m else shd a b s t j p day m) = _
      by_cases h2 : day < t m
      · rw [if_neg (fun q => q.2.2 h2), if_pos h2]
      · rw [if_pos ⟨h.1, h.2, h2⟩, if_neg h2]
    · have e1 : lastM a b j p (m + 1) = lastM a b j p m := if_neg h
      have e2 : shd a b s t j p day (m + 1) = shd a b s t j p day m := if_neg (fun q => h ⟨q.1, q.2.1⟩)
      rw [e1, e2]
      rcases ih with h1 | ⟨k, k1, k2, k3, k4, k5⟩
      · exact Or.inl h1
      · exact Or.inr ⟨k, by omega, k2, k3, k4, k5⟩
theorem shd_ok {a b s t : Nat → Int32} {M j p : Nat} {day : Int32} (hs : ∀ k, k < M → ∃ x : Nat, x ≤ 255 ∧ s k = nI x) : ∀ m, m ≤ M → shd a b s t j p day m = -1 ∨ ∃ x : Nat, x ≤ 255 ∧ shd a b s t j p day m = nI x := by
  intro m
  induction m with
  | zero => intro _; exact Or.inl rfl
  | succ m ih =>
    intro hm
    show (if a m = nI j ∧ b m = nI p ∧ ¬ day < t m then s m else shd a b s t j p day m) = -1 ∨ ∃ x : Nat, x ≤ 255 ∧ (if a m = nI j ∧ b m = nI p ∧ ¬ day < t m then s m else shd a b s t j p day m) = nI x
    by_cases h : a m = nI j ∧ b m = nI p ∧ ¬ day < t m
    · rw [if_pos h]; exact Or.inr (hs m (by omega))
    · rw [if_neg h]; exact ih (by omega)
theorem c_shade {c : p_M} {a b s t : Nat → Int32} {M j p : Nat} (hS : Sh c) (hX : MeaX c a b s t M) (hj : j < 40) (hp : p < 60) (day : Int32) : ∀ (f m i n : Nat), m ≤ f → i + m ≤ M → f < n → F_X6_shadeOn_c5 n 38 day (lastM a b j p m) (nI i) c = some (shd a b s t j p day m, c) := by
  obtain ⟨hM, e3, hk⟩ := hX
  intro f
  induction f with
  | zero =>
    intro m i n hm hi hn
    have : m = 0 := by omega
    subst this
    obtain ⟨n, rfl⟩ : ∃ k, n = k + 1 := ⟨n - 1, by omega⟩
    have q : (-1 : Int32) < 0 := by decide
    show F_X6_shadeOn_c5 (n + 1) 38 day (-1) (nI i) c = some (-1, c)
    by_cases h : M ≤ i
    · have h' : nI M ≤ nI i := nI_le h (by omega)
      simp only [F_X6_shadeOn_c5, F_X6_shadeOn_c56, p_ok, s_o38 hS, e3, h', and_self, ↓reduceIte]
    · have h' : ¬ nI M ≤ nI i := nI_ge (by omega) (by omega)
      simp only [F_X6_shadeOn_c5, F_X6_shadeOn_c56, p_ok, s_o38 hS, e3, h', q, and_self, ↓reduceIte]
  | succ f ih =>
    intro m i n hm hi hn
    obtain ⟨n, rfl⟩ : ∃ k, n = k + 1 := ⟨n - 1, by omega⟩
    rcases lastM_shd a b s t j p day m with ⟨h1, h2⟩ | ⟨k, k1, k2, k3, k4, k5⟩
    · rw [h1, h2]
      have q : (-1 : Int32) < 0 := by decide
      by_cases h : M ≤ i
      · have h' : nI M ≤ nI i := nI_le h (by omega)
        simp only [F_X6_shadeOn_c5, F_X6_shadeOn_c56, p_ok, s_o38 hS, e3, h', and_self, ↓reduceIte]
      · have h' : ¬ nI M ≤ nI i := nI_ge (by omega) (by omega)
        simp only [F_X6_shadeOn_c5, F_X6_shadeOn_c56, p_ok, s_o38 hS, e3, h', q, and_self, ↓reduceIte]
    · rw [k2, k5]
      have h' : ¬ nI M ≤ nI i := nI_ge (by omega) (by omega)
      have c1 : ¬ nI k < 0 := nI_pos (by omega)
      have c2 : ¬ nI M ≤ nI k := nI_ge (by omega) (by omega)
      have kk := nI_clamp (show k < 2 ^ 31 by omega)
      have lk : k < 250 := by omega
      have ai : nI i + 1 = nI (i + 1) := nI_add i 1
      obtain ⟨g1, g2, -, j', p', j1, p1, g4, g5, g6⟩ := hk k (by omega)
      have ej : j' = j := (nI_eq (show j' < 2 ^ 31 by omega) (show j < 2 ^ 31 by omega)).mp (g4.symm.trans k3)
      have ep : p' = p := (nI_eq (show p' < 2 ^ 31 by omega) (show p < 2 ^ 31 by omega)).mp (g5.symm.trans k4)
      subst ej ep
      by_cases h : day < t k
      · rw [if_pos h]
        have r1 := ih k (i + 1) n (by omega) (by omega) (by omega)
        simp only [F_X6_shadeOn_c5, bd_some, p_ok, s_o38 hS, s_r38_0 hS, s_r38_1 hS, s_r38_2 hS, s_r38_5 hS, s_r38_6 hS, s_r38_7 hS, s_r38_8 hS, s_a39 hS, s_l39 hS, s_o39 hS, s_a40 hS, s_l40 hS, s_o40 hS, s_a41 hS, s_l41 hS, s_o41 hS, e3, h', c1, c2, kk, lk, g1, g2, g6, h, ai, and_self, true_and, not_false_eq_true, ↓reduceIte]
        exact r1
      · rw [if_neg h]
        simp only [F_X6_shadeOn_c5, bd_some, p_ok, s_o38 hS, s_r38_0 hS, s_r38_1 hS, s_r38_2 hS, s_r38_5 hS, s_r38_6 hS, s_r38_7 hS, s_r38_8 hS, s_a39 hS, s_l39 hS, s_o39 hS, s_a40 hS, s_l40 hS, s_o40 hS, s_a41 hS, s_l41 hS, s_o41 hS, e3, h', c1, c2, kk, lk, g1, g2, h, and_self, true_and, not_false_eq_true, ↓reduceIte]
theorem m_shade {m : p_M} {M : Nat} (hM : M ≤ 250) (j p : Nat) (day : Int32) : ∀ (k n : Nat), k ≤ M → k < n → F_X13_shadeOf_c8 n (nI j) (nI p) day (nI k - 1) m = some (shd (mI m 104) (mI m 105) (mI m 106) (mI m 107) j p day k, m) := by
  have sb : ∀ x : Int32, x + (-1) = x - 1 := fun x => (Int32.sub_eq_add_neg x 1).symm
  intro k
  induction k with
  | zero =>
    intro n hk hn
    obtain ⟨n, rfl⟩ : ∃ k, n = k + 1 := ⟨n - 1, by omega⟩
    have q : nI 0 - 1 < 0 := by decide
    simp only [F_X13_shadeOf_c8, q, ↓reduceIte]
    rfl
  | succ k ih =>
    intro n hk hn
    obtain ⟨n, rfl⟩ : ∃ k, n = k + 1 := ⟨n - 1, by omega⟩
    rw [nI_pred]
    have c1 : ¬ nI k < 0 := nI_pos (by omega)
    have kk := nI_clamp (show k < 2 ^ 31 by omega)
    have lk : k < 250 := by omega
    have r1 := ih n (by omega) (by omega)
    show _ = some ((if mI m 104 k = nI j ∧ mI m 105 k = nI p ∧ ¬ day < mI m 107 k then mI m 106 k else shd (mI m 104) (mI m 105) (mI m 106) (mI m 107) j p day k), m)
    by_cases h1 : mI m 104 k = nI j
    · by_cases h2 : mI m 105 k = nI p
      · by_cases h3 : day < mI m 107 k
        · simp only [F_X13_shadeOf_c8, F_X13_shadeOf_c54, p_ok, aM, c1, kk, lk, h1, h2, h3, sb, r1, and_self, and_false, true_and, not_false_eq_true, not_true_eq_false, ↓reduceIte]
        · simp only [F_X13_shadeOf_c8, F_X13_shadeOf_c54, p_ok, aM, c1, kk, lk, h1, h2, h3, and_self, true_and, not_false_eq_true, not_true_eq_false, ↓reduceIte]
      · simp only [F_X13_shadeOf_c8, F_X13_shadeOf_c54, p_ok, aM, c1, kk, lk, h1, h2, sb, r1, and_self, and_false, false_and, true_and, not_false_eq_true, not_true_eq_false, ↓reduceIte]
    · simp only [F_X13_shadeOf_c8, F_X13_shadeOf_c54, p_ok, aM, c1, kk, lk, h1, sb, r1, and_self, and_false, false_and, true_and, not_false_eq_true, not_true_eq_false, ↓reduceIte]
def jdg (sh fr to : Int32) : Int32 := if sh = -1 then 0 else if sh ≤ to then (if fr ≤ sh then 2 else 1) else 3
theorem c_judged {c : p_M} {a b s t : Nat → Int32} {M j p l P nb : Nat} (hS : Sh c) (hX : MeaX c a b s t M) (hj : j < 40) (hP : P ≤ 60) (S : LotS c l P nb) (hp : p < P) (e6 : mI c (l + 6) p = lastM a b j p M) (day : Int32) : F_X6_shadeOn 38 (mI c (l + 6) p) day c = some (shd a b s t j p day M, c) ∧ F_X12_judged 0 l (nI p) day c = some (jdg (shd a b s t j p day M) (mI c l 4) (mI c l 5), c) := by
  have r1 : F_X6_shadeOn 38 (lastM a b j p M) day c = some (shd a b s t j p day M, c) := c_shade hS hX hj (by omega) day M M 0 p_fu (Nat.le_refl _) (by omega) (by have := hX.1; show M < 100000; omega)
  obtain ⟨s0, s1, -, -, -, s5, -, -, -, -, s10, s11⟩ := S
  have ip := ix_nI hp (by omega)
  have kp := nI_clamp (show p < 2 ^ 31 by omega)
  refine ⟨by rw [e6]; exact r1, ?_⟩
  have r2 : F_X4_judge l (shd a b s t j p day M) c = some (jdg (shd a b s t j p day M) (mI c l 4) (mI c l 5), c) := by
    unfold jdg
    by_cases h1 : shd a b s t j p day M = -1
    · rw [if_pos h1]
      simp only [F_X4_judge, h1, not_true_eq_false, ↓reduceIte]
    · rw [if_neg h1]
      by_cases h2 : shd a b s t j p day M ≤ mI c l 5
      · rw [if_pos h2]
        by_cases h3 : mI c l 4 ≤ shd a b s t j p day M
        · rw [if_pos h3]
          simp only [F_X4_judge, F_X4_judge_c30, p_ok, s1, h1, h2, h3, and_self, not_false_eq_true, ↓reduceIte]
        · rw [if_neg h3]
          simp only [F_X4_judge, F_X4_judge_c30, p_ok, s1, h1, h2, h3, and_self, not_false_eq_true, ↓reduceIte]
      · rw [if_neg h2]
        simp only [F_X4_judge, F_X4_judge_c30, p_ok, s1, h1, h2, and_self, not_false_eq_true, ↓reduceIte]
  simp only [F_X12_judged, bd_some, p_ok, s_o0 hS, s_r0_0 hS, s_r0_1 hS, s_r0_10 hS, s_r0_11 hS, s_r0_12 hS, s_r0_14 hS, s_r0_16 hS, s_r0_19 hS, s_r0_7 hS, s_r0_8 hS, s_r0_9 hS, s_o38 hS, s1, s5, s10, s11, ip, kp, hp, e6, r1, r2, and_self, true_and, not_false_eq_true, ↓reduceIte]
theorem m_known {m : p_M} {M j p : Nat} (hM : M ≤ 250) (hj : j < 40) (e69 : mI m 65 69 = nI M) (hs : ∀ k, k < M → ∃ x : Nat, x ≤ 255 ∧ mI m 106 k = nI x) (day : Int32) : F_X13_shadeOf (nI j) (nI p) day m = some (shd (mI m 104) (mI m 105) (mI m 106) (mI m 107) j p day M, m) ∧ F_X13_knownOf (nI j) (nI p) day m = some (jdg (shd (mI m 104) (mI m 105) (mI m 106) (mI m 107) j p day M) (mI m 92 j) (mI m 93 j), m) := by
  have r0 := m_shade (m := m) hM j p day M p_fu (Nat.le_refl _) (by show M < 100000; omega)
  have r1 : F_X13_shadeOf (nI j) (nI p) day m = some (shd (mI m 104) (mI m 105) (mI m 106) (mI m 107) j p day M, m) := by
    unfold F_X13_shadeOf tM
    rw [e69]
    exact r0
  refine ⟨r1, ?_⟩
  have ij := ix_nI hj (by decide)
  have kj := nI_clamp (show j < 2 ^ 31 by omega)
  unfold jdg
  rcases shd_ok (a := mI m 104) (b := mI m 105) (t := mI m 107) (j := j) (p := p) (day := day) hs M (Nat.le_refl _) with h | ⟨x, hx, h⟩
  · rw [h] at r1
    rw [if_pos h]
    have q : ¬ (0 : Int32) ≤ -1 := by decide
    simp only [F_X13_knownOf, F_X13_knownOf_c49, bd_some, r1, q, ↓reduceIte]
  · rw [h] at r1 ⊢
    rw [if_neg (nI_nm1 (show x < 2 ^ 31 by omega))]
    have q : (0 : Int32) ≤ nI x := nI_pos' (by omega)
    by_cases h2 : nI x ≤ mI m 93 j
    · rw [if_pos h2]
      by_cases h3 : mI m 92 j ≤ nI x
      · rw [if_pos h3]
        simp only [F_X13_knownOf, F_X13_knownOf_c49, bd_some, p_ok, aM, r1, q, ij, kj, hj, h2, h3, and_self, true_and, not_false_eq_true, ↓reduceIte]
      · rw [if_neg h3]
        simp only [F_X13_knownOf, F_X13_knownOf_c49, bd_some, p_ok, aM, r1, q, ij, kj, hj, h2, h3, and_self, true_and, not_false_eq_true, ↓reduceIte]
    · rw [if_neg h2]
      simp only [F_X13_knownOf, F_X13_knownOf_c49, bd_some, p_ok, aM, r1, q, ij, kj, hj, h2, and_self, true_and, not_false_eq_true, ↓reduceIte]
theorem MeaX_of {c m : p_M} {N M : Nat} (hN : N ≤ 40) (h : MeaR (mg c m) N M) : MeaX c (mI m 104) (mI m 105) (mI m 106) (mI m 107) M := by
  obtain ⟨h1, h2, -, -, h5⟩ := h
  refine ⟨h1, h2, fun k hk => ?_⟩
  obtain ⟨g1, g2, ⟨x, -, g3, g3'⟩, -, j, p, j1, p1, g4, g5, g6⟩ := h5 k hk
  exact ⟨g1, g2, ⟨x, g3, g3'⟩, j, p, by omega, p1, g4, g5, g6⟩
