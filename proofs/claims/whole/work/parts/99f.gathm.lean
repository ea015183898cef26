/-! gathering: all lots of the class; the Model -/
theorem c_gathL {μ : p_M} {N M d E : Nat} {lr P : Nat → Nat} {cv : Int32} (hB : GB μ N M d lr P) (e37 : mI μ 37 2 = nI N) (hE : LstE μ N E lr) : ∀ (r j f : Nat) (c : p_M) (s : Nat × (Nat → Nat)), j + r = N → r < f → Fq [38, 42] [] μ c → (∀ k, k ≠ 9 → mI c 38 k = mI μ 38 k) → GrC c s.1 s.2 → GI N P (fmg μ) M s j 0 → ∃ c', F_X12_findPacks_c9 f 0 cv (nI j) c = F_X12_findPacks_c9 1 0 cv (nI N) c' ∧ Fq [38, 42] [] μ c' ∧ (∀ k, k ≠ 9 → mI c' 38 k = mI μ 38 k) ∧ GrC c' (gL (gdg μ d M cv) (cdg μ d M) P r j s).1 (gL (gdg μ d M cv) (cdg μ d M) P r j s).2 ∧ GI N P (fmg μ) M (gL (gdg μ d M cv) (cdg μ d M) P r j s) N 0 := by
  have hB0 := hB
  obtain ⟨hS, hN, t1, -, -, hme, hL⟩ := hB
  intro r
  induction r with
  | zero =>
    intro j f c s hj hf fq h38 hG hI
    obtain ⟨f, rfl⟩ : ∃ k, f = k + 1 := ⟨f - 1, by omega⟩
    have hj : j = N := by omega
    subst hj
    have c1 : nI j ≤ nI j := nI_le (Nat.le_refl _) (by omega)
    have hSc := Sh_q fq hS
    have o37 : 37 < mN c ∧ mK c 37 = 0 := ⟨(s_o37 hSc).2, (s_o37 hSc).1⟩
    have e37' : mI c 37 2 = nI j := by rw [fq.2.1 37 (by decide) (by decide)]; exact e37
    refine ⟨c, ?_, fq, h38, hG, hI⟩
    rw [show (1 : Nat) = 0 + 1 from rfl]
    simp only [F_X12_findPacks_c9, bd_some, p_ok, s_o0 hSc, s_r0_0 hSc, s_r0_1 hSc, s_r0_10 hSc, s_r0_11 hSc, s_r0_12 hSc, s_r0_14 hSc, s_r0_16 hSc, s_r0_19 hSc, s_r0_7 hSc, s_r0_8 hSc, s_r0_9 hSc, o37, e37', c1, and_self, ↓reduceIte]
  | succ r ih =>
    intro j f c s hj hf fq h38 hG hI
    obtain ⟨f, rfl⟩ : ∃ k, f = k + 1 := ⟨f - 1, by omega⟩
    have jN : j < N := by omega
    have c1 : ¬ nI N ≤ nI j := nI_ge jN (by omega)
    have aj : nI j + 1 = nI (j + 1) := nI_add j 1
    have kj := nI_clamp (show j < 2 ^ 31 by omega)
    have nj : ¬ nI j < 0 := nI_pos (by omega)
    have ljN : nI j < nI N := nI_lt jN (by omega)
    have hSc := Sh_q fq hS
    have Kq : mK c = mK μ := by show c.2.2.2.1 = μ.2.2.2.1; rw [fq.1]
    have Nq : mN c = mN μ := by show c.2.2.2.2.2.1 = μ.2.2.2.2.2.1; rw [fq.1]
    have Rq : mR c = mR μ := by show c.2.1 = μ.2.1; rw [fq.1]
    have Lq : mL c = mL μ := by show c.2.2.2.2.1 = μ.2.2.2.2.1; rw [fq.1]
    have o37 : 37 < mN μ ∧ mK μ 37 = 0 := ⟨(s_o37 hS).2, (s_o37 hS).1⟩
    have e37' : mI c 37 2 = nI N := by rw [fq.2.1 37 (by decide) (by decide)]; exact e37
    rcases hE with ⟨q, -⟩ | ⟨q1, q2, q3, q4, q5, q6, -, q8⟩
    · omega
    have q9 := q8 j jN
    have ljE : j < mL μ E := by omega
    obtain ⟨⟨nb, S⟩, e1, -, hP, Pz, Pm, w0, w9, e4, e5⟩ := hL j jN
    have hl : 113 ≤ lr j := S.1
    have row : ∀ a, 113 ≤ a → mI c a = mI μ a := fun a ha => fq.2.1 a (by omega) (by simp only [List.mem_cons, List.not_mem_nil, or_false]; omega)
    have w0' : mI c (lr j) 0 = mI μ 89 j := by rw [row _ hl]; exact w0
    have w9' : mI c (lr j) 9 = mI μ 96 j := by rw [row _ hl]; exact w9
    unfold gL
    by_cases h1 : mI μ 89 j = cv
    · by_cases h2 : mI μ 96 j = 3
      · obtain ⟨c', g1, g2, g3, g4, g5⟩ := c_gath hB0 jN h1 h2 (P j) 0 p_fu c s (by omega) (show P j < 100000 by omega) fq h38 hG hI
        obtain ⟨c'', k1, k2⟩ := ih (j + 1) f c' _ (by omega) (by omega) g2 g3 g4 (GI_skip g5 (by omega) (by omega))
        refine ⟨c'', ?_, k2⟩
        have g1 : F_X12_gatherGood 0 (nI j) (lr j) c = some (0, c') := g1
        simp only [F_X12_findPacks_c9, F_X12_findPacks_c54, bd_some, p_ok, Kq, Nq, Rq, Lq, s_o0 hS, s_r0_0 hS, s_r0_1 hS, s_r0_10 hS, s_r0_11 hS, s_r0_12 hS, s_r0_14 hS, s_r0_16 hS, s_r0_19 hS, s_r0_7 hS, s_r0_8 hS, s_r0_9 hS, o37, e37', c1, nj, ljN, q2, q4, q5, kj, ljE, q9, S.2.1, w0', h1, w9', h2, g1, aj, and_self, true_and, not_true_eq_false, not_false_eq_true, ↓reduceIte]
        exact k1
      · have hno : gP (gdg μ d M cv j) (cdg μ d M j) (P j) 0 s = s := gP_no (fun p => decide_eq_false (fun h => h2 h.2.1)) _ _ _
        rw [hno]
        obtain ⟨c'', k1, k2⟩ := ih (j + 1) f c s (by omega) (by omega) fq h38 hG (GI_skip hI (by omega) (by omega))
        refine ⟨c'', ?_, k2⟩
        simp only [F_X12_findPacks_c9, F_X12_findPacks_c54, bd_some, p_ok, Kq, Nq, Rq, Lq, s_o0 hS, s_r0_0 hS, s_r0_1 hS, s_r0_10 hS, s_r0_11 hS, s_r0_12 hS, s_r0_14 hS, s_r0_16 hS, s_r0_19 hS, s_r0_7 hS, s_r0_8 hS, s_r0_9 hS, o37, e37', c1, nj, ljN, q2, q4, q5, kj, ljE, q9, S.2.1, w0', h1, w9', h2, aj, and_self, true_and, not_true_eq_false, not_false_eq_true, ↓reduceIte]
        exact k1
    · have hno : gP (gdg μ d M cv j) (cdg μ d M j) (P j) 0 s = s := gP_no (fun p => decide_eq_false (fun h => h1 h.1)) _ _ _
      rw [hno]
      obtain ⟨c'', k1, k2⟩ := ih (j + 1) f c s (by omega) (by omega) fq h38 hG (GI_skip hI (by omega) (by omega))
      refine ⟨c'', ?_, k2⟩
      simp only [F_X12_findPacks_c9, F_X12_findPacks_c54, bd_some, p_ok, Kq, Nq, Rq, Lq, s_o0 hS, s_r0_0 hS, s_r0_1 hS, s_r0_10 hS, s_r0_11 hS, s_r0_12 hS, s_r0_14 hS, s_r0_16 hS, s_r0_19 hS, s_r0_7 hS, s_r0_8 hS, s_r0_9 hS, o37, e37', c1, nj, ljN, q2, q4, q5, kj, ljE, q9, S.2.1, w0', h1, aj, and_self, true_and, not_false_eq_true, ↓reduceIte]
      exact k1
/-- what the Model holds of them -/
def SrM (m : p_M) (s : Nat × (Nat → Nat)) : Prop := mI m 65 73 = nI s.1 ∧ ∃ T : Nat → Nat, srt T s.1 s.2 ∧ ∀ i, i < s.1 → mI m 109 i = nI (sha (T i)) ∧ mI m 108 i = nI (60 * lof (T i) + pof (T i))
theorem m_ins {n x j p : Nat} {T : Nat → Nat} {A B : Nat → Int32} {cv : Int32} (K7 : Int32 → Int32 → p_M → Option (Int32 × p_M)) (K17 : Int32 → Int32 → Int32 → p_M → Option (Int32 × p_M)) (hn : n < 2400) (hx : x ≤ 255) (hA : ∀ i, i < n → A i = nI (sha (T i)) ∧ sha (T i) ≤ 255) (hT : ∀ i j, i < j → j < n → T i < T j) : ∀ (a f : Nat) (m : p_M), a ≤ n → a < f → mI m 65 73 = nI n → (∀ i, mI m 109 i = if a < i ∧ i ≤ n then A (i - 1) else A i) → (∀ i, mI m 108 i = if a < i ∧ i ≤ n then B (i - 1) else B i) → (∀ i, a ≤ i → i < n → x < sha (T i)) → ∃ a' m', F_X13_gathers_c96 K7 K17 f cv (nI j) (nI p) (nI x) (nI a) m = K17 cv (nI j) (nI p + 1) m' ∧ a' ≤ n ∧ (∀ i, i < a' → sha (T i) ≤ x) ∧ (∀ i, a' ≤ i → i < n → x < sha (T i)) ∧ mI m' 65 73 = nI (n + 1) ∧ (∀ i, i ≤ n → mI m' 109 i = if i < a' then A i else if i = a' then nI x else A (i - 1)) ∧ (∀ i, i ≤ n → mI m' 108 i = if i < a' then B i else if i = a' then nI (60 * j + p) else B (i - 1)) ∧ Fq [108, 109] [73] m m' := by
  have e60 : 60 * nI j + nI p = nI (60 * j + p) := by rw [show (60 : Int32) = nI 60 from rfl, pk_mul, nI_add]
  have an : nI n + 1 = nI (n + 1) := nI_add n 1
  have stop : ∀ (a : Nat) (m : p_M), a ≤ n → mI m 65 73 = nI n → (∀ i, mI m 109 i = if a < i ∧ i ≤ n then A (i - 1) else A i) → (∀ i, mI m 108 i = if a < i ∧ i ≤ n then B (i - 1) else B i) → ∃ m', F_X13_gathers_c153 K7 K17 cv (nI j) (nI p) (nI x) (nI a) m = K17 cv (nI j) (nI p + 1) m' ∧ mI m' 65 73 = nI (n + 1) ∧ (∀ i, i ≤ n → mI m' 109 i = if i < a then A i else if i = a then nI x else A (i - 1)) ∧ (∀ i, i ≤ n → mI m' 108 i = if i < a then B i else if i = a then nI (60 * j + p) else B (i - 1)) ∧ Fq [108, 109] [73] m m' := fun a m ha e73 h9 h8 => by
    have ia := ix_nI (show a < 2400 by omega) (by decide)
    have ka := nI_clamp (show a < 2 ^ 31 by omega)
    have la : a < 2400 := by omega
    refine ⟨sI (sI (sI m 109 a (nI x)) 108 a (nI (60 * j + p))) 65 73 (nI (n + 1)), ?_, rfl, fun i hi => ?_, fun i hi => ?_, Fq_s65 (Fq_sI (Fq_sI (Fq_refl m) (by decide)) (by decide)) (by decide)⟩
    · simp only [F_X13_gathers_c153, F_X13_gathers_c185, p_ok, tM, aM, ia, ka, la, e60, mI_sI, Nat.reduceEqDiff, e73, an, and_self, true_and, not_false_eq_true, ↓reduceIte]
    · simp only [mI_sI, Nat.reduceEqDiff, ↓reduceIte, z_up]
      rw [h9]
      by_cases c1 : i = a
      · rw [if_pos c1, if_neg (by omega), if_pos c1]
      · rw [if_neg c1]
        by_cases c2 : i < a
        · rw [if_pos c2, if_neg (by omega)]
        · rw [if_neg c2, if_neg c1, if_pos (by omega)]
    · simp only [mI_sI, Nat.reduceEqDiff, ↓reduceIte, z_up]
      rw [h8]
      by_cases c1 : i = a
      · rw [if_pos c1, if_neg (by omega), if_pos c1]
      · rw [if_neg c1]
        by_cases c2 : i < a
        · rw [if_pos c2, if_neg (by omega)]
        · rw [if_neg c2, if_neg c1, if_pos (by omega)]
  intro a
  induction a with
  | zero =>
    intro f m ha hf e73 h9 h8 hgt
    obtain ⟨f, rfl⟩ : ∃ k, f = k + 1 := ⟨f - 1, by omega⟩
    obtain ⟨m', g1, g2, g3, g4, g5⟩ := stop 0 m ha e73 h9 h8
    refine ⟨0, m', ?_, Nat.zero_le _, fun i hi => absurd hi (Nat.not_lt_zero _), fun i _ hi => hgt i (by omega) hi, g2, g3, g4, g5⟩
    have c1 : nI 0 ≤ 0 := by decide
    simp only [F_X13_gathers_c96, c1, ↓reduceIte]
    exact g1
  | succ a ih =>
    intro f m ha hf e73 h9 h8 hgt
    obtain ⟨f, rfl⟩ : ∃ k, f = k + 1 := ⟨f - 1, by omega⟩
    have c1 : ¬ nI (a + 1) ≤ 0 := nI_nle (by omega) (by omega)
    have sb : nI (a + 1) - 1 = nI a := nI_pred a
    have sb2 : nI (a + 1) + (-1) = nI a := pk_m1 a
    have ia := ix_nI (show a < 2400 by omega) (by decide)
    have ka := nI_clamp (show a < 2 ^ 31 by omega)
    have la : a < 2400 := by omega
    have ia1 := ix_nI (show a + 1 < 2400 by omega) (by decide)
    have ka1 := nI_clamp (show a + 1 < 2 ^ 31 by omega)
    have la1 : a + 1 < 2400 := by omega
    obtain ⟨hA1, hA2⟩ := hA a (by omega)
    have e9 : mI m 109 a = nI (sha (T a)) := by rw [h9, if_neg (by omega)]; exact hA1
    have e8 : mI m 108 a = B a := by rw [h8, if_neg (by omega)]
    by_cases c2 : sha (T a) ≤ x
    · have c2' : nI (sha (T a)) ≤ nI x := nI_le c2 (by omega)
      obtain ⟨m', g1, g2, g3, g4, g5⟩ := stop (a + 1) m ha e73 h9 h8
      refine ⟨a + 1, m', ?_, ha, fun i hi => ?_, hgt, g2, g3, g4, g5⟩
      · simp only [F_X13_gathers_c96, p_ok, aM, c1, sb, ia, ka, la, e9, c2', and_self, true_and, not_false_eq_true, ↓reduceIte]
        exact g1
      · by_cases c : i = a
        · rw [c]; exact c2
        · have := hT i a (by omega) (by omega)
          unfold sha at *
          omega
    · have c2' : ¬ nI (sha (T a)) ≤ nI x := nI_ge (by omega) (by omega)
      have f1 : Fq [108, 109] [73] m (sI (sI m 109 (a + 1) (nI (sha (T a)))) 108 (a + 1) (B a)) := Fq_sI (Fq_sI (Fq_refl m) (by decide)) (by decide)
      obtain ⟨a', m', g1, g2⟩ := ih f (sI (sI m 109 (a + 1) (nI (sha (T a)))) 108 (a + 1) (B a)) (by omega) (by omega) (by simp only [mI_sI, Nat.reduceEqDiff, ↓reduceIte]; exact e73) (fun i => by
        simp only [mI_sI, Nat.reduceEqDiff, ↓reduceIte, z_up]
        rw [h9]
        by_cases c : i = a + 1
        · rw [if_pos c, if_pos (by omega), c, Nat.add_sub_cancel]; exact hA1.symm
        · rw [if_neg c]
          by_cases c3 : a + 1 < i ∧ i ≤ n
          · rw [if_pos c3, if_pos (by omega)]
          · rw [if_neg c3, if_neg (by omega)]) (fun i => by
        simp only [mI_sI, Nat.reduceEqDiff, ↓reduceIte, z_up]
        rw [h8]
        by_cases c : i = a + 1
        · rw [if_pos c, if_pos (by omega), c, Nat.add_sub_cancel]
        · rw [if_neg c]
          by_cases c3 : a + 1 < i ∧ i ≤ n
          · rw [if_pos c3, if_pos (by omega)]
          · rw [if_neg c3, if_neg (by omega)]) (fun i h1 h2 => by
        by_cases c : i = a
        · rw [c]; omega
        · exact hgt i (by omega) h2)
      obtain ⟨g2, g3, g4, g5, g6, g7, g8⟩ := g2
      refine ⟨a', m', ?_, g2, g3, g4, g5, g6, g7, Fq_trans f1 g8⟩
      simp only [F_X13_gathers_c96, p_ok, aM, c1, sb, sb2, ia, ka, la, ia1, ka1, la1, e9, c2', mI_sI, Nat.reduceEqDiff, e8, and_self, true_and, not_false_eq_true, ↓reduceIte]
      exact g1
theorem bd_s2 {α β : Type} (x : α) (f : α → Option β) : (some x).bind f = f x := by
  have h : ∀ o : Option α, o = some x → o.bind f = f x := fun o e => by subst e; rfl
  exact h _ rfl
/-- the Model reads the same -/
def SmR (μ m : p_M) : Prop := (∀ a, a ∈ [84, 89, 90, 92, 93, 95, 96, 103, 104, 105, 106, 107] → mI m a = mI μ a) ∧ ∀ k, k ∈ [42, 62, 69] → mI m 65 k = mI μ 65 k
theorem SmR_q {μ m m' : p_M} (h : SmR μ m) (f : Fq [108, 109] [73] m m') : SmR μ m' := ⟨fun a ha => by
  rw [f.2.1 a (by simp only [List.mem_cons, List.not_mem_nil, or_false] at ha; omega) (by simp only [List.mem_cons, List.not_mem_nil, or_false] at ha ⊢; omega)]; exact h.1 a ha, fun k hk => by
  rw [f.2.2 k (by simp only [List.mem_cons, List.not_mem_nil, or_false] at hk ⊢; omega)]; exact h.2 k hk⟩
theorem m_gath {μ : p_M} {N M d j : Nat} {lr P : Nat → Nat} {cv : Int32} (hB : GB μ N M d lr P) (hj : j < N) (K7 : Int32 → Int32 → p_M → Option (Int32 × p_M)) : ∀ (r p f : Nat) (m : p_M) (s : Nat × (Nat → Nat)), p + r = P j → r < f → SmR μ m → SrM m s → GI N P (fmg μ) M s j p → ∃ m', F_X13_gathers_c17 K7 f cv (nI j) (nI p) m = K7 cv (nI j + 1) m' ∧ Fq [108, 109] [73] m m' ∧ SrM m' (gP (gdg μ d M cv j) (cdg μ d M j) r p s) ∧ GI N P (fmg μ) M (gP (gdg μ d M cv j) (cdg μ d M j) r p s) j (P j) := by
  obtain ⟨hS, hN, -, t2, -, hme, hL⟩ := hB
  obtain ⟨-, -, e90, hP, -⟩ := hL j hj
  have hPall : ∀ j, j < N → P j ≤ 60 := fun j hj => by obtain ⟨-, -, -, hP, -⟩ := hL j hj; exact hP.2
  have j40 : j < 40 := by omega
  have ij := ix_nI j40 (by decide)
  have kj := nI_clamp (show j < 2 ^ 31 by omega)
  have m60 : 60 * nI j = nI (60 * j) := pk_mul 60 j
  intro r
  induction r with
  | zero =>
    intro p f m s hp hf hm hT hI
    obtain ⟨f, rfl⟩ : ∃ k, f = k + 1 := ⟨f - 1, by omega⟩
    have hp : p = P j := by omega
    subst hp
    have c1 : nI (P j) ≤ nI (P j) := nI_le (Nat.le_refl _) (by omega)
    have e90' : mI m 90 j = nI (P j) := by rw [hm.1 90 (by decide)]; exact e90
    refine ⟨m, ?_, Fq_refl m, hT, hI⟩
    simp only [F_X13_gathers_c17, p_ok, aM, ij, kj, j40, e90', c1, and_self, true_and, not_false_eq_true, ↓reduceIte]
  | succ r ih =>
    intro p f m s hp hf hm hT hI
    obtain ⟨f, rfl⟩ : ∃ k, f = k + 1 := ⟨f - 1, by omega⟩
    have c1 : ¬ nI (P j) ≤ nI p := nI_ge (by omega) (by omega)
    have a60 : nI (60 * j) + nI p = nI (60 * j + p) := nI_add _ _
    have i1 := ix_nI (show 60 * j + p < 2400 by omega) (by decide)
    have k1 := nI_clamp (show 60 * j + p < 2 ^ 31 by omega)
    have l1 : 60 * j + p < 2400 := by omega
    have ap : nI p + 1 = nI (p + 1) := nI_add p 1
    have e90' : mI m 90 j = nI (P j) := by rw [hm.1 90 (by decide)]; exact e90
    have e89 : mI m 89 j = mI μ 89 j := by rw [hm.1 89 (by decide)]
    have e96 : mI m 96 j = mI μ 96 j := by rw [hm.1 96 (by decide)]
    have e103 : mI m 103 (60 * j + p) = mI μ 103 (60 * j + p) := by rw [hm.1 103 (by decide)]
    have e42 : mI m 65 42 = nI d := by rw [hm.2 42 (by decide)]; exact t2
    have hkn := m_known (m := m) (M := M) (j := j) (p := p) hme.1 j40 (by rw [hm.2 69 (by decide)]; exact hme.2.2.1) (fun k hk => by
      obtain ⟨-, -, ⟨x, -, q3, q3'⟩, -⟩ := hme.2.2.2.2 k hk
      exact ⟨x, q3, by rw [hm.1 106 (by decide)]; exact q3'⟩) (nI d)
    rw [hm.1 104 (by decide), hm.1 105 (by decide), hm.1 106 (by decide), hm.1 107 (by decide), hm.1 92 (by decide), hm.1 93 (by decide)] at hkn
    obtain ⟨j1, j2⟩ := hkn
    have j1 : F_X13_shadeOf (nI j) (nI p) (nI d) m = some (shg μ d M j p, m) := j1
    have j2 : F_X13_knownOf (nI j) (nI p) (nI d) m = some (jjg μ d M j p, m) := j2
    unfold gP
    have skip : (¬ gdg μ d M cv j p = true) → ∃ m', F_X13_gathers_c17 K7 f cv (nI j) (nI (p + 1)) m = K7 cv (nI j + 1) m' ∧ Fq [108, 109] [73] m m' ∧ SrM m' (gP (gdg μ d M cv j) (cdg μ d M j) r (p + 1) (if gdg μ d M cv j p = true then gpush s (cdg μ d M j p) else s)) ∧ GI N P (fmg μ) M (gP (gdg μ d M cv j) (cdg μ d M j) r (p + 1) (if gdg μ d M cv j p = true then gpush s (cdg μ d M j p) else s)) j (P j) := fun h => by
      rw [if_neg h]
      exact ih (p + 1) f m s (by omega) (by omega) hm hT (GI_skip hI (by omega) (by omega))
    by_cases h1 : mI μ 89 j = cv
    · by_cases h2 : mI μ 96 j = 3
      · by_cases h3 : mI μ 103 (60 * j + p) = 0
        · by_cases h4 : jjg μ d M j p = 2
          · obtain ⟨⟨x, hx, ex, ec⟩, hmm⟩ := gd_good (cv := cv) hme j40 (show p < 60 by omega) h4
            have hgd : gdg μ d M cv j p = true := decide_eq_true ⟨h1, h2, h3, h4⟩
            rw [if_pos hgd, ec]
            have hI' := GI_push hI hj hN (show p < P j by omega) hP.2 hx hmm
            have hn : s.1 < 250 := by
              have h5 : s.1 + 1 ≤ cnt (hasM (fmg μ) M) (60 * j + (p + 1)) := hI'.2.2
              have h6 := cnt_has (fmg μ) (60 * j + (p + 1)) M
              have := hme.1
              omega
            obtain ⟨e73, T, hTs, hTr⟩ := hT
            have hTk : ∀ i, i < s.1 → okE N P (T i) ∧ T i % 4096 < 64 * j + p := fun i hi => by
              obtain ⟨k, q1, q2⟩ := hTs.2.1 i hi
              rw [q2]; exact hI.2.1 k q1
            obtain ⟨a', m', g1, g2, g3, g4, g5, g6, g7, g8⟩ := m_ins (n := s.1) (x := x) (j := j) (p := p) (T := T) (A := mI m 109) (B := mI m 108) (cv := cv) K7 (F_X13_gathers_c17 K7 f) (by omega) hx (fun i hi => ⟨(hTr i hi).1, (okE_b hN hPall (hTk i hi).1).2.1⟩) hTs.1 s.1 p_fu m (Nat.le_refl _) (show s.1 < 100000 by omega) e73 (fun i => by rw [if_neg (by omega)]) (fun i => by rw [if_neg (by omega)]) (fun i h1 h2 => by omega)
            have em : sha (4096 * x + 64 * j + p) = x := by unfold sha; omega
            have el : lof (4096 * x + 64 * j + p) = j := by unfold lof; omega
            have ep : pof (4096 * x + 64 * j + p) = p := by unfold pof; omega
            have hT' : SrM m' (gpush s (4096 * x + 64 * j + p)) := by
              refine ⟨g5, _, srt_ins (e := 4096 * x + 64 * j + p) (at' := a') hTs g2 (fun i hi => ?_) (fun i h5 h6 => ?_), fun i hi => ?_⟩
              · have q1 := g3 i hi
                have q2 := (hTk i (by omega)).2
                unfold sha at q1
                omega
              · have q1 := g4 i h5 h6
                unfold sha at q1
                omega
              · have hi : i < s.1 + 1 := hi
                rw [g6 i (by omega), g7 i (by omega)]
                by_cases c2 : i < a'
                · rw [if_pos c2, if_pos c2, if_pos c2]; exact hTr i (by omega)
                · rw [if_neg c2, if_neg c2, if_neg c2]
                  by_cases c3 : i = a'
                  · rw [if_pos c3, if_pos c3, if_pos c3, em, el, ep]; exact ⟨rfl, rfl⟩
                  · rw [if_neg c3, if_neg c3, if_neg c3]; exact hTr (i - 1) (by omega)
            obtain ⟨m'', k1', k2, k3⟩ := ih (p + 1) f m' (gpush s (4096 * x + 64 * j + p)) (by omega) (by omega) (SmR_q hm g8) hT' hI'
            refine ⟨m'', ?_, Fq_trans g8 k2, k3⟩
            rw [ex] at j1
            rw [ap, k1'] at g1
            have hst : F_X13_gathers_c17 K7 (f + 1) cv (nI j) (nI p) m = F_X13_gathers_c96 K7 (F_X13_gathers_c17 K7 f) p_fu cv (nI j) (nI p) (nI x) (nI s.1) m := by
              unfold F_X13_gathers_c17 tM aM
              simp only [bd_s2, p_ok, ij, kj, j40, e90', c1, e89, h1, e96, h2, m60, a60, i1, k1, l1, e103, h3, e42, j2, h4, j1, e73, and_self, true_and, not_true_eq_false, not_false_eq_true, ↓reduceIte]
            rw [hst]
            exact g1
          · obtain ⟨m', g1, g2⟩ := skip (fun h => h4 (of_decide_eq_true h).2.2.2)
            refine ⟨m', ?_, g2⟩
            simp only [F_X13_gathers_c17, F_X13_gathers_c185, bd_some, p_ok, tM, aM, ij, kj, j40, e90', c1, e89, h1, e96, h2, m60, a60, i1, k1, l1, e103, h3, e42, j2, h4, ap, and_self, true_and, not_true_eq_false, not_false_eq_true, ↓reduceIte]
            exact g1
        · obtain ⟨m', g1, g2⟩ := skip (fun h => h3 (of_decide_eq_true h).2.2.1)
          refine ⟨m', ?_, g2⟩
          simp only [F_X13_gathers_c17, F_X13_gathers_c185, p_ok, tM, aM, ij, kj, j40, e90', c1, e89, h1, e96, h2, m60, a60, i1, k1, l1, e103, h3, ap, and_self, true_and, not_true_eq_false, not_false_eq_true, ↓reduceIte]
          exact g1
      · obtain ⟨m', g1, g2⟩ := skip (fun h => h2 (of_decide_eq_true h).2.1)
        refine ⟨m', ?_, g2⟩
        simp only [F_X13_gathers_c17, F_X13_gathers_c185, p_ok, aM, ij, kj, j40, e90', c1, e89, h1, e96, h2, ap, and_self, true_and, not_true_eq_false, not_false_eq_true, ↓reduceIte]
        exact g1
    · obtain ⟨m', g1, g2⟩ := skip (fun h => h1 (of_decide_eq_true h).1)
      refine ⟨m', ?_, g2⟩
      simp only [F_X13_gathers_c17, F_X13_gathers_c185, p_ok, aM, ij, kj, j40, e90', c1, e89, h1, ap, and_self, true_and, not_false_eq_true, ↓reduceIte]
      exact g1
theorem m_gathL {μ : p_M} {N M d : Nat} {lr P : Nat → Nat} {cv : Int32} (hB : GB μ N M d lr P) : ∀ (r j f : Nat) (m : p_M) (s : Nat × (Nat → Nat)), j + r = N → r < f → SmR μ m → SrM m s → GI N P (fmg μ) M s j 0 → ∃ m', F_X13_gathers_c7 f cv (nI j) m = some (0, m') ∧ Fq [108, 109] [73] m m' ∧ SrM m' (gL (gdg μ d M cv) (cdg μ d M) P r j s) ∧ GI N P (fmg μ) M (gL (gdg μ d M cv) (cdg μ d M) P r j s) N 0 := by
  have hB0 := hB
  obtain ⟨hS, hN, -, t2, e62, hme, hL⟩ := hB
  intro r
  induction r with
  | zero =>
    intro j f m s hj hf hm hT hI
    obtain ⟨f, rfl⟩ : ∃ k, f = k + 1 := ⟨f - 1, by omega⟩
    have hj : j = N := by omega
    subst hj
    have c1 : nI j ≤ nI j := nI_le (Nat.le_refl _) (by omega)
    have e62' : mI m 65 62 = nI j := by rw [hm.2 62 (by decide)]; exact e62
    refine ⟨m, ?_, Fq_refl m, hT, hI⟩
    simp only [F_X13_gathers_c7, tM, e62', c1, ↓reduceIte]
  | succ r ih =>
    intro j f m s hj hf hm hT hI
    obtain ⟨f, rfl⟩ : ∃ k, f = k + 1 := ⟨f - 1, by omega⟩
    have jN : j < N := by omega
    have c1 : ¬ nI N ≤ nI j := nI_ge jN (by omega)
    have aj : nI j + 1 = nI (j + 1) := nI_add j 1
    have e62' : mI m 65 62 = nI N := by rw [hm.2 62 (by decide)]; exact e62
    obtain ⟨-, -, -, hP, -⟩ := hL j jN
    obtain ⟨m', g1, g2, g3, g4⟩ := m_gath (cv := cv) hB0 jN (F_X13_gathers_c7 f) (P j) 0 p_fu m s (by omega) (show P j < 100000 by omega) hm hT hI
    obtain ⟨m'', k1, k2, k3⟩ := ih (j + 1) f m' _ (by omega) (by omega) (SmR_q hm g2) g3 (GI_skip g4 (by omega) (by omega))
    refine ⟨m'', ?_, Fq_trans g2 k2, k3⟩
    rw [aj, k1] at g1
    simp only [F_X13_gathers_c7, tM, e62', c1, ↓reduceIte]
    exact g1
