/-! recipe -/
def recO (f : Nat → Int32) (e : Nat) : Nat ⊕ (Nat × (Nat → Int32) × (Nat → Int32)) := if bl f e 0 < e then recP f e (e - bl f e 0 + 1) 0 (bl f e 0) (fun _ => 0) (fun _ => 0) else .inr (0, fun _ => 0, fun _ => 0)
theorem c_read {f : Nat → Int32} {e R B A : Nat} {μ : p_M} (hS : Sh μ) (hT : Tx μ f e 0) (h3 : mI μ 1 3 = -1) (hi : isRec μ R B A 20) (hR : RBA R B A) : ∃ μ', F_X8_read R 1 μ = some (0, μ') ∧ Fq [1, R, B, A] [] μ μ' ∧ cOut e R B A μ' (recO f e) := by
  have R65 : R ≠ 65 := by rcases hR with h | h <;> omega
  have m1 : 1 ∈ [1, R, B, A] ∧ 1 ≠ 65 := ⟨List.mem_cons_self, by decide⟩
  have mR' : R ∈ [1, R, B, A] ∧ R ≠ 65 := ⟨by simp, R65⟩
  have R1 : ¬ R = 1 := by rcases hR with h | h <;> omega
  have u1R : ¬ 1 = R := fun h => R1 h.symm
  have u2R : ¬ 2 = R := by rcases hR with h | h <;> omega
  have fq0 : Fq [1, R, B, A] [] μ (sI μ R 2 0) := Fq_sI (Fq_refl μ) mR'
  have hS0 := Sh_q fq0 hS
  have hT0 : Tx (sI μ R 2 0) f e 0 := by
    obtain ⟨t1, t2, t3, t4, t5⟩ := hT
    unfold Tx
    simp only [mI_sI, mR_sI, mK_sI, mN_sI, mL_sI, mI_sG, mR_sG, mK_sG, mN_sG, mL_sG, mI_sJ, mR_sJ, mK_sJ, mN_sJ, mL_sJ, mI_sA, mR_sA, mK_sA, mN_sA, mL_sA, z_up, ↓reduceIte, reduceIte, Nat.reduceEqDiff, true_and, and_true, u1R, u2R]
    exact ⟨t1, t2, t3, t4, t5⟩
  have h30 : mI (sI μ R 2 0) 1 3 = -1 := by simp only [mI_sI, mR_sI, mK_sI, mN_sI, mL_sI, mI_sG, mR_sG, mK_sG, mN_sG, mL_sG, mI_sJ, mR_sJ, mK_sJ, mN_sJ, mL_sJ, mI_sA, mR_sA, mK_sA, mN_sA, mL_sA, z_up, ↓reduceIte, reduceIte, Nat.reduceEqDiff, true_and, and_true, u1R]; exact h3
  have hb := bl_le (f := f) hT.2.2.2.2
  have ib := c_isBlank hS0 hT0
  have fq1 : Fq [1, R, B, A] [] (sI μ R 2 0) (cset (sI μ R 2 0) (bl f e 0)) := Fq_sI (Fq_refl _) m1
  have l1 : mI (cset (sI μ R 2 0) (bl f e 0)) R 2 = nI 0 := by rw [mI_csetO R1]; simp only [mI_sI, mR_sI, mK_sI, mN_sI, mL_sI, mI_sG, mR_sG, mK_sG, mN_sG, mL_sG, mI_sJ, mR_sJ, mK_sJ, mN_sJ, mL_sJ, mI_sA, mR_sA, mK_sA, mN_sA, mL_sA, z_up, ↓reduceIte, reduceIte, Nat.reduceEqDiff, true_and, and_true]; rfl
  have o1 := s_o1 hS0
  unfold recO
  by_cases c : bl f e 0 < e
  · rw [if_pos c] at ib ⊢
    obtain ⟨μ', p1, p2, p3⟩ := c_rec (f := f) (e := e) hR (e - bl f e 0 + 1) 0 (bl f e 0) p_fu (cset (sI μ R 2 0) (bl f e 0)) (fun _ => 0) (fun _ => 0) (by omega) (by decide) (by decide) (Sh_cset _ hS0) (Tx_cset hT0 hb.2) (mI_cset3.trans h30) (isRec_q fq1 (isRec_q fq0 hi)) l1 (fun j hj => by omega)
    have p1 : F_X8_read_c20 p_fu R 1 1 0 _ = _ := p1
    refine ⟨μ', ?_, Fq_trans fq0 (Fq_trans fq1 p2), p3⟩
    simp only [F_X8_read, F_X8_read_c17, bd_some, p_ok, p_let_eq, hi.1, o1, ib, p1, and_self, true_and, ↓reduceIte, not_true_eq_false]
  · rw [if_neg c] at ib ⊢
    refine ⟨cset (sI μ R 2 0) (bl f e 0), ?_, Fq_trans fq0 fq1, mI_cset3.trans h30, l1, fun j hj => by omega⟩
    have z20 : ¬ (20 : Int32) < 0 := by decide
    simp only [F_X8_read, F_X8_read_c17, bd_some, p_ok, p_let_eq, hi.1, o1, ib, and_self, true_and, ↓reduceIte, i_10, not_false_eq_true]
    rw [show p_fu = 99999 + 1 from rfl]
    simp only [F_X8_read_c20, F_X8_read_c46, z20, ↓reduceIte]
theorem m_read {f : Nat → Int32} {e : Nat} {μ : p_M} (hT : MT μ f e 0) : ∃ v μ', F_X13_readRecipe μ = some (v, μ') ∧ Fq [68, 69, 70] [3, 5] μ μ' ∧ (∀ j, j ≠ 41 → mI μ' 68 j = mI μ 68 j) ∧ (∀ j, j < 820 → mI μ' 69 j = mI μ 69 j ∧ mI μ' 70 j = mI μ 70 j) ∧ mOut v μ' (recO f e) := by
  have i41 : ¬ (41 : Int32) < 0 ∧ Int32.toNatClampNeg 41 < 42 := by decide
  have k41 : Int32.toNatClampNeg 41 = 41 := by decide
  have l41 : 41 < 42 := by decide
  have h4 := hT.2.2.2.1
  have hb := bl_le (f := f) hT.2.2.2.2
  have fm : ∀ (μ : p_M) (k b : Nat), Fq [68, 69, 70] [3, 5] μ (mset μ k b) := fun μ k b => Fq_mono (Fq_mset k b) (by decide) (by decide)
  have fq0 : Fq [68, 69, 70] [3, 5] μ (sI μ 68 41 0) := Fq_sI (Fq_refl μ) (by decide)
  have hT0 : MT (sI μ 68 41 0) f e 0 := by
    obtain ⟨t1, t2, t3, t4, t5⟩ := hT
    unfold MT
    simp only [mI_sI, mR_sI, mK_sI, mN_sI, mL_sI, mI_sG, mR_sG, mK_sG, mN_sG, mL_sG, mI_sJ, mR_sJ, mK_sJ, mN_sJ, mL_sJ, mI_sA, mR_sA, mK_sA, mN_sA, mL_sA, z_up, ↓reduceIte, reduceIte, Nat.reduceEqDiff, true_and, and_true]
    exact ⟨t1, t2, t3, t4, t5⟩
  have bk : F_X13_blanks (sI μ 68 41 0) = some (0, mset (sI μ 68 41 0) (bl f e 0) (bl f e 0)) := m_blanks' hT0
  have hT1 : MT (mset (sI μ 68 41 0) (bl f e 0) (bl f e 0)) f e (bl f e 0) := MT_mset hT0 hb.2
  have q34 : (nI (bl f e 0) = nI e) = (bl f e 0 = e) := propext (nI_eq (by omega) (by omega))
  have l1 : mI (mset (sI μ 68 41 0) (bl f e 0) (bl f e 0)) 68 41 = nI 0 := by rw [mI_msetO (by decide)]; simp only [mI_sI, mR_sI, mK_sI, mN_sI, mL_sI, mI_sG, mR_sG, mK_sG, mN_sG, mL_sG, mI_sJ, mR_sJ, mK_sJ, mN_sJ, mL_sJ, mI_sA, mR_sA, mK_sA, mN_sA, mL_sA, z_up, ↓reduceIte, reduceIte, Nat.reduceEqDiff, true_and, and_true]; rfl
  have hA : ∀ j, j ≠ 41 → mI (mset (sI μ 68 41 0) (bl f e 0) (bl f e 0)) 68 j = mI μ 68 j := fun j hj => by rw [mI_msetO (by decide)]; simp only [mI_sI, mR_sI, mK_sI, mN_sI, mL_sI, mI_sG, mR_sG, mK_sG, mN_sG, mL_sG, mI_sJ, mR_sJ, mK_sJ, mN_sJ, mL_sJ, mI_sA, mR_sA, mK_sA, mN_sA, mL_sA, z_up, ↓reduceIte, reduceIte, Nat.reduceEqDiff, true_and, and_true, hj]
  have hB : ∀ j, j < 820 → mI (mset (sI μ 68 41 0) (bl f e 0) (bl f e 0)) 69 j = mI μ 69 j ∧ mI (mset (sI μ 68 41 0) (bl f e 0) (bl f e 0)) 70 j = mI μ 70 j := fun j hj => by
    rw [mI_msetO (by decide), mI_msetO (by decide)]; simp only [mI_sI, mR_sI, mK_sI, mN_sI, mL_sI, mI_sG, mR_sG, mK_sG, mN_sG, mL_sG, mI_sJ, mR_sJ, mK_sJ, mN_sJ, mL_sJ, mI_sA, mR_sA, mK_sA, mN_sA, mL_sA, z_up, ↓reduceIte, reduceIte, Nat.reduceEqDiff, true_and, and_true, and_self]
  unfold recO
  by_cases c : bl f e 0 < e
  · rw [if_pos c]
    have c' : ¬ bl f e 0 = e := by omega
    obtain ⟨v, μ', p1, p2, p3, p4, p5⟩ := m_rec (f := f) (e := e) (e - bl f e 0 + 1) 0 (bl f e 0) p_fu (mset (sI μ 68 41 0) (bl f e 0) (bl f e 0)) (fun _ => 0) (fun _ => 0) (by omega) (by decide) (by rw [show p_fu = 99999 + 1 from rfl]; omega) hT1 l1 (fun j hj => by omega)
    refine ⟨v, μ', ?_, Fq_trans fq0 (Fq_trans (fm _ _ _) p2), fun j hj => (p3 j hj).trans (hA j hj), fun j hj => ⟨(p4 j hj).1.trans (hB j hj).1, (p4 j hj).2.trans (hB j hj).2⟩, p5⟩
    simp only [F_X13_readRecipe, bd_some, p_ok, aM, tM, i41, k41, l41, bk, hT1.2.2.1, hT1.2.1, q34, c', and_self, true_and, ↓reduceIte, not_false_eq_true]
    exact p1
  · rw [if_neg c]
    have c' : bl f e 0 = e := by omega
    have q34' : (nI (bl f e 0) = nI e) = True := eq_true (by rw [c'])
    refine ⟨1, mset (sI μ 68 41 0) (bl f e 0) (bl f e 0), ?_, Fq_trans fq0 (fm _ _ _), hA, hB, rfl, l1, fun j hj => by omega⟩
    simp only [F_X13_readRecipe, bd_some, p_ok, aM, tM, i41, k41, l41, bk, hT1.2.2.1, hT1.2.1, q34', and_self, true_and, and_true, ↓reduceIte, not_true_eq_false, not_false_eq_true]
/-- as Fr, but for the two fields that change places -/
def Mv (i : Nat) (cs ss : List Nat) (μ μ' : p_M) : Prop := (∀ a k, ¬ (a = 0 ∧ (k = i ∨ k = i + 1)) → mR μ' a k = mR μ a k) ∧ mK μ' = mK μ ∧ mL μ' = mL μ ∧ mN μ' = mN μ ∧ (∀ a, a ≠ 65 → a ∉ cs → mI μ' a = mI μ a) ∧ (∀ k, k ∉ ss → mI μ' 65 k = mI μ 65 k)
theorem Mv_of {i : Nat} {cs ss : List Nat} {μ μ' : p_M} (f : Fr cs ss μ μ') : Mv i cs ss μ μ' := ⟨fun a k _ => by rw [f.1], f.2⟩
theorem Mv_fr {i : Nat} {cs ss : List Nat} {μ μ' : p_M} (f : Mv i cs ss μ μ') : Fr cs ss μ (μ'.1, μ.2.1, μ'.2.2) := ⟨rfl, f.2⟩
theorem Mv_trans {i : Nat} {cs ss : List Nat} {μ μ1 μ2 : p_M} (h : Mv i cs ss μ μ1) (g : Mv i cs ss μ1 μ2) : Mv i cs ss μ μ2 := ⟨fun a k hk => (g.1 a k hk).trans (h.1 a k hk), g.2.1.trans h.2.1, g.2.2.1.trans h.2.2.1, g.2.2.2.1.trans h.2.2.2.1, fun a h1 h2 => (g.2.2.2.2.1 a h1 h2).trans (h.2.2.2.2.1 a h1 h2), fun k hk => (g.2.2.2.2.2 k hk).trans (h.2.2.2.2.2 k hk)⟩
theorem Mv_sw {i : Nat} {cs ss : List Nat} {μ : p_M} {x y : Option Nat} : Mv i cs ss μ (sR (sR μ 0 i x) 0 (i + 1) y) := ⟨fun a k h => by
  simp only [mR_sR]
  by_cases c : a = 0
  · subst c
    have h1 : ¬ k = i + 1 := fun e => h ⟨rfl, Or.inr e⟩
    have h2 : ¬ k = i := fun e => h ⟨rfl, Or.inl e⟩
    simp only [z_up, h1, h2, ↓reduceIte]
  · simp only [c, ↓reduceIte], rfl, rfl, rfl, fun _ _ _ => rfl, fun _ _ => rfl⟩
theorem Sh_mv {i : Nat} (hi : i = 3 ∨ i = 5) {cs ss : List Nat} {μ μ' : p_M} (f : Mv i cs ss μ μ') (h : Sh μ) : Sh μ' := by
  obtain ⟨f1, f2, f3, f4, -, -⟩ := f
  unfold Sh ShM at *
  rw [f2, f3, f4]
  refine ⟨⟨h.1.1, h.1.2.1, h.1.2.2.1, fun k hk hp => ?_⟩, h.2.1, h.2.2.1, h.2.2.2.1, fun e he => ?_, h.2.2.2.2.2⟩
  · rw [f1 tM k (fun e => absurd e.1 (by decide))]
    exact h.1.2.2.2 k hk hp
  · rw [f1 e.1 e.2.1 ?_]
    · exact h.2.2.2.2.1 e he
    · rcases hi with rfl | rfl
      · exact (show ∀ e, e ∈ rCl → ¬ (e.1 = 0 ∧ (e.2.1 = 3 ∨ e.2.1 = 3 + 1)) by decide) e he
      · exact (show ∀ e, e ∈ rCl → ¬ (e.1 = 0 ∧ (e.2.1 = 5 ∨ e.2.1 = 5 + 1)) by decide) e he
theorem Mv_mono {i : Nat} {cs ss cs' ss' : List Nat} {μ μ' : p_M} (f : Mv i cs ss μ μ') (h1 : ∀ a, a ∈ cs → a ∈ cs') (h2 : ∀ a, a ∈ ss → a ∈ ss') : Mv i cs' ss' μ μ' := ⟨f.1, f.2.1, f.2.2.1, f.2.2.2.1, fun a g1 g2 => f.2.2.2.2.1 a g1 (fun e => g2 (h1 a e)), fun k g => f.2.2.2.2.2 k (fun e => g (h2 k e))⟩
theorem RRec_keep {μ μ2 : p_M} (h : RRec μ) (e3 : mR μ2 0 3 = mR μ 0 3) (e4 : mR μ2 0 4 = mR μ 0 4) (hq : ∀ Q, mR μ 0 3 = some Q → mI μ2 Q = mI μ Q ∧ mI μ2 (Q + 1) = mI μ (Q + 1) ∧ mI μ2 (Q + 2) = mI μ (Q + 2)) (h68 : mI μ2 68 40 = mI μ 68 40) (h69 : ∀ j, j < 20 → mI μ2 69 (800 + j) = mI μ 69 (800 + j) ∧ mI μ2 70 (800 + j) = mI μ 70 (800 + j)) : RRec μ2 := by
  obtain ⟨n, hn, e, h | h⟩ := h
  · obtain ⟨g1, g2, g3⟩ := hq 4 h.1
    have g2 : mI μ2 5 = mI μ 5 := g2
    have g3 : mI μ2 6 = mI μ 6 := g3
    refine ⟨n, hn, h68.trans e, Or.inl ⟨e3.trans h.1, e4.trans h.2.1, ?_, fun j hj => ?_⟩⟩
    · rw [g1]; exact h.2.2.1
    · rw [g2, g3, (h69 j (by omega)).1, (h69 j (by omega)).2]; exact h.2.2.2 j hj
  · obtain ⟨g1, g2, g3⟩ := hq 7 h.1
    have g2 : mI μ2 8 = mI μ 8 := g2
    have g3 : mI μ2 9 = mI μ 9 := g3
    refine ⟨n, hn, h68.trans e, Or.inr ⟨e3.trans h.1, e4.trans h.2.1, ?_, fun j hj => ?_⟩⟩
    · rw [g1]; exact h.2.2.1
    · rw [g2, g3, (h69 j (by omega)).1, (h69 j (by omega)).2]; exact h.2.2.2 j hj
theorem recO_ok {f : Nat → Int32} {e n' : Nat} {bs' am' : Nat → Int32} (h : recO f e = .inr (n', bs', am')) : n' ≤ 20 ∧ recI n' bs' am' := by
  unfold recO at h
  split at h
  · exact recP_ok _ _ _ _ _ _ _ _ (by decide) (fun j hj => by omega) h
  · cases h
    exact ⟨by decide, fun j hj => by omega⟩
abbrev rC : List Nat := [1, 4, 5, 6, 7, 8, 9, 68, 69, 70]
abbrev rS : List Nat := [0, 2, 3, 4, 5, 6]
theorem A_recipe {μ : p_M} (hS : Sh μ) (hT : RText μ) (hR : RRec μ) : wp (F_L_recipe 0 112 μ) fun k μ1 => wp (F_X13_recipe μ1) fun b μ2 => Post k b μ μ2 ∧ RText μ2 ∧ RRec μ2 ∧ (∀ j, j < 40 → mI μ2 68 j = mI μ 68 j) ∧ (∀ j, j < 800 → mI μ2 69 j = mI μ 69 j ∧ mI μ2 70 j = mI μ 70 j) ∧ Mv 3 rC rS μ μ2 := by
  have hT0 := hT
  obtain ⟨r1, r2, e, he, e1, e2⟩ := hT
  -- which of the two is spare
  have sp : ∃ Q R B A, mR μ 0 3 = some Q ∧ mR μ 0 4 = some R ∧ isRec μ R B A 20 ∧ RBA R B A ∧ (R = 4 ∧ Q = 7 ∨ R = 7 ∧ Q = 4) := by
    obtain ⟨n, -, -, h | h⟩ := hR
    · exact ⟨4, 7, 8, 9, h.1, h.2.1, ⟨s_o7 hS, s_r7_0 hS, s_r7_1 hS, s_a8 hS, s_l8 hS, s_a9 hS, s_l9 hS⟩, Or.inr ⟨rfl, rfl, rfl⟩, Or.inr ⟨rfl, rfl⟩⟩
    · exact ⟨7, 4, 5, 6, h.1, h.2.1, ⟨s_o4 hS, s_r4_0 hS, s_r4_1 hS, s_a5 hS, s_l5 hS, s_a6 hS, s_l6 hS⟩, Or.inl ⟨rfl, rfl, rfl⟩, Or.inl ⟨rfl, rfl⟩⟩
  obtain ⟨Q, R, B, A, q3, q4, hi, hB, hQ⟩ := sp
  have frR : ∀ a, a ∈ [1, R, B, A] → a ∈ rC := by
    rcases hB with ⟨h1, h2, h3⟩ | ⟨h1, h2, h3⟩ <;> (subst h1 h2 h3; decide)
  have frR' : ∀ a, a ∈ [1, R, B, A] → a ∈ [1, 4, 5, 6, 7, 8, 9] := by
    rcases hB with ⟨h1, h2, h3⟩ | ⟨h1, h2, h3⟩ <;> (subst h1 h2 h3; decide)
  have RBA1 : ¬ 1 = R ∧ ¬ 1 = B ∧ ¬ 1 = A ∧ R ≠ 65 := by rcases hB with h | h <;> omega
  -- the class reads
  have f0 : Fq [1] [] μ (sI (sI μ 1 2 0) 1 3 (-1)) := Fq_sI (Fq_sI (Fq_refl μ) (by decide)) (by decide)
  have hS0 := Sh_q f0 hS
  have hX : Tx (sI (sI μ 1 2 0) 1 3 (-1)) (mI μ 66) e 0 := by
    unfold Tx
    simp only [mI_sI, mR_sI, mK_sI, mN_sI, mL_sI, mI_sG, mR_sG, mK_sG, mN_sG, mL_sG, mI_sJ, mR_sJ, mK_sJ, mN_sJ, mL_sJ, mI_sA, mR_sA, mK_sA, mN_sA, mL_sA, z_up, ↓reduceIte, reduceIte, Nat.reduceEqDiff, true_and, and_true]
    exact ⟨r1, e1, rfl, he, Nat.zero_le _⟩
  obtain ⟨μ1, p1, p2, p3⟩ := c_read hS0 hX (by simp only [mI_sI, mR_sI, mK_sI, mN_sI, mL_sI, mI_sG, mR_sG, mK_sG, mN_sG, mL_sG, mI_sJ, mR_sJ, mK_sJ, mN_sJ, mL_sJ, mI_sA, mR_sA, mK_sA, mN_sA, mL_sA, z_up, ↓reduceIte, reduceIte, Nat.reduceEqDiff, true_and, and_true]) (isRec_q f0 hi) hB
  have hS1 := Sh_q p2 hS0
  have fc : Fq rC [] μ μ1 := Fq_trans (Fq_mono f0 (by decide) (by decide)) (Fq_mono p2 frR (by decide))
  have f2 : Fq rC [] μ (sI μ1 1 1 0) := Fq_sI fc (by decide)
  have hS2 := Sh_q f2 hS
  have f2' : Fq [1, 4, 5, 6, 7, 8, 9] [] μ (sI μ1 1 1 0) := Fq_sI (Fq_trans (Fq_mono f0 (by decide) (by decide)) (Fq_mono p2 frR' (by decide))) (by decide)
  have w3 : mI (sI μ1 1 1 0) 1 3 = mI μ1 1 3 := by simp only [mI_sI, mR_sI, mK_sI, mN_sI, mL_sI, mI_sG, mR_sG, mK_sG, mN_sG, mL_sG, mI_sJ, mR_sJ, mK_sJ, mN_sJ, mL_sJ, mI_sA, mR_sA, mK_sA, mN_sA, mL_sA, z_up, ↓reduceIte, reduceIte, Nat.reduceEqDiff, true_and, and_true]
  have row2 : mI (sI μ1 1 1 0) 2 = mI μ 2 := Fq_row f2 2 (by decide)
  have row66 : mI (sI μ1 1 1 0) 66 = mI μ 66 := Fq_row f2 66 (by decide)
  -- the Model reads
  have mread : ∀ ν : p_M, mI ν 66 = mI μ 66 → mI ν 65 2 = nI e → ∃ v μ', F_X13_readRecipe (sI (sI (sI (sI ν 65 0 0) 65 4 (mI (sI ν 65 0 0) 65 2)) 65 2 0) 65 3 0) = some (v, μ') ∧ Fq [68, 69, 70] [0, 2, 3, 4, 5] ν μ' ∧ mI μ' 65 0 = 0 ∧ mI μ' 65 2 = 0 ∧ (∀ j, j ≠ 41 → mI μ' 68 j = mI ν 68 j) ∧ (∀ j, j < 820 → mI μ' 69 j = mI ν 69 j ∧ mI μ' 70 j = mI ν 70 j) ∧ mOut v μ' (recO (mI μ 66) e) := by
    intro ν h1 h2
    have hM : MT (sI (sI (sI (sI ν 65 0 0) 65 4 (mI (sI ν 65 0 0) 65 2)) 65 2 0) 65 3 0) (mI μ 66) e 0 := by
      unfold MT
      simp only [mI_sI, mR_sI, mK_sI, mN_sI, mL_sI, mI_sG, mR_sG, mK_sG, mN_sG, mL_sG, mI_sJ, mR_sJ, mK_sJ, mN_sJ, mL_sJ, mI_sA, mR_sA, mK_sA, mN_sA, mL_sA, z_up, ↓reduceIte, reduceIte, Nat.reduceEqDiff, true_and, and_true, h2]
      exact ⟨h1, rfl, he, Nat.zero_le _⟩
    obtain ⟨v, μ', g1, g2, g3, g4, g5⟩ := m_read hM
    refine ⟨v, μ', g1, Fq_trans (Fq_s65 (Fq_s65 (Fq_s65 (Fq_s65 (Fq_refl ν) (by decide)) (by decide)) (by decide)) (by decide)) (Fq_mono g2 (by decide) (by decide)), ?_, ?_, fun j hj => ?_, fun j hj => ?_, g5⟩
    · rw [Fq_sc g2 0 rfl]; simp only [mI_sI, mR_sI, mK_sI, mN_sI, mL_sI, mI_sG, mR_sG, mK_sG, mN_sG, mL_sG, mI_sJ, mR_sJ, mK_sJ, mN_sJ, mL_sJ, mI_sA, mR_sA, mK_sA, mN_sA, mL_sA, z_up, ↓reduceIte, reduceIte, Nat.reduceEqDiff, true_and, and_true]
    · rw [Fq_sc g2 2 rfl]; simp only [mI_sI, mR_sI, mK_sI, mN_sI, mL_sI, mI_sG, mR_sG, mK_sG, mN_sG, mL_sG, mI_sJ, mR_sJ, mK_sJ, mN_sJ, mL_sJ, mI_sA, mR_sA, mK_sA, mN_sA, mL_sA, z_up, ↓reduceIte, reduceIte, Nat.reduceEqDiff, true_and, and_true]
    · rw [g3 j hj]; simp only [mI_sI, mR_sI, mK_sI, mN_sI, mL_sI, mI_sG, mR_sG, mK_sG, mN_sG, mL_sG, mI_sJ, mR_sJ, mK_sJ, mN_sJ, mL_sJ, mI_sA, mR_sA, mK_sA, mN_sA, mL_sA, z_up, ↓reduceIte, reduceIte, Nat.reduceEqDiff, true_and, and_true]
    · have := g4 j hj; simp only [mI_sI, mR_sI, mK_sI, mN_sI, mL_sI, mI_sG, mR_sG, mK_sG, mN_sG, mL_sG, mI_sJ, mR_sJ, mK_sJ, mN_sJ, mL_sJ, mI_sA, mR_sA, mK_sA, mN_sA, mL_sA, z_up, ↓reduceIte, reduceIte, Nat.reduceEqDiff, true_and, and_true] at this; exact this
  have p1 : F_X8_read R 1 (sI (sI μ 1 2 0) 1 3 (-1)) = some (0, μ1) := p1
  cases ho : recO (mI μ 66) e with
  | inl p =>
    rw [ho] at p3
    obtain ⟨pe, p3⟩ : p ≤ e ∧ mI μ1 1 3 = nI p := p3
    have d3 : ¬ nI p = -1 := nI_n1 (by omega)
    obtain ⟨v, μ3, g1, g2, g0, g22, g3, g4, g5⟩ := mread (sG (sI μ1 1 1 0) 1 6) row66 (by show mI (sI μ1 1 1 0) 65 2 = _; rw [Fq_sc f2 2 rfl]; exact e2)
    rw [ho] at g5
    obtain ⟨rfl, g5⟩ : v = 0 ∧ mI μ3 65 5 = nI p := g5
    have o1 := s_o0 hS1
    have g1' := g1
    simp only [mI_sI, mI_sG, z_up, ↓reduceIte, Nat.reduceEqDiff] at g1'
    simp only [bd_some, p_let_eq, p_ok, mI_sI, mR_sI, mK_sI, mN_sI, mL_sI, mI_sG, mR_sG, mK_sG, mN_sG, mL_sG, mI_sJ, mR_sJ, mK_sJ, mN_sJ, mL_sJ, z_up, ↓reduceIte, and_self, true_and, and_true, false_and, and_false, not_true_eq_false, not_false_eq_true, Nat.reduceEqDiff, i_10, i_20, i_30, w_in, w_need1, w_need0, m_in, m_thr0, m_thr1, tM, aM, nI_1, nI_pred, reduceIte, wp_some, eq_self, bI_T, bI_F, F_L_recipe, F_X12_recipe, F_X12_recipe_c42, F_X10_open, F_X13_recipe, F_X13_recipe_c22, F_X13_recipe_c35, F_X13_uses, s_o0 hS, s_r0_0 hS, s_r0_1 hS, s_r0_10 hS, s_r0_11 hS, s_r0_12 hS, s_r0_14 hS, s_r0_16 hS, s_r0_19 hS, s_r0_7 hS, s_r0_8 hS, s_r0_9 hS, s_o1 hS, s_r1_0 hS, s_o0 hS1, s_r0_0 hS1, s_r0_1 hS1, s_r0_10 hS1, s_r0_11 hS1, s_r0_12 hS1, s_r0_14 hS1, s_r0_16 hS1, s_r0_19 hS1, s_r0_7 hS1, s_r0_8 hS1, s_r0_9 hS1, s_o1 hS1, s_r1_0 hS1, q4, hi.1, p1, (Fq_fr fc).1, p3, d3, g1', g5]
    have fr : Fr rC rS μ (sI (sI μ3 65 6 (nI p)) 65 0 1) := by
      refine Fr_s65 (Fr_s65 ?_ (by decide)) (by decide)
      exact Fr_trans (Fr_sG (Fr_mono (Fq_fr f2) (by decide) (by decide))) (Fr_mono (Fq_fr g2) (by decide) (by decide))
    refine ⟨⟨?_, fun h => absurd h (by decide), ?_⟩, ?_, ?_, ?_, ?_, Mv_of fr⟩
    · simp only [mI_sI, mR_sI, mK_sI, mN_sI, mL_sI, mI_sG, mR_sG, mK_sG, mN_sG, mL_sG, mI_sJ, mR_sJ, mK_sJ, mN_sJ, mL_sJ, mI_sA, mR_sA, mK_sA, mN_sA, mL_sA, z_up, ↓reduceIte, reduceIte, Nat.reduceEqDiff, true_and, and_true]
    · refine ⟨?_, ?_⟩
      · show mC μ3 ≤ mC μ + 10
        rw [Fq_C g2]
        show mC μ1 + 1 ≤ mC μ + 10
        rw [Fq_C fc]; omega
      · show mS μ3 ≤ mS μ + 300
        rw [Fq_S g2]
        show mS μ1 + 6 ≤ mS μ + 300
        rw [Fq_S fc]; omega
    · refine ⟨?_, ?_, 0, Nat.zero_le _, ?_, ?_⟩
      · simp only [mI_sI, mR_sI, mK_sI, mN_sI, mL_sI, mI_sG, mR_sG, mK_sG, mN_sG, mL_sG, mI_sJ, mR_sJ, mK_sJ, mN_sJ, mL_sJ, mI_sA, mR_sA, mK_sA, mN_sA, mL_sA, z_up, ↓reduceIte, reduceIte, Nat.reduceEqDiff, true_and, and_true]
        rw [Fq_row g2 2 (by decide), Fq_row g2 66 (by decide)]
        show mI (sI μ1 1 1 0) 2 = mI (sI μ1 1 1 0) 66
        rw [row2, row66, r1]
      · simp only [mI_sI, mR_sI, mK_sI, mN_sI, mL_sI, mI_sG, mR_sG, mK_sG, mN_sG, mL_sG, mI_sJ, mR_sJ, mK_sJ, mN_sJ, mL_sJ, mI_sA, mR_sA, mK_sA, mN_sA, mL_sA, z_up, ↓reduceIte, reduceIte, Nat.reduceEqDiff, true_and, and_true]
        rw [Fq_row g2 1 (by decide)]
        show mI (sI μ1 1 1 0) 1 3 = _
        rw [w3, p3]
      · simp only [mI_sI, mR_sI, mK_sI, mN_sI, mL_sI, mI_sG, mR_sG, mK_sG, mN_sG, mL_sG, mI_sJ, mR_sJ, mK_sJ, mN_sJ, mL_sJ, mI_sA, mR_sA, mK_sA, mN_sA, mL_sA, z_up, ↓reduceIte, reduceIte, Nat.reduceEqDiff, true_and, and_true]
        rw [Fq_row g2 1 (by decide)]
        simp only [mI_sI, mR_sI, mK_sI, mN_sI, mL_sI, mI_sG, mR_sG, mK_sG, mN_sG, mL_sG, mI_sJ, mR_sJ, mK_sJ, mN_sJ, mL_sJ, mI_sA, mR_sA, mK_sA, mN_sA, mL_sA, z_up, ↓reduceIte, reduceIte, Nat.reduceEqDiff, true_and, and_true]
        rfl
      · simp only [mI_sI, mR_sI, mK_sI, mN_sI, mL_sI, mI_sG, mR_sG, mK_sG, mN_sG, mL_sG, mI_sJ, mR_sJ, mK_sJ, mN_sJ, mL_sJ, mI_sA, mR_sA, mK_sA, mN_sA, mL_sA, z_up, ↓reduceIte, reduceIte, Nat.reduceEqDiff, true_and, and_true]
        rw [g22]; rfl
    · refine RRec_keep hR (by rw [fr.1]) (by rw [fr.1]) (fun Q' hQ' => ?_) ?_ (fun j hj => ?_)
      · rw [q3] at hQ'
        cases hQ'
        have k1 : ∀ a, a = Q ∨ a = Q + 1 ∨ a = Q + 2 → mI (sI (sI μ3 65 6 (nI p)) 65 0 1) a = mI μ a := by
          intro a ha
          have ha65 : ¬ a = 65 := by rcases hQ with h | h <;> omega
          simp only [mI_sI, mR_sI, mK_sI, mN_sI, mL_sI, mI_sG, mR_sG, mK_sG, mN_sG, mL_sG, mI_sJ, mR_sJ, mK_sJ, mN_sJ, mL_sJ, mI_sA, mR_sA, mK_sA, mN_sA, mL_sA, z_up, ↓reduceIte, reduceIte, Nat.reduceEqDiff, true_and, and_true, ha65]
          rw [g2.2.1 a ha65 (by rcases hQ with h | h <;> (intro hm; simp at hm; omega))]
          show mI (sI μ1 1 1 0) a = mI μ a
          have ha1 : ¬ a = 1 := by rcases hQ with h | h <;> omega
          simp only [mI_sI, mR_sI, mK_sI, mN_sI, mL_sI, mI_sG, mR_sG, mK_sG, mN_sG, mL_sG, mI_sJ, mR_sJ, mK_sJ, mN_sJ, mL_sJ, mI_sA, mR_sA, mK_sA, mN_sA, mL_sA, z_up, ↓reduceIte, reduceIte, Nat.reduceEqDiff, true_and, and_true, ha1]
          rw [p2.2.1 a ha65 (by rcases hB with h | h <;> (intro hm; simp at hm; omega))]
          simp only [mI_sI, mR_sI, mK_sI, mN_sI, mL_sI, mI_sG, mR_sG, mK_sG, mN_sG, mL_sG, mI_sJ, mR_sJ, mK_sJ, mN_sJ, mL_sJ, mI_sA, mR_sA, mK_sA, mN_sA, mL_sA, z_up, ↓reduceIte, reduceIte, Nat.reduceEqDiff, true_and, and_true, ha1]
        exact ⟨k1 Q (Or.inl rfl), k1 (Q + 1) (Or.inr (Or.inl rfl)), k1 (Q + 2) (Or.inr (Or.inr rfl))⟩
      · simp only [mI_sI, mR_sI, mK_sI, mN_sI, mL_sI, mI_sG, mR_sG, mK_sG, mN_sG, mL_sG, mI_sJ, mR_sJ, mK_sJ, mN_sJ, mL_sJ, mI_sA, mR_sA, mK_sA, mN_sA, mL_sA, z_up, ↓reduceIte, reduceIte, Nat.reduceEqDiff, true_and, and_true]
        rw [g3 40 (by decide)]
        show mI (sI μ1 1 1 0) 68 40 = _
        rw [Fq_row f2' 68 (by decide)]
      · simp only [mI_sI, mR_sI, mK_sI, mN_sI, mL_sI, mI_sG, mR_sG, mK_sG, mN_sG, mL_sG, mI_sJ, mR_sJ, mK_sJ, mN_sJ, mL_sJ, mI_sA, mR_sA, mK_sA, mN_sA, mL_sA, z_up, ↓reduceIte, reduceIte, Nat.reduceEqDiff, true_and, and_true]
        rw [(g4 (800 + j) (by omega)).1, (g4 (800 + j) (by omega)).2]
        show mI (sI μ1 1 1 0) 69 (800 + j) = _ ∧ mI (sI μ1 1 1 0) 70 (800 + j) = _
        rw [Fq_row f2' 69 (by decide), Fq_row f2' 70 (by decide)]
        exact ⟨rfl, rfl⟩
    · intro j hj
      try simp only [mI_sI, mR_sI, mK_sI, mN_sI, mL_sI, mI_sG, mR_sG, mK_sG, mN_sG, mL_sG, mI_sJ, mR_sJ, mK_sJ, mN_sJ, mL_sJ, mI_sA, mR_sA, mK_sA, mN_sA, mL_sA, z_up, ↓reduceIte, reduceIte, Nat.reduceEqDiff, true_and, and_true]
      rw [g3 j (by omega)]
      show mI (sI μ1 1 1 0) 68 j = _
      rw [Fq_row f2' 68 (by decide)]
    · intro j hj
      try simp only [mI_sI, mR_sI, mK_sI, mN_sI, mL_sI, mI_sG, mR_sG, mK_sG, mN_sG, mL_sG, mI_sJ, mR_sJ, mK_sJ, mN_sJ, mL_sJ, mI_sA, mR_sA, mK_sA, mN_sA, mL_sA, z_up, ↓reduceIte, reduceIte, Nat.reduceEqDiff, true_and, and_true]
      rw [(g4 j (by omega)).1, (g4 j (by omega)).2]
      show mI (sI μ1 1 1 0) 69 j = _ ∧ mI (sI μ1 1 1 0) 70 j = _
      rw [Fq_row f2' 69 (by decide), Fq_row f2' 70 (by decide)]
      exact ⟨rfl, rfl⟩
  | inr o =>
    obtain ⟨n', bs', am'⟩ := o
    rw [ho] at p3
    obtain ⟨p3, p4, p5⟩ : mI μ1 1 3 = -1 ∧ mI μ1 R 2 = nI n' ∧ ∀ j, j < n' → mI μ1 B j = bs' j ∧ mI μ1 A j = am' j := p3
    obtain ⟨hn', hI⟩ := recO_ok ho
    obtain ⟨v, μ3, g1, g2, g0, g22, g3, g4, g5⟩ := mread (sJ (sR (sR (sI μ1 1 1 0) 0 3 (some R)) 0 4 (some Q)) 112 (Int32.toNatClampNeg 0) (nI n').toInt64) row66 (by show mI (sI μ1 1 1 0) 65 2 = _; rw [Fq_sc f2 2 rfl]; exact e2)
    rw [ho] at g5
    obtain ⟨rfl, g5, g6⟩ : v = 1 ∧ mI μ3 68 41 = nI n' ∧ ∀ j, j < n' → mI μ3 69 (820 + j) = bs' j ∧ mI μ3 70 (820 + j) = am' j := g5
    obtain ⟨μ5, c1, c2, c3, c4, c5, c6⟩ := m_copies (o := 41) (d := 40) (n := n') (by decide) (by decide) (by decide) hn' (μ := sI μ3 65 6 (-1)) (by simp only [mI_sI, mR_sI, mK_sI, mN_sI, mL_sI, mI_sG, mR_sG, mK_sG, mN_sG, mL_sG, mI_sJ, mR_sJ, mK_sJ, mN_sJ, mL_sJ, mI_sA, mR_sA, mK_sA, mN_sA, mL_sA, z_up, ↓reduceIte, reduceIte, Nat.reduceEqDiff, true_and, and_true]; exact g5)
    have c1 : F_X13_copies 41 40 (sI μ3 65 6 (-1)) = some (0, μ5) := c1
    have i40 : ¬ (40 : Int32) < 0 ∧ Int32.toNatClampNeg 40 < 42 := by decide
    have k40 : Int32.toNatClampNeg 40 = 40 := by decide
    have l40 : 40 < 42 := by decide
    have R1 : ¬ R = 1 := fun h => RBA1.1 h.symm
    have g1' := g1
    simp only [mI_sI, mI_sG, mI_sJ, mI_sR, z_up, ↓reduceIte, Nat.reduceEqDiff] at g1'
    have hS4 : Sh (sR (sR (sI μ1 1 1 0) 0 3 (some R)) 0 4 (some Q)) := Sh_mv (i := 3) (cs := []) (ss := []) (Or.inl rfl) Mv_sw hS2
    have o112 := s_o112 hS1
    have hR9 : mK μ1 R = 9 ∧ R < mN μ1 := (isRec_q fc hi).1
    simp only [bd_some, p_let_eq, p_ok, mI_sI, mR_sI, mK_sI, mN_sI, mL_sI, mI_sG, mR_sG, mK_sG, mN_sG, mL_sG, mI_sJ, mR_sJ, mK_sJ, mN_sJ, mL_sJ, z_up, ↓reduceIte, and_self, true_and, and_true, false_and, and_false, not_true_eq_false, not_false_eq_true, Nat.reduceEqDiff, i_10, i_20, i_30, w_in, w_need1, w_need0, m_in, m_thr0, m_thr1, tM, aM, nI_1, nI_pred, reduceIte, wp_some, eq_self, bI_T, bI_F, F_L_recipe, F_X12_recipe, F_X12_recipe_c42, F_X10_open, F_X13_recipe, F_X13_recipe_c22, F_X13_recipe_c35, F_X13_uses, s_o0 hS, s_r0_0 hS, s_r0_1 hS, s_r0_10 hS, s_r0_11 hS, s_r0_12 hS, s_r0_14 hS, s_r0_16 hS, s_r0_19 hS, s_r0_7 hS, s_r0_8 hS, s_r0_9 hS, s_o1 hS, s_r1_0 hS, s_o0 hS1, s_r0_0 hS1, s_r0_1 hS1, s_r0_10 hS1, s_r0_11 hS1, s_r0_12 hS1, s_r0_14 hS1, s_r0_16 hS1, s_r0_19 hS1, s_r0_7 hS1, s_r0_8 hS1, s_r0_9 hS1, s_o1 hS1, s_r1_0 hS1, o112, q3, q4, hi.1, hR9, p1, (Fq_fr fc).1, p3, mR_sR, mI_sR, mK_sR, mL_sR, mN_sR, R1, p4, g1', c1, c2, i40, k40, l40]
    have mvA : Mv 3 rC rS μ μ5 := by
      refine Mv_trans (Mv_trans (Mv_trans (Mv_of (Fr_mono (Fq_fr f2) (by decide) (by decide))) (Mv_sw (x := some R) (y := some Q))) ?_) (Mv_of (Fr_trans (Fr_s65 (v := -1) (k := 6) (Fr_refl μ3) (by decide)) (Fr_mono (Fq_fr c6) (by decide) (by decide))))
      exact Mv_of (Fr_trans (Fr_sJ (Fr_refl _)) (Fr_mono (Fq_fr g2) (by decide) (by decide)))
    have z5 : ∀ a, a ≠ 65 → a ∉ [68, 69, 70] → mI μ5 a = mI (sI μ1 1 1 0) a := by
      intro a h1 h2
      rw [c6.2.1 a h1 h2, mI_sI, if_neg h1, g2.2.1 a h1 h2]
      rfl
    refine ⟨⟨?_, fun _ => ?_, ⟨?_, ?_⟩⟩, ⟨?_, ?_, 0, Nat.zero_le _, ?_, ?_⟩, ?_, fun j hj => ?_, fun j hj => ?_, mvA⟩
    · rw [Fq_sc c6 0 rfl]; simp only [mI_sI, mR_sI, mK_sI, mN_sI, mL_sI, mI_sG, mR_sG, mK_sG, mN_sG, mL_sG, mI_sJ, mR_sJ, mK_sJ, mN_sJ, mL_sJ, mI_sA, mR_sA, mK_sA, mN_sA, mL_sA, z_up, ↓reduceIte, reduceIte, Nat.reduceEqDiff, true_and, and_true]; exact g0
    · rw [Fq_J c6]
      show mJ μ3 112 0 = _
      rw [Fq_J g2]; rfl
    · rw [Fq_C c6]
      show mC μ3 ≤ _
      rw [Fq_C g2]
      show mC μ1 ≤ _
      rw [Fq_C fc]; omega
    · rw [Fq_S c6]
      show mS μ3 ≤ _
      rw [Fq_S g2]
      show mS μ1 ≤ _
      rw [Fq_S fc]; omega
    · rw [z5 2 (by decide) (by decide), z5 66 (by decide) (by decide), row2, row66, r1]
    · rw [z5 1 (by decide) (by decide), w3, p3, Fq_sc c6 6 rfl]
      simp only [mI_sI, mR_sI, mK_sI, mN_sI, mL_sI, mI_sG, mR_sG, mK_sG, mN_sG, mL_sG, mI_sJ, mR_sJ, mK_sJ, mN_sJ, mL_sJ, mI_sA, mR_sA, mK_sA, mN_sA, mL_sA, z_up, ↓reduceIte, reduceIte, Nat.reduceEqDiff, true_and, and_true]
    · rw [z5 1 (by decide) (by decide)]
      simp only [mI_sI, mR_sI, mK_sI, mN_sI, mL_sI, mI_sG, mR_sG, mK_sG, mN_sG, mL_sG, mI_sJ, mR_sJ, mK_sJ, mN_sJ, mL_sJ, mI_sA, mR_sA, mK_sA, mN_sA, mL_sA, z_up, ↓reduceIte, reduceIte, Nat.reduceEqDiff, true_and, and_true]
      rfl
    · rw [Fq_sc c6 2 rfl]
      simp only [mI_sI, mR_sI, mK_sI, mN_sI, mL_sI, mI_sG, mR_sG, mK_sG, mN_sG, mL_sG, mI_sJ, mR_sJ, mK_sJ, mN_sJ, mL_sJ, mI_sA, mR_sA, mK_sA, mN_sA, mL_sA, z_up, ↓reduceIte, reduceIte, Nat.reduceEqDiff, true_and, and_true]
      exact g22
    · have r3 : mR μ5 0 3 = some R := by
        rw [(Fq_fr c6).1]
        show mR μ3 0 3 = _
        rw [(Fq_fr g2).1]
        show mR (sR (sR (sI μ1 1 1 0) 0 3 (some R)) 0 4 (some Q)) 0 3 = _
        simp only [mR_sR, z_up, ↓reduceIte, Nat.reduceEqDiff]
      have r4 : mR μ5 0 4 = some Q := by
        rw [(Fq_fr c6).1]
        show mR μ3 0 4 = _
        rw [(Fq_fr g2).1]
        show mR (sR (sR (sI μ1 1 1 0) 0 3 (some R)) 0 4 (some Q)) 0 4 = _
        simp only [mR_sR, z_up, ↓reduceIte, Nat.reduceEqDiff]
      have hC : RecC (mI μ5 R 2) (mI μ5 B) (mI μ5 A) (mI μ5 69) (mI μ5 70) 800 n' := by
        have nR : R ≠ 65 ∧ R ∉ [68, 69, 70] ∧ B ≠ 65 ∧ B ∉ [68, 69, 70] ∧ A ≠ 65 ∧ A ∉ [68, 69, 70] ∧ ¬ B = 1 ∧ ¬ A = 1 := by
          rcases hB with ⟨h1, h2, h3⟩ | ⟨h1, h2, h3⟩ <;> (subst h1 h2 h3; decide)
        rw [z5 R nR.1 nR.2.1, z5 B nR.2.2.1 nR.2.2.2.1, z5 A nR.2.2.2.2.1 nR.2.2.2.2.2.1]
        simp only [mI_sI, mR_sI, mK_sI, mN_sI, mL_sI, mI_sG, mR_sG, mK_sG, mN_sG, mL_sG, mI_sJ, mR_sJ, mK_sJ, mN_sJ, mL_sJ, mI_sA, mR_sA, mK_sA, mN_sA, mL_sA, z_up, ↓reduceIte, reduceIte, Nat.reduceEqDiff, true_and, and_true, R1, nR.2.2.2.2.2.2.1, nR.2.2.2.2.2.2.2]
        refine ⟨p4, fun j hj => ?_⟩
        obtain ⟨x, y, hx, hy1, hy2, hb, ha⟩ := hI j hj
        have k4 := c4 j hj
        have k4 : mI μ5 69 (800 + j) = mI (sI μ3 65 6 (-1)) 69 (820 + j) ∧ mI μ5 70 (800 + j) = mI (sI μ3 65 6 (-1)) 70 (820 + j) := k4
        simp only [mI_sI, mR_sI, mK_sI, mN_sI, mL_sI, mI_sG, mR_sG, mK_sG, mN_sG, mL_sG, mI_sJ, mR_sJ, mK_sJ, mN_sJ, mL_sJ, mI_sA, mR_sA, mK_sA, mN_sA, mL_sA, z_up, ↓reduceIte, reduceIte, Nat.reduceEqDiff, true_and, and_true] at k4
        exact ⟨x, y, hx, hy1, hy2, (p5 j hj).1.trans hb, (p5 j hj).2.trans ha, k4.1.trans ((g6 j hj).1.trans hb), k4.2.trans ((g6 j hj).2.trans ha)⟩
      refine ⟨n', hn', c2, ?_⟩
      rcases hB with ⟨h1, h2, h3⟩ | ⟨h1, h2, h3⟩
      · subst h1 h2 h3
        have : Q = 7 := by omega
        subst this
        exact Or.inl ⟨r3, r4, hC⟩
      · subst h1 h2 h3
        have : Q = 4 := by omega
        subst this
        exact Or.inr ⟨r3, r4, hC⟩
    · rw [c3 j (by omega)]
      simp only [mI_sI, mR_sI, mK_sI, mN_sI, mL_sI, mI_sG, mR_sG, mK_sG, mN_sG, mL_sG, mI_sJ, mR_sJ, mK_sJ, mN_sJ, mL_sJ, mI_sA, mR_sA, mK_sA, mN_sA, mL_sA, z_up, ↓reduceIte, reduceIte, Nat.reduceEqDiff, true_and, and_true]
      rw [g3 j (by omega)]
      show mI (sI μ1 1 1 0) 68 j = _
      rw [Fq_row f2' 68 (by decide)]
    · have k5 := c5 j (by omega)
      simp only [mI_sI, mR_sI, mK_sI, mN_sI, mL_sI, mI_sG, mR_sG, mK_sG, mN_sG, mL_sG, mI_sJ, mR_sJ, mK_sJ, mN_sJ, mL_sJ, mI_sA, mR_sA, mK_sA, mN_sA, mL_sA, z_up, ↓reduceIte, reduceIte, Nat.reduceEqDiff, true_and, and_true] at k5
      rw [k5.1, k5.2, (g4 j (by omega)).1, (g4 j (by omega)).2]
      show mI (sI μ1 1 1 0) 69 j = _ ∧ mI (sI μ1 1 1 0) 70 j = _
      rw [Fq_row f2' 69 (by decide), Fq_row f2' 70 (by decide)]
      exact ⟨rfl, rfl⟩
