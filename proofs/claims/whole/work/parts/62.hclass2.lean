def stN (o : Nat ⊕ (Int32 × Nat)) : Nat ⊕ Nat := bnd o fun q => .inr q.2
def stW (o : Nat ⊕ (Nat × Nat)) : Nat ⊕ Nat := bnd o fun q => .inr q.2
theorem nO_cs {f : Nat → Int32} {e : Nat} {v : Int32} {μ : p_M} {o : Nat ⊕ (Int32 × Nat)} (h : nO f e v μ o) : CS μ f e (stN o) := by
  cases o with
  | inl p => exact h.2
  | inr q => exact h.2
theorem wO_cs {f : Nat → Int32} {e : Nat} {v : Int32} {μ : p_M} {o : Nat ⊕ (Nat × Nat)} (h : wO f e v μ o) : CS μ f e (stW o) := by
  cases o with
  | inl p => exact h.2
  | inr q => exact h.2
theorem c_rAgain {f : Nat → Int32} {e H T k : Nat} {s : Nat → Int32} {μ : p_M} (hS : Sh μ) (hH : HT H T) (hC : CS μ f e (.inr k)) (hs : ∀ j, j < 18 → mI μ T j = s j) : ∃ μ', F_X1_readAgain H 1 μ = some (0, μ') ∧ Fq [1, T] [] μ μ' ∧ rO f e T μ' (rA f e k s) := by
  have hh : ∀ μ, Sh μ → isHou μ H T := fun μ h => hou_sh h hH
  have n1 : ¬ 1 = T := by rcases hH with h | h <;> omega
  have n2 : ¬ 2 = T := by rcases hH with h | h <;> omega
  have n65 : T ≠ 65 := by rcases hH with h | h <;> omega
  have mT : T ∈ [1, T] ∧ T ≠ 65 := ⟨by simp, n65⟩
  have f1 : ∀ {μ μ' : p_M}, Fq [1] [] μ μ' → Fq [1, T] [] μ μ' := fun h => Fq_mono h (by simp) (by simp)
  have t1 : ∀ {μ μ' : p_M}, Fq [1] [] μ μ' → mI μ' T = mI μ T := fun h => h.2.1 T n65 (by simp; omega)
  obtain ⟨v1, μ1, a1, a2, a3, a4⟩ := c_numS (lo := 0) (hi := 5) hS hC
  have ha : Sh (sI μ1 T 13 v1) := Sh_q (Fq_sI (ss := []) (Fq_refl μ1) mT) a3
  obtain ⟨v2, μ2, b1, b2, b3, b4⟩ := c_pickS (W := p_E + 10 + 17) ha (CS_sI (nO_cs a4) n1 n2) w_times [] (by decide) tR_times (by decide) (by decide)
  obtain ⟨v3, μ3, d1, d2, d3, d4⟩ := c_pickS (W := p_E + 10 + 23) b3 (wO_cs b4) w_with [] (by decide) tR_with (by decide) (by decide)
  obtain ⟨v4, μ4, g1, g2, g3, g4⟩ := c_pickS (W := p_E + 10 + 21) d3 (wO_cs d4) w_wash [w_stone, w_bleach] ok_B3 tR_B3 (by decide) (by decide)
  have hg : Sh (sI μ4 T 14 v4) := Sh_q (Fq_sI (ss := []) (Fq_refl μ4) mT) g3
  obtain ⟨v5, μ5, i1, i2, i3, i4⟩ := c_numS (lo := 1) (hi := 20) hg (CS_sI (wO_cs g4) n1 n2)
  have F1 : Fq [1, T] [] μ (sI μ1 T 13 v1) := Fq_sI (f1 a2) mT
  have F4 : Fq [1, T] [] μ (sI μ4 T 14 v4) := Fq_sI (Fq_trans F1 (Fq_trans (f1 b2) (Fq_trans (f1 d2) (f1 g2)))) mT
  refine ⟨sI μ5 T 15 v5, ?_, Fq_sI (Fq_trans F4 (f1 i2)) mT, ?_⟩
  · obtain ⟨o1, o2, o3, o4⟩ := hh μ hS
    obtain ⟨p1, p2, p3, p4⟩ := hh μ1 a3
    obtain ⟨q1, q2, q3, q4⟩ := hh μ3 d3
    obtain ⟨r1, r2, r3, r4⟩ := hh μ4 g3
    obtain ⟨u1, u2, u3, u4⟩ := hh μ5 i3
    obtain ⟨w1, w2, -, -⟩ := hh _ hg
    have x13 : ¬ (13 : Int32) < 0 ∧ Int32.toNatClampNeg 13 < 18 := by decide
    have k13 : Int32.toNatClampNeg 13 = 13 := by decide
    have l13 : 13 < 18 := by decide
    have x14 : ¬ (14 : Int32) < 0 ∧ Int32.toNatClampNeg 14 < 18 := by decide
    have k14 : Int32.toNatClampNeg 14 = 14 := by decide
    have l14 : 14 < 18 := by decide
    have x15 : ¬ (15 : Int32) < 0 ∧ Int32.toNatClampNeg 15 < 18 := by decide
    have k15 : Int32.toNatClampNeg 15 = 15 := by decide
    have l15 : 15 < 18 := by decide
    have y1 := s_o1 hS
    have y2 := s_o1 ha
    have y3 := s_o1 b3
    have y4 := s_o1 d3
    have y5 := s_o1 hg
    simp only [F_X1_readAgain, bd_some, p_ok, p_let_eq, o1, o2, p3, p4, q1, q2, r3, r4, u3, u4, w1, w2, x13, k13, l13, x14, k14, l14, x15, k15, l15, y1, y2, y3, y4, y5, a1, b1, d1, g1, i1, and_self, true_and, and_true, not_false_eq_true, ↓reduceIte]
  · unfold rA
    have hk := hC.1.2.2.2.2
    cases h1 : pN f e 0 5 k with
    | inl p =>
      have i4 : nO f e v5 μ5 (bnd (stW (bnd (stW (bnd (stW (bnd (stN (pN f e 0 5 k)) (pW f e [w_times]))) (pW f e [w_with]))) (pW f e [w_wash, w_stone, w_bleach]))) (pN f e 1 20)) := i4
      rw [h1] at i4
      exact CS_sI i4.2 n1 n2
    | inr r =>
      have a4 : nO f e v1 μ1 (pN f e 0 5 k) := a4
      have b4 : wO f e v2 μ2 (bnd (stN (pN f e 0 5 k)) (pW f e [w_times])) := b4
      have d4 : wO f e v3 μ3 (bnd (stW (bnd (stN (pN f e 0 5 k)) (pW f e [w_times]))) (pW f e [w_with])) := d4
      have g4 : wO f e v4 μ4 (bnd (stW (bnd (stW (bnd (stN (pN f e 0 5 k)) (pW f e [w_times]))) (pW f e [w_with]))) (pW f e [w_wash, w_stone, w_bleach])) := g4
      have i4 : nO f e v5 μ5 (bnd (stW (bnd (stW (bnd (stW (bnd (stN (pN f e 0 5 k)) (pW f e [w_times]))) (pW f e [w_with]))) (pW f e [w_wash, w_stone, w_bleach]))) (pN f e 1 20)) := i4
      rw [h1] at a4 b4 d4 g4 i4
      have e1 : v1 = r.1 := a4.1
      rw [bnd_r]
      have g4 : wO f e v4 μ4 (bnd (stW (bnd (stW (pW f e [w_times] r.2)) (pW f e [w_with]))) (pW f e [w_wash, w_stone, w_bleach])) := g4
      have i4 : nO f e v5 μ5 (bnd (stW (bnd (stW (bnd (stW (pW f e [w_times] r.2)) (pW f e [w_with]))) (pW f e [w_wash, w_stone, w_bleach]))) (pN f e 1 20)) := i4
      cases h2 : pW f e [w_times] r.2 with
      | inl p =>
        rw [h2] at i4
        exact CS_sI i4.2 n1 n2
      | inr a =>
        rw [h2] at g4 i4
        rw [bnd_r]
        have g4 : wO f e v4 μ4 (bnd (stW (pW f e [w_with] a.2)) (pW f e [w_wash, w_stone, w_bleach])) := g4
        have i4 : nO f e v5 μ5 (bnd (stW (bnd (stW (pW f e [w_with] a.2)) (pW f e [w_wash, w_stone, w_bleach]))) (pN f e 1 20)) := i4
        cases h3 : pW f e [w_with] a.2 with
        | inl p =>
          rw [h3] at i4
          exact CS_sI i4.2 n1 n2
        | inr b =>
          rw [h3] at g4 i4
          rw [bnd_r]
          have g4 : wO f e v4 μ4 (pW f e [w_wash, w_stone, w_bleach] b.2) := g4
          have i4 : nO f e v5 μ5 (bnd (stW (pW f e [w_wash, w_stone, w_bleach] b.2)) (pN f e 1 20)) := i4
          show rO f e T _ (bnd (pW f e [w_wash, w_stone, w_bleach] b.2) _)
          cases h4 : pW f e [w_wash, w_stone, w_bleach] b.2 with
          | inl p =>
            rw [h4] at i4
            exact CS_sI i4.2 n1 n2
          | inr c =>
            rw [h4] at g4 i4
            have e4 : v4 = nI c.1 := g4.1
            rw [bnd_r]
            have i4 : nO f e v5 μ5 (pN f e 1 20 c.2) := i4
            cases h5 : pN f e 1 20 c.2 with
            | inl p =>
              rw [h5] at i4
              exact CS_sI i4.2 n1 n2
            | inr d =>
              rw [h5] at i4
              have e5 : v5 = d.1 := i4.1
              refine ⟨CS_sI i4.2 n1 n2, fun j hj => ?_⟩
              subst e1 e4 e5
              simp only [mI_sI, mR_sI, mK_sI, mN_sI, mL_sI, mI_sG, mR_sG, mK_sG, mN_sG, mL_sG, mI_sJ, mR_sJ, mK_sJ, mN_sJ, mL_sJ, mI_sA, mR_sA, mK_sA, mN_sA, mL_sA, z_up, ↓reduceIte, reduceIte, Nat.reduceEqDiff, true_and, and_true]
              rw [t1 i2]
              simp only [mI_sI, mR_sI, mK_sI, mN_sI, mL_sI, mI_sG, mR_sG, mK_sG, mN_sG, mL_sG, mI_sJ, mR_sJ, mK_sJ, mN_sJ, mL_sJ, mI_sA, mR_sA, mK_sA, mN_sA, mL_sA, z_up, ↓reduceIte, reduceIte, Nat.reduceEqDiff, true_and, and_true]
              rw [t1 g2, t1 d2, t1 b2]
              simp only [mI_sI, mR_sI, mK_sI, mN_sI, mL_sI, mI_sG, mR_sG, mK_sG, mN_sG, mL_sG, mI_sJ, mR_sJ, mK_sJ, mN_sJ, mL_sJ, mI_sA, mR_sA, mK_sA, mN_sA, mL_sA, z_up, ↓reduceIte, reduceIte, Nat.reduceEqDiff, true_and, and_true]
              rw [t1 a2, hs j hj]
theorem i7 {b : Nat} (h : b < 7) : b = 0 ∨ b = 1 ∨ b = 2 ∨ b = 3 ∨ b = 4 ∨ b = 5 ∨ b = 6 := by omega
theorem c_rule {f : Nat → Int32} {e H T k n : Nat} {s : Nat → Int32} {μ : p_M} (hS : Sh μ) (hH : HT H T) (hC : CS μ f e (.inr k)) (hn : n ≤ 24) (hl : mI μ H 1 = nI n) (hs : ∀ j, j < 18 → mI μ T j = s j) : ∃ μ', F_X1_readRule H 1 μ = some (0, μ') ∧ Fq [1, H, T] [] μ μ' ∧ rO f e T μ' (rul f e n k s) ∧ (n < 24 → mI μ' H 1 = nI (n + 1)) := by
  have hh : ∀ μ, Sh μ → isHou μ H T := fun μ h => hou_sh h hH
  have n1 : ¬ 1 = T := by rcases hH with h | h <;> omega
  have n2 : ¬ 2 = T := by rcases hH with h | h <;> omega
  have n1H : ¬ 1 = H := by rcases hH with h | h <;> omega
  have n2H : ¬ 2 = H := by rcases hH with h | h <;> omega
  have nTH : ¬ T = H := by rcases hH with h | h <;> omega
  have nHT : ¬ H = T := fun h => nTH h.symm
  have nH1 : ¬ H = 1 := fun h => n1H h.symm
  have n65 : T ≠ 65 := by rcases hH with h | h <;> omega
  have n65H : H ≠ 65 := by rcases hH with h | h <;> omega
  have mT : T ∈ [1, H, T] ∧ T ≠ 65 := ⟨by simp, n65⟩
  have mH : H ∈ [1, H, T] ∧ H ≠ 65 := ⟨by simp, n65H⟩
  have f1 : ∀ {μ μ' : p_M}, Fq [1] [] μ μ' → Fq [1, H, T] [] μ μ' := fun h => Fq_mono h (by simp) (by simp)
  have f2 : ∀ {μ μ' : p_M}, Fq [1, T] [] μ μ' → Fq [1, H, T] [] μ μ' := fun h => Fq_mono h (by simp) (by simp)
  have t1 : ∀ {μ μ' : p_M}, Fq [1] [] μ μ' → mI μ' T = mI μ T := fun h => h.2.1 T n65 (by simp; omega)
  have t2 : ∀ {μ μ' : p_M}, Fq [1] [] μ μ' → mI μ' H = mI μ H := fun h => h.2.1 H n65H (by simp; omega)
  have t3 : ∀ {μ μ' : p_M}, Fq [1, T] [] μ μ' → mI μ' H = mI μ H := fun h => h.2.1 H n65H (by simp; omega)
  have hk := hC.1.2.2.2.2
  unfold rul
  by_cases cn : n = 24
  · subst cn
    rw [if_pos rfl]
    have c1 : ¬ nI 24 < 24 := by decide
    have q := c_refuseNext hS hC.1 hC.2
    have fq : Fq [1] [] μ (sI (cset μ (bl f e k)) 1 3 (nI (bl f e k))) := Fq_sI (Fq_sI (Fq_refl μ) (by decide)) (by decide)
    refine ⟨_, ?_, f1 fq, ⟨(bl_le hk).2, hC.1.2.2.2.1, ?_⟩, fun h => absurd h (by decide)⟩
    · simp only [F_X1_readRule, bd_some, p_ok, (hh μ hS).1, hl, c1, s_o1 hS, q, and_self, true_and, ↓reduceIte]
    · simp only [mI_sI, mR_sI, mK_sI, mN_sI, mL_sI, mI_sG, mR_sG, mK_sG, mN_sG, mL_sG, mI_sJ, mR_sJ, mK_sJ, mN_sJ, mL_sJ, mI_sA, mR_sA, mK_sA, mN_sA, mL_sA, z_up, ↓reduceIte, reduceIte, Nat.reduceEqDiff, true_and, and_true]
  · rw [if_neg cn]
    have c1 : nI n < 24 := (show nI n < nI 24 from nI_lt (by omega) (by decide))
    have a1' : nI n + 1 = nI (n + 1) := nI_add n 1
    have fq0 : Fq [1, H, T] [] μ (sI μ H 1 (nI (n + 1))) := Fq_sI (Fq_refl μ) mH
    have hS0 := Sh_q fq0 hS
    obtain ⟨v1, μ1, a1, a2, a3, a4⟩ := c_pickS (W := p_E + 10 + 5) hS0 (CS_sI hC n1H n2H) w_bears [w_pours, w_litres, w_minutes, w_again, w_pack, w_band] ok_R7 tR_R7 (by decide) (by decide)
    have l1 : mI μ1 H 1 = nI (n + 1) := by rw [t2 a2]; simp only [mI_sI, mR_sI, mK_sI, mN_sI, mL_sI, mI_sG, mR_sG, mK_sG, mN_sG, mL_sG, mI_sJ, mR_sJ, mK_sJ, mN_sJ, mL_sJ, mI_sA, mR_sA, mK_sA, mN_sA, mL_sA, z_up, ↓reduceIte, reduceIte, Nat.reduceEqDiff, true_and, and_true]
    have s1 : ∀ j, j < 18 → mI μ1 T j = s j := fun j hj => by rw [t1 a2]; simp only [mI_sI, mR_sI, mK_sI, mN_sI, mL_sI, mI_sG, mR_sG, mK_sG, mN_sG, mL_sG, mI_sJ, mR_sJ, mK_sJ, mN_sJ, mL_sJ, mI_sA, mR_sA, mK_sA, mN_sA, mL_sA, z_up, ↓reduceIte, reduceIte, Nat.reduceEqDiff, true_and, and_true, nTH]; exact hs j hj
    have fq1 : Fq [1, H, T] [] μ μ1 := Fq_trans fq0 (f1 a2)
    have a5 : wO f e v1 μ1 (pW f e (w_bears :: [w_pours, w_litres, w_minutes, w_again, w_pack, w_band]) k) := a4
    clear a4
    obtain ⟨o1, o2, o3, o4⟩ := hh μ1 a3
    have y1 := s_o1 hS0
    have y2 := s_o1 a3
    have oH := (hh μ hS).1
    show ∃ μ', _ ∧ _ ∧ rO f e T μ' (bnd (pW f e (w_bears :: [w_pours, w_litres, w_minutes, w_again, w_pack, w_band]) k) _) ∧ _
    cases hp : pW f e (w_bears :: [w_pours, w_litres, w_minutes, w_again, w_pack, w_band]) k with
    | inl p =>
      rw [hp] at a5
      obtain ⟨rfl, a6⟩ := a5
      have w1 : Int32.toInt (-1) < 0 ∨ 6 < Int32.toInt (-1) := by decide
      refine ⟨μ1, ?_, fq1, a6, fun _ => l1⟩
      simp only [F_X1_readRule, F_X1_readRule_c167, bd_some, p_ok, p_let_eq, oH, hl, c1, a1', y1, a1, w1, and_self, true_and, ↓reduceIte]
    | inr q =>
      rw [hp] at a5
      obtain ⟨rfl, a6⟩ := a5
      obtain ⟨q1, q2, q3⟩ := pW_ok hk hp
      have q1 : q.1 < 7 := q1
      rw [bnd_r]
      have done : ∀ (o : HO), (∃ μ', F_X1_readRule H 1 μ = some (0, μ') ∧ Fq [1, T] [] μ1 μ' ∧ rO f e T μ' o) → ∃ μ', F_X1_readRule H 1 μ = some (0, μ') ∧ Fq [1, H, T] [] μ μ' ∧ rO f e T μ' o ∧ (n < 24 → mI μ' H 1 = nI (n + 1)) := fun o ⟨μ', h1, h2, h3⟩ => ⟨μ', h1, Fq_trans fq1 (f2 h2), h3, fun _ => by rw [t3 h2]; exact l1⟩
      have mT1 : T ∈ [1, T] ∧ T ≠ 65 := ⟨by simp, n65⟩
      have f3 : ∀ {μ μ' : p_M}, Fq [1] [] μ μ' → Fq [1, T] [] μ μ' := fun h => Fq_mono h (by simp) (by simp)
      obtain ⟨qa, qb⟩ := q
      dsimp only at a6 q1 q2 q3 a1 ⊢
      rcases i7 q1 with rfl | rfl | rfl | rfl | rfl | rfl | rfl
      · obtain ⟨μ2, b1, b2, b3⟩ := c_ofBath (w := 0) (lo := 0) (hi := 100) a3 hH a6 (by decide) s1
        have b1 : F_X1_readOfBath H 1 0 0 100 μ1 = some (0, μ2) := b1
        have w1 : ¬ (Int32.toInt 0 < 0 ∨ 6 < Int32.toInt 0) := by decide
        refine done _ ⟨μ2, ?_, b2, b3⟩
        simp only [F_X1_readRule, F_X1_readRule_c167, bd_some, p_ok, p_let_eq, oH, hl, c1, a1', y1, a1, w1, o1, b1, show nI 0 = 0 from rfl, and_self, true_and, ↓reduceIte]
      · obtain ⟨μ2, b1, b2, b3⟩ := c_rPours a3 hH a6 s1
        have w1 : ¬ (Int32.toInt (nI 1) < 0 ∨ 6 < Int32.toInt (nI 1)) := by decide
        refine done _ ⟨μ2, ?_, b2, b3⟩
        simp only [F_X1_readRule, F_X1_readRule_c167, bd_some, p_ok, p_let_eq, oH, hl, c1, a1', y1, a1, w1, o1, b1, show (nI 1 = 0) = False from eq_false (by decide), show (nI 1 = 1) = True from eq_true rfl, and_self, true_and, ↓reduceIte]
      · obtain ⟨v2, μ2, b1, b2, b3, b4⟩ := c_hN (w := 8) (lo := 1) (hi := 20) a3 hH a6 (by decide) s1
        obtain ⟨-, -, p3, p4⟩ := hh μ2 b3
        have w1 : ¬ (Int32.toInt (nI 2) < 0 ∨ 6 < Int32.toInt (nI 2)) := by decide
        have x8 : ¬ (8 : Int32) < 0 ∧ Int32.toNatClampNeg 8 < 18 := by decide
        have k8 : Int32.toNatClampNeg 8 = 8 := by decide
        have l8 : 8 < 18 := by decide
        refine done _ ⟨sI μ2 T 8 v2, ?_, Fq_sI (f3 b2) mT1, b4⟩
        simp only [F_X1_readRule, F_X1_readRule_c167, bd_some, p_ok, p_let_eq, oH, hl, c1, a1', y1, y2, a1, w1, o1, o2, b1, p3, p4, x8, k8, l8, show (nI 2 = 0) = False from eq_false (by decide), show (nI 2 = 1) = False from eq_false (by decide), show (nI 2 = 2) = True from eq_true rfl, and_self, true_and, not_false_eq_true, ↓reduceIte]
      · obtain ⟨μ2, b1, b2, b3⟩ := c_ofBath (w := 9) (lo := 1) (hi := 60) a3 hH a6 (by decide) s1
        have b1 : F_X1_readOfBath H 1 9 1 60 μ1 = some (0, μ2) := b1
        have w1 : ¬ (Int32.toInt (nI 3) < 0 ∨ 6 < Int32.toInt (nI 3)) := by decide
        refine done _ ⟨μ2, ?_, b2, b3⟩
        simp only [F_X1_readRule, F_X1_readRule_c167, bd_some, p_ok, p_let_eq, oH, hl, c1, a1', y1, a1, w1, o1, b1, show (nI 3 = 0) = False from eq_false (by decide), show (nI 3 = 1) = False from eq_false (by decide), show (nI 3 = 2) = False from eq_false (by decide), show (nI 3 = 3) = True from eq_true rfl, and_self, true_and, ↓reduceIte]
      · obtain ⟨μ2, b1, b2, b3⟩ := c_rAgain a3 hH a6 s1
        have w1 : ¬ (Int32.toInt (nI 4) < 0 ∨ 6 < Int32.toInt (nI 4)) := by decide
        refine done _ ⟨μ2, ?_, b2, b3⟩
        simp only [F_X1_readRule, F_X1_readRule_c167, bd_some, p_ok, p_let_eq, oH, hl, c1, a1', y1, a1, w1, o1, b1, show (nI 4 = 0) = False from eq_false (by decide), show (nI 4 = 1) = False from eq_false (by decide), show (nI 4 = 2) = False from eq_false (by decide), show (nI 4 = 3) = False from eq_false (by decide), show (nI 4 = 4) = True from eq_true rfl, and_self, true_and, ↓reduceIte]
      · obtain ⟨v2, μ2, b1, b2, b3, b4⟩ := c_hN (w := 16) (lo := 1) (hi := 20) a3 hH a6 (by decide) s1
        obtain ⟨-, -, p3, p4⟩ := hh μ2 b3
        have w1 : ¬ (Int32.toInt (nI 5) < 0 ∨ 6 < Int32.toInt (nI 5)) := by decide
        have x8 : ¬ (16 : Int32) < 0 ∧ Int32.toNatClampNeg 16 < 18 := by decide
        have k8 : Int32.toNatClampNeg 16 = 16 := by decide
        have l8 : 16 < 18 := by decide
        refine done _ ⟨sI μ2 T 16 v2, ?_, Fq_sI (f3 b2) mT1, b4⟩
        simp only [F_X1_readRule, F_X1_readRule_c167, bd_some, p_ok, p_let_eq, oH, hl, c1, a1', y1, y2, a1, w1, o1, o2, b1, p3, p4, x8, k8, l8, show (nI 5 = 0) = False from eq_false (by decide), show (nI 5 = 1) = False from eq_false (by decide), show (nI 5 = 2) = False from eq_false (by decide), show (nI 5 = 3) = False from eq_false (by decide), show (nI 5 = 4) = False from eq_false (by decide), show (nI 5 = 5) = True from eq_true rfl, and_self, true_and, not_false_eq_true, ↓reduceIte]
      · obtain ⟨v2, μ2, b1, b2, b3, b4⟩ := c_hN (w := 17) (lo := 0) (hi := 50) a3 hH a6 (by decide) s1
        obtain ⟨-, -, p3, p4⟩ := hh μ2 b3
        have w1 : ¬ (Int32.toInt (nI 6) < 0 ∨ 6 < Int32.toInt (nI 6)) := by decide
        have x8 : ¬ (17 : Int32) < 0 ∧ Int32.toNatClampNeg 17 < 18 := by decide
        have k8 : Int32.toNatClampNeg 17 = 17 := by decide
        have l8 : 17 < 18 := by decide
        refine done _ ⟨sI μ2 T 17 v2, ?_, Fq_sI (f3 b2) mT1, b4⟩
        simp only [F_X1_readRule, F_X1_readRule_c167, bd_some, p_ok, p_let_eq, oH, hl, c1, a1', y1, y2, a1, w1, o1, o2, b1, p3, p4, x8, k8, l8, show (nI 6 = 0) = False from eq_false (by decide), show (nI 6 = 1) = False from eq_false (by decide), show (nI 6 = 2) = False from eq_false (by decide), show (nI 6 = 3) = False from eq_false (by decide), show (nI 6 = 4) = False from eq_false (by decide), show (nI 6 = 5) = False from eq_false (by decide), show (nI 6 = 6) = True from eq_true rfl, and_self, true_and, not_false_eq_true, ↓reduceIte]
