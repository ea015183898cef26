/-! the Model reads a recipe -/
abbrev mOut (v : Int32) (μ' : p_M) (o : Nat ⊕ (Nat × (Nat → Int32) × (Nat → Int32))) : Prop := match o with
    | .inl p => v = 0 ∧ mI μ' 65 5 = nI p
    | .inr (n', bs', am') => v = 1 ∧ mI μ' 68 41 = nI n' ∧ ∀ j, j < n' → mI μ' 69 (820 + j) = bs' j ∧ mI μ' 70 (820 + j) = am' j
theorem m_rec {f : Nat → Int32} {e : Nat} : ∀ (r n k m : Nat) (μ : p_M) (bs am : Nat → Int32), e - k < r → n ≤ 20 → r ≤ m → MT μ f e k → mI μ 68 41 = nI n → (∀ j, j < n → mI μ 69 (820 + j) = bs j ∧ mI μ 70 (820 + j) = am j) → ∃ v μ', F_X13_readRecipe_c25 m μ = some (v, μ') ∧ Fq [68, 69, 70] [3, 5] μ μ' ∧ (∀ j, j ≠ 41 → mI μ' 68 j = mI μ 68 j) ∧ (∀ j, j < 820 → mI μ' 69 j = mI μ 69 j ∧ mI μ' 70 j = mI μ 70 j) ∧ mOut v μ' (recP f e r n k bs am) := by
  have i41 : ¬ (41 : Int32) < 0 ∧ Int32.toNatClampNeg 41 < 42 := by decide
  have k41 : Int32.toNatClampNeg 41 = 41 := by decide
  have l41 : 41 < 42 := by decide
  have fm : ∀ (μ : p_M) (k b : Nat), Fq [68, 69, 70] [3, 5] μ (mset μ k b) := fun μ k b => Fq_mono (Fq_mset k b) (by decide) (by decide)
  intro r
  induction r with
  | zero => intro n k m μ bs am h; omega
  | succ r ih =>
    intro n k m μ bs am hr hn hm hT hl hJ
    obtain ⟨m, rfl⟩ : ∃ k, m = k + 1 := ⟨m - 1, by omega⟩
    have h4 := hT.2.2.2.1
    have hb := bl_le (f := f) hT.2.2.2.2
    have hw := wd_le (f := f) hT.2.2.2.2
    have hb2 := bl_le (f := f) hw.2
    have rb := m_readBath hT
    have l2 : mI (mset μ (wd f e k) (bl f e k)) 68 41 = nI n := (congrFun (mI_msetO (by decide)) 41).trans hl
    have hT1 : MT (mset μ (wd f e k) (bl f e k)) f e (wd f e k) := MT_mset hT hw.2
    unfold recP
    split
    · rename_i hx
      rw [hx] at rb
      have rb : F_X13_readBath μ = some (-1, mset μ (wd f e k) (bl f e k)) := rb
      have z1 : (-1 : Int32) < 0 := by decide
      refine ⟨0, mset μ (wd f e k) (bl f e k), ?_, fm _ _ _, fun j _ => by rw [mI_msetO (by decide)], fun j _ => by rw [mI_msetO (by decide), mI_msetO (by decide)]; exact ⟨rfl, rfl⟩, rfl, mI_mset5⟩
      simp only [F_X13_readRecipe_c25, F_X13_readRecipe_c46, bd_some, rb, z1, ↓reduceIte]
    · rename_i x hx
      rw [hx] at rb
      have hx3 := bth_le hx
      have rb : F_X13_readBath μ = some (nI x, mset μ (wd f e k) (bl f e k)) := rb
      have z1 : ¬ nI x < 0 := nI_pos (by omega)
      split
      · rename_i cn
        subst cn
        have l2 : mI (mset μ (wd f e k) (bl f e k)) 68 41 = 20 := l2
        refine ⟨0, mset μ (wd f e k) (bl f e k), ?_, fm _ _ _, fun j _ => by rw [mI_msetO (by decide)], fun j _ => by rw [mI_msetO (by decide), mI_msetO (by decide)]; exact ⟨rfl, rfl⟩, rfl, mI_mset5⟩
        simp only [F_X13_readRecipe_c25, F_X13_readRecipe_c46, bd_some, p_ok, rb, z1, i41, k41, l41, aM, l2, ↓reduceIte, and_self, true_and, not_true_eq_false, not_false_eq_true]
      · rename_i cn
        have n20 : ¬ nI n = 20 := fun h => cn ((nI_eq (show n < 2 ^ 31 by omega) (show 20 < 2 ^ 31 by decide)).mp h)
        have st : ∃ k1 b1 μ1, μ1 = mset μ k1 b1 ∧ k1 = (if x = 3 then wd f e k else nm f e (wd f e k)) ∧ (x ≠ 3 → b1 = bl f e (wd f e k)) ∧ F_X13_readRecipe_c25 (m + 1) μ = F_X13_readRecipe_c65 (F_X13_readRecipe_c25 m) (nI x) ((if x = 3 then some (1 : Int32) else numP f e 2 1 20 (wd f e k)).getD (-1)) μ1 := by
          by_cases c3 : x = 3
          · subst c3
            refine ⟨wd f e k, bl f e k, _, rfl, rfl, fun h => absurd rfl h, ?_⟩
            have z3 : nI 3 = 3 := rfl
            have z4 : ¬ (3 : Int32) < 0 := by decide
            simp only [F_X13_readRecipe_c25, bd_some, p_ok, rb, z1, i41, k41, l41, aM, l2, n20, z3, z4, ↓reduceIte, and_self, true_and, not_true_eq_false, not_false_eq_true, Option.getD_some]
          · have nu := m_number (g := 2) (lo := 1) (hi := 20) (by decide) hT1
            rw [mset_mset] at nu
            have nu : F_X13_number 2 1 20 (mset μ (wd f e k) (bl f e k)) = _ := nu
            have n3 : ¬ nI x = 3 := fun e => c3 ((nI_eq (show x < 2 ^ 31 by omega) (show 3 < 2 ^ 31 by decide)).mp e)
            refine ⟨nm f e (wd f e k), bl f e (wd f e k), _, rfl, by rw [if_neg c3], fun _ => rfl, ?_⟩
            simp only [F_X13_readRecipe_c25, bd_some, p_ok, rb, z1, i41, k41, l41, aM, l2, n20, n3, nu, if_neg c3, ↓reduceIte, and_self, true_and, not_true_eq_false, not_false_eq_true]
        obtain ⟨k1, b1, μ1, e1, ek1, eb1, st⟩ := st
        have k1le : k1 ≤ e ∧ k ≤ k1 := by
          have := nm_le (f := f) hw.2
          rw [ek1]
          split <;> omega
        rw [← ek1]
        rw [st]
        clear st
        generalize hy : (if x = 3 then some (1 : Int32) else numP f e 2 1 20 (wd f e k)) = oy
        cases oy with
        | none =>
          have c3 : x ≠ 3 := fun c => by rw [if_pos c] at hy; cases hy
          have z2 : ¬ (0 : Int32) ≤ -1 := by decide
          subst e1
          refine ⟨0, mset μ k1 b1, ?_, fm _ _ _, fun j _ => by rw [mI_msetO (by decide)], fun j _ => by rw [mI_msetO (by decide), mI_msetO (by decide)]; exact ⟨rfl, rfl⟩, rfl, by rw [mI_mset5, eb1 c3]⟩
          simp only [F_X13_readRecipe_c65, Option.getD_none, z2, ↓reduceIte]
        | some y =>
          obtain ⟨z, hz1, hz2, rfl⟩ := y_ok hy
          dsimp only
          have z2 : (0 : Int32) ≤ nI z := nI_pos' (by omega)
          have a8 : 820 + nI n = nI (820 + n) := nI_add 820 n
          have i8 := ix_nI (show 820 + n < 840 by omega) (by decide)
          have k8 := nI_clamp (show 820 + n < 2 ^ 31 by omega)
          have l8 : 820 + n < 840 := by omega
          have a1 : nI n + 1 = nI (n + 1) := nI_add n 1
          have l3 : mI μ1 68 41 = nI n := by rw [e1, mI_msetO (by decide)]; exact hl
          have hT2 : MT (sI (sI (sI μ1 69 (820 + n) (nI x)) 70 (820 + n) (nI z)) 68 41 (nI (n + 1))) f e k1 := by
            obtain ⟨t1, t2, t3, t4, t5⟩ := MT_mset (b := b1) hT k1le.1
            rw [← e1] at t1 t2 t3
            unfold MT
            simp only [mI_sI, mR_sI, mK_sI, mN_sI, mL_sI, mI_sG, mR_sG, mK_sG, mN_sG, mL_sG, mI_sJ, mR_sJ, mK_sJ, mN_sJ, mL_sJ, mI_sA, mR_sA, mK_sA, mN_sA, mL_sA, z_up, ↓reduceIte, reduceIte, Nat.reduceEqDiff, true_and, and_true]
            exact ⟨t1, t2, t3, t4, t5⟩
          have fq : Fq [68, 69, 70] [3, 5] μ (sI (sI (sI μ1 69 (820 + n) (nI x)) 70 (820 + n) (nI z)) 68 41 (nI (n + 1))) := by
            rw [e1]
            exact Fq_sI (Fq_sI (Fq_sI (fm _ _ _) (by decide)) (by decide)) (by decide)
          have hl2 : mI (sI (sI (sI μ1 69 (820 + n) (nI x)) 70 (820 + n) (nI z)) 68 41 (nI (n + 1))) 68 41 = nI (n + 1) := by simp only [mI_sI, mR_sI, mK_sI, mN_sI, mL_sI, mI_sG, mR_sG, mK_sG, mN_sG, mL_sG, mI_sJ, mR_sJ, mK_sJ, mN_sJ, mL_sJ, mI_sA, mR_sA, mK_sA, mN_sA, mL_sA, z_up, ↓reduceIte, reduceIte, Nat.reduceEqDiff, true_and, and_true]
          have hJ2 : ∀ j, j < n + 1 → mI (sI (sI (sI μ1 69 (820 + n) (nI x)) 70 (820 + n) (nI z)) 68 41 (nI (n + 1))) 69 (820 + j) = va_up bs n (nI x) j ∧ mI (sI (sI (sI μ1 69 (820 + n) (nI x)) 70 (820 + n) (nI z)) 68 41 (nI (n + 1))) 70 (820 + j) = va_up am n (nI z) j := by
            intro j hj
            simp only [mI_sI, mR_sI, mK_sI, mN_sI, mL_sI, mI_sG, mR_sG, mK_sG, mN_sG, mL_sG, mI_sJ, mR_sJ, mK_sJ, mN_sJ, mL_sJ, mI_sA, mR_sA, mK_sA, mN_sA, mL_sA, z_up, ↓reduceIte, reduceIte, Nat.reduceEqDiff, true_and, and_true]
            by_cases c : j = n
            · subst c
              simp only [↓reduceIte, and_self]
            · have c' : ¬ 820 + j = 820 + n := by omega
              rw [if_neg c, if_neg c, if_neg c', if_neg c', e1, mI_msetO (by decide), mI_msetO (by decide)]
              exact hJ j (by omega)
          have hA : ∀ j, j ≠ 41 → mI (sI (sI (sI μ1 69 (820 + n) (nI x)) 70 (820 + n) (nI z)) 68 41 (nI (n + 1))) 68 j = mI μ 68 j := fun j hj => by
            simp only [mI_sI, mR_sI, mK_sI, mN_sI, mL_sI, mI_sG, mR_sG, mK_sG, mN_sG, mL_sG, mI_sJ, mR_sJ, mK_sJ, mN_sJ, mL_sJ, mI_sA, mR_sA, mK_sA, mN_sA, mL_sA, z_up, ↓reduceIte, reduceIte, Nat.reduceEqDiff, true_and, and_true, hj]
            rw [e1, mI_msetO (by decide)]
          have hB : ∀ j, j < 820 → mI (sI (sI (sI μ1 69 (820 + n) (nI x)) 70 (820 + n) (nI z)) 68 41 (nI (n + 1))) 69 j = mI μ 69 j ∧ mI (sI (sI (sI μ1 69 (820 + n) (nI x)) 70 (820 + n) (nI z)) 68 41 (nI (n + 1))) 70 j = mI μ 70 j := fun j hj => by
            have c' : ¬ j = 820 + n := by omega
            simp only [mI_sI, mR_sI, mK_sI, mN_sI, mL_sI, mI_sG, mR_sG, mK_sG, mN_sG, mL_sG, mI_sJ, mR_sJ, mK_sJ, mN_sJ, mL_sJ, mI_sA, mR_sA, mK_sA, mN_sA, mL_sA, z_up, ↓reduceIte, reduceIte, Nat.reduceEqDiff, true_and, and_true, c']
            rw [e1, mI_msetO (by decide), mI_msetO (by decide)]
            exact ⟨rfl, rfl⟩
          have st : F_X13_readRecipe_c65 (F_X13_readRecipe_c25 m) (nI x) ((some (nI z)).getD (-1)) μ1 = (F_X13_blanks (sI (sI (sI μ1 69 (820 + n) (nI x)) 70 (820 + n) (nI z)) 68 41 (nI (n + 1)))).bind fun q4 => if ¬ (mI q4.2 tM 3) = (mI q4.2 tM 4) then ((F_X13_isAt (59 : Int32) (59 : Int32) q4.2).bind fun q5 => if ¬ q5.1 = 0 then (F_X13_readRecipe_c25 m (sI q5.2 tM 3 ((mI q5.2 tM 3) + (1 : Int32)))) else (some ((0 : Int32), q5.2))) else (some ((1 : Int32), q4.2)) := by
            simp only [F_X13_readRecipe_c65, Option.getD_some, p_ok, aM, i41, k41, l41, a8, i8, k8, l8, a1, l3, z2, mI_sI, z_up, ↓reduceIte, and_self, true_and, Nat.reduceEqDiff, not_false_eq_true]
          rw [st]
          clear st
          generalize (sI (sI (sI μ1 69 (820 + n) (nI x)) 70 (820 + n) (nI z)) 68 41 (nI (n + 1))) = μ2 at *
          have bk := m_blanks' hT2
          have bk : F_X13_blanks μ2 = some (0, mset μ2 (bl f e k1) (bl f e k1)) := bk
          have hb3 := bl_le (f := f) k1le.1
          have hT3 : MT (mset μ2 (bl f e k1) (bl f e k1)) f e (bl f e k1) := MT_mset hT2 hb3.2
          have q34 : (nI (bl f e k1) = nI e) = (bl f e k1 = e) := propext (nI_eq (by omega) (by omega))
          rw [bk]
          simp only [bd_some, tM, hT3.2.2.1, hT3.2.1, q34]
          by_cases c5 : bl f e k1 < e
          · rw [if_pos (show ¬ bl f e k1 = e by omega), if_pos c5, m_isAt hT3]
            by_cases c6 : f (bl f e k1) = 59
            · rw [if_pos c6]
              have c6' : bl f e k1 < e ∧ isA 59 59 (f (bl f e k1)) = true := ⟨c5, by rw [isA_one]; exact c6⟩
              rw [bI_pos c6']
              obtain ⟨v, μ', p1, p2, p3, p4, p5⟩ := ih (n + 1) (bl f e k1 + 1) m (mset μ2 (bl f e k1 + 1) (bl f e k1)) (va_up bs n (nI x)) (va_up am n (nI z)) (by omega) (by omega) (by omega) (MT_mset hT2 (by omega)) ((congrFun (mI_msetO (by decide)) 41).trans hl2) (fun j hj => by rw [mI_msetO (by decide), mI_msetO (by decide)]; exact hJ2 j hj)
              refine ⟨v, μ', ?_, Fq_trans fq (Fq_trans (fm _ _ _) p2), fun j hj => (p3 j hj).trans (by rw [mI_msetO (by decide)]; exact hA j hj), fun j hj => ?_, p5⟩
              · have a2 : nI (bl f e k1) + 1 = nI (bl f e k1 + 1) := nI_add _ 1
                simp only [bd_some, i_10, not_false_eq_true, ↓reduceIte, hT3.2.2.1, a2, mset_3]
                exact p1
              · have g := p4 j hj
                rw [mI_msetO (by decide), mI_msetO (by decide)] at g
                exact ⟨g.1.trans (hB j hj).1, g.2.trans (hB j hj).2⟩
            · rw [if_neg c6]
              have c6' : ¬ (bl f e k1 < e ∧ isA 59 59 (f (bl f e k1)) = true) := fun h => c6 (by have := h.2; rw [isA_one] at this; exact this)
              rw [bI_neg c6']
              refine ⟨0, mset μ2 (bl f e k1) (bl f e k1), ?_, Fq_trans fq (fm _ _ _), fun j hj => by rw [mI_msetO (by decide)]; exact hA j hj, fun j hj => by rw [mI_msetO (by decide), mI_msetO (by decide)]; exact hB j hj, rfl, mI_mset5⟩
              simp only [bd_some, not_true_eq_false, ↓reduceIte]
          · rw [if_neg (show ¬ ¬ bl f e k1 = e by omega), if_neg c5]
            refine ⟨1, mset μ2 (bl f e k1) (bl f e k1), rfl, Fq_trans fq (fm _ _ _), fun j hj => by rw [mI_msetO (by decide)]; exact hA j hj, fun j hj => by rw [mI_msetO (by decide), mI_msetO (by decide)]; exact hB j hj, rfl, (congrFun (mI_msetO (by decide)) 41).trans hl2, fun j hj => by rw [mI_msetO (by decide), mI_msetO (by decide)]; exact hJ2 j hj⟩
/-- one of the Model's recipes copied -/
theorem m_copies {o d n : Nat} (ho : o < 42) (hd : d < 42) (od : o ≠ d) (hn : n ≤ 20) {μ : p_M} (hl : mI μ 68 o = nI n) : ∃ μ', F_X13_copies (nI o) (nI d) μ = some (0, μ') ∧ mI μ' 68 d = nI n ∧ (∀ j, j ≠ d → mI μ' 68 j = mI μ 68 j) ∧ (∀ j, j < n → mI μ' 69 (20 * d + j) = mI μ 69 (20 * o + j) ∧ mI μ' 70 (20 * d + j) = mI μ 70 (20 * o + j)) ∧ (∀ j, j < 20 * d ∨ 20 * d + 20 ≤ j → mI μ' 69 j = mI μ 69 j ∧ mI μ' 70 j = mI μ 70 j) ∧ Fq [68, 69, 70] [] μ μ' := by
  have io := ix_nI ho (by decide)
  have ko := nI_clamp (show o < 2 ^ 31 by omega)
  have id_ := ix_nI hd (by decide)
  have kd := nI_clamp (show d < 2 ^ 31 by omega)
  have mo : 20 * nI o = nI (20 * o) := pk_mul 20 o
  have md : 20 * nI d = nI (20 * d) := pk_mul 20 d
  have lp : ∀ (r k m : Nat) (μ : p_M), k + r = n → r < m → mI μ 68 o = nI n → ∃ μ', F_X13_copies_c14 m (nI o) (nI d) (nI k) μ = some (0, μ') ∧ (∀ j, k ≤ j → j < n → mI μ' 69 (20 * d + j) = mI μ 69 (20 * o + j) ∧ mI μ' 70 (20 * d + j) = mI μ 70 (20 * o + j)) ∧ (∀ j, j < 20 * d + k ∨ 20 * d + 20 ≤ j → mI μ' 69 j = mI μ 69 j ∧ mI μ' 70 j = mI μ 70 j) ∧ Fq [69, 70] [] μ μ' := by
    intro r
    induction r with
    | zero =>
      intro k m μ hk hm hl
      obtain ⟨m, rfl⟩ : ∃ k, m = k + 1 := ⟨m - 1, by omega⟩
      have c1 : nI n ≤ nI k := nI_le (by omega) (by omega)
      refine ⟨μ, ?_, fun j h1 h2 => by omega, fun _ _ => ⟨rfl, rfl⟩, Fq_refl μ⟩
      simp only [bd_some, p_let_eq, p_ok, mI_sI, mR_sI, mK_sI, mN_sI, mL_sI, mI_sG, mR_sG, mK_sG, mN_sG, mL_sG, mI_sJ, mR_sJ, mK_sJ, mN_sJ, mL_sJ, z_up, ↓reduceIte, and_self, true_and, and_true, false_and, and_false, not_true_eq_false, not_false_eq_true, Nat.reduceEqDiff, i_10, i_20, i_30, w_in, w_need1, w_need0, m_in, m_thr0, m_thr1, tM, aM, nI_1, nI_pred, reduceIte, wp_some, eq_self, bI_T, bI_F, F_X13_copies_c14, io, ko, ho, hl, c1]
    | succ r ih =>
      intro k m μ hk hm hl
      obtain ⟨m, rfl⟩ : ∃ k, m = k + 1 := ⟨m - 1, by omega⟩
      have c1 : ¬ nI n ≤ nI k := nI_ge (by omega) (by omega)
      have ao : nI (20 * o) + nI k = nI (20 * o + k) := nI_add _ _
      have ad : nI (20 * d) + nI k = nI (20 * d + k) := nI_add _ _
      have i1 := ix_nI (show 20 * o + k < 840 by omega) (by decide)
      have k1 := nI_clamp (show 20 * o + k < 2 ^ 31 by omega)
      have l1 : 20 * o + k < 840 := by omega
      have i2 := ix_nI (show 20 * d + k < 840 by omega) (by decide)
      have k2 := nI_clamp (show 20 * d + k < 2 ^ 31 by omega)
      have l2 : 20 * d + k < 840 := by omega
      have a1 : nI k + 1 = nI (k + 1) := nI_add k 1
      obtain ⟨μ', p1, p2, p3, p4⟩ := ih (k + 1) m (sI (sI μ 69 (20 * d + k) (mI μ 69 (20 * o + k))) 70 (20 * d + k) (mI μ 70 (20 * o + k))) (by omega) (by omega) (by simp only [mI_sI, mR_sI, mK_sI, mN_sI, mL_sI, mI_sG, mR_sG, mK_sG, mN_sG, mL_sG, mI_sJ, mR_sJ, mK_sJ, mN_sJ, mL_sJ, mI_sA, mR_sA, mK_sA, mN_sA, mL_sA, z_up, ↓reduceIte, reduceIte, Nat.reduceEqDiff, true_and, and_true]; exact hl)
      refine ⟨μ', ?_, fun j h1 h2 => ?_, fun j hj => ?_, Fq_trans (Fq_sI (Fq_sI (Fq_refl μ) (by decide)) (by decide)) p4⟩
      · simp only [bd_some, p_let_eq, p_ok, mI_sI, mR_sI, mK_sI, mN_sI, mL_sI, mI_sG, mR_sG, mK_sG, mN_sG, mL_sG, mI_sJ, mR_sJ, mK_sJ, mN_sJ, mL_sJ, z_up, ↓reduceIte, and_self, true_and, and_true, false_and, and_false, not_true_eq_false, not_false_eq_true, Nat.reduceEqDiff, i_10, i_20, i_30, w_in, w_need1, w_need0, m_in, m_thr0, m_thr1, tM, aM, nI_1, nI_pred, reduceIte, wp_some, eq_self, bI_T, bI_F, F_X13_copies_c14, io, ko, ho, hl, c1, mo, md, ao, ad, i1, k1, l1, i2, k2, l2, a1]
        exact p1
      · by_cases c : j = k
        · subst c
          have g := p3 (20 * d + j) (by omega)
          simp only [mI_sI, mR_sI, mK_sI, mN_sI, mL_sI, mI_sG, mR_sG, mK_sG, mN_sG, mL_sG, mI_sJ, mR_sJ, mK_sJ, mN_sJ, mL_sJ, mI_sA, mR_sA, mK_sA, mN_sA, mL_sA, z_up, ↓reduceIte, reduceIte, Nat.reduceEqDiff, true_and, and_true] at g
          exact g
        · have g := p2 j (by omega) h2
          have c' : ¬ 20 * o + j = 20 * d + k := by omega
          simp only [mI_sI, mR_sI, mK_sI, mN_sI, mL_sI, mI_sG, mR_sG, mK_sG, mN_sG, mL_sG, mI_sJ, mR_sJ, mK_sJ, mN_sJ, mL_sJ, mI_sA, mR_sA, mK_sA, mN_sA, mL_sA, z_up, ↓reduceIte, reduceIte, Nat.reduceEqDiff, true_and, and_true, c'] at g
          exact g
      · have g := p3 j (by omega)
        have c' : ¬ j = 20 * d + k := by omega
        simp only [mI_sI, mR_sI, mK_sI, mN_sI, mL_sI, mI_sG, mR_sG, mK_sG, mN_sG, mL_sG, mI_sJ, mR_sJ, mK_sJ, mN_sJ, mL_sJ, mI_sA, mR_sA, mK_sA, mN_sA, mL_sA, z_up, ↓reduceIte, reduceIte, Nat.reduceEqDiff, true_and, and_true, c'] at g
        exact g
  obtain ⟨μ', p1, p2, p3, p4⟩ := lp n 0 p_fu (sI μ 68 d (nI n)) (by omega) (by rw [show p_fu = 99999 + 1 from rfl]; omega) (by simp only [mI_sI, mR_sI, mK_sI, mN_sI, mL_sI, mI_sG, mR_sG, mK_sG, mN_sG, mL_sG, mI_sJ, mR_sJ, mK_sJ, mN_sJ, mL_sJ, mI_sA, mR_sA, mK_sA, mN_sA, mL_sA, z_up, ↓reduceIte, reduceIte, Nat.reduceEqDiff, true_and, and_true, od]; exact hl)
  have p1 : F_X13_copies_c14 p_fu (nI o) (nI d) 0 (sI μ 68 d (nI n)) = _ := p1
  refine ⟨μ', ?_, ?_, fun j hj => ?_, fun j hj => ?_, fun j hj => ?_, Fq_trans (Fq_sI (Fq_refl μ) (by decide)) (Fq_mono p4 (by decide) (by decide))⟩
  · simp only [bd_some, p_let_eq, p_ok, mI_sI, mR_sI, mK_sI, mN_sI, mL_sI, mI_sG, mR_sG, mK_sG, mN_sG, mL_sG, mI_sJ, mR_sJ, mK_sJ, mN_sJ, mL_sJ, z_up, ↓reduceIte, and_self, true_and, and_true, false_and, and_false, not_true_eq_false, not_false_eq_true, Nat.reduceEqDiff, i_10, i_20, i_30, w_in, w_need1, w_need0, m_in, m_thr0, m_thr1, tM, aM, nI_1, nI_pred, reduceIte, wp_some, eq_self, bI_T, bI_F, F_X13_copies, io, ko, ho, id_, kd, hd, hl]
    exact p1
  · rw [Fq_row p4 68 (by decide)]; simp only [mI_sI, mR_sI, mK_sI, mN_sI, mL_sI, mI_sG, mR_sG, mK_sG, mN_sG, mL_sG, mI_sJ, mR_sJ, mK_sJ, mN_sJ, mL_sJ, mI_sA, mR_sA, mK_sA, mN_sA, mL_sA, z_up, ↓reduceIte, reduceIte, Nat.reduceEqDiff, true_and, and_true]
  · rw [Fq_row p4 68 (by decide)]; simp only [mI_sI, mR_sI, mK_sI, mN_sI, mL_sI, mI_sG, mR_sG, mK_sG, mN_sG, mL_sG, mI_sJ, mR_sJ, mK_sJ, mN_sJ, mL_sJ, mI_sA, mR_sA, mK_sA, mN_sA, mL_sA, z_up, ↓reduceIte, reduceIte, Nat.reduceEqDiff, true_and, and_true, hj]
  · have g := p2 j (by omega) hj; simp only [mI_sI, mR_sI, mK_sI, mN_sI, mL_sI, mI_sG, mR_sG, mK_sG, mN_sG, mL_sG, mI_sJ, mR_sJ, mK_sJ, mN_sJ, mL_sJ, mI_sA, mR_sA, mK_sA, mN_sA, mL_sA, z_up, ↓reduceIte, reduceIte, Nat.reduceEqDiff, true_and, and_true] at g; exact g
  · have g := p3 j (by omega); simp only [mI_sI, mR_sI, mK_sI, mN_sI, mL_sI, mI_sG, mR_sG, mK_sG, mN_sG, mL_sG, mI_sJ, mR_sJ, mK_sJ, mN_sJ, mL_sJ, mI_sA, mR_sA, mK_sA, mN_sA, mL_sA, z_up, ↓reduceIte, reduceIte, Nat.reduceEqDiff, true_and, and_true] at g; exact g
