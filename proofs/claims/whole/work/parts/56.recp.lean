/-! the recipe's text -/
theorem c_goesOn {f : Nat → Int32} {e k : Nat} {μ : p_M} (hS : Sh μ) (hT : Tx μ f e k) (h3 : mI μ 1 3 = -1) : F_X10_goesOn 1 μ = if bl f e k < e then (if f (bl f e k) = 59 then some (1, cset μ (bl f e k + 1)) else some (0, sI (cset μ (bl f e k)) 1 3 (nI (bl f e k)))) else some (0, cset μ (bl f e k)) := by
  have h4 := hT.2.2.2.1
  have hb := bl_le (f := f) hT.2.2.2.2
  have sk : F_X10_skipBlanks 1 μ = some (0, cset μ (bl f e k)) := c_skip' hS hT
  have hS2 : Sh (cset μ (bl f e k)) := Sh_cset _ hS
  have e1 : mI (cset μ (bl f e k)) 1 1 = nI e := mI_cset1.trans hT.2.1
  have e2 : mI (cset μ (bl f e k)) 2 = f := (mI_csetO (by decide)).trans hT.1
  by_cases c : bl f e k < e
  · have c1 : nI (bl f e k) < nI e := nI_lt c (by omega)
    have i1 := ix_nI (show bl f e k < 400 by omega) (by decide)
    have k1 := nI_clamp (show bl f e k < 2 ^ 31 by omega)
    have l1 : bl f e k < 400 := by omega
    have a1 : nI (bl f e k) + 1 = nI (bl f e k + 1) := nI_add _ 1
    rw [if_pos c]
    by_cases c2 : f (bl f e k) = 59
    · rw [if_pos c2]
      simp only [bd_some, p_let_eq, p_ok, mI_sI, mR_sI, mK_sI, mN_sI, mL_sI, mI_sG, mR_sG, mK_sG, mN_sG, mL_sG, mI_sJ, mR_sJ, mK_sJ, mN_sJ, mL_sJ, z_up, ↓reduceIte, and_self, true_and, and_true, false_and, and_false, not_true_eq_false, not_false_eq_true, Nat.reduceEqDiff, i_10, i_20, i_30, w_in, w_need1, w_need0, m_in, m_thr0, m_thr1, tM, aM, nI_1, nI_pred, reduceIte, wp_some, eq_self, bI_T, bI_F, F_X10_goesOn, s_o1 hS, s_r1_0 hS, s_o1 hS2, s_r1_0 hS2, s_a2 hS2, s_l2 hS2, s_o2 hS2, h3, sk, mI_cset2, e1, e2, c1, i1, k1, l1, c2, a1]
      exact congrArg (fun x => some ((1 : Int32), x)) (sI_sI _ _ _ _ _)
    · rw [if_neg c2]
      simp only [bd_some, p_let_eq, p_ok, mI_sI, mR_sI, mK_sI, mN_sI, mL_sI, mI_sG, mR_sG, mK_sG, mN_sG, mL_sG, mI_sJ, mR_sJ, mK_sJ, mN_sJ, mL_sJ, z_up, ↓reduceIte, and_self, true_and, and_true, false_and, and_false, not_true_eq_false, not_false_eq_true, Nat.reduceEqDiff, i_10, i_20, i_30, w_in, w_need1, w_need0, m_in, m_thr0, m_thr1, tM, aM, nI_1, nI_pred, reduceIte, wp_some, eq_self, bI_T, bI_F, F_X10_goesOn, F_X10_refuse, F_X10_refuse_c13, s_o1 hS, s_r1_0 hS, s_o1 hS2, s_r1_0 hS2, s_a2 hS2, s_l2 hS2, s_o2 hS2, h3, sk, mI_cset2, mI_cset3, e1, e2, c1, i1, k1, l1, c2]
  · have c1 : ¬ nI (bl f e k) < nI e := nI_nlt (by omega) (by omega)
    rw [if_neg c]
    simp only [bd_some, p_let_eq, p_ok, mI_sI, mR_sI, mK_sI, mN_sI, mL_sI, mI_sG, mR_sG, mK_sG, mN_sG, mL_sG, mI_sJ, mR_sJ, mK_sJ, mN_sJ, mL_sJ, z_up, ↓reduceIte, and_self, true_and, and_true, false_and, and_false, not_true_eq_false, not_false_eq_true, Nat.reduceEqDiff, i_10, i_20, i_30, w_in, w_need1, w_need0, m_in, m_thr0, m_thr1, tM, aM, nI_1, nI_pred, reduceIte, wp_some, eq_self, bI_T, bI_F, F_X10_goesOn, s_o1 hS, s_r1_0 hS, s_o1 hS2, s_r1_0 hS2, s_a2 hS2, s_l2 hS2, s_o2 hS2, h3, sk, mI_cset2, e1, c1]
theorem c_goesOnD {μ : p_M} (hS : Sh μ) (h3 : ¬ mI μ 1 3 = -1) : F_X10_goesOn 1 μ = some (0, μ) := by
  simp only [bd_some, p_let_eq, p_ok, mI_sI, mR_sI, mK_sI, mN_sI, mL_sI, mI_sG, mR_sG, mK_sG, mN_sG, mL_sG, mI_sJ, mR_sJ, mK_sJ, mN_sJ, mL_sJ, z_up, ↓reduceIte, and_self, true_and, and_true, false_and, and_false, not_true_eq_false, not_false_eq_true, Nat.reduceEqDiff, i_10, i_20, i_30, w_in, w_need1, w_need0, m_in, m_thr0, m_thr1, tM, aM, nI_1, nI_pred, reduceIte, wp_some, eq_self, bI_T, bI_F, F_X10_goesOn, s_o1 hS, s_r1_0 hS, h3]
theorem c_isBlank {f : Nat → Int32} {e k : Nat} {μ : p_M} (hS : Sh μ) (hT : Tx μ f e k) : F_X10_isBlank 1 μ = some (if bl f e k < e then 0 else 1, cset μ (bl f e k)) := by
  have h4 := hT.2.2.2.1
  have hb := bl_le (f := f) hT.2.2.2.2
  have sk : F_X10_skipBlanks 1 μ = some (0, cset μ (bl f e k)) := c_skip' hS hT
  have hS2 : Sh (cset μ (bl f e k)) := Sh_cset _ hS
  have e1 : mI (cset μ (bl f e k)) 1 1 = nI e := mI_cset1.trans hT.2.1
  by_cases c : bl f e k < e
  · have c1 : nI (bl f e k) < nI e := nI_lt c (by omega)
    rw [if_pos c]
    simp only [bd_some, p_let_eq, p_ok, mI_sI, mR_sI, mK_sI, mN_sI, mL_sI, mI_sG, mR_sG, mK_sG, mN_sG, mL_sG, mI_sJ, mR_sJ, mK_sJ, mN_sJ, mL_sJ, z_up, ↓reduceIte, and_self, true_and, and_true, false_and, and_false, not_true_eq_false, not_false_eq_true, Nat.reduceEqDiff, i_10, i_20, i_30, w_in, w_need1, w_need0, m_in, m_thr0, m_thr1, tM, aM, nI_1, nI_pred, reduceIte, wp_some, eq_self, bI_T, bI_F, F_X10_isBlank, F_X10_isBlank_c20, s_o1 hS, s_r1_0 hS, s_o1 hS2, s_r1_0 hS2, sk, mI_cset2, e1, c1, true_or]
  · have c1 : ¬ nI (bl f e k) < nI e := nI_nlt (by omega) (by omega)
    rw [if_neg c]
    simp only [bd_some, p_let_eq, p_ok, mI_sI, mR_sI, mK_sI, mN_sI, mL_sI, mI_sG, mR_sG, mK_sG, mN_sG, mL_sG, mI_sJ, mR_sJ, mK_sJ, mN_sJ, mL_sJ, z_up, ↓reduceIte, and_self, true_and, and_true, false_and, and_false, not_true_eq_false, not_false_eq_true, Nat.reduceEqDiff, i_10, i_20, i_30, w_in, w_need1, w_need0, m_in, m_thr0, m_thr1, tM, aM, nI_1, nI_pred, reduceIte, wp_some, eq_self, bI_T, bI_F, F_X10_isBlank, F_X10_isBlank_c20, s_o1 hS, s_r1_0 hS, s_o1 hS2, s_r1_0 hS2, sk, mI_cset2, e1, c1, or_true]
theorem c_refuseNext {f : Nat → Int32} {e k : Nat} {μ : p_M} (hS : Sh μ) (hT : Tx μ f e k) (h3 : mI μ 1 3 = -1) : F_X10_refuseNext 1 μ = some (0, sI (cset μ (bl f e k)) 1 3 (nI (bl f e k))) := by
  have sk : F_X10_skipBlanks 1 μ = some (0, cset μ (bl f e k)) := c_skip' hS hT
  have hS2 : Sh (cset μ (bl f e k)) := Sh_cset _ hS
  simp only [bd_some, p_let_eq, p_ok, mI_sI, mR_sI, mK_sI, mN_sI, mL_sI, mI_sG, mR_sG, mK_sG, mN_sG, mL_sG, mI_sJ, mR_sJ, mK_sJ, mN_sJ, mL_sJ, z_up, ↓reduceIte, and_self, true_and, and_true, false_and, and_false, not_true_eq_false, not_false_eq_true, Nat.reduceEqDiff, i_10, i_20, i_30, w_in, w_need1, w_need0, m_in, m_thr0, m_thr1, tM, aM, nI_1, nI_pred, reduceIte, wp_some, eq_self, bI_T, bI_F, F_X10_refuseNext, F_X10_refuse, F_X10_refuse_c13, s_o1 hS, s_r1_0 hS, s_o1 hS2, s_r1_0 hS2, sk, mI_cset2, mI_cset3, h3]
theorem m_bathOf {f : Nat → Int32} {b a : Nat} {μ : p_M} (e2 : mI μ 66 = f) (e3 : mI μ 65 3 = nI a) (e5 : mI μ 65 5 = nI b) (hb : b ≤ a) (ha : a ≤ 400) : F_X13_bathOf μ = some (oN (plc f b a ws_B4 0), μ) := by
  have q1 := m_isw e2 e3 e5 hb ha w_wash (by decide) tR_wash
  have q2 := m_isw e2 e3 e5 hb ha w_stone (by decide) tR_stone
  have q3 := m_isw e2 e3 e5 hb ha w_bleach (by decide) tR_bleach
  have q4 := m_isw e2 e3 e5 hb ha w_rinse (by decide) tR_rinse
  unfold ws_B4 plc plc plc plc plc
  by_cases c1 : isw f b a w_wash = true
  · rw [bI_pos c1] at q1
    rw [if_pos c1]
    simp only [bd_some, p_let_eq, p_ok, mI_sI, mR_sI, mK_sI, mN_sI, mL_sI, mI_sG, mR_sG, mK_sG, mN_sG, mL_sG, mI_sJ, mR_sJ, mK_sJ, mN_sJ, mL_sJ, z_up, ↓reduceIte, and_self, true_and, and_true, false_and, and_false, not_true_eq_false, not_false_eq_true, Nat.reduceEqDiff, i_10, i_20, i_30, w_in, w_need1, w_need0, m_in, m_thr0, m_thr1, tM, aM, nI_1, nI_pred, reduceIte, wp_some, eq_self, bI_T, bI_F, F_X13_bathOf, F_X13_bathOf_c53, q1]
    rfl
  · rw [bI_neg c1] at q1
    rw [if_neg c1]
    by_cases c2 : isw f b a w_stone = true
    · rw [bI_pos c2] at q2
      rw [if_pos c2]
      simp only [bd_some, p_let_eq, p_ok, mI_sI, mR_sI, mK_sI, mN_sI, mL_sI, mI_sG, mR_sG, mK_sG, mN_sG, mL_sG, mI_sJ, mR_sJ, mK_sJ, mN_sJ, mL_sJ, z_up, ↓reduceIte, and_self, true_and, and_true, false_and, and_false, not_true_eq_false, not_false_eq_true, Nat.reduceEqDiff, i_10, i_20, i_30, w_in, w_need1, w_need0, m_in, m_thr0, m_thr1, tM, aM, nI_1, nI_pred, reduceIte, wp_some, eq_self, bI_T, bI_F, F_X13_bathOf, F_X13_bathOf_c53, q1, q2]
      rfl
    · rw [bI_neg c2] at q2
      rw [if_neg c2]
      by_cases c3 : isw f b a w_bleach = true
      · rw [bI_pos c3] at q3
        rw [if_pos c3]
        simp only [bd_some, p_let_eq, p_ok, mI_sI, mR_sI, mK_sI, mN_sI, mL_sI, mI_sG, mR_sG, mK_sG, mN_sG, mL_sG, mI_sJ, mR_sJ, mK_sJ, mN_sJ, mL_sJ, z_up, ↓reduceIte, and_self, true_and, and_true, false_and, and_false, not_true_eq_false, not_false_eq_true, Nat.reduceEqDiff, i_10, i_20, i_30, w_in, w_need1, w_need0, m_in, m_thr0, m_thr1, tM, aM, nI_1, nI_pred, reduceIte, wp_some, eq_self, bI_T, bI_F, F_X13_bathOf, F_X13_bathOf_c53, q1, q2, q3]
        rfl
      · rw [bI_neg c3] at q3
        rw [if_neg c3]
        by_cases c4 : isw f b a w_rinse = true
        · rw [bI_pos c4] at q4
          rw [if_pos c4]
          simp only [bd_some, p_let_eq, p_ok, mI_sI, mR_sI, mK_sI, mN_sI, mL_sI, mI_sG, mR_sG, mK_sG, mN_sG, mL_sG, mI_sJ, mR_sJ, mK_sJ, mN_sJ, mL_sJ, z_up, ↓reduceIte, and_self, true_and, and_true, false_and, and_false, not_true_eq_false, not_false_eq_true, Nat.reduceEqDiff, i_10, i_20, i_30, w_in, w_need1, w_need0, m_in, m_thr0, m_thr1, tM, aM, nI_1, nI_pred, reduceIte, wp_some, eq_self, bI_T, bI_F, F_X13_bathOf, F_X13_bathOf_c53, q1, q2, q3, q4]
          rfl
        · rw [bI_neg c4] at q4
          rw [if_neg c4]
          simp only [bd_some, p_let_eq, p_ok, mI_sI, mR_sI, mK_sI, mN_sI, mL_sI, mI_sG, mR_sG, mK_sG, mN_sG, mL_sG, mI_sJ, mR_sJ, mK_sJ, mN_sJ, mL_sJ, z_up, ↓reduceIte, and_self, true_and, and_true, false_and, and_false, not_true_eq_false, not_false_eq_true, Nat.reduceEqDiff, i_10, i_20, i_30, w_in, w_need1, w_need0, m_in, m_thr0, m_thr1, tM, aM, nI_1, nI_pred, reduceIte, wp_some, eq_self, bI_T, bI_F, F_X13_bathOf, F_X13_bathOf_c53, q1, q2, q3, q4]
          rfl
/-- the bath whose word stands next -/
def bth (f : Nat → Int32) (e k : Nat) : Option Nat := plc f (bl f e k) (wd f e k) ws_B4 0
theorem bth_le {f : Nat → Int32} {e k x : Nat} (h : bth f e k = some x) : x ≤ 3 := by
  have := plc_lt _ _ _ h
  have : x < 4 := this
  omega
theorem m_readBath {f : Nat → Int32} {e k : Nat} {μ : p_M} (hT : MT μ f e k) : F_X13_readBath μ = some (oN (bth f e k), mset μ (wd f e k) (bl f e k)) := by
  have h4 := hT.2.2.2.1
  have hw := wd_le (f := f) hT.2.2.2.2
  have q := m_bathOf (f := f) (b := bl f e k) (a := wd f e k) (μ := mset μ (wd f e k) (bl f e k)) ((mI_msetO (by decide)).trans hT.1) mI_mset3 mI_mset5 hw.1 (by omega)
  have w : F_X13_word μ = some (0, mset μ (wd f e k) (bl f e k)) := m_word' hT
  unfold F_X13_readBath
  rw [w]
  show (F_X13_bathOf (mset μ (wd f e k) (bl f e k))).bind _ = _
  rw [q]
  rfl
theorem c_bath {f : Nat → Int32} {e k : Nat} {μ : p_M} (hS : Sh μ) (hT : Tx μ f e k) (h3 : mI μ 1 3 = -1) : F_X10_pick 1 (p_E + 10 + 22) μ = some (oN (bth f e k), if (bth f e k).isSome = true then cset μ (wd f e k) else sI (cset μ (wd f e k)) 1 3 (nI (bl f e k))) :=
  c_pick hS hT h3 w_wash [w_stone, w_bleach, w_rinse] ok_B4 tR_B4 (by decide) (by decide)
/-- the baths that a text tells, or where it is wrong -/
def recP (f : Nat → Int32) (e : Nat) : Nat → Nat → Nat → (Nat → Int32) → (Nat → Int32) → Nat ⊕ (Nat × (Nat → Int32) × (Nat → Int32))
  | 0, _, _, _, _ => .inl 0
  | r + 1, n, k, bs, am => match bth f e k with
    | none => .inl (bl f e k)
    | some x => if n = 20 then .inl (bl f e k) else match (if x = 3 then some (1 : Int32) else numP f e 2 1 20 (wd f e k)) with
      | none => .inl (bl f e (wd f e k))
      | some y => if bl f e (if x = 3 then wd f e k else nm f e (wd f e k)) < e then (if f (bl f e (if x = 3 then wd f e k else nm f e (wd f e k))) = 59 then recP f e r (n + 1) (bl f e (if x = 3 then wd f e k else nm f e (wd f e k)) + 1) (va_up bs n (nI x)) (va_up am n y) else .inl (bl f e (if x = 3 then wd f e k else nm f e (wd f e k)))) else .inr (n + 1, va_up bs n (nI x), va_up am n y)
def recI (n : Nat) (bs am : Nat → Int32) : Prop := ∀ j, j < n → ∃ x y : Nat, x ≤ 3 ∧ 1 ≤ y ∧ y ≤ 20 ∧ bs j = nI x ∧ am j = nI y
theorem recI_up {n x y : Nat} {bs am : Nat → Int32} (h : recI n bs am) (hx : x ≤ 3) (hy1 : 1 ≤ y) (hy2 : y ≤ 20) : recI (n + 1) (va_up bs n (nI x)) (va_up am n (nI y)) := by
  intro j hj
  by_cases c : j = n
  · subst c
    exact ⟨x, y, hx, hy1, hy2, by rw [z_up, if_pos rfl], by rw [z_up, if_pos rfl]⟩
  · obtain ⟨x', y', g1, g2, g3, g4, g5⟩ := h j (by omega)
    exact ⟨x', y', g1, g2, g3, by rw [z_up, if_neg c]; exact g4, by rw [z_up, if_neg c]; exact g5⟩
theorem y_ok {f : Nat → Int32} {e k x : Nat} {y : Int32} (h : (if x = 3 then some (1 : Int32) else numP f e 2 1 20 k) = some y) : ∃ z : Nat, 1 ≤ z ∧ z ≤ 20 ∧ y = nI z := by
  split at h
  · cases h; exact ⟨1, by decide, by decide, rfl⟩
  · exact rg3 y 1 20 1 20 rfl rfl (by decide) (by decide) (numP_ok h)
theorem recP_ok {f : Nat → Int32} {e : Nat} : ∀ (r n k : Nat) (bs am : Nat → Int32) (n' : Nat) (bs' am' : Nat → Int32), n ≤ 20 → recI n bs am → recP f e r n k bs am = .inr (n', bs', am') → n' ≤ 20 ∧ recI n' bs' am' := by
  intro r
  induction r with
  | zero => intro n k bs am n' bs' am' _ _ h; cases h
  | succ r ih =>
    intro n k bs am n' bs' am' hn hI h
    unfold recP at h
    split at h
    · cases h
    · rename_i x hx
      split at h
      · cases h
      · rename_i c
        split at h
        · cases h
        · rename_i y hy
          obtain ⟨z, z1, z2, rfl⟩ := y_ok hy
          have hI2 := recI_up hI (bth_le hx) z1 z2
          generalize (if x = 3 then wd f e k else nm f e (wd f e k)) = k1 at h
          split at h
          · split at h
            · exact ih _ _ _ _ _ _ _ (by omega) hI2 h
            · cases h
          · cases h
            exact ⟨by omega, hI2⟩
