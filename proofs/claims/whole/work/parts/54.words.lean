/-! numbers and words -/
abbrev numOK (a b g : Nat) (v lo hi : Int32) : Prop := ¬ a = b ∧ ¬ g < a - b ∧ ¬ v < lo ∧ v ≤ hi
theorem m_num {f : Nat → Int32} {e b g : Nat} (hg : g < 2 ^ 30) (lo hi : Int32) : ∀ (r k m : Nat) (v : Int32) (μ : p_M), e - k = r → r < m → b ≤ k → MT μ f e k → mI μ 65 5 = nI b → F_X13_number_c7 m (nI g) lo hi v μ = some (if numOK (skp (isA 48 57) f e k) b g (nvl f b g r k v) lo hi then nvl f b g r k v else -1, sI μ 65 3 (nI (skp (isA 48 57) f e k))) := by
  have fin : ∀ (k m : Nat) (v : Int32) (μ : p_M), b ≤ k → MT μ f e k → mI μ 65 5 = nI b → ¬ (k < e ∧ isA 48 57 (f k) = true) → F_X13_number_c7 (m + 1) (nI g) lo hi v μ = some (if numOK k b g v lo hi then v else -1, μ) := by
    intro k m v μ hb hT h5 c
    have hk : k ≤ 400 := Nat.le_trans hT.2.2.2.2 hT.2.2.2.1
    have s1 : nI k - nI b = nI (k - b) := pk_sub hb
    have q1 : (nI k = nI b) = (k = b) := propext (nI_eq (by omega) (by omega))
    unfold numOK
    by_cases c1 : k = b
    · have e1 : (nI k = nI b) = True := eq_true (by rw [c1])
      rw [if_neg (fun h => h.1 c1)]
      simp only [bd_some, p_let_eq, p_ok, mI_sI, mR_sI, mK_sI, mN_sI, mL_sI, mI_sG, mR_sG, mK_sG, mN_sG, mL_sG, mI_sJ, mR_sJ, mK_sJ, mN_sJ, mL_sJ, z_up, ↓reduceIte, and_self, true_and, and_true, false_and, and_false, not_true_eq_false, not_false_eq_true, Nat.reduceEqDiff, i_10, i_20, i_30, w_in, w_need1, w_need0, m_in, m_thr0, m_thr1, tM, aM, nI_1, nI_pred, reduceIte, wp_some, eq_self, bI_T, bI_F, F_X13_number_c7, F_X13_number_c105, F_X13_number_c111, m_isAt hT, c, hT.2.2.1, h5, e1]
    · by_cases c2 : g < k - b
      · have c2' : nI g < nI (k - b) := nI_lt c2 (by omega)
        rw [if_neg (fun h => h.2.1 c2)]
        simp only [bd_some, p_let_eq, p_ok, mI_sI, mR_sI, mK_sI, mN_sI, mL_sI, mI_sG, mR_sG, mK_sG, mN_sG, mL_sG, mI_sJ, mR_sJ, mK_sJ, mN_sJ, mL_sJ, z_up, ↓reduceIte, and_self, true_and, and_true, false_and, and_false, not_true_eq_false, not_false_eq_true, Nat.reduceEqDiff, i_10, i_20, i_30, w_in, w_need1, w_need0, m_in, m_thr0, m_thr1, tM, aM, nI_1, nI_pred, reduceIte, wp_some, eq_self, bI_T, bI_F, F_X13_number_c7, F_X13_number_c105, F_X13_number_c111, m_isAt hT, c, hT.2.2.1, h5, q1, c1, s1, c2']
      · have c2' : ¬ nI g < nI (k - b) := nI_nlt (by omega) (by omega)
        by_cases c3 : v < lo
        · rw [if_neg (fun h => h.2.2.1 c3)]
          simp only [bd_some, p_let_eq, p_ok, mI_sI, mR_sI, mK_sI, mN_sI, mL_sI, mI_sG, mR_sG, mK_sG, mN_sG, mL_sG, mI_sJ, mR_sJ, mK_sJ, mN_sJ, mL_sJ, z_up, ↓reduceIte, and_self, true_and, and_true, false_and, and_false, not_true_eq_false, not_false_eq_true, Nat.reduceEqDiff, i_10, i_20, i_30, w_in, w_need1, w_need0, m_in, m_thr0, m_thr1, tM, aM, nI_1, nI_pred, reduceIte, wp_some, eq_self, bI_T, bI_F, F_X13_number_c7, F_X13_number_c105, F_X13_number_c111, m_isAt hT, c, hT.2.2.1, h5, q1, c1, s1, c2', c3]
        · by_cases c4 : v ≤ hi
          · rw [if_pos ⟨c1, c2, c3, c4⟩]
            simp only [bd_some, p_let_eq, p_ok, mI_sI, mR_sI, mK_sI, mN_sI, mL_sI, mI_sG, mR_sG, mK_sG, mN_sG, mL_sG, mI_sJ, mR_sJ, mK_sJ, mN_sJ, mL_sJ, z_up, ↓reduceIte, and_self, true_and, and_true, false_and, and_false, not_true_eq_false, not_false_eq_true, Nat.reduceEqDiff, i_10, i_20, i_30, w_in, w_need1, w_need0, m_in, m_thr0, m_thr1, tM, aM, nI_1, nI_pred, reduceIte, wp_some, eq_self, bI_T, bI_F, F_X13_number_c7, F_X13_number_c105, F_X13_number_c111, m_isAt hT, c, hT.2.2.1, h5, q1, c1, s1, c2', c3, c4]
          · rw [if_neg (fun h => c4 h.2.2.2)]
            simp only [bd_some, p_let_eq, p_ok, mI_sI, mR_sI, mK_sI, mN_sI, mL_sI, mI_sG, mR_sG, mK_sG, mN_sG, mL_sG, mI_sJ, mR_sJ, mK_sJ, mN_sJ, mL_sJ, z_up, ↓reduceIte, and_self, true_and, and_true, false_and, and_false, not_true_eq_false, not_false_eq_true, Nat.reduceEqDiff, i_10, i_20, i_30, w_in, w_need1, w_need0, m_in, m_thr0, m_thr1, tM, aM, nI_1, nI_pred, reduceIte, wp_some, eq_self, bI_T, bI_F, F_X13_number_c7, F_X13_number_c105, F_X13_number_c111, m_isAt hT, c, hT.2.2.1, h5, q1, c1, s1, c2', c3, c4]
  intro r
  induction r with
  | zero =>
    intro k m v μ hk hm hb hT h5
    obtain ⟨m, rfl⟩ : ∃ k, m = k + 1 := ⟨m - 1, by omega⟩
    have c : ¬ (k < e ∧ isA 48 57 (f k) = true) := fun h => by omega
    rw [skp_end (by omega), fin k m v μ hb hT h5 c]
    unfold nvl
    rw [← hT.2.2.1, sI_self]
  | succ r ih =>
    intro k m v μ hk hm hb hT h5
    obtain ⟨m, rfl⟩ : ∃ k, m = k + 1 := ⟨m - 1, by omega⟩
    rw [skp_eq (by omega)]
    unfold nvl
    by_cases c : isA 48 57 (f k) = true
    · have c' : (k < e ∧ isA 48 57 (f k) = true) := ⟨by omega, c⟩
      have a1 : nI k + 1 = nI (k + 1) := nI_add k 1
      have h4 := hT.2.2.2.1
      have s1 : nI k - nI b = nI (k - b) := pk_sub hb
      have i1 := ix_nI (show k < 400 by omega) (by decide)
      have k1 := nI_clamp (show k < 2 ^ 31 by omega)
      have l1 : k < 400 := by omega
      rw [if_pos c, if_pos c]
      have ih := fun v => ih (k + 1) m v (sI μ 65 3 (nI (k + 1))) (by omega) (by omega) (by omega) (mt_step hT (by omega)) (by simp only [mI_sI, mR_sI, mK_sI, mN_sI, mL_sI, mI_sG, mR_sG, mK_sG, mN_sG, mL_sG, mI_sJ, mR_sJ, mK_sJ, mN_sJ, mL_sJ, mI_sA, mR_sA, mK_sA, mN_sA, mL_sA, z_up, ↓reduceIte, reduceIte, Nat.reduceEqDiff, true_and, and_true]; exact h5)
      simp only [sI_sI] at ih
      by_cases c4 : k - b < g
      · have c5 : ¬ nI g ≤ nI (k - b) := nI_ge c4 (by omega)
        rw [if_pos c4]
        simp only [bd_some, p_let_eq, p_ok, mI_sI, mR_sI, mK_sI, mN_sI, mL_sI, mI_sG, mR_sG, mK_sG, mN_sG, mL_sG, mI_sJ, mR_sJ, mK_sJ, mN_sJ, mL_sJ, z_up, ↓reduceIte, and_self, true_and, and_true, false_and, and_false, not_true_eq_false, not_false_eq_true, Nat.reduceEqDiff, i_10, i_20, i_30, w_in, w_need1, w_need0, m_in, m_thr0, m_thr1, tM, aM, nI_1, nI_pred, reduceIte, wp_some, eq_self, bI_T, bI_F, F_X13_number_c7, F_X13_number_c54, m_isAt hT, c', hT.2.2.1, h5, a1, s1, c5, i1, k1, l1, hT.1]
        exact ih _
      · have c5 : nI g ≤ nI (k - b) := nI_le (by omega) (by omega)
        rw [if_neg c4]
        simp only [bd_some, p_let_eq, p_ok, mI_sI, mR_sI, mK_sI, mN_sI, mL_sI, mI_sG, mR_sG, mK_sG, mN_sG, mL_sG, mI_sJ, mR_sJ, mK_sJ, mN_sJ, mL_sJ, z_up, ↓reduceIte, and_self, true_and, and_true, false_and, and_false, not_true_eq_false, not_false_eq_true, Nat.reduceEqDiff, i_10, i_20, i_30, w_in, w_need1, w_need0, m_in, m_thr0, m_thr1, tM, aM, nI_1, nI_pred, reduceIte, wp_some, eq_self, bI_T, bI_F, F_X13_number_c7, F_X13_number_c54, m_isAt hT, c', hT.2.2.1, h5, a1, s1, c5]
        exact ih _
    · have c' : ¬ (k < e ∧ isA 48 57 (f k) = true) := fun h => c h.2
      rw [if_neg c, if_neg c, fin k m v μ hb hT h5 c', ← hT.2.2.1, sI_self]
/-- where the next thing begins; where the number or the word behind it ends -/
def bl (f : Nat → Int32) (e k : Nat) : Nat := skp (isA 32 32) f e k
def nm (f : Nat → Int32) (e k : Nat) : Nat := skp (isA 48 57) f e (bl f e k)
def wd (f : Nat → Int32) (e k : Nat) : Nat := skp (isA 97 122) f e (bl f e k)
theorem bl_le {f : Nat → Int32} {e k : Nat} (h : k ≤ e) : k ≤ bl f e k ∧ bl f e k ≤ e := ⟨skp_ge h, skp_le h⟩
theorem nm_le {f : Nat → Int32} {e k : Nat} (h : k ≤ e) : bl f e k ≤ nm f e k ∧ nm f e k ≤ e := ⟨skp_ge (bl_le h).2, skp_le (bl_le h).2⟩
theorem wd_le {f : Nat → Int32} {e k : Nat} (h : k ≤ e) : bl f e k ≤ wd f e k ∧ wd f e k ≤ e := ⟨skp_ge (bl_le h).2, skp_le (bl_le h).2⟩
/-- the number that stands next -/
def numP (f : Nat → Int32) (e g : Nat) (lo hi : Int32) (k : Nat) : Option Int32 := if numOK (nm f e k) (bl f e k) g (nvl f (bl f e k) g (e - bl f e k) (bl f e k) 0) lo hi then some (nvl f (bl f e k) g (e - bl f e k) (bl f e k) 0) else none
theorem numP_ok {f : Nat → Int32} {e g k : Nat} {lo hi v : Int32} (h : numP f e g lo hi k = some v) : lo ≤ v ∧ v ≤ hi := by
  unfold numP at h
  split at h
  · rename_i c
    cases h
    exact ⟨i_nlt.mp c.2.2.1, c.2.2.2⟩
  · cases h
theorem m_number {f : Nat → Int32} {e k g : Nat} {lo hi : Int32} {μ : p_M} (hg : g < 2 ^ 30) (hT : MT μ f e k) : F_X13_number (nI g) lo hi μ = some ((numP f e g lo hi k).getD (-1), mset μ (nm f e k) (bl f e k)) := by
  have h4 := hT.2.2.2.1
  have hb := bl_le (f := f) hT.2.2.2.2
  have := m_num (f := f) (e := e) (b := bl f e k) hg lo hi (e - bl f e k) (bl f e k) p_fu 0 (mset μ (bl f e k) (bl f e k)) rfl (by rw [show p_fu = 99999 + 1 from rfl]; omega) (Nat.le_refl _) (MT_mset hT hb.2) mI_mset5
  rw [mset_3] at this
  unfold F_X13_number
  rw [m_blanks' hT]
  show F_X13_number_c7 p_fu (nI g) lo hi 0 (mset μ (bl f e k) (bl f e k)) = _
  rw [this]
  unfold numP nm
  split <;> rfl
theorem c_number {f : Nat → Int32} {e k g : Nat} {lo hi : Int32} {μ : p_M} (hg : g < 2 ^ 30) (hS : Sh μ) (hT : Tx μ f e k) (h3 : mI μ 1 3 = -1) : F_X10_number 1 (nI g) lo hi μ = some ((numP f e g lo hi k).getD (-1), if (numP f e g lo hi k).isSome = true then cset μ (nm f e k) else sI (cset μ (nm f e k)) 1 3 (nI (bl f e k))) := by
  have h4 := hT.2.2.2.1
  have hb := bl_le (f := f) hT.2.2.2.2
  have hm := nm_le (f := f) hT.2.2.2.2
  have q := c_num (f := f) (e := e) (b := bl f e k) hg lo hi (e - bl f e k) (bl f e k) p_fu 0 (cset μ (bl f e k)) rfl (by rw [show p_fu = 99999 + 1 from rfl]; omega) (Nat.le_refl _) (Sh_cset _ hS) (Tx_cset hT hb.2)
  rw [cset_cset] at q
  have hS2 : Sh (cset μ (nm f e k)) := Sh_cset _ hS
  have s1 : nI (nm f e k) - nI (bl f e k) = nI (nm f e k - bl f e k) := pk_sub hm.1
  have q1 : (nI (nm f e k - bl f e k) = 0) = (nm f e k = bl f e k) := propext (by rw [show (0 : Int32) = nI 0 from rfl, nI_eq (by omega) (by omega)]; omega)
  have fin : F_X10_number_c106 1 (nI g) lo hi (nI (bl f e k)) (nvl f (bl f e k) g (e - bl f e k) (bl f e k) 0) (cset μ (nm f e k)) = some ((numP f e g lo hi k).getD (-1), if (numP f e g lo hi k).isSome = true then cset μ (nm f e k) else sI (cset μ (nm f e k)) 1 3 (nI (bl f e k))) := by
    have bad : F_X10_number_c138 1 (nI (bl f e k)) (cset μ (nm f e k)) = some (-1, sI (cset μ (nm f e k)) 1 3 (nI (bl f e k))) := by
      simp only [bd_some, p_let_eq, p_ok, mI_sI, mR_sI, mK_sI, mN_sI, mL_sI, mI_sG, mR_sG, mK_sG, mN_sG, mL_sG, mI_sJ, mR_sJ, mK_sJ, mN_sJ, mL_sJ, z_up, ↓reduceIte, and_self, true_and, and_true, false_and, and_false, not_true_eq_false, not_false_eq_true, Nat.reduceEqDiff, i_10, i_20, i_30, w_in, w_need1, w_need0, m_in, m_thr0, m_thr1, tM, aM, nI_1, nI_pred, reduceIte, wp_some, eq_self, bI_T, bI_F, F_X10_number_c138, F_X10_refuse, F_X10_refuse_c13, s_o1 hS2, s_r1_0 hS2, mI_cset3, h3]
    unfold numP numOK
    by_cases c1 : nm f e k = bl f e k
    · rw [if_neg (fun h => h.1 c1)]
      simp only [bd_some, p_let_eq, p_ok, mI_sI, mR_sI, mK_sI, mN_sI, mL_sI, mI_sG, mR_sG, mK_sG, mN_sG, mL_sG, mI_sJ, mR_sJ, mK_sJ, mN_sJ, mL_sJ, z_up, ↓reduceIte, and_self, true_and, and_true, false_and, and_false, not_true_eq_false, not_false_eq_true, Nat.reduceEqDiff, i_10, i_20, i_30, w_in, w_need1, w_need0, m_in, m_thr0, m_thr1, tM, aM, nI_1, nI_pred, reduceIte, wp_some, eq_self, bI_T, bI_F, F_X10_number_c106, s_o1 hS2, s_r1_0 hS2, mI_cset2, s1, q1, if_pos c1, bad, Option.getD_none, Option.isSome_none, Bool.false_eq_true]
    · by_cases c2 : g < nm f e k - bl f e k
      · have c2' : nI g < nI (nm f e k - bl f e k) := nI_lt c2 (by omega)
        rw [if_neg (fun h => h.2.1 c2)]
        simp only [bd_some, p_let_eq, p_ok, mI_sI, mR_sI, mK_sI, mN_sI, mL_sI, mI_sG, mR_sG, mK_sG, mN_sG, mL_sG, mI_sJ, mR_sJ, mK_sJ, mN_sJ, mL_sJ, z_up, ↓reduceIte, and_self, true_and, and_true, false_and, and_false, not_true_eq_false, not_false_eq_true, Nat.reduceEqDiff, i_10, i_20, i_30, w_in, w_need1, w_need0, m_in, m_thr0, m_thr1, tM, aM, nI_1, nI_pred, reduceIte, wp_some, eq_self, bI_T, bI_F, F_X10_number_c106, s_o1 hS2, s_r1_0 hS2, mI_cset2, s1, q1, if_neg c1, c2', bad, Option.getD_none, Option.isSome_none, Bool.false_eq_true]
      · have c2' : ¬ nI g < nI (nm f e k - bl f e k) := nI_nlt (by omega) (by omega)
        by_cases c3 : nvl f (bl f e k) g (e - bl f e k) (bl f e k) 0 < lo
        · rw [if_neg (fun h => h.2.2.1 c3)]
          simp only [bd_some, p_let_eq, p_ok, mI_sI, mR_sI, mK_sI, mN_sI, mL_sI, mI_sG, mR_sG, mK_sG, mN_sG, mL_sG, mI_sJ, mR_sJ, mK_sJ, mN_sJ, mL_sJ, z_up, ↓reduceIte, and_self, true_and, and_true, false_and, and_false, not_true_eq_false, not_false_eq_true, Nat.reduceEqDiff, i_10, i_20, i_30, w_in, w_need1, w_need0, m_in, m_thr0, m_thr1, tM, aM, nI_1, nI_pred, reduceIte, wp_some, eq_self, bI_T, bI_F, F_X10_number_c106, s_o1 hS2, s_r1_0 hS2, mI_cset2, s1, q1, if_neg c1, c2', c3, bad, Option.getD_none, Option.isSome_none, Bool.false_eq_true]
        · by_cases c4 : nvl f (bl f e k) g (e - bl f e k) (bl f e k) 0 ≤ hi
          · rw [if_pos ⟨c1, c2, c3, c4⟩]
            simp only [bd_some, p_let_eq, p_ok, mI_sI, mR_sI, mK_sI, mN_sI, mL_sI, mI_sG, mR_sG, mK_sG, mN_sG, mL_sG, mI_sJ, mR_sJ, mK_sJ, mN_sJ, mL_sJ, z_up, ↓reduceIte, and_self, true_and, and_true, false_and, and_false, not_true_eq_false, not_false_eq_true, Nat.reduceEqDiff, i_10, i_20, i_30, w_in, w_need1, w_need0, m_in, m_thr0, m_thr1, tM, aM, nI_1, nI_pred, reduceIte, wp_some, eq_self, bI_T, bI_F, F_X10_number_c106, s_o1 hS2, s_r1_0 hS2, mI_cset2, s1, q1, if_neg c1, c2', c3, c4, Option.getD_some, Option.isSome_some]
          · rw [if_neg (fun h => c4 h.2.2.2)]
            simp only [bd_some, p_let_eq, p_ok, mI_sI, mR_sI, mK_sI, mN_sI, mL_sI, mI_sG, mR_sG, mK_sG, mN_sG, mL_sG, mI_sJ, mR_sJ, mK_sJ, mN_sJ, mL_sJ, z_up, ↓reduceIte, and_self, true_and, and_true, false_and, and_false, not_true_eq_false, not_false_eq_true, Nat.reduceEqDiff, i_10, i_20, i_30, w_in, w_need1, w_need0, m_in, m_thr0, m_thr1, tM, aM, nI_1, nI_pred, reduceIte, wp_some, eq_self, bI_T, bI_F, F_X10_number_c106, s_o1 hS2, s_r1_0 hS2, mI_cset2, s1, q1, if_neg c1, c2', c3, c4, bad, Option.getD_none, Option.isSome_none, Bool.false_eq_true]
  simp only [bd_some, p_let_eq, p_ok, mI_sI, mR_sI, mK_sI, mN_sI, mL_sI, mI_sG, mR_sG, mK_sG, mN_sG, mL_sG, mI_sJ, mR_sJ, mK_sJ, mN_sJ, mL_sJ, z_up, ↓reduceIte, and_self, true_and, and_true, false_and, and_false, not_true_eq_false, not_false_eq_true, Nat.reduceEqDiff, i_10, i_20, i_30, w_in, w_need1, w_need0, m_in, m_thr0, m_thr1, tM, aM, nI_1, nI_pred, reduceIte, wp_some, eq_self, bI_T, bI_F, F_X10_number, s_o1 hS, s_r1_0 hS, h3, c_skip' hS hT]
  rw [if_pos (s_o1 (Sh_cset _ hS)), mI_cset2]
  exact q.trans fin
theorem c_numberD {g : Int32} {lo hi : Int32} {μ : p_M} (hS : Sh μ) (h3 : ¬ mI μ 1 3 = -1) : F_X10_number 1 g lo hi μ = some (-1, μ) := by
  simp only [bd_some, p_let_eq, p_ok, mI_sI, mR_sI, mK_sI, mN_sI, mL_sI, mI_sG, mR_sG, mK_sG, mN_sG, mL_sG, mI_sJ, mR_sJ, mK_sJ, mN_sJ, mL_sJ, z_up, ↓reduceIte, and_self, true_and, and_true, false_and, and_false, not_true_eq_false, not_false_eq_true, Nat.reduceEqDiff, i_10, i_20, i_30, w_in, w_need1, w_need0, m_in, m_thr0, m_thr1, tM, aM, nI_1, nI_pred, reduceIte, wp_some, eq_self, bI_T, bI_F, F_X10_number, s_o1 hS, s_r1_0 hS, h3]
/-! words -/
def mtw (f : Nat → Int32) (b a : Nat) : List Int32 → Nat → Bool
  | [], _ => true
  | c :: cs, t => decide (b + t < a ∧ f (b + t) = c) && mtw f b a cs (t + 1)
def isw (f : Nat → Int32) (b a : Nat) (w : List Int32) : Bool := mtw f b a w 0 && decide (w.length = a - b)
def tR (W : Nat) : Nat → List Int32 → Prop
  | i, [] => tx_len W = some (nI i)
  | i, c :: cs => tx_at W (nI i) = some c ∧ (∃ N, tx_len W = some (nI N) ∧ i < N ∧ N < 2 ^ 31) ∧ tR W (i + 1) cs
def plc (f : Nat → Int32) (b a : Nat) : List (List Int32) → Nat → Option Nat
  | [], _ => none
  | w :: ws, p => if isw f b a w = true then some p else plc f b a ws (p + 1)
def joinw : List (List Int32) → List Int32
  | [] => []
  | w :: ws => match ws with
    | [] => w
    | _ :: _ => w ++ 32 :: joinw ws
theorem tR_len {W : Nat} : ∀ (w : List Int32) (i : Nat), tR W i w → tx_len W = some (nI (i + w.length)) := by
  intro w
  induction w with
  | nil => intro i h; exact h
  | cons c cs ih =>
    intro i h
    have := ih (i + 1) h.2.2
    rw [this, List.length_cons]
    congr 2
    omega
theorem tR_app {W : Nat} : ∀ (w u : List Int32) (i : Nat), tR W i (w ++ u) → tR W (i + w.length) u := by
  intro w
  induction w with
  | nil => intro u i h; exact h
  | cons c cs ih =>
    intro u i h
    have := ih u (i + 1) h.2.2
    rw [List.length_cons, show i + (cs.length + 1) = i + 1 + cs.length by omega]
    exact this
theorem c_mis {W b p : Nat} {μ : p_M} : ∀ (w u : List Int32) (m i : Nat), (∀ c, c ∈ w → c ≠ 32) → tR W i (w ++ u) → F_X10_placeAmong_c8 (w.length + m) 1 W (nI b) (nI p) (-1) (nI i) μ = F_X10_placeAmong_c8 m 1 W (nI b) (nI p) (-1) (nI (i + w.length)) μ := by
  intro w
  induction w with
  | nil => intro u m i _ _; rw [List.length_nil, Nat.zero_add, Nat.add_zero]
  | cons c cs ih =>
    intro u m i hw h
    obtain ⟨h1, ⟨N, h2, h3, h4⟩, h5⟩ := h
    have c1 : ¬ nI N ≤ nI i := nI_ge h3 h4
    have c2 : ¬ c = 32 := hw c (List.mem_cons_self)
    have a1 : nI i + 1 = nI (i + 1) := nI_add i 1
    have := ih u m (i + 1) (fun x hx => hw x (List.mem_cons_of_mem _ hx)) h5
    rw [List.length_cons, show cs.length + 1 + m = (cs.length + m) + 1 by omega, show i + (cs.length + 1) = i + 1 + cs.length by omega, ← this]
    simp only [bd_some, p_let_eq, p_ok, mI_sI, mR_sI, mK_sI, mN_sI, mL_sI, mI_sG, mR_sG, mK_sG, mN_sG, mL_sG, mI_sJ, mR_sJ, mK_sJ, mN_sJ, mL_sJ, z_up, ↓reduceIte, and_self, true_and, and_true, false_and, and_false, not_true_eq_false, not_false_eq_true, Nat.reduceEqDiff, i_10, i_20, i_30, w_in, w_need1, w_need0, m_in, m_thr0, m_thr1, tM, aM, nI_1, nI_pred, reduceIte, wp_some, eq_self, bI_T, bI_F, F_X10_placeAmong_c8, F_X10_placeAmong_c91, F_X10_placeAmong_c94, h1, h2, c1, c2, a1]
theorem c_mt {f : Nat → Int32} {W b a p : Nat} {μ : p_M} (hS : Sh μ) (e2 : mI μ 2 = f) (ea : mI μ 1 2 = nI a) (hb : b ≤ a) (ha : a ≤ 400) : ∀ (w u : List Int32) (m i t : Nat), t ≤ 400 → (∀ c, c ∈ w → c ≠ 32) → tR W i (w ++ u) → F_X10_placeAmong_c8 (w.length + m) 1 W (nI b) (nI p) (nI t) (nI i) μ = F_X10_placeAmong_c8 m 1 W (nI b) (nI p) (if mtw f b a w t = true then nI (t + w.length) else -1) (nI (i + w.length)) μ := by
  intro w
  induction w with
  | nil => intro u m i t _ _ _; rw [List.length_nil, Nat.zero_add, Nat.add_zero, Nat.add_zero]; rfl
  | cons c cs ih =>
    intro u m i t ht hw h
    obtain ⟨h1, ⟨N, h2, h3, h4⟩, h5⟩ := h
    have c1 : ¬ nI N ≤ nI i := nI_ge h3 h4
    have c2 : ¬ c = 32 := hw c (List.mem_cons_self)
    have a1 : nI i + 1 = nI (i + 1) := nI_add i 1
    have a2 : nI b + nI t = nI (b + t) := nI_add b t
    have a3 : nI t + 1 = nI (t + 1) := nI_add t 1
    have n1 : ¬ nI t = -1 := fun e => nI_pos (show t < 2 ^ 31 by omega) (by rw [e]; decide)
    have hcs : ∀ x, x ∈ cs → x ≠ 32 := fun x hx => hw x (List.mem_cons_of_mem _ hx)
    rw [List.length_cons, show cs.length + 1 + m = (cs.length + m) + 1 by omega, show i + (cs.length + 1) = i + 1 + cs.length by omega, show t + (cs.length + 1) = t + 1 + cs.length by omega]
    unfold mtw
    by_cases c3 : b + t < a
    · have c3' : ¬ nI a ≤ nI (b + t) := nI_ge c3 (by omega)
      have i1 := ix_nI (show b + t < 400 by omega) (by decide)
      have k1 := nI_clamp (show b + t < 2 ^ 31 by omega)
      have l1 : b + t < 400 := by omega
      by_cases c4 : f (b + t) = c
      · have := ih u m (i + 1) (t + 1) (by omega) hcs h5
        rw [decide_eq_true ⟨c3, c4⟩, Bool.true_and, ← this]
        simp only [bd_some, p_let_eq, p_ok, mI_sI, mR_sI, mK_sI, mN_sI, mL_sI, mI_sG, mR_sG, mK_sG, mN_sG, mL_sG, mI_sJ, mR_sJ, mK_sJ, mN_sJ, mL_sJ, z_up, ↓reduceIte, and_self, true_and, and_true, false_and, and_false, not_true_eq_false, not_false_eq_true, Nat.reduceEqDiff, i_10, i_20, i_30, w_in, w_need1, w_need0, m_in, m_thr0, m_thr1, tM, aM, nI_1, nI_pred, reduceIte, wp_some, eq_self, bI_T, bI_F, F_X10_placeAmong_c8, F_X10_placeAmong_c91, F_X10_placeAmong_c94, s_o1 hS, s_r1_0 hS, s_a2 hS, s_l2 hS, s_o2 hS, h1, h2, c1, c2, a1, n1, ea, a2, c3', i1, k1, l1, e2, c4, a3]
      · have := c_mis (b := b) (p := p) (μ := μ) cs u m (i + 1) hcs h5
        rw [decide_eq_false (fun h => c4 h.2), Bool.false_and, if_neg Bool.false_ne_true, ← this]
        simp only [bd_some, p_let_eq, p_ok, mI_sI, mR_sI, mK_sI, mN_sI, mL_sI, mI_sG, mR_sG, mK_sG, mN_sG, mL_sG, mI_sJ, mR_sJ, mK_sJ, mN_sJ, mL_sJ, z_up, ↓reduceIte, and_self, true_and, and_true, false_and, and_false, not_true_eq_false, not_false_eq_true, Nat.reduceEqDiff, i_10, i_20, i_30, w_in, w_need1, w_need0, m_in, m_thr0, m_thr1, tM, aM, nI_1, nI_pred, reduceIte, wp_some, eq_self, bI_T, bI_F, F_X10_placeAmong_c8, F_X10_placeAmong_c91, F_X10_placeAmong_c94, s_o1 hS, s_r1_0 hS, s_a2 hS, s_l2 hS, s_o2 hS, h1, h2, c1, c2, a1, n1, ea, a2, c3', i1, k1, l1, e2, c4]
    · have c3' : nI a ≤ nI (b + t) := nI_le (by omega) (by omega)
      have := c_mis (b := b) (p := p) (μ := μ) cs u m (i + 1) hcs h5
      rw [decide_eq_false (fun h => c3 h.1), Bool.false_and, if_neg Bool.false_ne_true, ← this]
      simp only [bd_some, p_let_eq, p_ok, mI_sI, mR_sI, mK_sI, mN_sI, mL_sI, mI_sG, mR_sG, mK_sG, mN_sG, mL_sG, mI_sJ, mR_sJ, mK_sJ, mN_sJ, mL_sJ, z_up, ↓reduceIte, and_self, true_and, and_true, false_and, and_false, not_true_eq_false, not_false_eq_true, Nat.reduceEqDiff, i_10, i_20, i_30, w_in, w_need1, w_need0, m_in, m_thr0, m_thr1, tM, aM, nI_1, nI_pred, reduceIte, wp_some, eq_self, bI_T, bI_F, F_X10_placeAmong_c8, F_X10_placeAmong_c91, F_X10_placeAmong_c94, s_o1 hS, s_r1_0 hS, s_a2 hS, s_l2 hS, s_o2 hS, h1, h2, c1, c2, a1, n1, ea, a2, c3']
def oN (o : Option Nat) : Int32 := match o with
  | some q => nI q
  | none => -1
theorem al_eq {f : Nat → Int32} {b a : Nat} (hb : b ≤ a) (ha : a ≤ 400) (w : List Int32) (hw : w.length ≤ 400) : ((if mtw f b a w 0 = true then nI (0 + w.length) else -1) = nI (a - b)) = (isw f b a w = true) := by
  apply propext
  unfold isw
  by_cases c : mtw f b a w 0 = true
  · rw [if_pos c, c, Bool.true_and, decide_eq_true_eq, Nat.zero_add, nI_eq (by omega) (by omega)]
  · rw [if_neg c]
    constructor
    · intro h
      exact absurd h (fun e => nI_pos (show a - b < 2 ^ 31 by omega) (by rw [← e]; decide))
    · intro h
      rw [Bool.and_eq_true] at h
      exact absurd h.1 c
theorem c_pl {f : Nat → Int32} {W b a : Nat} {μ : p_M} (hS : Sh μ) (e2 : mI μ 2 = f) (ea : mI μ 1 2 = nI a) (hb : b ≤ a) (ha : a ≤ 400) : ∀ (ws : List (List Int32)) (w : List Int32) (p i m : Nat), (∀ x, x ∈ w :: ws → x.length ≤ 400 ∧ ∀ c, c ∈ x → c ≠ 32) → tR W i (joinw (w :: ws)) → (joinw (w :: ws)).length < m → F_X10_placeAmong_c8 m 1 W (nI b) (nI p) 0 (nI i) μ = some (oN (plc f b a (w :: ws) p), μ) := by
  have sb : nI a - nI b = nI (a - b) := pk_sub hb
  intro ws
  induction ws with
  | nil =>
    intro w p i m hw h hm
    have hw' := hw w List.mem_cons_self
    have hm : w.length < m := hm
    have h : tR W i w := h
    obtain ⟨m, rfl⟩ : ∃ k, m = w.length + (k + 1) := ⟨m - w.length - 1, by omega⟩
    have q := c_mt (p := p) hS e2 ea hb ha w [] (m + 1) i 0 (by decide) hw'.2 (by rw [List.append_nil]; exact h)
    have q : F_X10_placeAmong_c8 (w.length + (m + 1)) 1 W (nI b) (nI p) 0 (nI i) μ = _ := q
    rw [q]
    have hl := tR_len w i h
    have c1 : nI (i + w.length) ≤ nI (i + w.length) := Int32.le_iff_toInt_le.mpr (Int.le_refl _)
    unfold plc
    by_cases c : isw f b a w = true
    · have e := (al_eq (f := f) hb ha w hw'.1).mpr c
      rw [if_pos c]
      generalize (if mtw f b a w 0 = true then nI (0 + w.length) else -1) = A at e
      subst e
      simp only [bd_some, p_let_eq, p_ok, mI_sI, mR_sI, mK_sI, mN_sI, mL_sI, mI_sG, mR_sG, mK_sG, mN_sG, mL_sG, mI_sJ, mR_sJ, mK_sJ, mN_sJ, mL_sJ, z_up, ↓reduceIte, and_self, true_and, and_true, false_and, and_false, not_true_eq_false, not_false_eq_true, Nat.reduceEqDiff, i_10, i_20, i_30, w_in, w_need1, w_need0, m_in, m_thr0, m_thr1, tM, aM, nI_1, nI_pred, reduceIte, wp_some, eq_self, bI_T, bI_F, F_X10_placeAmong_c8, F_X10_placeAmong_c116, s_o1 hS, s_r1_0 hS, hl, c1, ea, sb, oN]
    · have e : ¬ _ := fun e => c ((al_eq (f := f) hb ha w hw'.1).mp e)
      rw [if_neg c]
      generalize (if mtw f b a w 0 = true then nI (0 + w.length) else -1) = A at e
      simp only [bd_some, p_let_eq, p_ok, mI_sI, mR_sI, mK_sI, mN_sI, mL_sI, mI_sG, mR_sG, mK_sG, mN_sG, mL_sG, mI_sJ, mR_sJ, mK_sJ, mN_sJ, mL_sJ, z_up, ↓reduceIte, and_self, true_and, and_true, false_and, and_false, not_true_eq_false, not_false_eq_true, Nat.reduceEqDiff, i_10, i_20, i_30, w_in, w_need1, w_need0, m_in, m_thr0, m_thr1, tM, aM, nI_1, nI_pred, reduceIte, wp_some, eq_self, bI_T, bI_F, F_X10_placeAmong_c8, F_X10_placeAmong_c116, s_o1 hS, s_r1_0 hS, hl, c1, ea, sb, e, oN, plc]
  | cons w2 ws ih =>
    intro w p i m hw h hm
    have hw' := hw w List.mem_cons_self
    have h : tR W i (w ++ 32 :: joinw (w2 :: ws)) := h
    have hm : (w ++ 32 :: joinw (w2 :: ws)).length < m := hm
    rw [List.length_append, List.length_cons] at hm
    obtain ⟨m, rfl⟩ : ∃ k, m = w.length + (k + 1) := ⟨m - w.length - 1, by omega⟩
    have q := c_mt (p := p) hS e2 ea hb ha w (32 :: joinw (w2 :: ws)) (m + 1) i 0 (by decide) hw'.2 h
    have q : F_X10_placeAmong_c8 (w.length + (m + 1)) 1 W (nI b) (nI p) 0 (nI i) μ = _ := q
    rw [q]
    obtain ⟨h1, ⟨N, h2, h3, h4⟩, h5⟩ := tR_app w _ i h
    have c1 : ¬ nI N ≤ nI (i + w.length) := nI_ge h3 h4
    have a1 : nI (i + w.length) + 1 = nI (i + w.length + 1) := nI_add _ 1
    have a2 : nI p + 1 = nI (p + 1) := nI_add _ 1
    unfold plc
    by_cases c : isw f b a w = true
    · have e := (al_eq (f := f) hb ha w hw'.1).mpr c
      rw [if_pos c]
      generalize (if mtw f b a w 0 = true then nI (0 + w.length) else -1) = A at e
      subst e
      simp only [bd_some, p_let_eq, p_ok, mI_sI, mR_sI, mK_sI, mN_sI, mL_sI, mI_sG, mR_sG, mK_sG, mN_sG, mL_sG, mI_sJ, mR_sJ, mK_sJ, mN_sJ, mL_sJ, z_up, ↓reduceIte, and_self, true_and, and_true, false_and, and_false, not_true_eq_false, not_false_eq_true, Nat.reduceEqDiff, i_10, i_20, i_30, w_in, w_need1, w_need0, m_in, m_thr0, m_thr1, tM, aM, nI_1, nI_pred, reduceIte, wp_some, eq_self, bI_T, bI_F, F_X10_placeAmong_c8, s_o1 hS, s_r1_0 hS, h1, h2, c1, ea, sb, oN]
    · have e : ¬ _ := fun e => c ((al_eq (f := f) hb ha w hw'.1).mp e)
      rw [if_neg c]
      generalize (if mtw f b a w 0 = true then nI (0 + w.length) else -1) = A at e
      have r := ih w2 (p + 1) (i + w.length + 1) m (fun x hx => hw x (List.mem_cons_of_mem _ hx)) h5 (by omega)
      simp only [bd_some, p_let_eq, p_ok, mI_sI, mR_sI, mK_sI, mN_sI, mL_sI, mI_sG, mR_sG, mK_sG, mN_sG, mL_sG, mI_sJ, mR_sJ, mK_sJ, mN_sJ, mL_sJ, z_up, ↓reduceIte, and_self, true_and, and_true, false_and, and_false, not_true_eq_false, not_false_eq_true, Nat.reduceEqDiff, i_10, i_20, i_30, w_in, w_need1, w_need0, m_in, m_thr0, m_thr1, tM, aM, nI_1, nI_pred, reduceIte, wp_some, eq_self, bI_T, bI_F, F_X10_placeAmong_c8, F_X10_placeAmong_c94, s_o1 hS, s_r1_0 hS, h1, h2, c1, ea, sb, e, a1, a2]
      exact r
theorem plc_lt {f : Nat → Int32} {b a : Nat} : ∀ (ws : List (List Int32)) (p q : Nat), plc f b a ws p = some q → q < p + ws.length := by
  intro ws
  induction ws with
  | nil => intro p q h; cases h
  | cons w ws ih =>
    intro p q h
    unfold plc at h
    split at h
    · cases h; rw [List.length_cons]; omega
    · have := ih (p + 1) q h; rw [List.length_cons]; omega
theorem c_pick {f : Nat → Int32} {W e k : Nat} {μ : p_M} (hS : Sh μ) (hT : Tx μ f e k) (h3 : mI μ 1 3 = -1) (w : List Int32) (ws : List (List Int32)) (hw : ∀ x, x ∈ w :: ws → x.length ≤ 400 ∧ ∀ c, c ∈ x → c ≠ 32) (h : tR W 0 (joinw (w :: ws))) (hm : (joinw (w :: ws)).length < 1000) (hn : (w :: ws).length < 2 ^ 31) : F_X10_pick 1 W μ = some (oN (plc f (bl f e k) (wd f e k) (w :: ws) 0), if (plc f (bl f e k) (wd f e k) (w :: ws) 0).isSome = true then cset μ (wd f e k) else sI (cset μ (wd f e k)) 1 3 (nI (bl f e k))) := by
  have h4 := hT.2.2.2.1
  have hb := bl_le (f := f) hT.2.2.2.2
  have hwd := wd_le (f := f) hT.2.2.2.2
  have hS2 : Sh (cset μ (wd f e k)) := Sh_cset _ hS
  have q := c_word (f := f) (e := e) (W := W) (b := bl f e k) (e - bl f e k) (bl f e k) p_fu (cset μ (bl f e k)) rfl (by rw [show p_fu = 99999 + 1 from rfl]; omega) (Sh_cset _ hS) (Tx_cset hT hb.2)
  rw [cset_cset] at q
  have r := c_pl (f := f) (W := W) (b := bl f e k) (a := wd f e k) (μ := cset μ (wd f e k)) hS2 (by rw [mI_csetO (by decide)]; exact hT.1) mI_cset2 hwd.1 (by omega) ws w 0 0 p_fu hw h (by rw [show p_fu = 99999 + 1 from rfl]; omega)
  have r : F_X10_placeAmong_c8 p_fu 1 W (nI (bl f e k)) 0 0 0 (cset μ (wd f e k)) = _ := r
  simp only [bd_some, p_let_eq, p_ok, mI_sI, mR_sI, mK_sI, mN_sI, mL_sI, mI_sG, mR_sG, mK_sG, mN_sG, mL_sG, mI_sJ, mR_sJ, mK_sJ, mN_sJ, mL_sJ, z_up, ↓reduceIte, and_self, true_and, and_true, false_and, and_false, not_true_eq_false, not_false_eq_true, Nat.reduceEqDiff, i_10, i_20, i_30, w_in, w_need1, w_need0, m_in, m_thr0, m_thr1, tM, aM, nI_1, nI_pred, reduceIte, wp_some, eq_self, bI_T, bI_F, F_X10_pick, s_o1 hS, s_r1_0 hS, h3, c_skip' hS hT]
  rw [if_pos (s_o1 (Sh_cset _ hS)), mI_cset2]
  refine q.trans ?_
  show F_X10_pick_c71 1 W (nI (bl f e k)) (cset μ (wd f e k)) = _
  have hq : ∀ q, plc f (bl f e k) (wd f e k) (w :: ws) 0 = some q → ¬ nI q = -1 := fun q hq e => by
    have := plc_lt _ _ _ hq
    have hl : (w :: ws).length < 2 ^ 31 := hn
    exact nI_pos (show q < 2 ^ 31 by omega) (by rw [e]; decide)
  generalize plc f (bl f e k) (wd f e k) (w :: ws) 0 = o at *
  cases o with
  | none => simp only [bd_some, p_let_eq, p_ok, mI_sI, mR_sI, mK_sI, mN_sI, mL_sI, mI_sG, mR_sG, mK_sG, mN_sG, mL_sG, mI_sJ, mR_sJ, mK_sJ, mN_sJ, mL_sJ, z_up, ↓reduceIte, and_self, true_and, and_true, false_and, and_false, not_true_eq_false, not_false_eq_true, Nat.reduceEqDiff, i_10, i_20, i_30, w_in, w_need1, w_need0, m_in, m_thr0, m_thr1, tM, aM, nI_1, nI_pred, reduceIte, wp_some, eq_self, bI_T, bI_F, F_X10_pick_c71, F_X10_pick_c88, F_X10_placeAmong, F_X10_refuse, F_X10_refuse_c13, s_o1 hS2, s_r1_0 hS2, r, oN, mI_cset3, h3, Option.isSome_none, Bool.false_eq_true]
  | some q =>
    have n1 : ¬ nI q = -1 := hq q rfl
    simp only [bd_some, p_let_eq, p_ok, mI_sI, mR_sI, mK_sI, mN_sI, mL_sI, mI_sG, mR_sG, mK_sG, mN_sG, mL_sG, mI_sJ, mR_sJ, mK_sJ, mN_sJ, mL_sJ, z_up, ↓reduceIte, and_self, true_and, and_true, false_and, and_false, not_true_eq_false, not_false_eq_true, Nat.reduceEqDiff, i_10, i_20, i_30, w_in, w_need1, w_need0, m_in, m_thr0, m_thr1, tM, aM, nI_1, nI_pred, reduceIte, wp_some, eq_self, bI_T, bI_F, F_X10_pick_c71, F_X10_pick_c88, F_X10_placeAmong, s_o1 hS2, s_r1_0 hS2, r, oN, n1, Option.isSome_some]
theorem c_pickD {W : Nat} {μ : p_M} (hS : Sh μ) (h3 : ¬ mI μ 1 3 = -1) : F_X10_pick 1 W μ = some (-1, μ) := by
  simp only [bd_some, p_let_eq, p_ok, mI_sI, mR_sI, mK_sI, mN_sI, mL_sI, mI_sG, mR_sG, mK_sG, mN_sG, mL_sG, mI_sJ, mR_sJ, mK_sJ, mN_sJ, mL_sJ, z_up, ↓reduceIte, and_self, true_and, and_true, false_and, and_false, not_true_eq_false, not_false_eq_true, Nat.reduceEqDiff, i_10, i_20, i_30, w_in, w_need1, w_need0, m_in, m_thr0, m_thr1, tM, aM, nI_1, nI_pred, reduceIte, wp_some, eq_self, bI_T, bI_F, F_X10_pick, s_o1 hS, s_r1_0 hS, h3]
theorem m_isw {f : Nat → Int32} {V b a : Nat} {μ : p_M} (e2 : mI μ 66 = f) (e3 : mI μ 65 3 = nI a) (e5 : mI μ 65 5 = nI b) (hb : b ≤ a) (ha : a ≤ 400) (w : List Int32) (hw : w.length ≤ 400) (h : tR V 0 w) : F_X13_isWord V μ = some (bI (isw f b a w = true), μ) := by
  have lp : ∀ (w : List Int32) (t m : Nat), tR V t w → b + t + w.length = a → w.length < m → F_X13_isWord_c24 m V 1 (nI t) μ = some (bI (mtw f b a w t = true), μ) := by
    intro w
    induction w with
    | nil =>
      intro t m h1 h2 h3
      obtain ⟨m, rfl⟩ : ∃ k, m = k + 1 := ⟨m - 1, by omega⟩
      have h1 : tx_len V = some (nI t) := h1
      have c1 : nI t ≤ nI t := Int32.le_iff_toInt_le.mpr (Int.le_refl _)
      simp only [bd_some, p_let_eq, p_ok, mI_sI, mR_sI, mK_sI, mN_sI, mL_sI, mI_sG, mR_sG, mK_sG, mN_sG, mL_sG, mI_sJ, mR_sJ, mK_sJ, mN_sJ, mL_sJ, z_up, ↓reduceIte, and_self, true_and, and_true, false_and, and_false, not_true_eq_false, not_false_eq_true, Nat.reduceEqDiff, i_10, i_20, i_30, w_in, w_need1, w_need0, m_in, m_thr0, m_thr1, tM, aM, nI_1, nI_pred, reduceIte, wp_some, eq_self, bI_T, bI_F, F_X13_isWord_c24, F_X13_isWord_c67, h1, c1, mtw, or_true]
    | cons c cs ih =>
      intro t m h1 h2 h3
      obtain ⟨m, rfl⟩ : ∃ k, m = k + 1 := ⟨m - 1, by omega⟩
      obtain ⟨g1, ⟨N, g2, g3, g4⟩, g5⟩ := h1
      rw [List.length_cons] at h2 h3
      have c1 : ¬ nI N ≤ nI t := nI_ge g3 g4
      have a1 : nI t + 1 = nI (t + 1) := nI_add t 1
      have a2 : nI b + nI t = nI (b + t) := nI_add b t
      have i1 := ix_nI (show b + t < 400 by omega) (by decide)
      have k1 := nI_clamp (show b + t < 2 ^ 31 by omega)
      have l1 : b + t < 400 := by omega
      have r := ih (t + 1) m g5 (by omega) (by omega)
      unfold mtw
      by_cases c4 : f (b + t) = c
      · rw [decide_eq_true ⟨show b + t < a by omega, c4⟩, Bool.true_and]
        simp only [bd_some, p_let_eq, p_ok, mI_sI, mR_sI, mK_sI, mN_sI, mL_sI, mI_sG, mR_sG, mK_sG, mN_sG, mL_sG, mI_sJ, mR_sJ, mK_sJ, mN_sJ, mL_sJ, z_up, ↓reduceIte, and_self, true_and, and_true, false_and, and_false, not_true_eq_false, not_false_eq_true, Nat.reduceEqDiff, i_10, i_20, i_30, w_in, w_need1, w_need0, m_in, m_thr0, m_thr1, tM, aM, nI_1, nI_pred, reduceIte, wp_some, eq_self, bI_T, bI_F, F_X13_isWord_c24, F_X13_isWord_c60, g1, g2, c1, e5, a2, i1, k1, l1, e2, c4, a1]
        exact r
      · rw [decide_eq_false (fun h => c4 h.2), Bool.false_and, bI_neg Bool.false_ne_true]
        obtain ⟨m, rfl⟩ : ∃ k, m = k + 1 := ⟨m - 1, by omega⟩
        simp only [bd_some, p_let_eq, p_ok, mI_sI, mR_sI, mK_sI, mN_sI, mL_sI, mI_sG, mR_sG, mK_sG, mN_sG, mL_sG, mI_sJ, mR_sJ, mK_sJ, mN_sJ, mL_sJ, z_up, ↓reduceIte, and_self, true_and, and_true, false_and, and_false, not_true_eq_false, not_false_eq_true, Nat.reduceEqDiff, i_10, i_20, i_30, w_in, w_need1, w_need0, m_in, m_thr0, m_thr1, tM, aM, nI_1, nI_pred, reduceIte, wp_some, eq_self, bI_T, bI_F, F_X13_isWord_c24, F_X13_isWord_c60, F_X13_isWord_c67, g1, g2, c1, e5, a2, i1, k1, l1, e2, c4, a1, true_or]
  have hl := tR_len w 0 h
  rw [Nat.zero_add] at hl
  have sb : nI a - nI b = nI (a - b) := pk_sub hb
  have q1 : (nI (a - b) = nI w.length) = (a - b = w.length) := propext (nI_eq (by omega) (by omega))
  unfold isw
  by_cases c : a - b = w.length
  · have r := lp w 0 p_fu h (by omega) (by rw [show p_fu = 99999 + 1 from rfl]; omega)
    have r : F_X13_isWord_c24 p_fu V 1 0 μ = _ := r
    rw [decide_eq_true c.symm, Bool.and_true]
    simp only [bd_some, p_let_eq, p_ok, mI_sI, mR_sI, mK_sI, mN_sI, mL_sI, mI_sG, mR_sG, mK_sG, mN_sG, mL_sG, mI_sJ, mR_sJ, mK_sJ, mN_sJ, mL_sJ, z_up, ↓reduceIte, and_self, true_and, and_true, false_and, and_false, not_true_eq_false, not_false_eq_true, Nat.reduceEqDiff, i_10, i_20, i_30, w_in, w_need1, w_need0, m_in, m_thr0, m_thr1, tM, aM, nI_1, nI_pred, reduceIte, wp_some, eq_self, bI_T, bI_F, F_X13_isWord, F_X13_isWord_c21, hl, e3, e5, sb, q1, if_pos c, c, r]
  · rw [decide_eq_false (fun h => c h.symm), Bool.and_false, bI_neg Bool.false_ne_true]
    simp only [bd_some, p_let_eq, p_ok, mI_sI, mR_sI, mK_sI, mN_sI, mL_sI, mI_sG, mR_sG, mK_sG, mN_sG, mL_sG, mI_sJ, mR_sJ, mK_sJ, mN_sJ, mL_sJ, z_up, ↓reduceIte, and_self, true_and, and_true, false_and, and_false, not_true_eq_false, not_false_eq_true, Nat.reduceEqDiff, i_10, i_20, i_30, w_in, w_need1, w_need0, m_in, m_thr0, m_thr1, tM, aM, nI_1, nI_pred, reduceIte, wp_some, eq_self, bI_T, bI_F, F_X13_isWord, F_X13_isWord_c21, hl, e3, e5, sb, q1, if_neg c, c]
    rw [show p_fu = 99999 + 1 from rfl]
    simp only [bd_some, p_let_eq, p_ok, mI_sI, mR_sI, mK_sI, mN_sI, mL_sI, mI_sG, mR_sG, mK_sG, mN_sG, mL_sG, mI_sJ, mR_sJ, mK_sJ, mN_sJ, mL_sJ, z_up, ↓reduceIte, and_self, true_and, and_true, false_and, and_false, not_true_eq_false, not_false_eq_true, Nat.reduceEqDiff, i_10, i_20, i_30, w_in, w_need1, w_need0, m_in, m_thr0, m_thr1, tM, aM, nI_1, nI_pred, reduceIte, wp_some, eq_self, bI_T, bI_F, F_X13_isWord_c24, F_X13_isWord_c67, true_or]
