/-! house -/
theorem houP_ok {f : Nat → Int32} {e : Nat} : ∀ (r n k : Nat) (s : Nat → Int32) (q : Nat × (Nat → Int32)), n ≤ 24 → k ≤ e → okS s → houP f e r n k s = .inr q → q.1 ≤ 24 ∧ okS q.2 := by
  intro r
  induction r with
  | zero => intro n k s q _ _ _ h; cases h
  | succ r ih =>
    intro n k s q hn hk hs h
    unfold houP at h
    obtain ⟨a, h1, h⟩ := bnd_ok h
    obtain ⟨a1, a2, a3⟩ := rul_ok hk hs h1
    have hn24 : n < 24 := by
      by_cases c : n = 24
      · unfold rul at h1
        rw [if_pos c] at h1
        cases h1
      · omega
    have hb := bl_le (f := f) a3
    split at h
    · rename_i c5
      split at h
      · exact ih _ _ _ _ (by omega) (by omega) a1 h
      · cases h
    · cases h
      exact ⟨hn24, a1⟩
def houO (f : Nat → Int32) (e : Nat) : HO := if bl f e 0 < e then houP f e (e - bl f e 0 + 1) 0 (bl f e 0) at0 else .inr (0, at0)
theorem houO_ok {f : Nat → Int32} {e : Nat} {q : Nat × (Nat → Int32)} (h : houO f e = .inr q) : q.1 ≤ 24 ∧ okS q.2 := by
  unfold houO at h
  split at h
  · exact houP_ok _ _ _ _ _ (by decide) (bl_le (Nat.zero_le _)).2 at0_ok h
  · cases h
    exact ⟨by decide, at0_ok⟩
/-- the array that stands outside -/
def oX1 (X : p_X) : Prop := (X 1).1 = 18 ∧ ∀ j, j < 18 → (X 1).2 j = at0 j
theorem c_readH {X : p_X} (hX : oX1 X) {f : Nat → Int32} {e H T : Nat} {μ : p_M} (hS : Sh μ) (hH : HT H T) (hT : Tx μ f e 0) (h3 : mI μ 1 3 = -1) : ∃ μ', F_X1_read X H 1 μ = some (0, μ') ∧ Fq [1, H, T] [] μ μ' ∧ hO e H T μ' (houO f e) := by
  have n1 : ¬ 1 = T := by rcases hH with h | h <;> omega
  have n2 : ¬ 2 = T := by rcases hH with h | h <;> omega
  have n1H : ¬ 1 = H := by rcases hH with h | h <;> omega
  have n2H : ¬ 2 = H := by rcases hH with h | h <;> omega
  have nTH : ¬ T = H := by rcases hH with h | h <;> omega
  have nH1 : H ≠ 1 := fun h => n1H h.symm
  have nT1 : T ≠ 1 := fun h => n1 h.symm
  have n65 : T ≠ 65 := by rcases hH with h | h <;> omega
  have n65H : H ≠ 65 := by rcases hH with h | h <;> omega
  have m1 : 1 ∈ [1, H, T] ∧ 1 ≠ 65 := ⟨List.mem_cons_self, by decide⟩
  have mT : T ∈ [1, H, T] ∧ T ≠ 65 := ⟨by simp, n65⟩
  have mH : H ∈ [1, H, T] ∧ H ≠ 65 := ⟨by simp, n65H⟩
  obtain ⟨o1, o2, o3, o4⟩ := hou_sh hS hH
  have z0 : ¬ (0 : Int32) < 0 := by decide
  have zc : Int32.toNatClampNeg 0 = 0 := rfl
  have z18 : ¬ nI 18 < 0 := by decide
  have zc18 : (nI 18).toNatClampNeg = 18 := by decide
  have oN : ¬ mN μ ≤ T := by have := o3.2.2; omega
  have c20 : 20 ≤ 20 ∧ 20 ≤ 26 := by decide
  have fq0 : Fq [1, H, T] [] μ (sI (sA μ T (va_cpy (X 1).2 (mI μ T) 0 0 18)) H 1 0) := Fq_sI (Fq_sA (Fq_refl μ) mT) mH
  have hS0 := Sh_q fq0 hS
  have hT0 : Tx (sI (sA μ T (va_cpy (X 1).2 (mI μ T) 0 0 18)) H 1 0) f e 0 := by
    obtain ⟨t1, t2, t3, t4, t5⟩ := hT
    unfold Tx
    simp only [mI_sI, mR_sI, mK_sI, mN_sI, mL_sI, mI_sG, mR_sG, mK_sG, mN_sG, mL_sG, mI_sJ, mR_sJ, mK_sJ, mN_sJ, mL_sJ, mI_sA, mR_sA, mK_sA, mN_sA, mL_sA, z_up, ↓reduceIte, reduceIte, Nat.reduceEqDiff, true_and, and_true, n1, n2, n1H, n2H]
    exact ⟨t1, t2, t3, t4, t5⟩
  have h30 : mI (sI (sA μ T (va_cpy (X 1).2 (mI μ T) 0 0 18)) H 1 0) 1 3 = -1 := by simp only [mI_sI, mR_sI, mK_sI, mN_sI, mL_sI, mI_sG, mR_sG, mK_sG, mN_sG, mL_sG, mI_sJ, mR_sJ, mK_sJ, mN_sJ, mL_sJ, mI_sA, mR_sA, mK_sA, mN_sA, mL_sA, z_up, ↓reduceIte, reduceIte, Nat.reduceEqDiff, true_and, and_true, n1, n1H]; exact h3
  have l0 : mI (sI (sA μ T (va_cpy (X 1).2 (mI μ T) 0 0 18)) H 1 0) H 1 = nI 0 := by simp only [mI_sI, mR_sI, mK_sI, mN_sI, mL_sI, mI_sG, mR_sG, mK_sG, mN_sG, mL_sG, mI_sJ, mR_sJ, mK_sJ, mN_sJ, mL_sJ, mI_sA, mR_sA, mK_sA, mN_sA, mL_sA, z_up, ↓reduceIte, reduceIte, Nat.reduceEqDiff, true_and, and_true]; rfl
  have s0 : ∀ j, j < 18 → mI (sI (sA μ T (va_cpy (X 1).2 (mI μ T) 0 0 18)) H 1 0) T j = at0 j := fun j hj => by
    simp only [mI_sI, mR_sI, mK_sI, mN_sI, mL_sI, mI_sG, mR_sG, mK_sG, mN_sG, mL_sG, mI_sJ, mR_sJ, mK_sJ, mN_sJ, mL_sJ, mI_sA, mR_sA, mK_sA, mN_sA, mL_sA, z_up, ↓reduceIte, reduceIte, Nat.reduceEqDiff, true_and, and_true, nTH]
    unfold va_cpy
    rw [if_pos (by omega), show 0 + (j - 0) = j by omega]
    exact hX.2 j hj
  have st : F_X1_read X H 1 μ = (F_X10_isBlank 1 (sI (sA μ T (va_cpy (X 1).2 (mI μ T) 0 0 18)) H 1 0)).bind fun q8 => if ¬ q8.1 = 0 then (F_X1_read_c34 X H 1 (0 : Int32) q8.2) else (F_X1_read_c34 X H 1 (1 : Int32) q8.2) := by
    simp only [F_X1_read, bd_some, p_ok, p_let_eq, o1, o2, o3, o4, hX.1, z0, zc, z18, zc18, oN, c20, s_o1 hS0, mK_sA, mN_sA, Nat.lt_irrefl, Nat.zero_add, Nat.le_refl, or_self, and_self, true_and, and_true, or_false, not_false_eq_true, not_true_eq_false, ↓reduceIte]
  rw [st]
  clear st
  generalize (sI (sA μ T (va_cpy (X 1).2 (mI μ T) 0 0 18)) H 1 0) = μ0 at *
  have hb := bl_le (f := f) hT.2.2.2.2
  have ib := c_isBlank hS0 hT0
  rw [ib]
  have fq1 : Fq [1, H, T] [] μ0 (cset μ0 (bl f e 0)) := Fq_sI (Fq_refl _) m1
  unfold houO
  by_cases c : bl f e 0 < e
  · rw [if_pos c, if_pos c]
    obtain ⟨μ', p1, p2, p3⟩ := c_hou (X := X) (f := f) (e := e) hH (e - bl f e 0 + 1) 0 (bl f e 0) p_fu (cset μ0 (bl f e 0)) at0 (by omega) (by decide) (by decide) (Sh_cset _ hS0) ⟨Tx_cset hT0 hb.2, mI_cset3.trans h30⟩ (by rw [mI_csetO nH1]; exact l0) at0_ok (fun j hj => by rw [mI_csetO nT1]; exact s0 j hj)
    have p1 : F_X1_read_c37 X p_fu H 1 1 0 _ = _ := p1
    refine ⟨μ', ?_, Fq_trans fq0 (Fq_trans fq1 p2), p3⟩
    simp only [F_X1_read_c34, bd_some, p1, ↓reduceIte, not_true_eq_false]
  · rw [if_neg c, if_neg c]
    refine ⟨cset μ0 (bl f e 0), ?_, Fq_trans fq0 fq1, mI_cset3.trans h30, by rw [mI_csetO nH1]; exact l0, fun j hj => by rw [mI_csetO nT1]; exact s0 j hj⟩
    have z24 : ¬ (24 : Int32) < 0 := by decide
    simp only [F_X1_read_c34, bd_some, ↓reduceIte, i_10, not_false_eq_true]
    rw [show p_fu = 99999 + 1 from rfl]
    simp only [F_X1_read_c37, F_X1_read_c63, z24, ↓reduceIte]
theorem m_readH {f : Nat → Int32} {e : Nat} {μ : p_M} (hT : MT μ f e 0) : ∃ v μ', F_X13_readHouse μ = some (v, μ') ∧ Fh μ μ' ∧ mHO v μ' (houO f e) := by
  obtain ⟨μ0, a1, a2, a3, a4⟩ := m_first μ
  have hT0 : MT μ0 f e 0 := by
    obtain ⟨t1, t2, t3, t4, t5⟩ := hT
    exact ⟨(Fq_row a2.1 66 (by decide)).trans t1, (a3 4).trans t2, (a3 3).trans t3, t4, t5⟩
  have h4 := hT.2.2.2.1
  have hb := bl_le (f := f) hT.2.2.2.2
  have bk : F_X13_blanks μ0 = some (0, mset μ0 (bl f e 0) (bl f e 0)) := m_blanks' hT0
  have hT1 : MT (mset μ0 (bl f e 0) (bl f e 0)) f e (bl f e 0) := MT_mset hT0 hb.2
  have q34 : (nI (bl f e 0) = nI e) = (bl f e 0 = e) := propext (nI_eq (by omega) (by omega))
  unfold houO
  by_cases c : bl f e 0 < e
  · rw [if_pos c]
    have q34 : (nI (bl f e 0) = nI e) = False := by rw [q34]; exact eq_false (by omega)
    obtain ⟨v, μ', p1, p2, p3⟩ := m_hou (f := f) (e := e) (e - bl f e 0 + 1) 0 (bl f e 0) p_fu (mset μ0 (bl f e 0) (bl f e 0)) at0 (by omega) (by decide) (by rw [show p_fu = 99999 + 1 from rfl]; omega) hT1 at0_ok (hs_mset a4)
    have p1 : F_X13_readHouse_c23 p_fu 0 _ = _ := p1
    refine ⟨v, μ', ?_, Fh_trans a2 (Fh_trans (Fh_mset _ _) p2), p3⟩
    simp only [F_X13_readHouse, bd_some, a1, bk, tM, hT1.2.2.1, hT1.2.1, q34, p1, not_false_eq_true, ↓reduceIte]
  · rw [if_neg c]
    have q34 : (nI (bl f e 0) = nI e) = True := by rw [q34]; exact eq_true (by omega)
    refine ⟨0, mset μ0 (bl f e 0) (bl f e 0), ?_, Fh_trans a2 (Fh_mset _ _), rfl, hs_mset a4⟩
    simp only [F_X13_readHouse, bd_some, a1, bk, tM, hT1.2.2.1, hT1.2.1, q34, not_true_eq_false, ↓reduceIte]
theorem m_hcopy {v : Int32} : ∀ (r k m : Nat) (μ : p_M), k + r = 18 → r < m → ∃ μ', F_X13_house_c46 m v (nI k) μ = some (v, μ') ∧ mI μ' 65 41 = v ∧ (∀ j, k ≤ j → j < 18 → mI μ' 84 j = mI μ 84 (18 + j)) ∧ (∀ j, j < k → mI μ' 84 j = mI μ 84 j) ∧ Fq [84] [41] μ μ' := by
  intro r
  induction r with
  | zero =>
    intro k m μ hk hm
    obtain ⟨m, rfl⟩ : ∃ k, m = k + 1 := ⟨m - 1, by omega⟩
    have hk : k = 18 := by omega
    subst hk
    have c1 : (18 : Int32) ≤ nI 18 := by decide
    refine ⟨sI μ 65 41 v, ?_, ?_, fun j h1 h2 => by omega, fun j hj => ?_, Fq_s65 (Fq_refl μ) (by decide)⟩
    · simp only [F_X13_house_c46, c1, tM, ↓reduceIte]
    · simp only [mI_sI, mR_sI, mK_sI, mN_sI, mL_sI, mI_sG, mR_sG, mK_sG, mN_sG, mL_sG, mI_sJ, mR_sJ, mK_sJ, mN_sJ, mL_sJ, mI_sA, mR_sA, mK_sA, mN_sA, mL_sA, z_up, ↓reduceIte, reduceIte, Nat.reduceEqDiff, true_and, and_true]
    · simp only [mI_sI, mR_sI, mK_sI, mN_sI, mL_sI, mI_sG, mR_sG, mK_sG, mN_sG, mL_sG, mI_sJ, mR_sJ, mK_sJ, mN_sJ, mL_sJ, mI_sA, mR_sA, mK_sA, mN_sA, mL_sA, z_up, ↓reduceIte, reduceIte, Nat.reduceEqDiff, true_and, and_true]
  | succ r ih =>
    intro k m μ hk hm
    obtain ⟨m, rfl⟩ : ∃ k, m = k + 1 := ⟨m - 1, by omega⟩
    have c1 : ¬ (18 : Int32) ≤ nI k := (show ¬ nI 18 ≤ nI k from nI_ge (by omega) (by decide))
    have ak : 18 + nI k = nI (18 + k) := nI_add 18 k
    have a1 : nI k + 1 = nI (k + 1) := nI_add k 1
    have i1 := ix_nI (show 18 + k < 36 by omega) (by decide)
    have k1 := nI_clamp (show 18 + k < 2 ^ 31 by omega)
    have l1 : 18 + k < 36 := by omega
    have i2 := ix_nI (show k < 36 by omega) (by decide)
    have k2 := nI_clamp (show k < 2 ^ 31 by omega)
    have l2 : k < 36 := by omega
    obtain ⟨μ', p1, p2, p3, p4, p5⟩ := ih (k + 1) m (sI μ 84 k (mI μ 84 (18 + k))) (by omega) (by omega)
    refine ⟨μ', ?_, p2, fun j h1 h2 => ?_, fun j hj => ?_, Fq_trans (Fq_sI (Fq_refl μ) (by decide)) p5⟩
    · simp only [F_X13_house_c46, p_ok, c1, ak, i1, k1, l1, i2, k2, l2, a1, aM, and_self, true_and, not_false_eq_true, ↓reduceIte]
      exact p1
    · by_cases c : j = k
      · subst c
        rw [p4 j (by omega)]
        simp only [mI_sI, mR_sI, mK_sI, mN_sI, mL_sI, mI_sG, mR_sG, mK_sG, mN_sG, mL_sG, mI_sJ, mR_sJ, mK_sJ, mN_sJ, mL_sJ, mI_sA, mR_sA, mK_sA, mN_sA, mL_sA, z_up, ↓reduceIte, reduceIte, Nat.reduceEqDiff, true_and, and_true]
      · have g := p3 j (by omega) h2
        have c' : ¬ 18 + j = k := by omega
        simp only [mI_sI, mR_sI, mK_sI, mN_sI, mL_sI, mI_sG, mR_sG, mK_sG, mN_sG, mL_sG, mI_sJ, mR_sJ, mK_sJ, mN_sJ, mL_sJ, mI_sA, mR_sA, mK_sA, mN_sA, mL_sA, z_up, ↓reduceIte, reduceIte, Nat.reduceEqDiff, true_and, and_true, c'] at g
        exact g
    · rw [p4 j (by omega)]
      have c' : ¬ j = k := by omega
      simp only [mI_sI, mR_sI, mK_sI, mN_sI, mL_sI, mI_sG, mR_sG, mK_sG, mN_sG, mL_sG, mI_sJ, mR_sJ, mK_sJ, mN_sJ, mL_sJ, mI_sA, mR_sA, mK_sA, mN_sA, mL_sA, z_up, ↓reduceIte, reduceIte, Nat.reduceEqDiff, true_and, and_true, c']
abbrev hC : List Nat := [1, 10, 11, 12, 13, 84]
abbrev hSS : List Nat := [0, 2, 3, 4, 5, 6, 41]
theorem A_house {X : p_X} (hX : oX1 X) {μ : p_M} (hS : Sh μ) (hT : RText μ) (hR : RHouse μ) : wp (F_L_house X 0 112 μ) fun k μ1 => wp (F_X13_house μ1) fun b μ2 => Post k b μ μ2 ∧ RText μ2 ∧ RHouse μ2 ∧ Mv 5 hC hSS μ μ2 := by
  have hT0 := hT
  obtain ⟨r1, r2, e, he, e1, e2⟩ := hT
  have sp : ∃ Q H T, mR μ 0 5 = some Q ∧ mR μ 0 6 = some H ∧ HT H T ∧ (H = 10 ∧ Q = 12 ∨ H = 12 ∧ Q = 10) := by
    rcases hR with h | h
    · exact ⟨10, 12, 13, h.1, h.2.1, Or.inr ⟨rfl, rfl⟩, Or.inr ⟨rfl, rfl⟩⟩
    · exact ⟨12, 10, 11, h.1, h.2.1, Or.inl ⟨rfl, rfl⟩, Or.inl ⟨rfl, rfl⟩⟩
  obtain ⟨Q, H, T, q3, q4, hH, hQ⟩ := sp
  have frR : ∀ a, a ∈ [1, H, T] → a ∈ hC := by
    rcases hH with ⟨h1, h2⟩ | ⟨h1, h2⟩ <;> (subst h1 h2; decide)
  have H1 : ¬ H = 1 := by rcases hH with h | h <;> omega
  have hi := hou_sh hS hH
  have f0 : Fq [1] [] μ (sI (sI μ 1 2 0) 1 3 (-1)) := Fq_sI (Fq_sI (Fq_refl μ) (by decide)) (by decide)
  have hS0 := Sh_q f0 hS
  have hXx : Tx (sI (sI μ 1 2 0) 1 3 (-1)) (mI μ 66) e 0 := by
    unfold Tx
    simp only [mI_sI, mR_sI, mK_sI, mN_sI, mL_sI, mI_sG, mR_sG, mK_sG, mN_sG, mL_sG, mI_sJ, mR_sJ, mK_sJ, mN_sJ, mL_sJ, mI_sA, mR_sA, mK_sA, mN_sA, mL_sA, z_up, ↓reduceIte, reduceIte, Nat.reduceEqDiff, true_and, and_true]
    exact ⟨r1, e1, rfl, he, Nat.zero_le _⟩
  obtain ⟨μ1, p1, p2, p3⟩ := c_readH hX hS0 hH hXx (by simp only [mI_sI, mR_sI, mK_sI, mN_sI, mL_sI, mI_sG, mR_sG, mK_sG, mN_sG, mL_sG, mI_sJ, mR_sJ, mK_sJ, mN_sJ, mL_sJ, mI_sA, mR_sA, mK_sA, mN_sA, mL_sA, z_up, ↓reduceIte, reduceIte, Nat.reduceEqDiff, true_and, and_true])
  have hS1 := Sh_q p2 hS0
  have fc : Fq hC [] μ μ1 := Fq_trans (Fq_mono f0 (by decide) (by decide)) (Fq_mono p2 frR (by decide))
  have f2 : Fq hC [] μ (sI μ1 1 1 0) := Fq_sI fc (by decide)
  have hS2 := Sh_q f2 hS
  have w3 : mI (sI μ1 1 1 0) 1 3 = mI μ1 1 3 := by simp only [mI_sI, mR_sI, mK_sI, mN_sI, mL_sI, mI_sG, mR_sG, mK_sG, mN_sG, mL_sG, mI_sJ, mR_sJ, mK_sJ, mN_sJ, mL_sJ, mI_sA, mR_sA, mK_sA, mN_sA, mL_sA, z_up, ↓reduceIte, reduceIte, Nat.reduceEqDiff, true_and, and_true]
  have row2 : mI (sI μ1 1 1 0) 2 = mI μ 2 := Fq_row f2 2 (by decide)
  have row66 : mI (sI μ1 1 1 0) 66 = mI μ 66 := Fq_row f2 66 (by decide)
  have row84 : mI (sI μ1 1 1 0) 84 = mI μ 84 := by
    have f3 : Fq [1, 10, 11, 12, 13] [] μ (sI μ1 1 1 0) := by
      refine Fq_sI (Fq_trans (Fq_mono f0 (by decide) (by decide)) (Fq_mono p2 ?_ (by decide))) (by decide)
      rcases hH with ⟨h1, h2⟩ | ⟨h1, h2⟩ <;> (subst h1 h2; decide)
    exact Fq_row f3 84 (by decide)
  have mread : ∀ ν : p_M, mI ν 66 = mI μ 66 → mI ν 65 2 = nI e → ∃ v μ', F_X13_readHouse (sI (sI (sI (sI ν 65 0 0) 65 4 (mI (sI ν 65 0 0) 65 2)) 65 2 0) 65 3 0) = some (v, μ') ∧ Fq [84] [0, 2, 3, 4, 5] ν μ' ∧ mI μ' 65 0 = 0 ∧ mI μ' 65 2 = 0 ∧ (∀ j, j < 18 → mI μ' 84 j = mI ν 84 j) ∧ mHO v μ' (houO (mI μ 66) e) := by
    intro ν h1 h2
    have hM : MT (sI (sI (sI (sI ν 65 0 0) 65 4 (mI (sI ν 65 0 0) 65 2)) 65 2 0) 65 3 0) (mI μ 66) e 0 := by
      unfold MT
      simp only [mI_sI, mR_sI, mK_sI, mN_sI, mL_sI, mI_sG, mR_sG, mK_sG, mN_sG, mL_sG, mI_sJ, mR_sJ, mK_sJ, mN_sJ, mL_sJ, mI_sA, mR_sA, mK_sA, mN_sA, mL_sA, z_up, ↓reduceIte, reduceIte, Nat.reduceEqDiff, true_and, and_true, h2]
      exact ⟨h1, rfl, he, Nat.zero_le _⟩
    obtain ⟨v, μ', g1, g2, g5⟩ := m_readH hM
    refine ⟨v, μ', g1, Fq_trans (Fq_s65 (Fq_s65 (Fq_s65 (Fq_s65 (Fq_refl ν) (by decide)) (by decide)) (by decide)) (by decide)) (Fq_mono g2.1 (by decide) (by decide)), ?_, ?_, fun j hj => ?_, g5⟩
    · rw [Fq_sc g2.1 0 rfl]; simp only [mI_sI, mR_sI, mK_sI, mN_sI, mL_sI, mI_sG, mR_sG, mK_sG, mN_sG, mL_sG, mI_sJ, mR_sJ, mK_sJ, mN_sJ, mL_sJ, mI_sA, mR_sA, mK_sA, mN_sA, mL_sA, z_up, ↓reduceIte, reduceIte, Nat.reduceEqDiff, true_and, and_true]
    · rw [Fq_sc g2.1 2 rfl]; simp only [mI_sI, mR_sI, mK_sI, mN_sI, mL_sI, mI_sG, mR_sG, mK_sG, mN_sG, mL_sG, mI_sJ, mR_sJ, mK_sJ, mN_sJ, mL_sJ, mI_sA, mR_sA, mK_sA, mN_sA, mL_sA, z_up, ↓reduceIte, reduceIte, Nat.reduceEqDiff, true_and, and_true]
    · rw [g2.2 j hj]; simp only [mI_sI, mR_sI, mK_sI, mN_sI, mL_sI, mI_sG, mR_sG, mK_sG, mN_sG, mL_sG, mI_sJ, mR_sJ, mK_sJ, mN_sJ, mL_sJ, mI_sA, mR_sA, mK_sA, mN_sA, mL_sA, z_up, ↓reduceIte, reduceIte, Nat.reduceEqDiff, true_and, and_true]
  cases ho : houO (mI μ 66) e with
  | inl p =>
    rw [ho] at p3
    obtain ⟨pe, p3⟩ : p ≤ e ∧ mI μ1 1 3 = nI p := p3
    have d3 : ¬ nI p = -1 := nI_n1 (by omega)
    obtain ⟨v, μ3, g1, g2, g0, g22, g3, g5⟩ := mread (sG (sI μ1 1 1 0) 1 6) row66 (by show mI (sI μ1 1 1 0) 65 2 = _; rw [Fq_sc f2 2 rfl]; exact e2)
    rw [ho] at g5
    obtain ⟨rfl, g5⟩ : v = -1 ∧ mI μ3 65 5 = nI p := g5
    have z1 : ¬ (0 : Int32) ≤ -1 := by decide
    have g1' := g1
    simp only [mI_sI, mI_sG, z_up, ↓reduceIte, Nat.reduceEqDiff] at g1'
    simp only [bd_some, p_let_eq, p_ok, mI_sI, mR_sI, mK_sI, mN_sI, mL_sI, mI_sG, mR_sG, mK_sG, mN_sG, mL_sG, mI_sJ, mR_sJ, mK_sJ, mN_sJ, mL_sJ, z_up, ↓reduceIte, and_self, true_and, and_true, false_and, and_false, not_true_eq_false, not_false_eq_true, Nat.reduceEqDiff, i_10, i_20, i_30, w_in, w_need1, w_need0, m_in, m_thr0, m_thr1, tM, aM, nI_1, nI_pred, reduceIte, wp_some, eq_self, bI_T, bI_F, F_L_house, F_X12_house, F_X12_house_c42, F_X10_open, F_X13_house, F_X13_house_c22, F_X13_house_c35, F_X13_uses, s_o0 hS, s_r0_0 hS, s_r0_1 hS, s_r0_10 hS, s_r0_11 hS, s_r0_12 hS, s_r0_14 hS, s_r0_16 hS, s_r0_19 hS, s_r0_7 hS, s_r0_8 hS, s_r0_9 hS, s_o1 hS, s_r1_0 hS, s_o0 hS1, s_r0_0 hS1, s_r0_1 hS1, s_r0_10 hS1, s_r0_11 hS1, s_r0_12 hS1, s_r0_14 hS1, s_r0_16 hS1, s_r0_19 hS1, s_r0_7 hS1, s_r0_8 hS1, s_r0_9 hS1, s_o1 hS1, s_r1_0 hS1, q4, hi.1, p1, (Fq_fr fc).1, p3, d3, z1, g1', g5]
    have fr : Fr hC hSS μ (sI (sI μ3 65 6 (nI p)) 65 0 1) := by
      refine Fr_s65 (Fr_s65 ?_ (by decide)) (by decide)
      exact Fr_trans (Fr_sG (Fr_mono (Fq_fr f2) (by decide) (by decide))) (Fr_mono (Fq_fr g2) (by decide) (by decide))
    refine ⟨⟨?_, fun h => absurd h (by decide), ?_⟩, ?_, ?_, Mv_of fr⟩
    · simp only [mI_sI, mR_sI, mK_sI, mN_sI, mL_sI, mI_sG, mR_sG, mK_sG, mN_sG, mL_sG, mI_sJ, mR_sJ, mK_sJ, mN_sJ, mL_sJ, mI_sA, mR_sA, mK_sA, mN_sA, mL_sA, z_up, ↓reduceIte, reduceIte, Nat.reduceEqDiff, true_and, and_true]
    · refine ⟨?_, ?_⟩
      · show mC μ3 ≤ mC μ + 10
        rw [Fq_C g2]
        show mC μ1 + 1 ≤ mC μ + 10
        rw [Fq_C fc]; omega
      · show mS μ3 ≤ mS μ + 300
        rw [Fq_S g2]
        show mS μ1 + 6 ≤ mS μ + 300
        rw [Fq_S fc]; omega
    · refine ⟨?_, ?_, 0, Nat.zero_le _, ?_, ?_⟩
      · simp only [mI_sI, mR_sI, mK_sI, mN_sI, mL_sI, mI_sG, mR_sG, mK_sG, mN_sG, mL_sG, mI_sJ, mR_sJ, mK_sJ, mN_sJ, mL_sJ, mI_sA, mR_sA, mK_sA, mN_sA, mL_sA, z_up, ↓reduceIte, reduceIte, Nat.reduceEqDiff, true_and, and_true]
        rw [Fq_row g2 2 (by decide), Fq_row g2 66 (by decide)]
        show mI (sI μ1 1 1 0) 2 = mI (sI μ1 1 1 0) 66
        rw [row2, row66, r1]
      · simp only [mI_sI, mR_sI, mK_sI, mN_sI, mL_sI, mI_sG, mR_sG, mK_sG, mN_sG, mL_sG, mI_sJ, mR_sJ, mK_sJ, mN_sJ, mL_sJ, mI_sA, mR_sA, mK_sA, mN_sA, mL_sA, z_up, ↓reduceIte, reduceIte, Nat.reduceEqDiff, true_and, and_true]
        rw [Fq_row g2 1 (by decide)]
        show mI (sI μ1 1 1 0) 1 3 = _
        rw [w3, p3]
      · simp only [mI_sI, mR_sI, mK_sI, mN_sI, mL_sI, mI_sG, mR_sG, mK_sG, mN_sG, mL_sG, mI_sJ, mR_sJ, mK_sJ, mN_sJ, mL_sJ, mI_sA, mR_sA, mK_sA, mN_sA, mL_sA, z_up, ↓reduceIte, reduceIte, Nat.reduceEqDiff, true_and, and_true]
        rw [Fq_row g2 1 (by decide)]
        simp only [mI_sI, mR_sI, mK_sI, mN_sI, mL_sI, mI_sG, mR_sG, mK_sG, mN_sG, mL_sG, mI_sJ, mR_sJ, mK_sJ, mN_sJ, mL_sJ, mI_sA, mR_sA, mK_sA, mN_sA, mL_sA, z_up, ↓reduceIte, reduceIte, Nat.reduceEqDiff, true_and, and_true]
        rfl
      · simp only [mI_sI, mR_sI, mK_sI, mN_sI, mL_sI, mI_sG, mR_sG, mK_sG, mN_sG, mL_sG, mI_sJ, mR_sJ, mK_sJ, mN_sJ, mL_sJ, mI_sA, mR_sA, mK_sA, mN_sA, mL_sA, z_up, ↓reduceIte, reduceIte, Nat.reduceEqDiff, true_and, and_true]
        rw [g22]; rfl
    · have k1 : ∀ a, a = Q ∨ a = Q + 1 → mI (sI (sI μ3 65 6 (nI p)) 65 0 1) a = mI μ a := by
        intro a ha
        have ha65 : ¬ a = 65 := by rcases hQ with h | h <;> omega
        simp only [mI_sI, mR_sI, mK_sI, mN_sI, mL_sI, mI_sG, mR_sG, mK_sG, mN_sG, mL_sG, mI_sJ, mR_sJ, mK_sJ, mN_sJ, mL_sJ, mI_sA, mR_sA, mK_sA, mN_sA, mL_sA, z_up, ↓reduceIte, reduceIte, Nat.reduceEqDiff, true_and, and_true, ha65]
        rw [g2.2.1 a ha65 (by rcases hQ with h | h <;> (intro hm; simp at hm; omega))]
        show mI (sI μ1 1 1 0) a = mI μ a
        have ha1 : ¬ a = 1 := by rcases hQ with h | h <;> omega
        simp only [mI_sI, mR_sI, mK_sI, mN_sI, mL_sI, mI_sG, mR_sG, mK_sG, mN_sG, mL_sG, mI_sJ, mR_sJ, mK_sJ, mN_sJ, mL_sJ, mI_sA, mR_sA, mK_sA, mN_sA, mL_sA, z_up, ↓reduceIte, reduceIte, Nat.reduceEqDiff, true_and, and_true, ha1]
        rw [p2.2.1 a ha65 (by rcases hH with h | h <;> (intro hm; simp at hm; omega))]
        simp only [mI_sI, mR_sI, mK_sI, mN_sI, mL_sI, mI_sG, mR_sG, mK_sG, mN_sG, mL_sG, mI_sJ, mR_sJ, mK_sJ, mN_sJ, mL_sJ, mI_sA, mR_sA, mK_sA, mN_sA, mL_sA, z_up, ↓reduceIte, reduceIte, Nat.reduceEqDiff, true_and, and_true, ha1]
      have kr : mR (sI (sI μ3 65 6 (nI p)) 65 0 1) = mR μ := fr.1
      have k41 : mI (sI (sI μ3 65 6 (nI p)) 65 0 1) 65 41 = mI μ 65 41 := by
        simp only [mI_sI, mR_sI, mK_sI, mN_sI, mL_sI, mI_sG, mR_sG, mK_sG, mN_sG, mL_sG, mI_sJ, mR_sJ, mK_sJ, mN_sJ, mL_sJ, mI_sA, mR_sA, mK_sA, mN_sA, mL_sA, z_up, ↓reduceIte, reduceIte, Nat.reduceEqDiff, true_and, and_true]
        rw [Fq_sc g2 41 rfl]
        show mI (sI μ1 1 1 0) 65 41 = _
        rw [Fq_sc f2 41 rfl]
      have k84 : ∀ j, j < 18 → mI (sI (sI μ3 65 6 (nI p)) 65 0 1) 84 j = mI μ 84 j := fun j hj => by
        simp only [mI_sI, mR_sI, mK_sI, mN_sI, mL_sI, mI_sG, mR_sG, mK_sG, mN_sG, mL_sG, mI_sJ, mR_sJ, mK_sJ, mN_sJ, mL_sJ, mI_sA, mR_sA, mK_sA, mN_sA, mL_sA, z_up, ↓reduceIte, reduceIte, Nat.reduceEqDiff, true_and, and_true]
        rw [g3 j hj]
        show mI (sI μ1 1 1 0) 84 j = _
        rw [row84]
      have okc : ∀ {s t : Nat → Int32}, (∀ j, j < 18 → t j = s j) → okS s → okS t := fun h hs => by
        obtain ⟨h0, h4, h8, h9, h13, h14, h15, h16, h17⟩ := hs
        refine ⟨fun j hj => ?_, fun j hj => ?_, ?_, fun j hj => ?_, ?_, ?_, ?_, ?_, ?_⟩
        · rw [h j (by omega)]; exact h0 j hj
        · rw [h (4 + j) (by omega)]; exact h4 j hj
        · rw [h 8 (by decide)]; exact h8
        · rw [h (9 + j) (by omega)]; exact h9 j hj
        · rw [h 13 (by decide)]; exact h13
        · rw [h 14 (by decide)]; exact h14
        · rw [h 15 (by decide)]; exact h15
        · rw [h 16 (by decide)]; exact h16
        · rw [h 17 (by decide)]; exact h17
      rcases hR with ⟨u1, u2, u3, u4, u5⟩ | ⟨u1, u2, u3, u4, u5⟩
      · have hq : Q = 10 := by rw [u1] at q3; exact (Option.some.inj q3).symm
        subst hq
        have e10 := k1 10 (Or.inl rfl)
        have e11 := k1 11 (Or.inr rfl)
        refine Or.inl ⟨by rw [kr]; exact u1, by rw [kr]; exact u2, fun j hj => ?_, okc k84 u4, ?_⟩
        · rw [e11, k84 j hj]; exact u3 j hj
        · rw [e10, k41]; exact u5
      · have hq : Q = 12 := by rw [u1] at q3; exact (Option.some.inj q3).symm
        subst hq
        have e10 := k1 12 (Or.inl rfl)
        have e11 := k1 13 (Or.inr rfl)
        refine Or.inr ⟨by rw [kr]; exact u1, by rw [kr]; exact u2, fun j hj => ?_, okc k84 u4, ?_⟩
        · rw [e11, k84 j hj]; exact u3 j hj
        · rw [e10, k41]; exact u5
  | inr q =>
    obtain ⟨n', s'⟩ := q
    rw [ho] at p3
    obtain ⟨p3, p4, p5⟩ : mI μ1 1 3 = -1 ∧ mI μ1 H 1 = nI n' ∧ ∀ j, j < 18 → mI μ1 T j = s' j := p3
    obtain ⟨hn', hI⟩ : n' ≤ 24 ∧ okS s' := houO_ok ho
    obtain ⟨v, μ3, g1, g2, g0, g22, g3, g5⟩ := mread (sJ (sR (sR (sI μ1 1 1 0) 0 5 (some H)) 0 6 (some Q)) 112 (Int32.toNatClampNeg 0) (nI n').toInt64) row66 (by show mI (sI μ1 1 1 0) 65 2 = _; rw [Fq_sc f2 2 rfl]; exact e2)
    rw [ho] at g5
    obtain ⟨rfl, g6⟩ : v = nI n' ∧ ∀ j, j < 18 → mI μ3 84 (18 + j) = s' j := g5
    obtain ⟨μ5, c1, c2, c3, -, c6⟩ := m_hcopy (v := nI n') 18 0 p_fu (sI μ3 65 6 (-1)) (by decide) (by decide)
    have c1 : F_X13_house_c46 p_fu (nI n') 0 (sI μ3 65 6 (-1)) = some (nI n', μ5) := c1
    have z1 : (0 : Int32) ≤ nI n' := nI_pos' (by omega)
    have g1' := g1
    simp only [mI_sI, mI_sG, mI_sJ, mI_sR, z_up, ↓reduceIte, Nat.reduceEqDiff] at g1'
    have o112 := s_o112 hS1
    have hR9 : mK μ1 H = 2 ∧ H < mN μ1 := (hou_sh hS1 hH).1
    simp only [bd_some, p_let_eq, p_ok, mI_sI, mR_sI, mK_sI, mN_sI, mL_sI, mI_sG, mR_sG, mK_sG, mN_sG, mL_sG, mI_sJ, mR_sJ, mK_sJ, mN_sJ, mL_sJ, z_up, ↓reduceIte, and_self, true_and, and_true, false_and, and_false, not_true_eq_false, not_false_eq_true, Nat.reduceEqDiff, i_10, i_20, i_30, w_in, w_need1, w_need0, m_in, m_thr0, m_thr1, tM, aM, nI_1, nI_pred, reduceIte, wp_some, eq_self, bI_T, bI_F, F_L_house, F_X12_house, F_X12_house_c42, F_X10_open, F_X13_house, F_X13_house_c22, F_X13_house_c35, F_X13_uses, s_o0 hS, s_r0_0 hS, s_r0_1 hS, s_r0_10 hS, s_r0_11 hS, s_r0_12 hS, s_r0_14 hS, s_r0_16 hS, s_r0_19 hS, s_r0_7 hS, s_r0_8 hS, s_r0_9 hS, s_o1 hS, s_r1_0 hS, s_o0 hS1, s_r0_0 hS1, s_r0_1 hS1, s_r0_10 hS1, s_r0_11 hS1, s_r0_12 hS1, s_r0_14 hS1, s_r0_16 hS1, s_r0_19 hS1, s_r0_7 hS1, s_r0_8 hS1, s_r0_9 hS1, s_o1 hS1, s_r1_0 hS1, o112, q3, q4, hi.1, hR9, p1, (Fq_fr fc).1, p3, mR_sR, mI_sR, mK_sR, mL_sR, mN_sR, H1, p4, z1, g1', c1]
    have mvA : Mv 5 hC hSS μ μ5 := by
      refine Mv_trans (Mv_trans (Mv_trans (Mv_of (Fr_mono (Fq_fr f2) (by decide) (by decide))) (Mv_sw (x := some H) (y := some Q))) ?_) (Mv_of (Fr_trans (Fr_s65 (v := -1) (k := 6) (Fr_refl μ3) (by decide)) (Fr_mono (Fq_fr c6) (by decide) (by decide))))
      exact Mv_of (Fr_trans (Fr_sJ (Fr_refl _)) (Fr_mono (Fq_fr g2) (by decide) (by decide)))
    have z5 : ∀ a, a ≠ 65 → a ∉ [84] → mI μ5 a = mI (sI μ1 1 1 0) a := by
      intro a h1 h2
      rw [c6.2.1 a h1 h2, mI_sI, if_neg h1, g2.2.1 a h1 h2]
      rfl
    refine ⟨⟨?_, fun _ => ?_, ⟨?_, ?_⟩⟩, ⟨?_, ?_, 0, Nat.zero_le _, ?_, ?_⟩, ?_, mvA⟩
    · rw [Fq_sc c6 0 rfl]; simp only [mI_sI, mR_sI, mK_sI, mN_sI, mL_sI, mI_sG, mR_sG, mK_sG, mN_sG, mL_sG, mI_sJ, mR_sJ, mK_sJ, mN_sJ, mL_sJ, mI_sA, mR_sA, mK_sA, mN_sA, mL_sA, z_up, ↓reduceIte, reduceIte, Nat.reduceEqDiff, true_and, and_true]; exact g0
    · rw [Fq_J c6]
      show mJ μ3 112 0 = _
      rw [Fq_J g2]; rfl
    · rw [Fq_C c6]
      show mC μ3 ≤ _
      rw [Fq_C g2]
      show mC μ1 ≤ _
      rw [Fq_C fc]; omega
    · rw [Fq_S c6]
      show mS μ3 ≤ _
      rw [Fq_S g2]
      show mS μ1 ≤ _
      rw [Fq_S fc]; omega
    · rw [z5 2 (by decide) (by decide), z5 66 (by decide) (by decide), row2, row66, r1]
    · rw [z5 1 (by decide) (by decide), w3, p3, Fq_sc c6 6 rfl]
      simp only [mI_sI, mR_sI, mK_sI, mN_sI, mL_sI, mI_sG, mR_sG, mK_sG, mN_sG, mL_sG, mI_sJ, mR_sJ, mK_sJ, mN_sJ, mL_sJ, mI_sA, mR_sA, mK_sA, mN_sA, mL_sA, z_up, ↓reduceIte, reduceIte, Nat.reduceEqDiff, true_and, and_true]
    · rw [z5 1 (by decide) (by decide)]
      simp only [mI_sI, mR_sI, mK_sI, mN_sI, mL_sI, mI_sG, mR_sG, mK_sG, mN_sG, mL_sG, mI_sJ, mR_sJ, mK_sJ, mN_sJ, mL_sJ, mI_sA, mR_sA, mK_sA, mN_sA, mL_sA, z_up, ↓reduceIte, reduceIte, Nat.reduceEqDiff, true_and, and_true]
      rfl
    · rw [Fq_sc c6 2 rfl]
      simp only [mI_sI, mR_sI, mK_sI, mN_sI, mL_sI, mI_sG, mR_sG, mK_sG, mN_sG, mL_sG, mI_sJ, mR_sJ, mK_sJ, mN_sJ, mL_sJ, mI_sA, mR_sA, mK_sA, mN_sA, mL_sA, z_up, ↓reduceIte, reduceIte, Nat.reduceEqDiff, true_and, and_true]
      exact g22
    · have r3 : mR μ5 0 5 = some H := by
        rw [(Fq_fr c6).1]
        show mR μ3 0 5 = _
        rw [(Fq_fr g2).1]
        show mR (sR (sR (sI μ1 1 1 0) 0 5 (some H)) 0 6 (some Q)) 0 5 = _
        simp only [mR_sR, z_up, ↓reduceIte, Nat.reduceEqDiff]
      have r4 : mR μ5 0 6 = some Q := by
        rw [(Fq_fr c6).1]
        show mR μ3 0 6 = _
        rw [(Fq_fr g2).1]
        show mR (sR (sR (sI μ1 1 1 0) 0 5 (some H)) 0 6 (some Q)) 0 6 = _
        simp only [mR_sR, z_up, ↓reduceIte, Nat.reduceEqDiff]
      have k84 : ∀ j, j < 18 → mI μ5 84 j = s' j := fun j hj => by
        rw [c3 j (by omega) hj]
        simp only [mI_sI, mR_sI, mK_sI, mN_sI, mL_sI, mI_sG, mR_sG, mK_sG, mN_sG, mL_sG, mI_sJ, mR_sJ, mK_sJ, mN_sJ, mL_sJ, mI_sA, mR_sA, mK_sA, mN_sA, mL_sA, z_up, ↓reduceIte, reduceIte, Nat.reduceEqDiff, true_and, and_true]
        exact g6 j hj
      have okc : okS (mI μ5 84) := by
        obtain ⟨h0, h4, h8, h9, h13, h14, h15, h16, h17⟩ := hI
        refine ⟨fun j hj => ?_, fun j hj => ?_, ?_, fun j hj => ?_, ?_, ?_, ?_, ?_, ?_⟩
        · rw [k84 j (by omega)]; exact h0 j hj
        · rw [k84 (4 + j) (by omega)]; exact h4 j hj
        · rw [k84 8 (by decide)]; exact h8
        · rw [k84 (9 + j) (by omega)]; exact h9 j hj
        · rw [k84 13 (by decide)]; exact h13
        · rw [k84 14 (by decide)]; exact h14
        · rw [k84 15 (by decide)]; exact h15
        · rw [k84 16 (by decide)]; exact h16
        · rw [k84 17 (by decide)]; exact h17
      have hH' : HouseR (mI μ5 T) (mI μ5 84) (mI μ5 H 1) (mI μ5 65 41) := by
        have nR : H ≠ 65 ∧ H ∉ [84] ∧ T ≠ 65 ∧ T ∉ [84] ∧ ¬ T = 1 := by
          rcases hH with ⟨h1, h2⟩ | ⟨h1, h2⟩ <;> (subst h1 h2; decide)
        refine ⟨fun j hj => ?_, okc, n', hn', ?_, c2⟩
        · rw [z5 T nR.2.2.1 nR.2.2.2.1, k84 j hj]
          simp only [mI_sI, mR_sI, mK_sI, mN_sI, mL_sI, mI_sG, mR_sG, mK_sG, mN_sG, mL_sG, mI_sJ, mR_sJ, mK_sJ, mN_sJ, mL_sJ, mI_sA, mR_sA, mK_sA, mN_sA, mL_sA, z_up, ↓reduceIte, reduceIte, Nat.reduceEqDiff, true_and, and_true, nR.2.2.2.2]
          exact p5 j hj
        · rw [z5 H nR.1 nR.2.1]
          simp only [mI_sI, mR_sI, mK_sI, mN_sI, mL_sI, mI_sG, mR_sG, mK_sG, mN_sG, mL_sG, mI_sJ, mR_sJ, mK_sJ, mN_sJ, mL_sJ, mI_sA, mR_sA, mK_sA, mN_sA, mL_sA, z_up, ↓reduceIte, reduceIte, Nat.reduceEqDiff, true_and, and_true, H1]
          exact p4
      rcases hH with ⟨h1, h2⟩ | ⟨h1, h2⟩
      · subst h1 h2
        have : Q = 12 := by omega
        subst this
        exact Or.inl ⟨r3, r4, hH'⟩
      · subst h1 h2
        have : Q = 10 := by omega
        subst this
        exact Or.inr ⟨r3, r4, hH'⟩
