/-! draw, pour, has -/
theorem tk_le {n : Nat} (hn : n ≤ 5) {b : Int32} : ∀ (r : Nat) (l d : Nat → Int32) (C : Nat) (a : Int32), C ≤ 5000 → (∀ j, j < 5 → ∃ w : Nat, w ≤ 1000 ∧ l j = nI w) → (∀ j, j < 5 → ∀ w : Nat, w ≤ 1000 → l j = nI w → ∃ w' : Nat, w' ≤ w ∧ (tk n b r l d (nI C) a).1 j = nI w') ∧ ∃ C' : Nat, C' ≤ C ∧ (tk n b r l d (nI C) a).2.2.1 = nI C' := by
  intro r
  induction r with
  | zero => intro l d C a _ _; exact ⟨fun j _ w _ e => ⟨w, Nat.le_refl w, e⟩, C, Nat.le_refl C, rfl⟩
  | succ r ih =>
    intro l d C a hC hl
    by_cases hs : nI C ≤ 0 ∨ dz l d b n 0 (-1) = -1
    · rw [tk_stop hs]
      exact ⟨fun j _ w _ e => ⟨w, Nat.le_refl w, e⟩, C, Nat.le_refl C, rfl⟩
    · have hc : ¬ nI C ≤ 0 := fun e => hs (Or.inl e)
      obtain ⟨t, ht, et, hb⟩ := dz_get hn (fun e => hs (Or.inr e))
      obtain ⟨w, hw, ew⟩ := hl t (by omega)
      rw [tk_go hc ht hn et rfl rfl]
      have hl1 : ∃ w2 C2 : Nat, w2 ≤ w ∧ C2 ≤ C ∧ l t - (if l t < nI C then l t else nI C) = nI w2 ∧ nI C - (if l t < nI C then l t else nI C) = nI C2 := by
        rw [ew]
        by_cases cw : w < C
        · rw [if_pos (nI_lt cw (by omega))]
          exact ⟨0, C - w, by omega, by omega, by rw [pk_sub (Nat.le_refl w), Nat.sub_self], by rw [pk_sub (by omega)]⟩
        · rw [if_neg (nI_nlt (by omega) (by omega))]
          exact ⟨w - C, 0, by omega, by omega, by rw [pk_sub (by omega)], by rw [pk_sub (Nat.le_refl C), Nat.sub_self]⟩
      obtain ⟨w2, C2, q1, q2, q3, q4⟩ := hl1
      rw [q4, q3]
      obtain ⟨z1, C', z2, z3⟩ := ih (va_up l t (nI w2)) (va_up d t (d t - pu (d t) (if l t < nI C then l t else nI C) (l t))) C2 (a + pu (d t) (if l t < nI C then l t else nI C) (l t)) (by omega) (fun j hj => by
        rw [z_up]
        by_cases ej : j = t
        · rw [if_pos ej]; exact ⟨w2, by omega, rfl⟩
        · rw [if_neg ej]; exact hl j hj)
      refine ⟨fun j hj u hu eu => ?_, C', by omega, z3⟩
      by_cases ej : j = t
      · have : w = u := (nI_eq (by omega) (by omega)).mp (by rw [← ew, ← eu, ej])
        obtain ⟨x, hx, ex⟩ := z1 j hj w2 (by omega) (by rw [z_up, if_pos ej])
        exact ⟨x, by omega, ex⟩
      · exact z1 j hj u hu (by rw [z_up, if_neg ej]; exact eu)
theorem c_takeOut {μ : p_M} (hS : Sh μ) {n : Nat} (hn : n ≤ 5) (e1 : mI μ 30 3 = nI n) (b c : Int32) : ∃ ν', F_X11_takeOut 30 c b μ = some ((tk n b n (mI μ 32) (mI μ 33) c 0).2.2.2, ν') ∧ mI ν' 32 = (tk n b n (mI μ 32) (mI μ 33) c 0).1 ∧ mI ν' 33 = (tk n b n (mI μ 32) (mI μ 33) c 0).2.1 ∧ mI ν' 30 = va_up (va_up (mI μ 30) 5 (tk n b n (mI μ 32) (mI μ 33) c 0).2.2.1) 4 (mI μ 30 4 + (tk n b n (mI μ 32) (mI μ 33) c 0).2.2.1) ∧ Fq [30, 32, 33] [] μ ν' := c_take hn n 0 p_fu μ c 0 hS e1 (by omega) (show n < 100000 by omega)
theorem m_draws {μ : p_M} {n : Nat} (hn : n ≤ 5) (e1 : mI μ 65 30 = nI n) (hl : ∀ j, j < 5 → ∃ w : Nat, w ≤ 1000 ∧ mI μ 81 j = nI w) (b : Int32) {C : Nat} (hC : C ≤ 5000) : ∃ ν', F_X13_draws (nI C) b μ = some (0, ν') ∧ mI ν' 81 = (tk n b n (mI μ 81) (mI μ 82) (nI C) 0).1 ∧ mI ν' 82 = (tk n b n (mI μ 81) (mI μ 82) (nI C) 0).2.1 ∧ mI ν' 65 35 = (tk n b n (mI μ 81) (mI μ 82) (nI C) 0).2.2.1 ∧ mI ν' 65 36 = (tk n b n (mI μ 81) (mI μ 82) (nI C) 0).2.2.2 ∧ mI ν' 65 31 = mI μ 65 31 + (tk n b n (mI μ 81) (mI μ 82) (nI C) 0).2.2.1 ∧ Fq [81, 82] [31, 35, 36] μ ν' := by
  obtain ⟨ν1, hν⟩ : ∃ ν1, ν1 = sI (sI μ 65 35 (nI C)) 65 36 0 := ⟨_, rfl⟩
  have q81 : mI ν1 81 = mI μ 81 := by rw [hν]; simp only [mI_sI, mR_sI, mK_sI, mN_sI, mL_sI, mI_sG, mR_sG, mK_sG, mN_sG, mL_sG, mI_sJ, mR_sJ, mK_sJ, mN_sJ, mL_sJ, mI_sA, mR_sA, mK_sA, mN_sA, mL_sA, z_up, ↓reduceIte, reduceIte, Nat.reduceEqDiff, true_and, and_true]
  have q82 : mI ν1 82 = mI μ 82 := by rw [hν]; simp only [mI_sI, mR_sI, mK_sI, mN_sI, mL_sI, mI_sG, mR_sG, mK_sG, mN_sG, mL_sG, mI_sJ, mR_sJ, mK_sJ, mN_sJ, mL_sJ, mI_sA, mR_sA, mK_sA, mN_sA, mL_sA, z_up, ↓reduceIte, reduceIte, Nat.reduceEqDiff, true_and, and_true]
  have q35 : mI ν1 65 35 = nI C := by rw [hν]; simp only [mI_sI, mR_sI, mK_sI, mN_sI, mL_sI, mI_sG, mR_sG, mK_sG, mN_sG, mL_sG, mI_sJ, mR_sJ, mK_sJ, mN_sJ, mL_sJ, mI_sA, mR_sA, mK_sA, mN_sA, mL_sA, z_up, ↓reduceIte, reduceIte, Nat.reduceEqDiff, true_and, and_true]
  have q36 : mI ν1 65 36 = 0 := by rw [hν]; simp only [mI_sI, mR_sI, mK_sI, mN_sI, mL_sI, mI_sG, mR_sG, mK_sG, mN_sG, mL_sG, mI_sJ, mR_sJ, mK_sJ, mN_sJ, mL_sJ, mI_sA, mR_sA, mK_sA, mN_sA, mL_sA, z_up, ↓reduceIte, reduceIte, Nat.reduceEqDiff, true_and, and_true]
  have q31 : mI ν1 65 31 = mI μ 65 31 := by rw [hν]; simp only [mI_sI, mR_sI, mK_sI, mN_sI, mL_sI, mI_sG, mR_sG, mK_sG, mN_sG, mL_sG, mI_sJ, mR_sJ, mK_sJ, mN_sJ, mL_sJ, mI_sA, mR_sA, mK_sA, mN_sA, mL_sA, z_up, ↓reduceIte, reduceIte, Nat.reduceEqDiff, true_and, and_true]
  have q30 : mI ν1 65 30 = nI n := by rw [hν]; simp only [mI_sI, mR_sI, mK_sI, mN_sI, mL_sI, mI_sG, mR_sG, mK_sG, mN_sG, mL_sG, mI_sJ, mR_sJ, mK_sJ, mN_sJ, mL_sJ, mI_sA, mR_sA, mK_sA, mN_sA, mL_sA, z_up, ↓reduceIte, reduceIte, Nat.reduceEqDiff, true_and, and_true]; exact e1
  have hq : Fq [81, 82] [31, 35, 36] μ ν1 := by rw [hν]; exact Fq_s65 (Fq_s65 (Fq_refl μ) (by decide)) (by decide)
  have hl' : ∀ j, j < 5 → ∃ w : Nat, w ≤ 1000 ∧ mI ν1 81 j = nI w := fun j hj => by rw [q81]; exact hl j hj
  obtain ⟨ν', g1, g2, g3, g4, g5, g6, g7⟩ := m_take hn (b := b) n p_fu ν1 C hC q35 q30 hl' (cz_le n) (show n < 100000 by omega)
  rw [q81, q82, q35, q36] at g2 g3 g4 g5 g6
  rw [q31] at g6
  refine ⟨ν', ?_, g2, g3, g4, g5, g6, Fq_trans hq g7⟩
  unfold F_X13_draws
  rw [show sI (sI μ tM 35 (nI C)) tM 36 0 = ν1 from hν.symm, m_dirtiest hn q30 (fun j hj => by obtain ⟨x, hx, ex⟩ := hl' j hj; rw [ex]; exact nI_pos (by omega)) b, bd_some]
  exact g1
theorem A_draw {μ : p_M} (hS : Sh μ) (hR : RWater μ) (v b : Int32) : wp (F_L_draw 0 v b 112 μ) fun k μ1 => wp (F_X13_draw v b μ1) fun z μ2 => Post k z μ μ2 ∧ RWater μ2 ∧ Fr [30, 32, 33, 81, 82] [0, 31, 33, 35, 36] μ μ2 := by
  have hR0 := hR
  by_cases c1 : 1 ≤ v ∧ v ≤ 1000
  · by_cases c2 : 0 ≤ b ∧ b ≤ 100
    · obtain ⟨n, hn, e1, e2, e3, e4, e5, e6, e7, e8, e9, hb⟩ := hR
      obtain ⟨C, hC1, hC2, rfl⟩ := rg3 v 1 1000 1 1000 rfl rfl (by decide) (by decide) c1
      obtain ⟨ν, g1, g2, g3, g4, g5⟩ := c_takeOut hS hn e1 b (nI C)
      have hS2 : Sh ν := Sh_fr (Fq_fr g5) hS
      have hl : ∀ j, j < 5 → ∃ w : Nat, w ≤ 1000 ∧ mI μ 81 j = nI w := fun j hj => by
        obtain ⟨w, h, q1, q2, q3, q4, q5⟩ := hb j hj
        rw [e4] at q1
        exact ⟨w, by omega, q1⟩
      rw [e4, e5] at g1 g2 g3 g4
      obtain ⟨T, hT⟩ : ∃ T, T = tk n b n (mI μ 81) (mI μ 82) (nI C) 0 := ⟨_, rfl⟩
      rw [← hT] at g1 g2 g3 g4
      have g45 : mI ν 30 5 = T.2.2.1 := by rw [g4]; simp only [mI_sI, mR_sI, mK_sI, mN_sI, mL_sI, mI_sG, mR_sG, mK_sG, mN_sG, mL_sG, mI_sJ, mR_sJ, mK_sJ, mN_sJ, mL_sJ, mI_sA, mR_sA, mK_sA, mN_sA, mL_sA, z_up, ↓reduceIte, reduceIte, Nat.reduceEqDiff, true_and, and_true]
      have g47 : mI ν 30 7 = mI μ 30 7 := by rw [g4]; simp only [mI_sI, mR_sI, mK_sI, mN_sI, mL_sI, mI_sG, mR_sG, mK_sG, mN_sG, mL_sG, mI_sJ, mR_sJ, mK_sJ, mN_sJ, mL_sJ, mI_sA, mR_sA, mK_sA, mN_sA, mL_sA, z_up, ↓reduceIte, reduceIte, Nat.reduceEqDiff, true_and, and_true]
      obtain ⟨ν3, hν3⟩ : ∃ ν3, ν3 = sI (sJ (sI ν 30 7 (mI μ 65 33 + T.2.2.2)) 112 (Int32.toNatClampNeg 0) T.2.2.1.toInt64) 65 0 0 := ⟨_, rfl⟩
      have hf3 : Fr [30, 32, 33, 81, 82] [0, 31, 33, 35, 36] ν ν3 := by rw [hν3]; repeat (first | exact Fr_refl _ | refine Fr_s65 ?_ (by decide) | refine Fr_sI ?_ (by decide) | refine Fr_sA ?_ (by decide) | refine Fr_sJ ?_ | refine Fr_sG ?_)
      have hf1 := Fr_mono (Fq_fr g5) (cs' := [30, 32, 33, 81, 82]) (ss' := [0, 31, 33, 35, 36]) (by decide) (by decide)
      have r81 : mI ν3 81 = mI μ 81 := by rw [hν3]; simp only [mI_sI, mR_sI, mK_sI, mN_sI, mL_sI, mI_sG, mR_sG, mK_sG, mN_sG, mL_sG, mI_sJ, mR_sJ, mK_sJ, mN_sJ, mL_sJ, mI_sA, mR_sA, mK_sA, mN_sA, mL_sA, z_up, ↓reduceIte, reduceIte, Nat.reduceEqDiff, true_and, and_true]; exact Fq_row g5 81 (by decide)
      have r82 : mI ν3 82 = mI μ 82 := by rw [hν3]; simp only [mI_sI, mR_sI, mK_sI, mN_sI, mL_sI, mI_sG, mR_sG, mK_sG, mN_sG, mL_sG, mI_sJ, mR_sJ, mK_sJ, mN_sJ, mL_sJ, mI_sA, mR_sA, mK_sA, mN_sA, mL_sA, z_up, ↓reduceIte, reduceIte, Nat.reduceEqDiff, true_and, and_true]; exact Fq_row g5 82 (by decide)
      have r30 : mI ν3 65 30 = nI n := by rw [hν3]; simp only [mI_sI, mR_sI, mK_sI, mN_sI, mL_sI, mI_sG, mR_sG, mK_sG, mN_sG, mL_sG, mI_sJ, mR_sJ, mK_sJ, mN_sJ, mL_sJ, mI_sA, mR_sA, mK_sA, mN_sA, mL_sA, z_up, ↓reduceIte, reduceIte, Nat.reduceEqDiff, true_and, and_true]; rw [Fq_sc g5 30 (by decide)]; exact e2
      obtain ⟨ν4, k1, k2, k3, k4, k5, k6, k7⟩ := m_draws (μ := ν3) hn r30 (fun j hj => by rw [r81]; exact hl j hj) b (show C ≤ 5000 by omega)
      rw [r81, r82, ← hT] at k2 k3 k4 k5 k6
      simp only [bd_some, p_let_eq, p_ok, mI_sI, mR_sI, mK_sI, mN_sI, mL_sI, mI_sG, mR_sG, mK_sG, mN_sG, mL_sG, mI_sJ, mR_sJ, mK_sJ, mN_sJ, mL_sJ, z_up, ↓reduceIte, and_self, true_and, and_true, false_and, and_false, not_true_eq_false, not_false_eq_true, Nat.reduceEqDiff, i_10, i_20, i_30, w_in, w_need1, w_need0, m_in, m_thr0, m_thr1, tM, aM, nI_1, nI_pred, reduceIte, wp_some, eq_self, bI_T, bI_F, F_L_draw, F_X12_draw, F_X12_draw_c25, F_X12_draw_c26, F_X13_draw, F_X13_draw_c27, F_X13_draw_c32, s_o0 hS, s_r0_0 hS, s_r0_1 hS, s_r0_10 hS, s_r0_11 hS, s_r0_12 hS, s_r0_14 hS, s_r0_16 hS, s_r0_19 hS, s_r0_7 hS, s_r0_8 hS, s_r0_9 hS, s_o30 hS, s_o0 hS2, s_r0_0 hS2, s_r0_1 hS2, s_r0_10 hS2, s_r0_11 hS2, s_r0_12 hS2, s_r0_14 hS2, s_r0_16 hS2, s_r0_19 hS2, s_r0_7 hS2, s_r0_8 hS2, s_r0_9 hS2, s_o112 hS2, s_o30 hS2, c1, c2, g1, g45, g47, e8]
      rw [← hν3, k1]
      simp only [bd_some, p_let_eq, p_ok, mI_sI, mR_sI, mK_sI, mN_sI, mL_sI, mI_sG, mR_sG, mK_sG, mN_sG, mL_sG, mI_sJ, mR_sJ, mK_sJ, mN_sJ, mL_sJ, z_up, ↓reduceIte, and_self, true_and, and_true, false_and, and_false, not_true_eq_false, not_false_eq_true, Nat.reduceEqDiff, i_10, i_20, i_30, w_in, w_need1, w_need0, m_in, m_thr0, m_thr1, tM, aM, nI_1, nI_pred, reduceIte, wp_some, eq_self, bI_T, bI_F, k4, k5]
      have f33 : mI ν4 65 33 = mI μ 65 33 := by
        rw [Fq_sc k7 33 (by decide), hν3]
        simp only [mI_sI, mR_sI, mK_sI, mN_sI, mL_sI, mI_sG, mR_sG, mK_sG, mN_sG, mL_sG, mI_sJ, mR_sJ, mK_sJ, mN_sJ, mL_sJ, mI_sA, mR_sA, mK_sA, mN_sA, mL_sA, z_up, ↓reduceIte, reduceIte, Nat.reduceEqDiff, true_and, and_true]
        exact Fq_sc g5 33 (by decide)
      have f0 : mI ν4 65 0 = 0 := by rw [Fq_sc k7 0 (by decide), hν3]; simp only [mI_sI, mR_sI, mK_sI, mN_sI, mL_sI, mI_sG, mR_sG, mK_sG, mN_sG, mL_sG, mI_sJ, mR_sJ, mK_sJ, mN_sJ, mL_sJ, mI_sA, mR_sA, mK_sA, mN_sA, mL_sA, z_up, ↓reduceIte, reduceIte, Nat.reduceEqDiff, true_and, and_true]
      have f31 : mI ν3 65 31 = mI μ 65 31 := by rw [hν3]; simp only [mI_sI, mR_sI, mK_sI, mN_sI, mL_sI, mI_sG, mR_sG, mK_sG, mN_sG, mL_sG, mI_sJ, mR_sJ, mK_sJ, mN_sJ, mL_sJ, mI_sA, mR_sA, mK_sA, mN_sA, mL_sA, z_up, ↓reduceIte, reduceIte, Nat.reduceEqDiff, true_and, and_true]; exact Fq_sc g5 31 (by decide)
      have n30 : mI ν4 30 = va_up (mI ν 30) 7 (mI μ 65 33 + T.2.2.2) := by rw [Fq_row k7 30 (by decide), hν3]; simp only [mI_sI, mR_sI, mK_sI, mN_sI, mL_sI, mI_sG, mR_sG, mK_sG, mN_sG, mL_sG, mI_sJ, mR_sJ, mK_sJ, mN_sJ, mL_sJ, mI_sA, mR_sA, mK_sA, mN_sA, mL_sA, z_up, ↓reduceIte, reduceIte, Nat.reduceEqDiff, true_and, and_true]
      have n31 : mI ν4 31 = mI μ 31 := by rw [Fq_row k7 31 (by decide), hν3]; simp only [mI_sI, mR_sI, mK_sI, mN_sI, mL_sI, mI_sG, mR_sG, mK_sG, mN_sG, mL_sG, mI_sJ, mR_sJ, mK_sJ, mN_sJ, mL_sJ, mI_sA, mR_sA, mK_sA, mN_sA, mL_sA, z_up, ↓reduceIte, reduceIte, Nat.reduceEqDiff, true_and, and_true]; exact Fq_row g5 31 (by decide)
      have n32 : mI ν4 32 = T.1 := by rw [Fq_row k7 32 (by decide), hν3]; simp only [mI_sI, mR_sI, mK_sI, mN_sI, mL_sI, mI_sG, mR_sG, mK_sG, mN_sG, mL_sG, mI_sJ, mR_sJ, mK_sJ, mN_sJ, mL_sJ, mI_sA, mR_sA, mK_sA, mN_sA, mL_sA, z_up, ↓reduceIte, reduceIte, Nat.reduceEqDiff, true_and, and_true]; exact g2
      have n33 : mI ν4 33 = T.2.1 := by rw [Fq_row k7 33 (by decide), hν3]; simp only [mI_sI, mR_sI, mK_sI, mN_sI, mL_sI, mI_sG, mR_sG, mK_sG, mN_sG, mL_sG, mI_sJ, mR_sJ, mK_sJ, mN_sJ, mL_sJ, mI_sA, mR_sA, mK_sA, mN_sA, mL_sA, z_up, ↓reduceIte, reduceIte, Nat.reduceEqDiff, true_and, and_true]; exact g3
      have n80 : mI ν4 80 = mI μ 80 := by rw [Fq_row k7 80 (by decide), hν3]; simp only [mI_sI, mR_sI, mK_sI, mN_sI, mL_sI, mI_sG, mR_sG, mK_sG, mN_sG, mL_sG, mI_sJ, mR_sJ, mK_sJ, mN_sJ, mL_sJ, mI_sA, mR_sA, mK_sA, mN_sA, mL_sA, z_up, ↓reduceIte, reduceIte, Nat.reduceEqDiff, true_and, and_true]; exact Fq_row g5 80 (by decide)
      have s32 : mI ν4 65 32 = mI μ 65 32 := by rw [Fq_sc k7 32 (by decide), hν3]; simp only [mI_sI, mR_sI, mK_sI, mN_sI, mL_sI, mI_sG, mR_sG, mK_sG, mN_sG, mL_sG, mI_sJ, mR_sJ, mK_sJ, mN_sJ, mL_sJ, mI_sA, mR_sA, mK_sA, mN_sA, mL_sA, z_up, ↓reduceIte, reduceIte, Nat.reduceEqDiff, true_and, and_true]; exact Fq_sc g5 32 (by decide)
      have s34 : mI ν4 65 34 = mI μ 65 34 := by rw [Fq_sc k7 34 (by decide), hν3]; simp only [mI_sI, mR_sI, mK_sI, mN_sI, mL_sI, mI_sG, mR_sG, mK_sG, mN_sG, mL_sG, mI_sJ, mR_sJ, mK_sJ, mN_sJ, mL_sJ, mI_sA, mR_sA, mK_sA, mN_sA, mL_sA, z_up, ↓reduceIte, reduceIte, Nat.reduceEqDiff, true_and, and_true]; exact Fq_sc g5 34 (by decide)
      have s30 : mI ν4 65 30 = nI n := by rw [Fq_sc k7 30 (by decide)]; exact r30
      have hJ : mJ ν4 112 0 = T.2.2.1.toInt64 := by rw [Fq_J k7, hν3]; rfl
      have hC' : mC ν4 = mC μ := by rw [Fq_C k7, hν3]; show mC ν = mC μ; exact Fq_C g5
      have hS' : mS ν4 = mS μ := by rw [Fq_S k7, hν3]; show mS ν = mS μ; exact Fq_S g5
      refine ⟨⟨by simp only [mI_sI, mR_sI, mK_sI, mN_sI, mL_sI, mI_sG, mR_sG, mK_sG, mN_sG, mL_sG, mI_sJ, mR_sJ, mK_sJ, mN_sJ, mL_sJ, mI_sA, mR_sA, mK_sA, mN_sA, mL_sA, z_up, ↓reduceIte, reduceIte, Nat.reduceEqDiff, true_and, and_true]; exact f0, fun _ => hJ, Cn_eq hC' hS'⟩, ?_, ?_⟩
      · unfold RWater
        simp only [mI_sI, mR_sI, mK_sI, mN_sI, mL_sI, mI_sG, mR_sG, mK_sG, mN_sG, mL_sG, mI_sJ, mR_sJ, mK_sJ, mN_sJ, mL_sJ, mI_sA, mR_sA, mK_sA, mN_sA, mL_sA, z_up, ↓reduceIte, reduceIte, Nat.reduceEqDiff, true_and, and_true, n30, n31, n32, n33, n80, k2, k3, k4, k5, k6, s30, s32, s34, f33, f31, g4, e1, e3, e6, e7, e8, e9]
        refine ⟨n, hn, rfl, rfl, fun j hj => ?_⟩
        obtain ⟨w, h, q1, q2, q3, q4, q5⟩ := hb j hj
        rw [e4] at q1
        rw [e3] at q2
        obtain ⟨w', hw', ew'⟩ := (tk_le hn (b := b) n (mI μ 81) (mI μ 82) C 0 (by omega) hl).1 j hj w (by omega) q1
        rw [← hT] at ew'
        exact ⟨w', h, ew', q2, by omega, q4, fun e => by have := q5 e; omega⟩
      · refine Fr_s65 (Fr_trans hf1 (Fr_trans hf3 ?_)) (by decide)
        exact Fr_mono (Fq_fr k7) (by decide) (by decide)
    · simp only [bd_some, p_let_eq, p_ok, mI_sI, mR_sI, mK_sI, mN_sI, mL_sI, mI_sG, mR_sG, mK_sG, mN_sG, mL_sG, mI_sJ, mR_sJ, mK_sJ, mN_sJ, mL_sJ, z_up, ↓reduceIte, and_self, true_and, and_true, false_and, and_false, not_true_eq_false, not_false_eq_true, Nat.reduceEqDiff, i_10, i_20, i_30, w_in, w_need1, w_need0, m_in, m_thr0, m_thr1, tM, aM, nI_1, nI_pred, reduceIte, wp_some, eq_self, bI_T, bI_F, F_L_draw, F_X12_draw, F_X12_draw_c25, F_X12_draw_c26, F_X13_draw, F_X13_draw_c27, F_X13_draw_c32, s_o0 hS, s_r0_0 hS, s_r0_1 hS, s_r0_10 hS, s_r0_11 hS, s_r0_12 hS, s_r0_14 hS, s_r0_16 hS, s_r0_19 hS, s_r0_7 hS, s_r0_8 hS, s_r0_9 hS, c1, c2]
      exact ⟨thr_post (by decide), RWater_fr thr_fr (by decide) hR0, Fr_mono thr_fr (by decide) (by decide)⟩
  · simp only [bd_some, p_let_eq, p_ok, mI_sI, mR_sI, mK_sI, mN_sI, mL_sI, mI_sG, mR_sG, mK_sG, mN_sG, mL_sG, mI_sJ, mR_sJ, mK_sJ, mN_sJ, mL_sJ, z_up, ↓reduceIte, and_self, true_and, and_true, false_and, and_false, not_true_eq_false, not_false_eq_true, Nat.reduceEqDiff, i_10, i_20, i_30, w_in, w_need1, w_need0, m_in, m_thr0, m_thr1, tM, aM, nI_1, nI_pred, reduceIte, wp_some, eq_self, bI_T, bI_F, F_L_draw, F_X12_draw, F_X12_draw_c25, F_X12_draw_c26, F_X13_draw, F_X13_draw_c27, F_X13_draw_c32, s_o0 hS, s_r0_0 hS, s_r0_1 hS, s_r0_10 hS, s_r0_11 hS, s_r0_12 hS, s_r0_14 hS, s_r0_16 hS, s_r0_19 hS, s_r0_7 hS, s_r0_8 hS, s_r0_9 hS, c1]
    exact ⟨thr_post (by decide), RWater_fr thr_fr (by decide) hR0, Fr_mono thr_fr (by decide) (by decide)⟩
theorem A_has {μ : p_M} (hS : Sh μ) (hR : RWater μ) (v w : Int32) : wp (F_L_has 0 v w 112 μ) fun k μ1 => wp (F_X13_has v w μ1) fun z μ2 => Post k z μ μ2 ∧ RWater μ2 ∧ Fr [] [0] μ μ2 := by
  have hR0 := hR
  obtain ⟨n, hn, e1, e2, e3, e4, e5, e6, e7, e8, e9, hb⟩ := hR
  rcases ix3 v (nI n) (nI n - 1) n (by omega) rfl rfl with ⟨c1, c2⟩ | ⟨j, hj, rfl, c1, c2, c3, c4⟩
  · simp only [bd_some, p_let_eq, p_ok, mI_sI, mR_sI, mK_sI, mN_sI, mL_sI, mI_sG, mR_sG, mK_sG, mN_sG, mL_sG, mI_sJ, mR_sJ, mK_sJ, mN_sJ, mL_sJ, z_up, ↓reduceIte, and_self, true_and, and_true, false_and, and_false, not_true_eq_false, not_false_eq_true, Nat.reduceEqDiff, i_10, i_20, i_30, w_in, w_need1, w_need0, m_in, m_thr0, m_thr1, tM, aM, nI_1, nI_pred, reduceIte, wp_some, eq_self, bI_T, bI_F, F_L_has, F_X11_part, F_X12_has, F_X13_has, F_X13_has_c25, F_X13_has_c47, F_X13_has_c54, F_X13_has_c89, w_ix, s_o0 hS, s_r0_0 hS, s_r0_1 hS, s_r0_10 hS, s_r0_11 hS, s_r0_12 hS, s_r0_14 hS, s_r0_16 hS, s_r0_19 hS, s_r0_7 hS, s_r0_8 hS, s_r0_9 hS, s_o30 hS, s_r30_0 hS, s_r30_1 hS, s_r30_2 hS, e1, e2, c1, c2]
    exact ⟨thr_post (by decide), RWater_fr thr_fr (by decide) hR0, thr_fr⟩
  · have hj5 : j < 5 := by omega
    have f : ∀ z, Fr [] [0] μ (sI (sJ μ 112 (Int32.toNatClampNeg 0) z) 65 0 0) := fun z => by repeat (first | exact Fr_refl _ | refine Fr_s65 ?_ (by decide) | refine Fr_sI ?_ (by decide) | refine Fr_sA ?_ (by decide) | refine Fr_sJ ?_ | refine Fr_sG ?_)
    by_cases d : 0 ≤ w ∧ w ≤ 2
    · obtain ⟨x, -, hx, rfl⟩ := rg3 w 0 2 0 2 rfl rfl (by decide) (by decide) d
      have hx3 : x = 0 ∨ x = 1 ∨ x = 2 := by omega
      rcases hx3 with rfl | rfl | rfl
      · have d : 0 ≤ (0 : Int32) ∧ (0 : Int32) ≤ 2 := d
        simp only [bd_some, p_let_eq, p_ok, mI_sI, mR_sI, mK_sI, mN_sI, mL_sI, mI_sG, mR_sG, mK_sG, mN_sG, mL_sG, mI_sJ, mR_sJ, mK_sJ, mN_sJ, mL_sJ, z_up, ↓reduceIte, and_self, true_and, and_true, false_and, and_false, not_true_eq_false, not_false_eq_true, Nat.reduceEqDiff, i_10, i_20, i_30, w_in, w_need1, w_need0, m_in, m_thr0, m_thr1, tM, aM, nI_1, nI_pred, reduceIte, wp_some, eq_self, bI_T, bI_F, show nI 0 = 0 from rfl, F_L_has, F_X11_part, F_X12_has, F_X13_has, F_X13_has_c25, F_X13_has_c47, F_X13_has_c54, F_X13_has_c89, w_ix, w_what, s_o0 hS, s_r0_0 hS, s_r0_1 hS, s_r0_10 hS, s_r0_11 hS, s_r0_12 hS, s_r0_14 hS, s_r0_16 hS, s_r0_19 hS, s_r0_7 hS, s_r0_8 hS, s_r0_9 hS, s_o30 hS, s_r30_0 hS, s_r30_1 hS, s_r30_2 hS, s_a31 hS, s_l31 hS, s_o31 hS, s_a32 hS, s_l32 hS, s_o32 hS, s_a33 hS, s_l33 hS, s_o33 hS, s_o112 hS, e1, e2, e3, c1, c2, c3, c4, hj5, d]
        exact ⟨⟨rfl, fun _ => rfl, Cn_eq rfl rfl⟩, RWater_fr (f _) (by decide) hR0, f _⟩
      · have d : 0 ≤ (1 : Int32) ∧ (1 : Int32) ≤ 2 := d
        simp only [bd_some, p_let_eq, p_ok, mI_sI, mR_sI, mK_sI, mN_sI, mL_sI, mI_sG, mR_sG, mK_sG, mN_sG, mL_sG, mI_sJ, mR_sJ, mK_sJ, mN_sJ, mL_sJ, z_up, ↓reduceIte, and_self, true_and, and_true, false_and, and_false, not_true_eq_false, not_false_eq_true, Nat.reduceEqDiff, i_10, i_20, i_30, w_in, w_need1, w_need0, m_in, m_thr0, m_thr1, tM, aM, nI_1, nI_pred, reduceIte, wp_some, eq_self, bI_T, bI_F, show nI 1 = 1 from rfl, F_L_has, F_X11_part, F_X12_has, F_X13_has, F_X13_has_c25, F_X13_has_c47, F_X13_has_c54, F_X13_has_c89, w_ix, w_what, s_o0 hS, s_r0_0 hS, s_r0_1 hS, s_r0_10 hS, s_r0_11 hS, s_r0_12 hS, s_r0_14 hS, s_r0_16 hS, s_r0_19 hS, s_r0_7 hS, s_r0_8 hS, s_r0_9 hS, s_o30 hS, s_r30_0 hS, s_r30_1 hS, s_r30_2 hS, s_a31 hS, s_l31 hS, s_o31 hS, s_a32 hS, s_l32 hS, s_o32 hS, s_a33 hS, s_l33 hS, s_o33 hS, s_o112 hS, e1, e2, e4, c1, c2, c3, c4, hj5, d]
        exact ⟨⟨rfl, fun _ => rfl, Cn_eq rfl rfl⟩, RWater_fr (f _) (by decide) hR0, f _⟩
      · have d : 0 ≤ (2 : Int32) ∧ (2 : Int32) ≤ 2 := d
        have q1 : ¬ (2 : Int32) = 1 := by decide
        simp only [bd_some, p_let_eq, p_ok, mI_sI, mR_sI, mK_sI, mN_sI, mL_sI, mI_sG, mR_sG, mK_sG, mN_sG, mL_sG, mI_sJ, mR_sJ, mK_sJ, mN_sJ, mL_sJ, z_up, ↓reduceIte, and_self, true_and, and_true, false_and, and_false, not_true_eq_false, not_false_eq_true, Nat.reduceEqDiff, i_10, i_20, i_30, w_in, w_need1, w_need0, m_in, m_thr0, m_thr1, tM, aM, nI_1, nI_pred, reduceIte, wp_some, eq_self, bI_T, bI_F, show nI 2 = 2 from rfl, F_L_has, F_X11_part, F_X12_has, F_X13_has, F_X13_has_c25, F_X13_has_c47, F_X13_has_c54, F_X13_has_c89, w_ix, w_what, s_o0 hS, s_r0_0 hS, s_r0_1 hS, s_r0_10 hS, s_r0_11 hS, s_r0_12 hS, s_r0_14 hS, s_r0_16 hS, s_r0_19 hS, s_r0_7 hS, s_r0_8 hS, s_r0_9 hS, s_o30 hS, s_r30_0 hS, s_r30_1 hS, s_r30_2 hS, s_a31 hS, s_l31 hS, s_o31 hS, s_a32 hS, s_l32 hS, s_o32 hS, s_a33 hS, s_l33 hS, s_o33 hS, s_o112 hS, e1, e2, e5, c1, c2, c3, c4, hj5, d, q1]
        exact ⟨⟨rfl, fun _ => rfl, Cn_eq rfl rfl⟩, RWater_fr (f _) (by decide) hR0, f _⟩
    · simp only [bd_some, p_let_eq, p_ok, mI_sI, mR_sI, mK_sI, mN_sI, mL_sI, mI_sG, mR_sG, mK_sG, mN_sG, mL_sG, mI_sJ, mR_sJ, mK_sJ, mN_sJ, mL_sJ, z_up, ↓reduceIte, and_self, true_and, and_true, false_and, and_false, not_true_eq_false, not_false_eq_true, Nat.reduceEqDiff, i_10, i_20, i_30, w_in, w_need1, w_need0, m_in, m_thr0, m_thr1, tM, aM, nI_1, nI_pred, reduceIte, wp_some, eq_self, bI_T, bI_F, F_L_has, F_X11_part, F_X12_has, F_X13_has, F_X13_has_c25, F_X13_has_c47, F_X13_has_c54, F_X13_has_c89, w_ix, w_what, s_o0 hS, s_r0_0 hS, s_r0_1 hS, s_r0_10 hS, s_r0_11 hS, s_r0_12 hS, s_r0_14 hS, s_r0_16 hS, s_r0_19 hS, s_r0_7 hS, s_r0_8 hS, s_r0_9 hS, s_o30 hS, s_r30_0 hS, s_r30_1 hS, s_r30_2 hS, e1, e2, c1, c2, d]
      exact ⟨thr_post (by decide), RWater_fr thr_fr (by decide) hR0, thr_fr⟩
