/-! two memories side by side: the class's cells of the one, the Model's of the other -/
def mg (c m : p_M) : p_M := (fun a => if 65 ≤ a ∧ a ≤ 111 then m.1 a else c.1 a, c.2)
theorem mg_m {c m : p_M} {a : Nat} (h : 65 ≤ a ∧ a ≤ 111) : mI (mg c m) a = mI m a := if_pos h
theorem mg_c {c m : p_M} {a : Nat} (h : ¬ (65 ≤ a ∧ a ≤ 111)) : mI (mg c m) a = mI c a := if_neg h
theorem mg_fr {cs cs' ss : List Nat} {c c' m m' : p_M} (f : Fq cs [] c c') (g : Fq cs' ss m m') : Fr (cs ++ cs') ss (mg c m) (mg c' m') := by
  have e : c'.2 = c.2 := f.1
  refine ⟨?_, ?_, ?_, ?_, fun a h1 h2 => ?_, fun k hk => ?_⟩
  · show c'.2.1 = c.2.1; rw [e]
  · show c'.2.2.2.1 = c.2.2.2.1; rw [e]
  · show c'.2.2.2.2.1 = c.2.2.2.2.1; rw [e]
  · show c'.2.2.2.2.2.1 = c.2.2.2.2.2.1; rw [e]
  · by_cases q : 65 ≤ a ∧ a ≤ 111
    · rw [mg_m q, mg_m q]; exact g.2.1 a h1 (fun h => h2 (List.mem_append_right _ h))
    · rw [mg_c q, mg_c q]; exact f.2.1 a h1 (fun h => h2 (List.mem_append_left _ h))
  · exact g.2.2 k hk
theorem w_draw {c m : p_M} (hS : Sh c) (hR : RWater (mg c m)) {C : Nat} (hC : C ≤ 5000) (b : Int32) : ∃ v c' m', F_X11_takeOut 30 (nI C) b c = some (v, c') ∧ F_X13_draws (nI C) b m = some (0, m') ∧ mI m' 65 36 = v ∧ RWater (mg c' m') ∧ Fq [30, 32, 33] [] c c' ∧ Fq [81, 82] [31, 35, 36] m m' := by
  obtain ⟨n, hn, e1, e2, e3, e4, e5, e6, e7, e8, e9, hb⟩ := hR
  have e1 : mI c 30 3 = nI n := e1
  have e2 : mI m 65 30 = nI n := e2
  have e3 : mI c 31 = mI m 80 := e3
  have e4 : mI c 32 = mI m 81 := e4
  have e5 : mI c 33 = mI m 82 := e5
  have e6 : mI c 30 4 = mI m 65 31 := e6
  have e7 : mI c 30 6 = mI m 65 32 := e7
  have e8 : mI c 30 7 = mI m 65 33 := e8
  have e9 : mI c 30 8 = mI m 65 34 := e9
  have hb : ∀ j, j < 5 → ∃ w h : Nat, mI c 32 j = nI w ∧ mI c 31 j = nI h ∧ w ≤ h ∧ h ≤ 1000 ∧ (n ≤ j → w = 0) := hb
  obtain ⟨ν, g1, g2, g3, g4, g5⟩ := c_takeOut hS hn e1 b (nI C)
  have hl : ∀ j, j < 5 → ∃ w : Nat, w ≤ 1000 ∧ mI m 81 j = nI w := fun j hj => by
    obtain ⟨w, h, q1, q2, q3, q4, q5⟩ := hb j hj
    rw [e4] at q1
    exact ⟨w, by omega, q1⟩
  rw [e4, e5] at g1 g2 g3 g4
  obtain ⟨ν4, k1, k2, k3, k4, k5, k6, k7⟩ := m_draws (μ := m) hn e2 hl b hC
  obtain ⟨T, hT⟩ : ∃ T, T = tk n b n (mI m 81) (mI m 82) (nI C) 0 := ⟨_, rfl⟩
  rw [← hT] at g1 g2 g3 g4 k2 k3 k4 k5 k6
  have G : ∀ k, mI ν 30 k = if k = 4 then mI c 30 4 + T.2.2.1 else if k = 5 then T.2.2.1 else mI c 30 k := fun k => by rw [g4]; rfl
  refine ⟨T.2.2.2, ν, ν4, g1, k1, k5, ⟨n, hn, ?_, ?_, ?_, ?_, ?_, ?_, ?_, ?_, ?_, fun j hj => ?_⟩, g5, k7⟩
  · show mI ν 30 3 = nI n; rw [G]; exact e1
  · show mI ν4 65 30 = nI n; rw [Fq_sc k7 30 (by decide)]; exact e2
  · show mI ν 31 = mI ν4 80; rw [Fq_row g5 31 (by decide), Fq_row k7 80 (by decide)]; exact e3
  · show mI ν 32 = mI ν4 81; rw [g2, k2]
  · show mI ν 33 = mI ν4 82; rw [g3, k3]
  · show mI ν 30 4 = mI ν4 65 31; rw [G, k6]; show mI c 30 4 + _ = _; rw [e6]
  · show mI ν 30 6 = mI ν4 65 32; rw [G, Fq_sc k7 32 (by decide)]; exact e7
  · show mI ν 30 7 = mI ν4 65 33; rw [G, Fq_sc k7 33 (by decide)]; exact e8
  · show mI ν 30 8 = mI ν4 65 34; rw [G, Fq_sc k7 34 (by decide)]; exact e9
  · obtain ⟨w, h, q1, q2, q3, q4, q5⟩ := hb j hj
    rw [e4] at q1
    obtain ⟨w', hw', ew'⟩ := (tk_le hn (b := b) n (mI m 81) (mI m 82) C 0 (by omega) hl).1 j hj w (by omega) q1
    rw [← hT] at ew'
    refine ⟨w', h, ?_, ?_, by omega, q4, fun e => by have := q5 e; omega⟩
    · show mI ν 32 j = nI w'; rw [g2]; exact ew'
    · show mI ν 31 j = nI h; rw [Fq_row g5 31 (by decide)]; exact q2
theorem w_give {c m : p_M} (hS : Sh c) (hR : RWater (mg c m)) {C : Nat} (h1 : 1 ≤ C) (hC : C ≤ 5000) (t v : Int32) : ∃ c' m', F_X11_giveBack 30 t (nI C) v c = some (0, c') ∧ ((0 ≤ t ∧ t ≤ mI m 65 30 - 1) ∧ F_X13_pours t (nI C) v m = some (0, m') ∨ ¬ (0 ≤ t ∧ t ≤ mI m 65 30 - 1) ∧ m' = sI (sI m 65 32 (mI m 65 32 + nI C)) 65 34 (mI m 65 34 + v)) ∧ RWater (mg c' m') ∧ Fq [30, 32, 33] [] c c' ∧ Fq [81, 82] [32, 34, 37] m m' := by
  obtain ⟨n, hn, e1, e2, e3, e4, e5, e6, e7, e8, e9, hb⟩ := hR
  have e1 : mI c 30 3 = nI n := e1
  have e2 : mI m 65 30 = nI n := e2
  have e3 : mI c 31 = mI m 80 := e3
  have e4 : mI c 32 = mI m 81 := e4
  have e5 : mI c 33 = mI m 82 := e5
  have e6 : mI c 30 4 = mI m 65 31 := e6
  have e7 : mI c 30 6 = mI m 65 32 := e7
  have e8 : mI c 30 7 = mI m 65 33 := e8
  have e9 : mI c 30 8 = mI m 65 34 := e9
  have hb : ∀ j, j < 5 → ∃ w h : Nat, mI c 32 j = nI w ∧ mI c 31 j = nI h ∧ w ≤ h ∧ h ≤ 1000 ∧ (n ≤ j → w = 0) := hb
  rcases ix3 t (nI n) (nI n - 1) n (by omega) rfl rfl with ⟨c1, c2⟩ | ⟨j, hj, rfl, c1, c2, c3, c4⟩
  · refine ⟨sI (sI c 30 6 (mI c 30 6 + nI C)) 30 8 (mI c 30 8 + v), _, ?_, Or.inr ⟨by rw [e2]; exact c2, rfl⟩, ?_, ?_, ?_⟩
    · by_cases q : t < 0
      · simp only [bd_some, p_let_eq, p_ok, mI_sI, mR_sI, mK_sI, mN_sI, mL_sI, mI_sG, mR_sG, mK_sG, mN_sG, mL_sG, mI_sJ, mR_sJ, mK_sJ, mN_sJ, mL_sJ, z_up, ↓reduceIte, and_self, true_and, and_true, false_and, and_false, not_true_eq_false, not_false_eq_true, Nat.reduceEqDiff, i_10, i_20, i_30, w_in, w_need1, w_need0, m_in, m_thr0, m_thr1, tM, aM, nI_1, nI_pred, reduceIte, wp_some, eq_self, bI_T, bI_F, F_X11_giveBack, F_X11_giveBack_c23, F_X11_giveBack_c29, F_X11_runOff, q, s_o30 hS]
      · have q2 : nI n ≤ t := i_nlt.mp (fun h => c1 ⟨i_nlt.mp q, h⟩)
        simp only [bd_some, p_let_eq, p_ok, mI_sI, mR_sI, mK_sI, mN_sI, mL_sI, mI_sG, mR_sG, mK_sG, mN_sG, mL_sG, mI_sJ, mR_sJ, mK_sJ, mN_sJ, mL_sJ, z_up, ↓reduceIte, and_self, true_and, and_true, false_and, and_false, not_true_eq_false, not_false_eq_true, Nat.reduceEqDiff, i_10, i_20, i_30, w_in, w_need1, w_need0, m_in, m_thr0, m_thr1, tM, aM, nI_1, nI_pred, reduceIte, wp_some, eq_self, bI_T, bI_F, F_X11_giveBack, F_X11_giveBack_c23, F_X11_giveBack_c29, F_X11_runOff, q, s_o30 hS, e1, q2]
    · refine ⟨n, hn, ?_, ?_, ?_, ?_, ?_, ?_, ?_, ?_, ?_, fun j hj => hb j hj⟩
      · exact e1
      · exact e2
      · exact e3
      · exact e4
      · exact e5
      · exact e6
      · show mI c 30 6 + nI C = mI m 65 32 + nI C; rw [e7]
      · exact e8
      · show mI c 30 8 + v = mI m 65 34 + v; rw [e9]
    · exact Fq_sI (Fq_sI (Fq_refl _) (by decide)) (by decide)
    · exact Fq_s65 (Fq_s65 (Fq_refl _) (by decide)) (by decide)
  · obtain ⟨w, h, q1, q2, q3, q4, q5⟩ := hb j (by omega)
    have g1 := c_putIn hS (show j < 5 by omega) q3 q4 h1 hC q1 q2 v
    have k1 := m_pours (μ := m) (show j < 5 by omega) q3 q4 h1 hC (by rw [← e4]; exact q1) (by rw [← e3]; exact q2) v
    have c5 : ¬ nI n ≤ nI j := nI_ge hj (by omega)
    refine ⟨sI (sI (sI (sI c 32 j (nI (w + (C - (w + C - h))))) 33 j (mI c 33 j + (v - pu v (nI (w + C - h)) (nI C)))) 30 6 (mI c 30 6 + nI (w + C - h))) 30 8 (mI c 30 8 + pu v (nI (w + C - h)) (nI C)), _, ?_, Or.inl ⟨by rw [e2]; exact c2, k1⟩, ?_, ?_, ?_⟩
    · simp only [bd_some, p_let_eq, p_ok, mI_sI, mR_sI, mK_sI, mN_sI, mL_sI, mI_sG, mR_sG, mK_sG, mN_sG, mL_sG, mI_sJ, mR_sJ, mK_sJ, mN_sJ, mL_sJ, z_up, ↓reduceIte, and_self, true_and, and_true, false_and, and_false, not_true_eq_false, not_false_eq_true, Nat.reduceEqDiff, i_10, i_20, i_30, w_in, w_need1, w_need0, m_in, m_thr0, m_thr1, tM, aM, nI_1, nI_pred, reduceIte, wp_some, eq_self, bI_T, bI_F, F_X11_giveBack, F_X11_giveBack_c29, c3, c5, s_o30 hS, e1, g1]
    · refine ⟨n, hn, e1, e2, e3, ?_, ?_, e6, ?_, e8, ?_, fun i hi => ?_⟩
      · show va_up (mI c 32) j _ = va_up (mI m 81) j _; rw [e4]
      · show va_up (mI c 33) j (mI c 33 j + _) = va_up (mI m 82) j (mI m 82 j + _); rw [e5]
      · show mI c 30 6 + _ = mI m 65 32 + _; rw [e7]
      · show mI c 30 8 + _ = mI m 65 34 + _; rw [e9]
      · obtain ⟨w', h', z1, z2, z3, z4, z5⟩ := hb i hi
        by_cases ei : i = j
        · subst ei
          refine ⟨w + (C - (w + C - h)), h, ?_, q2, by omega, q4, fun e => by omega⟩
          show va_up (mI c 32) i _ i = _
          rw [z_up, if_pos rfl]
        · refine ⟨w', h', ?_, z2, z3, z4, z5⟩
          show va_up (mI c 32) j _ i = _
          rw [z_up, if_neg ei]
          exact z1
    · exact Fq_sI (Fq_sI (Fq_sI (Fq_sI (Fq_refl _) (by decide)) (by decide)) (by decide)) (by decide)
    · exact Fq_s65 (Fq_s65 (Fq_sI (Fq_sI (Fq_s65 (Fq_refl _) (by decide)) (by decide)) (by decide)) (by decide)) (by decide)
theorem w_out {c m : p_M} (hS : Sh c) (hR : RWater (mg c m)) (s : Int32) : ∃ c', F_X11_washOut 30 s c = some (0, c') ∧ RWater (mg c' (sI (sI (sI m 65 31 (mI m 65 31 + s)) 65 32 (mI m 65 32 + s)) 65 34 (mI m 65 34 + s))) ∧ Fq [30] [] c c' := by
  obtain ⟨n, hn, e1, e2, e3, e4, e5, e6, e7, e8, e9, hb⟩ := hR
  refine ⟨sI (sI (sI c 30 4 (mI c 30 4 + s)) 30 6 (mI c 30 6 + s)) 30 8 (mI c 30 8 + s), ?_, ⟨n, hn, e1, e2, e3, e4, e5, ?_, ?_, e8, ?_, hb⟩, ?_⟩
  · simp only [bd_some, p_let_eq, p_ok, mI_sI, mR_sI, mK_sI, mN_sI, mL_sI, mI_sG, mR_sG, mK_sG, mN_sG, mL_sG, mI_sJ, mR_sJ, mK_sJ, mN_sJ, mL_sJ, z_up, ↓reduceIte, and_self, true_and, and_true, false_and, and_false, not_true_eq_false, not_false_eq_true, Nat.reduceEqDiff, i_10, i_20, i_30, w_in, w_need1, w_need0, m_in, m_thr0, m_thr1, tM, aM, nI_1, nI_pred, reduceIte, wp_some, eq_self, bI_T, bI_F, F_X11_washOut, F_X11_runOff, s_o30 hS]
  · show mI c 30 4 + s = mI m 65 31 + s; exact congrArg (· + s) e6
  · show mI c 30 6 + s = mI m 65 32 + s; exact congrArg (· + s) e7
  · show mI c 30 8 + s = mI m 65 34 + s; exact congrArg (· + s) e9
  · exact Fq_sI (Fq_sI (Fq_sI (Fq_refl _) (by decide)) (by decide)) (by decide)
