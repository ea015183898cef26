theorem mtc_mtb {L : LK} {x y z : Nat} (hL : okL L) (hx : x ≤ 255) (hy : y ≤ 255) (hz : z ≤ 255) : mtc L (nI x) (nI y) (nI z) = if mtb x y z L = true then 1 else 0 := by
  obtain ⟨o1, o2, o3, o4, o5⟩ := hL
  unfold mtc mtb
  have e : (nI L.2.2.2.2 = 0) = (L.2.2.2.2 = 0) := propext (nI_eq (show L.2.2.2.2 < 2 ^ 31 by omega) (show 0 < 2 ^ 31 by decide))
  by_cases c1 : L.1 < x
  · rw [if_pos (nI_lt c1 (by omega)), if_neg (fun h => by have := of_decide_eq_true h; omega)]
  · rw [if_neg (show ¬ nI L.1 < nI x from nI_nlt (by omega) (by omega))]
    by_cases c2 : y < L.2.1
    · rw [if_pos (nI_lt c2 (by omega)), if_neg (fun h => by have := of_decide_eq_true h; omega)]
    · rw [if_neg (show ¬ nI y < nI L.2.1 from nI_nlt (by omega) (by omega))]
      by_cases c3 : L.2.2.1 < z
      · rw [if_pos (nI_lt c3 (by omega)), if_neg (fun h => by have := of_decide_eq_true h; omega)]
      · rw [if_neg (show ¬ nI L.2.2.1 < nI z from nI_nlt (by omega) (by omega))]
        by_cases c4 : L.2.2.2.2 = 0
        · rw [if_pos (by rw [e]; exact c4), if_pos (decide_eq_true ⟨by omega, by omega, by omega, c4⟩)]
        · rw [if_neg (by rw [e]; exact c4), if_neg (fun h => by have := of_decide_eq_true h; omega)]
theorem c_desc {X : p_X} (hX : oX2 X) {h x y z most : Nat} (hh : h ≤ 9) (hm6 : most ≤ 6) : ∀ (r n g : Nat), n + r = most → r < g → KSok (F_X9_descend X g) h x y z most r n := by
  intro r
  induction r with
  | zero =>
    intro n g hn hg μ L cost w B hc hL hs
    obtain ⟨g, rfl⟩ : ∃ k, g = k + 1 := ⟨g - 1, by omega⟩
    have hs0 := hs
    obtain ⟨s1, s2, ⟨i1, i2, i3, i4, i5, i6⟩, s4, s5⟩ := hs
    have hn' : n = most := by omega
    subst hn'
    have o19 := s_o19v s1 (show n < 7 by omega)
    have ix := ix_nI (show n < 7 by omega) (by decide)
    have kx := nI_clamp (show n < 2 ^ 31 by omega)
    have lx : n < 7 := by omega
    have r16 := s_r16 s1 lx
    have c23 : 23 ≤ 23 ∧ 23 ≤ 26 := by decide
    have c1 : nI n ≤ nI n := nI_le (Nat.le_refl _) (by omega)
    obtain ⟨l1, l2, l3, l4, l5⟩ := hL
    show ∃ μ', F_X9_descend_b X (F_X9_descend X g) 15 (nI n) (nI n) (nI cost) μ = some (0, μ') ∧ _
    unfold sC
    by_cases d1 : L.1 < x
    · have d1' : nI L.1 < nI x := nI_lt d1 (by omega)
      rw [if_pos (Or.inl d1)]
      refine ⟨μ, ?_, Keep_r μ n, s5⟩
      simp only [F_X9_descend_b, F_X9_descend_c32, bd_some, p_ok, s_o15 s1, s_r15_0 s1, s_r15_1 s1, s_r15_2 s1, s_a16 s1, s_l16 s1, s_o16 s1, s_r16_0 s1, s_r16_1 s1, s_r16_2 s1, s_r16_3 s1, s_r16_4 s1, s_r16_5 s1, s_r16_6 s1, ix, kx, lx, r16, o19, c23, s2.1, i1, d1', and_self, true_and, and_true, not_false_eq_true, ↓reduceIte]
    · have d1' : ¬ nI L.1 < nI x := nI_nlt (by omega) (by omega)
      by_cases d2 : L.2.2.1 < z
      · have d2' : ¬ nI z ≤ nI L.2.2.1 := nI_ge d2 (by omega)
        rw [if_pos (Or.inr d2)]
        refine ⟨μ, ?_, Keep_r μ n, s5⟩
        simp only [F_X9_descend_b, F_X9_descend_c32, bd_some, p_ok, s_o15 s1, s_r15_0 s1, s_r15_1 s1, s_r15_2 s1, s_a16 s1, s_l16 s1, s_o16 s1, s_r16_0 s1, s_r16_1 s1, s_r16_2 s1, s_r16_3 s1, s_r16_4 s1, s_r16_5 s1, s_r16_6 s1, ix, kx, lx, r16, o19, c23, s2.1, s2.2.2.1, i1, i3, d1', d2', and_self, true_and, and_true, not_false_eq_true, ↓reduceIte]
      · have d2' : nI z ≤ nI L.2.2.1 := nI_le (by omega) (by omega)
        rw [if_neg (show ¬ (L.1 < x ∨ L.2.2.1 < z) by omega)]
        have sm := c_meets o19 s2 (nI x) (nI y) (nI z)
        rw [mtc_mtb ⟨l1, l2, l3, l4, l5⟩ i4 i5 i6] at sm
        by_cases cm : mtb x y z L = true
        · rw [if_pos cm] at sm
          obtain ⟨μ1, p1, p2, p3⟩ := c_keep (cost := cost) s1 (show n ≤ 6 by omega) (by omega) s4 s5
          refine ⟨μ1, ?_, Keep_m p2 (by omega), ?_⟩
          · simp only [F_X9_descend_b, F_X9_descend_c59, F_X9_descend_c80, bd_some, p_ok, s_o15 s1, s_r15_0 s1, s_r15_1 s1, s_r15_2 s1, s_a16 s1, s_l16 s1, s_o16 s1, s_r16_0 s1, s_r16_1 s1, s_r16_2 s1, s_r16_3 s1, s_r16_4 s1, s_r16_5 s1, s_r16_6 s1, ix, kx, lx, r16, o19, c23, s2.1, s2.2.2.1, i1, i2, i3, d1', d2', sm, i_10, p1, c1, and_self, true_and, and_true, not_false_eq_true, ↓reduceIte]
          · unfold kp
            rw [cm, Bool.true_and]
            exact p3
        · rw [if_neg cm] at sm
          refine ⟨μ, ?_, Keep_r μ n, ?_⟩
          · simp only [F_X9_descend_b, F_X9_descend_c59, F_X9_descend_c80, bd_some, p_ok, s_o15 s1, s_r15_0 s1, s_r15_1 s1, s_r15_2 s1, s_a16 s1, s_l16 s1, s_o16 s1, s_r16_0 s1, s_r16_1 s1, s_r16_2 s1, s_r16_3 s1, s_r16_4 s1, s_r16_5 s1, s_r16_6 s1, ix, kx, lx, r16, o19, c23, s2.1, s2.2.2.1, i1, i2, i3, d1', d2', sm, c1, and_self, true_and, and_true, not_false_eq_true, ↓reduceIte]
          · unfold kp
            rw [if_neg (fun h => cm (by rw [Bool.and_eq_true] at h; exact h.1))]
            exact s5
  | succ r ih =>
    intro n g hn hg μ L cost w B hc hL hs
    obtain ⟨g, rfl⟩ : ∃ k, g = k + 1 := ⟨g - 1, by omega⟩
    have hs0 := hs
    have hL0 := hL
    obtain ⟨s1, s2, ⟨i1, i2, i3, i4, i5, i6⟩, s4, s5⟩ := hs
    have o19 := s_o19v s1 (show n < 7 by omega)
    have ix := ix_nI (show n < 7 by omega) (by decide)
    have kx := nI_clamp (show n < 2 ^ 31 by omega)
    have lx : n < 7 := by omega
    have r16 := s_r16 s1 lx
    have c23 : 23 ≤ 23 ∧ 23 ≤ 26 := by decide
    have c1 : ¬ nI most ≤ nI n := nI_ge (by omega) (by omega)
    obtain ⟨l1, l2, l3, l4, l5⟩ := hL
    have hK := ih (n + 1) g (by omega) (by omega)
    show ∃ μ', F_X9_descend_b X (F_X9_descend X g) 15 (nI n) (nI most) (nI cost) μ = some (0, μ') ∧ _
    generalize F_X9_descend X g = KS at *
    unfold sC
    by_cases d1 : L.1 < x
    · have d1' : nI L.1 < nI x := nI_lt d1 (by omega)
      rw [if_pos (Or.inl d1)]
      refine ⟨μ, ?_, Keep_r μ n, s5⟩
      simp only [F_X9_descend_b, F_X9_descend_c32, bd_some, p_ok, s_o15 s1, s_r15_0 s1, s_r15_1 s1, s_r15_2 s1, s_a16 s1, s_l16 s1, s_o16 s1, s_r16_0 s1, s_r16_1 s1, s_r16_2 s1, s_r16_3 s1, s_r16_4 s1, s_r16_5 s1, s_r16_6 s1, ix, kx, lx, r16, o19, c23, s2.1, i1, d1', and_self, true_and, and_true, not_false_eq_true, ↓reduceIte]
    · have d1' : ¬ nI L.1 < nI x := nI_nlt (by omega) (by omega)
      by_cases d2 : L.2.2.1 < z
      · have d2' : ¬ nI z ≤ nI L.2.2.1 := nI_ge d2 (by omega)
        rw [if_pos (Or.inr d2)]
        refine ⟨μ, ?_, Keep_r μ n, s5⟩
        simp only [F_X9_descend_b, F_X9_descend_c32, bd_some, p_ok, s_o15 s1, s_r15_0 s1, s_r15_1 s1, s_r15_2 s1, s_a16 s1, s_l16 s1, s_o16 s1, s_r16_0 s1, s_r16_1 s1, s_r16_2 s1, s_r16_3 s1, s_r16_4 s1, s_r16_5 s1, s_r16_6 s1, ix, kx, lx, r16, o19, c23, s2.1, s2.2.2.1, i1, i3, d1', d2', and_self, true_and, and_true, not_false_eq_true, ↓reduceIte]
      · have d2' : nI z ≤ nI L.2.2.1 := nI_le (by omega) (by omega)
        rw [if_neg (show ¬ (L.1 < x ∨ L.2.2.1 < z) by omega)]
        have sm := c_meets o19 s2 (nI x) (nI y) (nI z)
        rw [mtc_mtb hL0 i4 i5 i6] at sm
        -- after the keeping
        have kpS : ∃ μ1, F_X9_descend_b X KS 15 (nI n) (nI most) (nI cost) μ = F_X9_descend_c59 X KS 15 (nI n) (nI most) (nI cost) (19 + n) μ1 ∧ Keep μ μ1 n ∧ BC μ1 (kp x y z L cost n w B) := by
          by_cases cm : mtb x y z L = true
          · rw [if_pos cm] at sm
            obtain ⟨μ1, p1, p2, p3⟩ := c_keep (cost := cost) s1 (show n ≤ 6 by omega) (by omega) s4 s5
            refine ⟨μ1, ?_, Keep_m p2 (by omega), ?_⟩
            · simp only [F_X9_descend_b, bd_some, p_ok, s_o15 s1, s_r15_0 s1, s_r15_1 s1, s_r15_2 s1, s_a16 s1, s_l16 s1, s_o16 s1, s_r16_0 s1, s_r16_1 s1, s_r16_2 s1, s_r16_3 s1, s_r16_4 s1, s_r16_5 s1, s_r16_6 s1, ix, kx, lx, r16, o19, c23, s2.1, s2.2.2.1, i1, i2, i3, d1', d2', sm, i_10, p1, and_self, true_and, and_true, not_false_eq_true, ↓reduceIte]
            · unfold kp
              rw [cm, Bool.true_and]
              exact p3
          · rw [if_neg cm] at sm
            refine ⟨μ, ?_, Keep_r μ n, ?_⟩
            · simp only [F_X9_descend_b, bd_some, p_ok, s_o15 s1, s_r15_0 s1, s_r15_1 s1, s_r15_2 s1, s_a16 s1, s_l16 s1, s_o16 s1, s_r16_0 s1, s_r16_1 s1, s_r16_2 s1, s_r16_3 s1, s_r16_4 s1, s_r16_5 s1, s_r16_6 s1, ix, kx, lx, r16, o19, c23, s2.1, s2.2.2.1, i1, i2, i3, d1', d2', sm, and_self, true_and, and_true, not_false_eq_true, ↓reduceIte]
            · unfold kp
              rw [if_neg (fun h => cm (by rw [Bool.and_eq_true] at h; exact h.1))]
              exact s5
        obtain ⟨μ1, e1, e2, e3⟩ := kpS
        rw [e1]
        clear e1 sm
        have st1 := St_k hs0 e2 e3
        generalize kp x y z L cost n w B = B1 at *
        have o15 := s_o15 st1.1
        -- go down
        have down : dear B1 cost = false → ∃ μ', F_X9_descend_c59 X KS 15 (nI n) (nI most) (nI cost) (19 + n) μ1 = some (0, μ') ∧ Keep μ1 μ' n ∧ BC μ' (if L.2.2.2.2 = 0 then sC h x y z r (n + 1) (lk h 2 (us 2) L) (cost + pc 2) (va_up w n 2) (sC h x y z r (n + 1) (lk h 1 (us 1) L) (cost + pc 1) (va_up w n 1) (sC h x y z r (n + 1) (lk h 0 (us 0) L) (cost + pc 0) (va_up w n 0) B1)) else sC h x y z r (n + 1) (lk h 3 (us 3) L) (cost + pc 3) (va_up w n 3) (sC h x y z r (n + 1) (lk h 2 (us 2) L) (cost + pc 2) (va_up w n 2) (sC h x y z r (n + 1) (lk h 1 (us 1) L) (cost + pc 1) (va_up w n 1) (sC h x y z r (n + 1) (lk h 0 (us 0) L) (cost + pc 0) (va_up w n 0) B1)))) := by
          intro hd
          have st59 : F_X9_descend_c59 X KS 15 (nI n) (nI most) (nI cost) (19 + n) μ1 = F_X9_descend_c84 X KS (99995 + 1 + 1 + 1 + 1 + 1) 15 (nI n) (nI most) (nI cost) (19 + n) 0 μ1 := by
            cases B1 with
            | none =>
              have e3 : mI μ1 15 3 = -1 := e3
              simp only [F_X9_descend_c59, F_X9_descend_c81, p_ok, c1, o15, e3, and_self, ↓reduceIte]
              rfl
            | some q =>
              obtain ⟨f1, f2, f3, f4⟩ := e3
              have hd : ¬ q.1 ≤ cost := of_decide_eq_false hd
              have n1 : ¬ nI q.1 = -1 := nI_n1 (by omega)
              have lt : nI cost < nI q.1 := nI_lt (by omega) (by omega)
              simp only [F_X9_descend_c59, F_X9_descend_c81, p_ok, c1, o15, f1, n1, lt, and_self, ↓reduceIte]
              rfl
          rw [st59]
          clear st59
          have z0 : ¬ (3 : Int32) < 0 := by decide
          have z1 : ¬ (3 : Int32) < 1 := by decide
          have z2 : ¬ (3 : Int32) < 2 := by decide
          have z3 : ¬ (3 : Int32) < 3 := by decide
          have z4 : (3 : Int32) < 4 := by decide
          have w0 : ¬ (0 : Int32) = 3 := by decide
          have w1 : ¬ (1 : Int32) = 3 := by decide
          have w2 : ¬ (2 : Int32) = 3 := by decide
          obtain ⟨μ2, a1, a2, a3⟩ := c_child hX (K84 := F_X9_descend_c84 X KS (99995 + 1 + 1 + 1 + 1)) (b := 0) hh (show n < 6 by omega) (by decide) hc hK hL0 st1
          have a1 : F_X9_descend_c104 X KS (F_X9_descend_c84 X KS (99995 + 1 + 1 + 1 + 1)) 15 (nI n) (nI most) (nI cost) (19 + n) 0 μ1 = F_X9_descend_c84 X KS (99995 + 1 + 1 + 1 + 1) 15 (nI n) (nI most) (nI cost) (19 + n) 1 μ2 := a1
          obtain ⟨μ3, b1, b2, b3⟩ := c_child hX (K84 := F_X9_descend_c84 X KS (99995 + 1 + 1 + 1)) (b := 1) hh (show n < 6 by omega) (by decide) hc hK hL0 (St_k st1 a2 a3)
          have b1 : F_X9_descend_c104 X KS (F_X9_descend_c84 X KS (99995 + 1 + 1 + 1)) 15 (nI n) (nI most) (nI cost) (19 + n) 1 μ2 = F_X9_descend_c84 X KS (99995 + 1 + 1 + 1) 15 (nI n) (nI most) (nI cost) (19 + n) 2 μ3 := b1
          have k3 := Keep_t a2 b2
          obtain ⟨μ4, g1, g2, g3⟩ := c_child hX (K84 := F_X9_descend_c84 X KS (99995 + 1 + 1)) (b := 2) hh (show n < 6 by omega) (by decide) hc hK hL0 (St_k st1 k3 b3)
          have g1 : F_X9_descend_c104 X KS (F_X9_descend_c84 X KS (99995 + 1 + 1)) 15 (nI n) (nI most) (nI cost) (19 + n) 2 μ3 = F_X9_descend_c84 X KS (99995 + 1 + 1) 15 (nI n) (nI most) (nI cost) (19 + n) 3 μ4 := g1
          have k4 := Keep_t k3 g2
          have st4 := St_k st1 k4 g3
          have o4 := s_o19v st4.1 lx
          have e4 : mI μ4 (19 + n) 4 = nI L.2.2.2.2 := st4.2.1.2.2.2.2.1
          have up : ∀ (m : Nat) (v5 : Int32) (μ' : p_M), ¬ (3 : Int32) < v5 → ¬ v5 = 3 → F_X9_descend_c84 X KS (m + 1) 15 (nI n) (nI most) (nI cost) (19 + n) v5 μ' = F_X9_descend_c104 X KS (F_X9_descend_c84 X KS m) 15 (nI n) (nI most) (nI cost) (19 + n) v5 μ' := fun m v5 μ' h1 h2 => by
            simp only [F_X9_descend_c84, h1, h2, not_false_eq_true, ↓reduceIte]
          rw [up _ _ _ z0 w0, a1, up _ _ _ z1 w1, b1, up _ _ _ z2 w2, g1]
          have fin : ∀ μ', F_X9_descend_c84 X KS (99995 + 1) 15 (nI n) (nI most) (nI cost) (19 + n) 4 μ' = some (0, μ') := fun μ' => by
            simp only [F_X9_descend_c84, z4, ↓reduceIte]
          by_cases cy : L.2.2.2.2 = 0
          · rw [if_pos cy]
            rw [cy] at e4
            have e4 : mI μ4 (19 + n) 4 = 0 := e4
            refine ⟨μ4, ?_, k4, g3⟩
            have z34 : (3 : Int32) + 1 = 4 := by decide
            have step : F_X9_descend_c84 X KS (99995 + 1 + 1) 15 (nI n) (nI most) (nI cost) (19 + n) 3 μ4 = F_X9_descend_c84 X KS (99995 + 1) 15 (nI n) (nI most) (nI cost) (19 + n) 4 μ4 := by
              rw [F_X9_descend_c84]
              simp only [F_X9_descend_c165, p_ok, z3, z34, o4, e4, and_self, not_true_eq_false, ↓reduceIte]
            rw [step, fin μ4]
          · rw [if_neg cy]
            have hy1 : L.2.2.2.2 = 1 := by omega
            rw [hy1] at e4
            have e4 : mI μ4 (19 + n) 4 = 1 := e4
            obtain ⟨μ5, j1, j2, j3⟩ := c_child hX (K84 := F_X9_descend_c84 X KS (99995 + 1)) (b := 3) hh (show n < 6 by omega) (by decide) hc hK hL0 st4
            have j1 : F_X9_descend_c104 X KS (F_X9_descend_c84 X KS (99995 + 1)) 15 (nI n) (nI most) (nI cost) (19 + n) 3 μ4 = F_X9_descend_c84 X KS (99995 + 1) 15 (nI n) (nI most) (nI cost) (19 + n) 4 μ5 := j1
            refine ⟨μ5, ?_, Keep_t k4 j2, j3⟩
            have step : F_X9_descend_c84 X KS (99995 + 1 + 1) 15 (nI n) (nI most) (nI cost) (19 + n) 3 μ4 = F_X9_descend_c104 X KS (F_X9_descend_c84 X KS (99995 + 1)) 15 (nI n) (nI most) (nI cost) (19 + n) 3 μ4 := by
              rw [F_X9_descend_c84]
              simp only [p_ok, z3, o4, e4, i_10, and_self, not_true_eq_false, ↓reduceIte]
            rw [step, j1, fin μ5]
        cases hd : dear B1 cost with
        | false =>
          obtain ⟨μ', q1, q2, q3⟩ := down hd
          rw [if_neg Bool.false_ne_true]
          exact ⟨μ', q1, Keep_t e2 q2, q3⟩
        | true =>
          rw [if_pos rfl]
          cases B1 with
          | none => cases hd
          | some q =>
            have e30 := e3
            obtain ⟨f1, f2, f3, f4⟩ := e3
            have hd : q.1 ≤ cost := of_decide_eq_true hd
            have n1 : ¬ nI q.1 = -1 := nI_n1 (by omega)
            have lt : ¬ nI cost < nI q.1 := nI_nlt (by omega) (by omega)
            refine ⟨μ1, ?_, e2, e30⟩
            simp only [F_X9_descend_c59, F_X9_descend_c80, p_ok, c1, o15, f1, n1, lt, and_self, ↓reduceIte]
