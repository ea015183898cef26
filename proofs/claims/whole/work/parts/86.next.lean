/-! which LOT a MACHINE takes next -/
def crr (f : Nat → Int32) (lk : Int32) (k : Nat) : Int32 := if lk = -1 then 0 else f (6 * lk.toNatClampNeg + k)
def okB (lk : Int32) : Prop := lk = -1 ∨ ∃ k : Nat, k ≤ 5 ∧ lk = nI k
theorem crr_ok {f : Nat → Int32} (hf : ∀ j, j < 36 → f j = -1 ∨ ∃ x : Nat, x ≤ 100 ∧ f j = nI x) {lk : Int32} (hl : okB lk) {k : Nat} (hk : k ≤ 5) : crr f lk k = -1 ∨ ∃ x : Nat, x ≤ 100 ∧ crr f lk k = nI x := by
  unfold crr
  by_cases h : lk = -1
  · rw [if_pos h]; exact Or.inr ⟨0, by omega, rfl⟩
  · rw [if_neg h]
    rcases hl with h' | ⟨q, hq, rfl⟩
    · exact absurd h' h
    · rw [nI_clamp (by omega)]; exact hf _ (by omega)
theorem c_between {μ : p_M} (hS : Sh μ) {lk : Int32} (hl : okB lk) {k : Nat} (hk : k ≤ 5) : F_X2_between 26 lk (nI k) μ = some (crr (mI μ 27) lk k, μ) := by
  unfold crr
  by_cases h : lk = -1
  · rw [if_pos h]
    simp only [F_X2_between, F_X2_between_c20, h, not_true_eq_false, ↓reduceIte]
  · rw [if_neg h]
    rcases hl with h' | ⟨q, hq, rfl⟩
    · exact absurd h' h
    · have kq := nI_clamp (show q < 2 ^ 31 by omega)
      have e : nI q * 6 + nI k = nI (q * 6 + k) := by rw [show (6 : Int32) = nI 6 from rfl, pk_mul, nI_add]
      have i1 := ix_nI (show q * 6 + k < 36 by omega) (by decide)
      have k1 := nI_clamp (show q * 6 + k < 2 ^ 31 by omega)
      have l1 : q * 6 + k < 36 := by omega
      simp only [F_X2_between, F_X2_between_c20, bd_some, p_ok, h, not_false_eq_true, ↓reduceIte, s_o26 hS, s_r26_0 hS, s_r26_1 hS, s_r26_3 hS, s_a27 hS, s_l27 hS, s_o27 hS, e, i1, k1, l1, kq, and_self, true_and, Nat.mul_comm 6 q]
theorem c_first {c : p_M} {N i q : Nat} {lr qu kd : Nat → Nat} {lk : Int32} (hS : Sh c) (i4 : i < 4) (hlot : ∀ j, j < N → F_X12_lotAt 0 (nI j) c = some (0, lr j, c) ∧ (mK c (lr j) = 5 ∧ lr j < mN c) ∧ kd j ≤ 5 ∧ mI c (lr j) 2 = nI (kd j)) (hq : q ≤ 40) (eq : mI c (57 + 2 * i) 2 = nI q) (elk : mI c (57 + 2 * i) 4 = lk) (hl : okB lk) (hqu : ∀ m, m < q → qu m < N ∧ mI c (58 + 2 * i) m = nI (qu m)) : ∀ (r p n : Nat), p + r = q → r < n → ∃ v, F_X12_firstNotBarred_c2 n 0 (57 + 2 * i) (nI p) c = some (0, v, c) ∧ ((v = -1 ∧ ∀ m, p ≤ m → m < q → crr (mI c 27) lk (kd (qu m)) = -1) ∨ ∃ m, p ≤ m ∧ m < q ∧ v = nI m ∧ (¬ crr (mI c 27) lk (kd (qu m)) = -1) ∧ ∀ m', p ≤ m' → m' < m → crr (mI c 27) lk (kd (qu m')) = -1) := by
  have o57 := s_o57v hS i4
  obtain ⟨u1, u2, u3⟩ := s_q57v hS i4
  intro r
  induction r with
  | zero =>
    intro p n hp hn
    obtain ⟨n, rfl⟩ : ∃ k, n = k + 1 := ⟨n - 1, by omega⟩
    have c1 : nI q ≤ nI p := nI_le (by omega) (by omega)
    refine ⟨-1, ?_, Or.inl ⟨rfl, fun m h1 h2 => by omega⟩⟩
    simp only [F_X12_firstNotBarred_c2, p_ok, o57, eq, c1, and_self, ↓reduceIte]
  | succ r ih =>
    intro p n hp hn
    obtain ⟨n, rfl⟩ : ∃ k, n = k + 1 := ⟨n - 1, by omega⟩
    have c1 : ¬ nI q ≤ nI p := nI_ge (by omega) (by omega)
    have ip := ix_nI (show p < 40 by omega) (by decide)
    have kp := nI_clamp (show p < 2 ^ 31 by omega)
    have lp : p < 40 := by omega
    have ap : nI p + 1 = nI (p + 1) := nI_add p 1
    obtain ⟨v1, v2⟩ := hqu p (by omega)
    obtain ⟨w1, w2, w3, w4⟩ := hlot (qu p) v1
    have hb := c_between hS hl w3
    obtain ⟨v, e1, e2⟩ := ih (p + 1) n (by omega) (by omega)
    by_cases cc : crr (mI c 27) lk (kd (qu p)) = -1
    · refine ⟨v, ?_, ?_⟩
      · simp only [F_X12_firstNotBarred_c2, bd_some, p_ok, o57, eq, elk, c1, u1, u2, u3, ip, kp, lp, v2, w1, w2, w4, hb, cc, ap, s_o0 hS, s_r0_0 hS, s_r0_1 hS, s_r0_10 hS, s_r0_11 hS, s_r0_12 hS, s_r0_14 hS, s_r0_16 hS, s_r0_19 hS, s_r0_7 hS, s_r0_8 hS, s_r0_9 hS, s_o26 hS, s_r26_0 hS, s_r26_1 hS, s_r26_3 hS, and_self, true_and, not_false_eq_true, ↓reduceIte]
        exact e1
      · rcases e2 with ⟨h1, h2⟩ | ⟨m, h1, h2, h3, h4, h5⟩
        · exact Or.inl ⟨h1, fun m g1 g2 => by
            by_cases g : m = p
            · rw [g]; exact cc
            · exact h2 m (by omega) g2⟩
        · exact Or.inr ⟨m, by omega, h2, h3, h4, fun m' g1 g2 => by
            by_cases g : m' = p
            · rw [g]; exact cc
            · exact h5 m' (by omega) g2⟩
    · refine ⟨nI p, ?_, Or.inr ⟨p, Nat.le_refl _, by omega, rfl, cc, fun m' g1 g2 => by omega⟩⟩
      simp only [F_X12_firstNotBarred_c2, bd_some, p_ok, o57, eq, elk, c1, u1, u2, u3, ip, kp, lp, v2, w1, w2, w4, hb, cc, s_o0 hS, s_r0_0 hS, s_r0_1 hS, s_r0_10 hS, s_r0_11 hS, s_r0_12 hS, s_r0_14 hS, s_r0_16 hS, s_r0_19 hS, s_r0_7 hS, s_r0_8 hS, s_r0_9 hS, s_o26 hS, s_r26_0 hS, s_r26_1 hS, s_r26_3 hS, and_self, true_and, not_false_eq_true, ↓reduceIte]
/-- the best of the first k -/
def bst (e : Nat → Prop) (t : Nat → Nat) (k : Nat) (b : Int32) : Prop := (b = -1 ∧ ∀ j, j < k → ¬ e j) ∨ ∃ x : Nat, x < k ∧ b = nI x ∧ e x ∧ ∀ j, j < k → e j → t x ≤ t j
theorem bst_no {e : Nat → Prop} {t : Nat → Nat} {k : Nat} {b : Int32} (h : bst e t k b) (hk : ¬ e k) : bst e t (k + 1) b := by
  rcases h with ⟨h1, h2⟩ | ⟨x, h1, h2, h3, h4⟩
  · exact Or.inl ⟨h1, fun j hj he => by
      by_cases g : j = k
      · rw [g] at he; exact hk he
      · exact h2 j (by omega) he⟩
  · exact Or.inr ⟨x, by omega, h2, h3, fun j hj he => by
      by_cases g : j = k
      · rw [g] at he; exact absurd he hk
      · exact h4 j (by omega) he⟩
theorem m_next {m : p_M} {N i : Nat} {kd tn : Nat → Nat} {lk : Int32} (i4 : i < 4) (hN : N ≤ 40) (e62 : mI m 65 62 = nI N) (elk : mI m 87 i = lk) (hl : okB lk) (hkd : ∀ j, j < N → kd j ≤ 5 ∧ mI m 91 j = nI (kd j)) (htn : ∀ j, j < N → mI m 96 j = 1 → tn j < 64 ∧ mI m 102 j = nI (tn j)) (hcr : ∀ j, j < 36 → mI m 77 j = -1 ∨ ∃ x : Nat, x ≤ 100 ∧ mI m 77 j = nI x) : ∀ (r k n : Nat) (b : Int32), k + r = N → r < n → bst (fun j => wt m i j = true ∧ ¬ crr (mI m 77) lk (kd j) = -1) tn k b → ∃ b', F_X13_nextFor_c4 n (nI i) b (nI k) m = some (b', m) ∧ bst (fun j => wt m i j = true ∧ ¬ crr (mI m 77) lk (kd j) = -1) tn N b' := by
  have ii := ix_nI i4 (by decide)
  have ki := nI_clamp (show i < 2 ^ 31 by omega)
  intro r
  induction r with
  | zero =>
    intro k n b hk hn hb
    obtain ⟨n, rfl⟩ : ∃ k, n = k + 1 := ⟨n - 1, by omega⟩
    have hk : k = N := by omega
    subst hk
    have c1 : nI k ≤ nI k := nI_le (Nat.le_refl _) (by omega)
    refine ⟨b, ?_, hb⟩
    simp only [F_X13_nextFor_c4, tM, e62, c1, ↓reduceIte]
  | succ r ih =>
    intro k n b hk hn hb
    obtain ⟨n, rfl⟩ : ∃ k, n = k + 1 := ⟨n - 1, by omega⟩
    have c1 : ¬ nI N ≤ nI k := nI_ge (by omega) (by omega)
    have i1 := ix_nI (show k < 40 by omega) (by decide)
    have k1 := nI_clamp (show k < 2 ^ 31 by omega)
    have l1 : k < 40 := by omega
    have a1 : nI k + 1 = nI (k + 1) := nI_add k 1
    obtain ⟨d1, d2⟩ := hkd k (by omega)
    have keep : ¬ (wt m i k = true ∧ ¬ crr (mI m 77) lk (kd k) = -1) → ∃ b', F_X13_nextFor_c4 n (nI i) b (nI (k + 1)) m = some (b', m) ∧ bst (fun j => wt m i j = true ∧ ¬ crr (mI m 77) lk (kd j) = -1) tn N b' := fun h => ih (k + 1) n b (by omega) (by omega) (bst_no hb h)
    by_cases c2 : mI m 96 k = 1
    · by_cases c3 : mI m 97 k = nI i
      · have hw : wt m i k = true := decide_eq_true ⟨c2, c3⟩
        have h71 : (¬ crr (mI m 77) lk (kd k) = -1) → ∃ b', F_X13_nextFor_c71 (F_X13_nextFor_c4 n) (nI i) b (nI k) m = some (b', m) ∧ bst (fun j => wt m i j = true ∧ ¬ crr (mI m 77) lk (kd j) = -1) tn N b' := fun hc => by
          rcases hb with ⟨rfl, h⟩ | ⟨x, hx, rfl, hex, hmin⟩
          · have q : ((-1 : Int32) < 0) := by decide
            simp only [F_X13_nextFor_c71, F_X13_nextFor_c90, F_X13_nextFor_c92, q, ↓reduceIte, a1]
            refine ih (k + 1) n (nI k) (by omega) (by omega) (Or.inr ⟨k, by omega, rfl, ⟨hw, hc⟩, fun j hj hej => ?_⟩)
            by_cases g : j = k
            · rw [g]; exact Nat.le_refl _
            · exact absurd hej (h j (by omega))
          · have nx : ¬ nI x < 0 := nI_pos (by omega)
            have ix := ix_nI (show x < 40 by omega) (by decide)
            have kx := nI_clamp (show x < 2 ^ 31 by omega)
            have lx : x < 40 := by omega
            obtain ⟨t1, t2⟩ := htn k (by omega) c2
            obtain ⟨u1, u2⟩ := htn x (by omega) (of_decide_eq_true hex.1).1
            by_cases ct : tn x ≤ tn k
            · have ct' : nI (tn x) ≤ nI (tn k) := nI_le ct (by omega)
              simp only [F_X13_nextFor_c71, F_X13_nextFor_c92, p_ok, aM, nx, i1, k1, l1, ix, kx, lx, u2, t2, ct', a1, and_self, true_and, not_false_eq_true, ↓reduceIte]
              refine ih (k + 1) n (nI x) (by omega) (by omega) (Or.inr ⟨x, by omega, rfl, hex, fun j hj hej => ?_⟩)
              by_cases g : j = k
              · rw [g]; exact ct
              · exact hmin j (by omega) hej
            · have ct' : ¬ nI (tn x) ≤ nI (tn k) := nI_ge (by omega) (by omega)
              simp only [F_X13_nextFor_c71, F_X13_nextFor_c90, F_X13_nextFor_c92, p_ok, aM, nx, i1, k1, l1, ix, kx, lx, u2, t2, ct', a1, and_self, true_and, not_false_eq_true, ↓reduceIte]
              refine ih (k + 1) n (nI k) (by omega) (by omega) (Or.inr ⟨k, by omega, rfl, ⟨hw, hc⟩, fun j hj hej => ?_⟩)
              by_cases g : j = k
              · rw [g]; exact Nat.le_refl _
              · have := hmin j (by omega) hej
                omega
        rcases hl with hl | ⟨q, hq, hl⟩
        · have c4 : lk < 0 := by rw [hl]; decide
          have hc : ¬ crr (mI m 77) lk (kd k) = -1 := by unfold crr; rw [if_pos hl]; decide
          obtain ⟨b', g1, g2⟩ := h71 hc
          refine ⟨b', ?_, g2⟩
          simp only [F_X13_nextFor_c4, p_ok, tM, aM, e62, c1, i1, k1, l1, c2, c3, ii, ki, i4, elk, c4, and_self, true_and, not_true_eq_false, not_false_eq_true, ↓reduceIte]
          exact g1
        · have c4 : ¬ lk < 0 := by rw [hl]; exact nI_pos (by omega)
          have kq := nI_clamp (show q < 2 ^ 31 by omega)
          have e : 6 * lk + nI (kd k) = nI (6 * q + kd k) := by rw [hl, show (6 : Int32) = nI 6 from rfl, pk_mul, nI_add]
          have i2 := ix_nI (show 6 * q + kd k < 36 by omega) (by decide)
          have k2 := nI_clamp (show 6 * q + kd k < 2 ^ 31 by omega)
          have l2 : 6 * q + kd k < 36 := by omega
          have ec : crr (mI m 77) lk (kd k) = mI m 77 (6 * q + kd k) := by
            unfold crr
            rw [if_neg (show ¬ lk = -1 from fun h => by rw [h] at c4; exact c4 (by decide)), hl, kq]
          rcases hcr _ l2 with h | ⟨x, hx, h⟩
          · have c5 : ¬ (0 : Int32) ≤ mI m 77 (6 * q + kd k) := by rw [h]; decide
            obtain ⟨b', g1, g2⟩ := keep (fun g => g.2 (ec.trans h))
            refine ⟨b', ?_, g2⟩
            simp only [F_X13_nextFor_c4, F_X13_nextFor_c92, p_ok, tM, aM, e62, c1, i1, k1, l1, c2, c3, ii, ki, i4, elk, c4, d2, e, i2, k2, l2, c5, a1, and_self, true_and, not_true_eq_false, not_false_eq_true, ↓reduceIte]
            exact g1
          · have c5 : (0 : Int32) ≤ mI m 77 (6 * q + kd k) := by rw [h]; exact nI_pos' (by omega)
            obtain ⟨b', g1, g2⟩ := h71 (by rw [ec, h]; exact nI_nm1 (by omega))
            refine ⟨b', ?_, g2⟩
            simp only [F_X13_nextFor_c4, p_ok, tM, aM, e62, c1, i1, k1, l1, c2, c3, ii, ki, i4, elk, c4, d2, e, i2, k2, l2, c5, and_self, true_and, not_true_eq_false, not_false_eq_true, ↓reduceIte]
            exact g1
      · obtain ⟨b', g1, g2⟩ := keep (fun g => c3 (of_decide_eq_true g.1).2)
        refine ⟨b', ?_, g2⟩
        simp only [F_X13_nextFor_c4, F_X13_nextFor_c92, p_ok, tM, aM, e62, c1, i1, k1, l1, c2, c3, a1, and_self, true_and, not_true_eq_false, not_false_eq_true, ↓reduceIte]
        exact g1
    · obtain ⟨b', g1, g2⟩ := keep (fun g => c2 (of_decide_eq_true g.1).1)
      refine ⟨b', ?_, g2⟩
      simp only [F_X13_nextFor_c4, F_X13_nextFor_c92, p_ok, tM, aM, e62, c1, i1, k1, l1, c2, a1, and_self, true_and, not_true_eq_false, not_false_eq_true, ↓reduceIte]
      exact g1
theorem c_lotAt2 {c m : p_M} (hS : Sh c) {N E : Nat} {lr : Nat → Nat} (hL : LstR (mg c m) N E lr) {j : Nat} (hj : j < N) (hk : mK c (lr j) = 5 ∧ lr j < mN c) : F_X12_lotAt 0 (nI j) c = some (0, lr j, c) := by
  obtain ⟨l1, l2, l3, l4, -, -⟩ := hL
  have l1 : mI c 37 2 = nI N := l1
  have l4 : (N = 0 ∧ mR c 37 1 = some (p_E + 3) ∨ 1 ≤ N ∧ mR c 37 1 = some E ∧ 113 ≤ E ∧ E < mN c ∧ mK c E = 25 ∧ N ≤ mL c E ∧ (mL c E = 10 ∨ mL c E = 15 ∨ mL c E = 22 ∨ mL c E = 33 ∨ mL c E = 49) ∧ ∀ j, j < N → mR c E j = some (lr j)) := l4
  rcases l4 with ⟨h0, -⟩ | ⟨h1, h2, h3, h4, h5, h6, -, h8⟩
  · omega
  · have c1 : 0 ≤ nI j ∧ nI j < nI N := ⟨nI_pos' (by omega), nI_lt hj (by omega)⟩
    have c2 : ¬ nI j < 0 := nI_pos (by omega)
    have kj := nI_clamp (show j < 2 ^ 31 by omega)
    have lj : j < mL c E := by omega
    have o37 : 37 < mN c ∧ mK c 37 = 0 := ⟨(s_o37 hS).2, (s_o37 hS).1⟩
    simp only [F_X12_lotAt, bd_some, p_ok, s_o0 hS, s_r0_0 hS, s_r0_1 hS, s_r0_10 hS, s_r0_11 hS, s_r0_12 hS, s_r0_14 hS, s_r0_16 hS, s_r0_19 hS, s_r0_7 hS, s_r0_8 hS, s_r0_9 hS, o37, w_ix, l1, c1, c2, h2, h4, h5, kj, lj, h8 j hj, hk, and_self, true_and, not_false_eq_true, ↓reduceIte]
