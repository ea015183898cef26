theorem Wf_self {n S l m k : Nat} {c : Nat → Nat → Option Nat} (hS : S < 512) : Wf n c S l m S k = DD n c S k := by
  unfold Wf
  by_cases cb : S.testBit k = true
  · rw [if_pos cb]
    have h := rst_lt hS cb
    by_cases c0 : rst S k = 0
    · rw [if_pos c0, DD_eq hS, if_pos cb, if_pos c0]
    · rw [if_neg c0, if_pos h]
  · rw [if_neg cb, DD_eq hS, if_neg cb]
theorem c_ll {n S : Nat} {c : Nat → Nat → Option Nat} {g b : Nat → Int32} (hn : n ≤ 9) (hS : S < 2 ^ n) (hS1 : 1 ≤ S) (hok : okK n g b) (hc : c = cB n g b) (K58 : Nat → Int32 → Int32 → p_M → Option (Int32 × p_M)) (v1 : Int32) : ∀ (r l F : Nat) (μ : p_M), l + r = n → r < F → Sh μ → mI μ 26 2 = nI n → mI μ 27 = g → mI μ 28 = b → TabC n c (mI μ 29) S l 0 → ∃ μ', F_X2_leastSum_c65 K58 F 26 v1 (nI S) (nI l) μ = K58 26 v1 (nI (S + 1)) μ' ∧ Fq [29] [] μ μ' ∧ TabC n c (mI μ' 29) (S + 1) 0 0 := by
  have h2 := two_n hn
  have hcb : bC c := by rw [hc]; exact cB_b hok
  intro r
  induction r with
  | zero =>
    intro l F μ hl hF hSh e2 e0 e1 hT
    obtain ⟨F, rfl⟩ : ∃ k, F = k + 1 := ⟨F - 1, by omega⟩
    have hl : l = n := by omega
    subst hl
    have c1 : nI l ≤ nI l := nI_le (Nat.le_refl _) (by omega)
    have aS : nI S + 1 = nI (S + 1) := nI_add S 1
    refine ⟨μ, ?_, Fq_refl μ, TabC_ext hT (fun T k h1 h2 h3 => ?_)⟩
    · simp only [F_X2_leastSum_c65, p_ok, s_o26 hSh, s_r26_0 hSh, s_r26_1 hSh, s_r26_3 hSh, e2, c1, aS, and_self, ↓reduceIte]
    · unfold Wf
      by_cases c2 : T.testBit k = true
      · rw [if_pos c2, if_pos c2]
        by_cases c3 : rst T k = 0
        · rw [if_pos c3, if_pos c3]
        · rw [if_neg c3, if_neg c3]
          by_cases c4 : rst T k < S
          · rw [if_pos c4, if_pos (show rst T k < S + 1 by omega)]
          · rw [if_neg c4]
            by_cases c5 : rst T k = S
            · rw [if_pos c5, if_pos (show rst T k < S + 1 by omega), if_neg (Nat.not_lt_zero k), DD_eq (show T < 512 by omega), if_pos c2, if_neg c3, c5]
            · rw [if_neg c5, if_neg (show ¬ rst T k < S + 1 by omega)]
              split
              · rw [if_neg (Nat.not_lt_zero k)]; rfl
              · rfl
      · rw [if_neg c2, if_neg c2]
  | succ r ih =>
    intro l F μ hl hF hSh e2 e0 e1 hT
    obtain ⟨F, rfl⟩ : ∃ k, F = k + 1 := ⟨F - 1, by omega⟩
    have c1 : ¬ nI n ≤ nI l := nI_ge (by omega) (by omega)
    have al : nI l + 1 = nI (l + 1) := nI_add l 1
    have m9 : nI S * 9 = nI (9 * S) := by rw [show (9 : Int32) = nI 9 from rfl, pk_mul, Nat.mul_comm]
    have a9 : nI (9 * S) + nI l = nI (9 * S + l) := nI_add _ _
    have i9 := ix_nI (show 9 * S + l < 4608 by omega) (by decide)
    have k9 := nI_clamp (show 9 * S + l < 2 ^ 31 by omega)
    have l9 : 9 * S + l < 4608 := by omega
    have hv := hT S l hS1 hS (by omega)
    rw [Wf_self (by omega)] at hv
    cases hd : DD n c S l with
    | none =>
      rw [hd] at hv
      have hv : mI μ 29 (9 * S + l) = -1 := hv
      have hT2 : TabC n c (mI μ 29) S (l + 1) 0 := TabC_ext hT (fun T k h1 h2 h3 => by
        unfold Wf
        rw [if_neg (Nat.not_lt_zero k), if_neg (Nat.not_lt_zero k), pl_s, hd]
        have e : mn (pl (DD n c S) c S k l) (ad none (c l k)) = pl (DD n c S) c S k l := by
          have : ad none (c l k) = none := by cases c l k <;> rfl
          rw [this, mn_none]
        rw [e]
        by_cases cb : S.testBit l = true
        · rw [if_pos cb]
        · rw [if_neg cb])
      obtain ⟨μ', p1, p2, p3⟩ := ih (l + 1) F μ (by omega) (by omega) hSh e2 e0 e1 hT2
      refine ⟨μ', ?_, p2, p3⟩
      simp only [F_X2_leastSum_c65, F_X2_leastSum_c94, bd_some, p_ok, s_o26 hSh, s_r26_0 hSh, s_r26_1 hSh, s_r26_3 hSh, s_a29 hSh, s_l29 hSh, s_o29 hSh, e2, c1, m9, a9, i9, k9, l9, hv, al, and_self, true_and, not_false_eq_true, ↓reduceIte]
      exact p1
    | some d =>
      rw [hd] at hv
      have hv : mI μ 29 (9 * S + l) = nI d := hv
      have hdb := DD_b hcb S l d (by omega) hd
      have nd : ¬ nI d = -1 := nI_n1 (by omega)
      obtain ⟨μ1, g1, g2, g3⟩ := c_go hn hS hS1 (show l < n by omega) hok hc hd n 0 p_fu μ (by omega) (by rw [show p_fu = 99999 + 1 from rfl]; omega) hSh e2 e0 e1 hT
      have g1 : F_X2_goOn_c15 p_fu 26 (nI S) (nI l) (nI d) 0 μ = some (0, μ1) := g1
      have go : F_X2_goOn 26 (nI S) (nI l) μ = some (0, μ1) := by
        simp only [F_X2_goOn, bd_some, p_ok, s_o26 hSh, s_r26_0 hSh, s_r26_1 hSh, s_r26_3 hSh, s_a29 hSh, s_l29 hSh, s_o29 hSh, m9, a9, i9, k9, l9, hv, g1, and_self, true_and, not_false_eq_true, ↓reduceIte]
      have hT2 : TabC n c (mI μ1 29) S (l + 1) 0 := TabC_ext g3 (fun T k h1 h2 h3 => by
        unfold Wf
        rw [if_pos h3, if_neg (Nat.not_lt_zero k)])
      obtain ⟨μ', p1, p2, p3⟩ := ih (l + 1) F μ1 (by omega) (by omega) (Sh_q g2 hSh) ((congrFun (Fq_row g2 26 (by decide)) 2).trans e2) ((Fq_row g2 27 (by decide)).trans e0) ((Fq_row g2 28 (by decide)).trans e1) hT2
      refine ⟨μ', ?_, Fq_trans g2 p2, p3⟩
      simp only [F_X2_leastSum_c65, F_X2_leastSum_c94, bd_some, p_ok, s_o26 hSh, s_r26_0 hSh, s_r26_1 hSh, s_r26_3 hSh, s_a29 hSh, s_l29 hSh, s_o29 hSh, e2, c1, m9, a9, i9, k9, l9, hv, nd, go, al, and_self, true_and, not_false_eq_true, ↓reduceIte]
      exact p1
theorem c_set {n all : Nat} {c : Nat → Nat → Option Nat} {g b : Nat → Int32} (hn : n ≤ 9) (hall : all < 2 ^ n) (hok : okK n g b) (hc : c = cB n g b) : ∀ (r S F : Nat) (μ : p_M), S + r = all → r < F → 1 ≤ S → Sh μ → mI μ 26 2 = nI n → mI μ 27 = g → mI μ 28 = b → TabC n c (mI μ 29) S 0 0 → ∃ μ', F_X2_leastSum_c58 F 26 (nI all) (nI S) μ = F_X2_leastSum_c110 p_fu 26 (nI all) (-1) 0 μ' ∧ Fq [29] [] μ μ' ∧ TabC n c (mI μ' 29) all 0 0 := by
  have h2 := two_n hn
  intro r
  induction r with
  | zero =>
    intro S F μ hS hF h1 hSh e2 e0 e1 hT
    obtain ⟨F, rfl⟩ : ∃ k, F = k + 1 := ⟨F - 1, by omega⟩
    have hS : S = all := by omega
    subst hS
    have c1 : nI S ≤ nI S := nI_le (Nat.le_refl _) (by omega)
    refine ⟨μ, ?_, Fq_refl μ, hT⟩
    simp only [F_X2_leastSum_c58, c1, ↓reduceIte]
  | succ r ih =>
    intro S F μ hS hF h1 hSh e2 e0 e1 hT
    obtain ⟨F, rfl⟩ : ∃ k, F = k + 1 := ⟨F - 1, by omega⟩
    have c1 : ¬ nI all ≤ nI S := nI_ge (by omega) (by omega)
    obtain ⟨μ1, p1, p2, p3⟩ := c_ll hn (show S < 2 ^ n by omega) h1 hok hc (F_X2_leastSum_c58 F) (nI all) n 0 p_fu μ (by omega) (by rw [show p_fu = 99999 + 1 from rfl]; omega) hSh e2 e0 e1 hT
    have p1 : F_X2_leastSum_c65 (F_X2_leastSum_c58 F) p_fu 26 (nI all) (nI S) 0 μ = _ := p1
    obtain ⟨μ2, q1, q2, q3⟩ := ih (S + 1) F μ1 (by omega) (by omega) (by omega) (Sh_q p2 hSh) ((congrFun (Fq_row p2 26 (by decide)) 2).trans e2) ((Fq_row p2 27 (by decide)).trans e0) ((Fq_row p2 28 (by decide)).trans e1) p3
    refine ⟨μ2, ?_, Fq_trans p2 q2, q3⟩
    simp only [F_X2_leastSum_c58, c1, ↓reduceIte]
    exact p1.trans q1
theorem c_fin {n all : Nat} {c : Nat → Nat → Option Nat} (hn : n ≤ 9) (hall : all < 2 ^ n) (h1 : 1 ≤ all) (hcb : bC c) (μ : p_M) (hSh : Sh μ) (e2 : mI μ 26 2 = nI n) (hT : TabC n c (mI μ 29) all 0 0) : ∀ (r k F : Nat), k + r = n → r < F → F_X2_leastSum_c110 F 26 (nI all) (oN (fn (DD n c all) k)) (nI k) μ = some (oN (fn (DD n c all) n), μ) := by
  have h2 := two_n hn
  have bD : ∀ k x, DD n c all k = some x → x ≤ 51100 := fun k x h => by have := DD_b hcb all k x (by omega) h; omega
  intro r
  induction r with
  | zero =>
    intro k F hk hF
    obtain ⟨F, rfl⟩ : ∃ k, F = k + 1 := ⟨F - 1, by omega⟩
    have hk : k = n := by omega
    subst hk
    have c1 : nI k ≤ nI k := nI_le (Nat.le_refl _) (by omega)
    simp only [F_X2_leastSum_c110, p_ok, s_o26 hSh, s_r26_0 hSh, s_r26_1 hSh, s_r26_3 hSh, e2, c1, and_self, ↓reduceIte]
  | succ r ih =>
    intro k F hk hF
    obtain ⟨F, rfl⟩ : ∃ k, F = k + 1 := ⟨F - 1, by omega⟩
    have c1 : ¬ nI n ≤ nI k := nI_ge (by omega) (by omega)
    have m9 : nI all * 9 = nI (9 * all) := by rw [show (9 : Int32) = nI 9 from rfl, pk_mul, Nat.mul_comm]
    have a9 : nI (9 * all) + nI k = nI (9 * all + k) := nI_add _ _
    have i9 := ix_nI (show 9 * all + k < 4608 by omega) (by decide)
    have k9 := nI_clamp (show 9 * all + k < 2 ^ 31 by omega)
    have l9 : 9 * all + k < 4608 := by omega
    have ak : nI k + 1 = nI (k + 1) := nI_add k 1
    have hv := hT all k h1 hall (by omega)
    rw [Wf_self (by omega)] at hv
    have hl := w_lesser' (a := fn (DD n c all) k) (d := DD n c all k) (fun x hx => by have := fn_b bD k x hx; omega) (fun x hx => by have := bD k x hx; omega) μ
    have r1 := ih (k + 1) F (by omega) (by omega)
    simp only [F_X2_leastSum_c110, bd_some, p_ok, s_o26 hSh, s_r26_0 hSh, s_r26_1 hSh, s_r26_3 hSh, s_a29 hSh, s_l29 hSh, s_o29 hSh, e2, c1, m9, a9, i9, k9, l9, ak, hv, hl, and_self, true_and, not_false_eq_true, ↓reduceIte]
    exact r1
theorem pow_iff {T k : Nat} (hT : T < 512) (hk : k < 9) : (T.testBit k = true ∧ rst T k = 0) ↔ T = 2 ^ k := by
  constructor
  · intro h
    have := or_rst hT h.1
    rw [h.2, Nat.zero_or] at this
    exact this.symm
  · intro h
    subst h
    have h1 : (2 ^ k).testBit k = true := by rw [Nat.testBit_two_pow, decide_eq_true rfl]
    have h2 := rst_or (s := 0) (k := k) (by decide) hk (Nat.zero_testBit k)
    rw [Nat.zero_or] at h2
    exact ⟨h1, h2⟩
theorem c_one {n : Nat} (hn : n ≤ 9) : ∀ (r i F : Nat) (μ : p_M), i + r = n → r < F → Sh μ → mI μ 26 2 = nI n → (∀ T k, 1 ≤ T → T < 2 ^ n → k < n → mI μ 29 (9 * T + k) = if T = 2 ^ k ∧ k < i then 0 else -1) → ∃ μ', F_X2_leastSum_c19 F 26 (nI i) μ = F_X2_leastSum_c58 p_fu 26 (nI (2 ^ n - 1)) 1 μ' ∧ Fq [29] [] μ μ' ∧ (∀ T k, 1 ≤ T → T < 2 ^ n → k < n → mI μ' 29 (9 * T + k) = if T = 2 ^ k then 0 else -1) := by
  have h2 := two_n hn
  intro r
  induction r with
  | zero =>
    intro i F μ hi hF hSh e2 hT
    obtain ⟨F, rfl⟩ : ∃ k, F = k + 1 := ⟨F - 1, by omega⟩
    have hi : i = n := by omega
    subst hi
    have c1 : nI i ≤ nI i := nI_le (Nat.le_refl _) (by omega)
    have sh := sh1 hn
    have hp := Nat.two_pow_pos i
    have sb : nI (2 ^ i) - 1 = nI (2 ^ i - 1) := pk_sub (b := 1) (by omega)
    refine ⟨μ, ?_, Fq_refl μ, fun T k h1 h2 h3 => ?_⟩
    · simp only [F_X2_leastSum_c19, p_ok, s_o26 hSh, s_r26_0 hSh, s_r26_1 hSh, s_r26_3 hSh, e2, c1, sh, sb, and_self, ↓reduceIte]
    · rw [hT T k h1 h2 h3]
      by_cases c : T = 2 ^ k
      · rw [if_pos c, if_pos ⟨c, h3⟩]
      · rw [if_neg c, if_neg (fun h => c h.1)]
  | succ r ih =>
    intro i F μ hi hF hSh e2 hT
    obtain ⟨F, rfl⟩ : ∃ k, F = k + 1 := ⟨F - 1, by omega⟩
    have c1 : ¬ nI n ≤ nI i := nI_ge (by omega) (by omega)
    have sh := sh1 (show i ≤ 9 by omega)
    have hp : 2 ^ i < 2 ^ n := Nat.pow_lt_pow_right (by decide) (by omega)
    have m9 : nI (2 ^ i) * 9 = nI (9 * 2 ^ i) := by rw [show (9 : Int32) = nI 9 from rfl, pk_mul, Nat.mul_comm]
    have a9 : nI (9 * 2 ^ i) + nI i = nI (9 * 2 ^ i + i) := nI_add _ _
    have i9 := ix_nI (show 9 * 2 ^ i + i < 4608 by omega) (by decide)
    have k9 := nI_clamp (show 9 * 2 ^ i + i < 2 ^ 31 by omega)
    have l9 : 9 * 2 ^ i + i < 4608 := by omega
    have ai : nI i + 1 = nI (i + 1) := nI_add i 1
    have fq : Fq [29] [] μ (sI μ 29 (9 * 2 ^ i + i) 0) := Fq_sI (Fq_refl μ) (by decide)
    obtain ⟨μ', p1, p2, p3⟩ := ih (i + 1) F (sI μ 29 (9 * 2 ^ i + i) 0) (by omega) (by omega) (Sh_q fq hSh) (by simp only [mI_sI, mR_sI, mK_sI, mN_sI, mL_sI, mI_sG, mR_sG, mK_sG, mN_sG, mL_sG, mI_sJ, mR_sJ, mK_sJ, mN_sJ, mL_sJ, mI_sA, mR_sA, mK_sA, mN_sA, mL_sA, z_up, ↓reduceIte, reduceIte, Nat.reduceEqDiff, true_and, and_true]; exact e2) (fun T k h1 h2 h3 => by
      by_cases c : T = 2 ^ i ∧ k = i
      · obtain ⟨rfl, rfl⟩ := c
        simp only [mI_sI, mR_sI, mK_sI, mN_sI, mL_sI, mI_sG, mR_sG, mK_sG, mN_sG, mL_sG, mI_sJ, mR_sJ, mK_sJ, mN_sJ, mL_sJ, mI_sA, mR_sA, mK_sA, mN_sA, mL_sA, z_up, ↓reduceIte, reduceIte, Nat.reduceEqDiff, true_and, and_true]
        rw [if_pos (Nat.lt_succ_self k)]
      · have ne : ¬ 9 * T + k = 9 * 2 ^ i + i := fun h => c (by omega)
        simp only [mI_sI, mR_sI, mK_sI, mN_sI, mL_sI, mI_sG, mR_sG, mK_sG, mN_sG, mL_sG, mI_sJ, mR_sJ, mK_sJ, mN_sJ, mL_sJ, mI_sA, mR_sA, mK_sA, mN_sA, mL_sA, z_up, ↓reduceIte, reduceIte, Nat.reduceEqDiff, true_and, and_true, ne]
        rw [hT T k h1 h2 h3]
        by_cases c2 : T = 2 ^ k ∧ k < i
        · rw [if_pos c2, if_pos ⟨c2.1, by omega⟩]
        · rw [if_neg c2, if_neg (fun h => by
            by_cases ck : k = i
            · exact c ⟨by rw [h.1, ck], ck⟩
            · exact c2 ⟨h.1, by omega⟩)])
    refine ⟨μ', ?_, Fq_trans fq p2, p3⟩
    simp only [F_X2_leastSum_c19, bd_some, p_ok, p_let_eq, s_o26 hSh, s_r26_0 hSh, s_r26_1 hSh, s_r26_3 hSh, s_a29 hSh, s_l29 hSh, s_o29 hSh, e2, c1, sh, m9, a9, i9, k9, l9, ai, and_self, true_and, not_false_eq_true, ↓reduceIte]
    exact p1
theorem c_order {n : Nat} {g b : Nat → Int32} (hn : n ≤ 9) (hn1 : 1 ≤ n) (hok : okK n g b) (μ : p_M) (hSh : Sh μ) (e2 : mI μ 26 2 = nI n) (e0 : mI μ 27 = g) (e1 : mI μ 28 = b) : ∃ μ', F_X2_leastSum 26 μ = some (oN (fn (DD n (cB n g b) (2 ^ n - 1)) n), μ') ∧ Fq [29] [] μ μ' := by
  have h2 := two_n hn
  have h21 : 2 ≤ 2 ^ n := Nat.le_trans (by decide) (Nat.pow_le_pow_right (show 0 < 2 by decide) hn1)
  have fl := w_fill (v := -1) (s_a29 hSh) (s_l29 hSh) (by decide)
  have fq0 : Fq [29] [] μ (sA μ 29 (fun j => if j < 4608 then -1 else mI μ 29 j)) := Fq_sA (Fq_refl μ) (by decide)
  obtain ⟨μ1, p1, p2, p3⟩ := c_one hn n 0 p_fu (sA μ 29 (fun j => if j < 4608 then -1 else mI μ 29 j)) (by omega) (by rw [show p_fu = 99999 + 1 from rfl]; omega) (Sh_q fq0 hSh) (by simp only [mI_sI, mR_sI, mK_sI, mN_sI, mL_sI, mI_sG, mR_sG, mK_sG, mN_sG, mL_sG, mI_sJ, mR_sJ, mK_sJ, mN_sJ, mL_sJ, mI_sA, mR_sA, mK_sA, mN_sA, mL_sA, z_up, ↓reduceIte, reduceIte, Nat.reduceEqDiff, true_and, and_true]; exact e2) (fun T k h1 h2 h3 => by
    simp only [mI_sI, mR_sI, mK_sI, mN_sI, mL_sI, mI_sG, mR_sG, mK_sG, mN_sG, mL_sG, mI_sJ, mR_sJ, mK_sJ, mN_sJ, mL_sJ, mI_sA, mR_sA, mK_sA, mN_sA, mL_sA, z_up, ↓reduceIte, reduceIte, Nat.reduceEqDiff, true_and, and_true]
    rw [if_pos (show 9 * T + k < 4608 by omega), if_neg (fun h => Nat.not_lt_zero k h.2)])
  have fq1 : Fq [29] [] μ μ1 := Fq_trans fq0 p2
  have hT1 : TabC n (cB n g b) (mI μ1 29) 1 0 0 := fun T k h1 h2' h3 => by
    rw [p3 T k h1 h2' h3]
    unfold Wf
    by_cases c : T = 2 ^ k
    · obtain ⟨g1, g2⟩ := (pow_iff (show T < 512 by omega) (show k < 9 by omega)).mpr c
      rw [if_pos c, if_pos g1, if_pos g2]
      rfl
    · rw [if_neg c]
      by_cases cb : T.testBit k = true
      · have c0 : ¬ rst T k = 0 := fun h => c ((pow_iff (show T < 512 by omega) (show k < 9 by omega)).mp ⟨cb, h⟩)
        rw [if_pos cb, if_neg c0, if_neg (show ¬ rst T k < 1 by omega)]
        split
        · rw [if_neg (Nat.not_lt_zero k)]; rfl
        · rfl
      · rw [if_neg cb]; rfl
  obtain ⟨μ2, q1, q2, q3⟩ := c_set (c := cB n g b) (all := 2 ^ n - 1) hn (by omega) hok rfl (2 ^ n - 2) 1 p_fu μ1 (by omega) (by rw [show p_fu = 99999 + 1 from rfl]; omega) (by decide) (Sh_q fq1 hSh) ((congrFun (Fq_row fq1 26 (by decide)) 2).trans e2) ((Fq_row fq1 27 (by decide)).trans e0) ((Fq_row fq1 28 (by decide)).trans e1) hT1
  have fq2 : Fq [29] [] μ μ2 := Fq_trans fq1 q2
  have r1 := c_fin (c := cB n g b) (all := 2 ^ n - 1) hn (by omega) (by omega) (cB_b hok) μ2 (Sh_q fq2 hSh) ((congrFun (Fq_row fq2 26 (by decide)) 2).trans e2) q3 n 0 p_fu (by omega) (by rw [show p_fu = 99999 + 1 from rfl]; omega)
  have nz : ¬ nI n = 0 := fun h => by
    have := (nI_eq (show n < 2 ^ 31 by omega) (show 0 < 2 ^ 31 by decide)).mp h
    omega
  refine ⟨μ2, ?_, fq2⟩
  have p1 : F_X2_leastSum_c19 p_fu 26 0 _ = F_X2_leastSum_c58 p_fu 26 (nI (2 ^ n - 1)) (nI 1) μ1 := p1
  have r1 : F_X2_leastSum_c110 p_fu 26 (nI (2 ^ n - 1)) (-1) 0 μ2 = _ := r1
  simp only [F_X2_leastSum, bd_some, p_ok, s_o26 hSh, s_r26_0 hSh, s_r26_1 hSh, s_r26_3 hSh, e2, nz, fl, p1, q1, r1, and_self, not_false_eq_true, ↓reduceIte]
theorem A_order {μ : p_M} (hS : Sh μ) (hR : RKinds μ) : wp (F_X12_order 0 μ) fun a μ1 => wp (F_X13_order μ1) fun b μ2 => a = b ∧ Cn μ μ2 ∧ RKinds μ2 ∧ Fr [29, 79] [0] μ μ2 := by
  have hR0 := hR
  obtain ⟨r1, r2, n, hn, e1, e2, e3, e4⟩ := hR
  by_cases c0 : n = 0
  · subst c0
    have e1 : mI μ 26 2 = 0 := e1
    have e2 : mI μ 65 25 = 0 := e2
    have f : Fr [29, 79] [0] μ (sI μ 65 0 0) := by repeat (first | exact Fr_refl _ | refine Fr_s65 ?_ (by decide) | refine Fr_sI ?_ (by decide) | refine Fr_sA ?_ (by decide) | refine Fr_sJ ?_ | refine Fr_sG ?_)
    simp only [bd_some, p_let_eq, p_ok, mI_sI, mR_sI, mK_sI, mN_sI, mL_sI, mI_sG, mR_sG, mK_sG, mN_sG, mL_sG, mI_sJ, mR_sJ, mK_sJ, mN_sJ, mL_sJ, z_up, ↓reduceIte, and_self, true_and, and_true, false_and, and_false, not_true_eq_false, not_false_eq_true, Nat.reduceEqDiff, i_10, i_20, i_30, w_in, w_need1, w_need0, m_in, m_thr0, m_thr1, tM, aM, nI_1, nI_pred, reduceIte, wp_some, eq_self, bI_T, bI_F, F_X12_order, F_X2_leastSum, F_X13_order, s_o0 hS, s_r0_0 hS, s_r0_1 hS, s_r0_10 hS, s_r0_11 hS, s_r0_12 hS, s_r0_14 hS, s_r0_16 hS, s_r0_19 hS, s_r0_7 hS, s_r0_8 hS, s_r0_9 hS, s_o26 hS, s_r26_0 hS, s_r26_1 hS, s_r26_3 hS, e1, e2]
    exact ⟨Cn_eq rfl rfl, RKinds_fr f (by decide) hR0, f⟩
  · have hok : okK n (mI μ 27) (mI μ 28) := ⟨r2, e4⟩
    obtain ⟨μ1, p1, p2⟩ := c_order hn (by omega) hok μ hS e1 rfl rfl
    obtain ⟨μ2, q1, q2, q3⟩ := m_order hn (by omega) hok μ1 ((Fq_sc p2 25 rfl).trans e2) ((Fq_row p2 77 (by decide)).trans r1.symm) ((Fq_row p2 78 (by decide)).trans e3.symm)
    have f : Fr [29, 79] [0] μ μ2 := Fr_trans (Fr_mono (Fq_fr p2) (by decide) (by decide)) (Fr_mono (Fq_fr q2) (by decide) (by decide))
    simp only [bd_some, p_let_eq, p_ok, mI_sI, mR_sI, mK_sI, mN_sI, mL_sI, mI_sG, mR_sG, mK_sG, mN_sG, mL_sG, mI_sJ, mR_sJ, mK_sJ, mN_sJ, mL_sJ, z_up, ↓reduceIte, and_self, true_and, and_true, false_and, and_false, not_true_eq_false, not_false_eq_true, Nat.reduceEqDiff, i_10, i_20, i_30, w_in, w_need1, w_need0, m_in, m_thr0, m_thr1, tM, aM, nI_1, nI_pred, reduceIte, wp_some, eq_self, bI_T, bI_F, F_X12_order, s_o0 hS, s_r0_0 hS, s_r0_1 hS, s_r0_10 hS, s_r0_11 hS, s_r0_12 hS, s_r0_14 hS, s_r0_16 hS, s_r0_19 hS, s_r0_7 hS, s_r0_8 hS, s_r0_9 hS, s_o26 hS, s_r26_0 hS, s_r26_1 hS, s_r26_3 hS, p1, q1]
    refine ⟨Cn_eq ?_ ?_, RKinds_fr f (by decide) hR0, f⟩
    · rw [Fq_C q2, Fq_C p2]
    · rw [Fq_S q2, Fq_S p2]
