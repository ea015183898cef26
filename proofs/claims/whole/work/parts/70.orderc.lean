/-! order: the class -/
theorem w_lesser {a : Option Nat} {y : Nat} (ha : ∀ x, a = some x → x < 2 ^ 31) (hy : y < 2 ^ 31) (μ : p_M) : F_X2_lesser (oN a) (nI y) μ = some (oN (mn a (some y)), μ) := by
  have ny : ¬ nI y = -1 := nI_n1 hy
  cases a with
  | none => simp only [F_X2_lesser, oN, not_true_eq_false, ↓reduceIte]; rfl
  | some x =>
    have hx := ha x rfl
    have nx : ¬ nI x = -1 := nI_n1 hx
    show F_X2_lesser (nI x) (nI y) μ = some (nI (if y < x then y else x), μ)
    simp only [F_X2_lesser, F_X2_lesser_c21, nx, ny, not_false_eq_true, ↓reduceIte]
    by_cases c : y < x
    · rw [if_pos c, if_pos (nI_lt c hx)]
    · rw [if_neg c, if_neg (show ¬ nI y < nI x from nI_nlt (by omega) hy)]
theorem w_lesser' {a d : Option Nat} (ha : ∀ x, a = some x → x < 2 ^ 31) (hd : ∀ x, d = some x → x < 2 ^ 31) (μ : p_M) : F_X2_lesser (oN a) (oN d) μ = some (oN (mn a d), μ) := by
  cases d with
  | some y => exact w_lesser ha (hd y rfl) μ
  | none =>
    rw [mn_none]
    cases a with
    | none => simp only [F_X2_lesser, oN, not_true_eq_false, ↓reduceIte]
    | some x =>
      have nx : ¬ nI x = -1 := nI_n1 (ha x rfl)
      simp only [F_X2_lesser, F_X2_lesser_c21, oN, nx, not_true_eq_false, not_false_eq_true, ↓reduceIte]
theorem ite_km {k m a b : Nat} (h : ¬ k = m) : (if k < m + 1 then a else b) = if k < m then a else b := by
  by_cases c : k < m
  · rw [if_pos c, if_pos (by omega)]
  · rw [if_neg c, if_neg (by omega)]
/-- what the class knows: sets below S are done, of S the first l, and of l those below m -/
def Wf (n : Nat) (c : Nat → Nat → Option Nat) (S l m T k : Nat) : Option Nat := if T.testBit k = true then (if rst T k = 0 then some 0 else if rst T k < S then DD n c T k else if rst T k = S then pl (DD n c S) c S k (if k < m then l + 1 else l) else none) else none
def TabC (n : Nat) (c : Nat → Nat → Option Nat) (f : Nat → Int32) (S l m : Nat) : Prop := ∀ T k, 1 ≤ T → T < 2 ^ n → k < n → f (9 * T + k) = oN (Wf n c S l m T k)
theorem TabC_ext {n : Nat} {c : Nat → Nat → Option Nat} {f : Nat → Int32} {S l m S' l' m' : Nat} (h : TabC n c f S l m) (e : ∀ T k, 1 ≤ T → T < 2 ^ n → k < n → Wf n c S l m T k = Wf n c S' l' m' T k) : TabC n c f S' l' m' := fun T k h1 h2 h3 => by rw [← e T k h1 h2 h3]; exact h T k h1 h2 h3
theorem c_go {n S l d : Nat} {c : Nat → Nat → Option Nat} {g b : Nat → Int32} (hn : n ≤ 9) (hS : S < 2 ^ n) (hS1 : 1 ≤ S) (hl : l < n) (hok : okK n g b) (hc : c = cB n g b) (hd : DD n c S l = some d) : ∀ (r m F : Nat) (μ : p_M), m + r = n → r < F → Sh μ → mI μ 26 2 = nI n → mI μ 27 = g → mI μ 28 = b → TabC n c (mI μ 29) S l m → ∃ μ', F_X2_goOn_c15 F 26 (nI S) (nI l) (nI d) (nI m) μ = some (0, μ') ∧ Fq [29] [] μ μ' ∧ TabC n c (mI μ' 29) S l n := by
  have h2 := two_n hn
  have hcb : bC c := by rw [hc]; exact cB_b hok
  have hbl : S.testBit l = true := by
    by_cases cb : S.testBit l = true
    · exact cb
    · rw [DD_eq (by omega), if_neg cb] at hd; cases hd
  have hdb : d ≤ 51200 := by have := DD_b hcb S l d (by omega) hd; omega
  intro r
  induction r with
  | zero =>
    intro m F μ hm hF hSh e2 e0 e1 hT
    obtain ⟨F, rfl⟩ : ∃ k, F = k + 1 := ⟨F - 1, by omega⟩
    have hm : m = n := by omega
    subst hm
    have c1 : nI m ≤ nI m := nI_le (Nat.le_refl _) (by omega)
    refine ⟨μ, ?_, Fq_refl μ, hT⟩
    simp only [F_X2_goOn_c15, p_ok, s_o26 hSh, s_r26_0 hSh, s_r26_1 hSh, s_r26_3 hSh, e2, c1, and_self, ↓reduceIte]
  | succ r ih =>
    intro m F μ hm hF hSh e2 e0 e1 hT
    obtain ⟨F, rfl⟩ : ∃ k, F = k + 1 := ⟨F - 1, by omega⟩
    have c1 : ¬ nI n ≤ nI m := nI_ge (by omega) (by omega)
    have im := ix_nI (show m < 9 by omega) (by decide)
    have km := nI_clamp (show m < 2 ^ 31 by omega)
    have lm : m < 9 := by omega
    have il := ix_nI (show l < 9 by omega) (by decide)
    have kl := nI_clamp (show l < 2 ^ 31 by omega)
    have ll : l < 9 := by omega
    have am : nI m + 1 = nI (m + 1) := nI_add m 1
    obtain ⟨x1, x2, h1, h2', b1, b2, hg⟩ := cB_get hok hl (show m < n by omega)
    rw [← hc] at hg
    have nx1 : ¬ nI x1 = -1 := nI_n1 (by omega)
    have m6 : nI x1 * 6 = nI (6 * x1) := by rw [show (6 : Int32) = nI 6 from rfl, pk_mul, Nat.mul_comm]
    have a6 : nI (6 * x1) + nI x2 = nI (6 * x1 + x2) := nI_add _ _
    have i6 := ix_nI (show 6 * x1 + x2 < 36 by omega) (by decide)
    have k6 := nI_clamp (show 6 * x1 + x2 < 2 ^ 31 by omega)
    have l6 : 6 * x1 + x2 < 36 := by omega
    have s2 := sh1 (show m ≤ 9 by omega)
    have ab := and_bit (s := S) (k := m) (by omega)
    have hbt : F_X2_between 26 (nI x1) (nI x2) μ = some (g (6 * x1 + x2), μ) := by
      simp only [F_X2_between, F_X2_between_c20, bd_some, p_ok, s_o26 hSh, s_r26_0 hSh, s_r26_1 hSh, s_r26_3 hSh, s_a27 hSh, s_l27 hSh, s_o27 hSh, nx1, m6, a6, i6, k6, l6, e0, and_self, true_and, not_false_eq_true, ↓reduceIte]
    by_cases cb : S.testBit m = false
    · have ab : (nI S &&& nI (2 ^ m) = 0) = True := by rw [ab]; exact eq_true cb
      rcases hg with ⟨g1, g2⟩ | ⟨y, hy, g1, g2⟩
      · -- barred
        have hT2 : TabC n c (mI μ 29) S l (m + 1) := TabC_ext hT (fun T k h1 h2 h3 => by
          unfold Wf
          by_cases c2 : T.testBit k = true
          · rw [if_pos c2, if_pos c2]
            by_cases c3 : rst T k = S
            · by_cases ck : k = m
              · subst ck
                rw [if_neg (show ¬ k < k by omega), if_pos (show k < k + 1 by omega), pl_s, if_pos hbl, g2, ad_none, mn_none]
              · rw [ite_km ck]
            · by_cases c4 : rst T k = 0
              · rw [if_pos c4, if_pos c4]
              · rw [if_neg c4, if_neg c4, if_neg c3, if_neg c3]
          · rw [if_neg c2, if_neg c2])
        obtain ⟨μ', p1, p2, p3⟩ := ih (m + 1) F μ (by omega) (by omega) hSh e2 e0 e1 hT2
        refine ⟨μ', ?_, p2, p3⟩
        simp only [F_X2_goOn_c15, F_X2_goOn_c93, bd_some, p_ok, s_o26 hSh, s_r26_0 hSh, s_r26_1 hSh, s_r26_3 hSh, s_a28 hSh, s_l28 hSh, s_o28 hSh, e2, c1, im, km, lm, il, kl, ll, e1, b1, b2, hbt, g1, s2, ab, am, and_self, true_and, not_true_eq_false, not_false_eq_true, ↓reduceIte]
        exact p1
      · have ny : ¬ nI y = -1 := nI_n1 (by omega)
        have o2 : nI S ||| nI (2 ^ m) = nI (S ||| 2 ^ m) := nI_or _ _
        have hor : S ||| 2 ^ m < 2 ^ n := or_lt hS (by omega)
        have m9 : nI (S ||| 2 ^ m) * 9 = nI (9 * (S ||| 2 ^ m)) := by rw [show (9 : Int32) = nI 9 from rfl, pk_mul, Nat.mul_comm]
        have a9 : nI (9 * (S ||| 2 ^ m)) + nI m = nI (9 * (S ||| 2 ^ m) + m) := nI_add _ _
        have i9 := ix_nI (show 9 * (S ||| 2 ^ m) + m < 4608 by omega) (by decide)
        have k9 := nI_clamp (show 9 * (S ||| 2 ^ m) + m < 2 ^ 31 by omega)
        have l9 : 9 * (S ||| 2 ^ m) + m < 4608 := by omega
        have hro := rst_or (s := S) (k := m) (by omega) lm cb
        have hgt := or_gt (s := S) (k := m) (by omega) lm cb
        have hW : Wf n c S l m (S ||| 2 ^ m) m = pl (DD n c S) c S m l := by
          unfold Wf
          rw [if_pos or_bit, hro, if_neg (show ¬ S = 0 by omega), if_neg (Nat.lt_irrefl S), if_pos rfl, if_neg (Nat.lt_irrefl m)]
        have hv := hT (S ||| 2 ^ m) m (by omega) hor (by omega)
        rw [hW] at hv
        have ady : nI d + nI y = nI (d + y) := nI_add d y
        have hls := w_lesser (a := pl (DD n c S) c S m l) (y := d + y) (fun x hx => by
          have := pl_b hcb (fun q w hw => DD_b hcb S q w (by omega) hw) l x hx
          omega) (by omega) μ
        have hnew : mn (pl (DD n c S) c S m l) (some (d + y)) = pl (DD n c S) c S m (l + 1) := by
          rw [pl_s, if_pos hbl, hd, g2]
          rfl
        rw [hnew] at hls
        have hT2 : TabC n c (mI (sI μ 29 (9 * (S ||| 2 ^ m) + m) (oN (pl (DD n c S) c S m (l + 1)))) 29) S l (m + 1) := by
          intro T k h1 h2 h3
          by_cases ce : T = S ||| 2 ^ m ∧ k = m
          · obtain ⟨rfl, rfl⟩ := ce
            simp only [mI_sI, mR_sI, mK_sI, mN_sI, mL_sI, mI_sG, mR_sG, mK_sG, mN_sG, mL_sG, mI_sJ, mR_sJ, mK_sJ, mN_sJ, mL_sJ, mI_sA, mR_sA, mK_sA, mN_sA, mL_sA, z_up, ↓reduceIte, reduceIte, Nat.reduceEqDiff, true_and, and_true]
            unfold Wf
            rw [if_pos or_bit, hro, if_neg (show ¬ S = 0 by omega), if_neg (Nat.lt_irrefl S), if_pos rfl, if_pos (show k < k + 1 by omega)]
          · have cne : ¬ 9 * T + k = 9 * (S ||| 2 ^ m) + m := fun h => ce (by omega)
            simp only [mI_sI, mR_sI, mK_sI, mN_sI, mL_sI, mI_sG, mR_sG, mK_sG, mN_sG, mL_sG, mI_sJ, mR_sJ, mK_sJ, mN_sJ, mL_sJ, mI_sA, mR_sA, mK_sA, mN_sA, mL_sA, z_up, ↓reduceIte, reduceIte, Nat.reduceEqDiff, true_and, and_true, cne]
            rw [hT T k h1 h2 h3]
            congr 1
            unfold Wf
            by_cases c2 : T.testBit k = true
            · rw [if_pos c2, if_pos c2]
              by_cases c3 : rst T k = S
              · have ck : ¬ k = m := fun h => ce ⟨by rw [← or_rst (show T < 512 by omega) c2, c3, h], h⟩
                rw [ite_km ck]
              · by_cases c4 : rst T k = 0
                · rw [if_pos c4, if_pos c4]
                · rw [if_neg c4, if_neg c4, if_neg c3, if_neg c3]
            · rw [if_neg c2, if_neg c2]
        have fq : Fq [29] [] μ (sI μ 29 (9 * (S ||| 2 ^ m) + m) (oN (pl (DD n c S) c S m (l + 1)))) := Fq_sI (Fq_refl μ) (by decide)
        obtain ⟨μ', p1, p2, p3⟩ := ih (m + 1) F _ (by omega) (by omega) (Sh_q fq hSh) (by simp only [mI_sI, mR_sI, mK_sI, mN_sI, mL_sI, mI_sG, mR_sG, mK_sG, mN_sG, mL_sG, mI_sJ, mR_sJ, mK_sJ, mN_sJ, mL_sJ, mI_sA, mR_sA, mK_sA, mN_sA, mL_sA, z_up, ↓reduceIte, reduceIte, Nat.reduceEqDiff, true_and, and_true]; exact e2) (by simp only [mI_sI, mR_sI, mK_sI, mN_sI, mL_sI, mI_sG, mR_sG, mK_sG, mN_sG, mL_sG, mI_sJ, mR_sJ, mK_sJ, mN_sJ, mL_sJ, mI_sA, mR_sA, mK_sA, mN_sA, mL_sA, z_up, ↓reduceIte, reduceIte, Nat.reduceEqDiff, true_and, and_true]; exact e0) (by simp only [mI_sI, mR_sI, mK_sI, mN_sI, mL_sI, mI_sG, mR_sG, mK_sG, mN_sG, mL_sG, mI_sJ, mR_sJ, mK_sJ, mN_sJ, mL_sJ, mI_sA, mR_sA, mK_sA, mN_sA, mL_sA, z_up, ↓reduceIte, reduceIte, Nat.reduceEqDiff, true_and, and_true]; exact e1) hT2
        refine ⟨μ', ?_, Fq_trans fq p2, p3⟩
        simp only [F_X2_goOn_c15, F_X2_goOn_c93, bd_some, p_ok, p_let_eq, s_o26 hSh, s_r26_0 hSh, s_r26_1 hSh, s_r26_3 hSh, s_a28 hSh, s_l28 hSh, s_o28 hSh, s_a29 hSh, s_l29 hSh, s_o29 hSh, e2, c1, im, km, lm, il, kl, ll, e1, b1, b2, hbt, g1, s2, ab, ny, o2, m9, a9, i9, k9, l9, hv, ady, hls, am, and_self, true_and, not_true_eq_false, not_false_eq_true, ↓reduceIte]
        exact p1
    · have cb' : S.testBit m = true := by cases h : S.testBit m with
        | false => exact absurd h cb
        | true => rfl
      have ab : (nI S &&& nI (2 ^ m) = 0) = False := by rw [ab]; exact eq_false cb
      have hT2 : TabC n c (mI μ 29) S l (m + 1) := TabC_ext hT (fun T k h1 h2 h3 => by
        unfold Wf
        by_cases c2 : T.testBit k = true
        · rw [if_pos c2, if_pos c2]
          by_cases c3 : rst T k = S
          · have ck : ¬ k = m := fun h => by
              subst h
              have := rst_bit (k := k) (j := k) (show T < 512 by omega)
              rw [c3, cb', decide_eq_false (fun h => h rfl), Bool.and_false] at this
              cases this
            rw [ite_km ck]
          · by_cases c4 : rst T k = 0
            · rw [if_pos c4, if_pos c4]
            · rw [if_neg c4, if_neg c4, if_neg c3, if_neg c3]
        · rw [if_neg c2, if_neg c2])
      obtain ⟨μ', p1, p2, p3⟩ := ih (m + 1) F μ (by omega) (by omega) hSh e2 e0 e1 hT2
      refine ⟨μ', ?_, p2, p3⟩
      simp only [F_X2_goOn_c15, F_X2_goOn_c93, bd_some, p_ok, s_o26 hSh, s_r26_0 hSh, s_r26_1 hSh, s_r26_3 hSh, s_a28 hSh, s_l28 hSh, s_o28 hSh, e2, c1, im, km, lm, il, kl, ll, e1, b1, b2, hbt, s2, ab, am, and_self, true_and, not_true_eq_false, not_false_eq_true, ↓reduceIte]
      exact p1
