/-! the class seeks -/
abbrev sCl : List Nat := [15, 17, 18, 19, 20, 21, 22, 23, 24, 25]
/-- the array that stands outside -/
def oX2 (X : p_X) : Prop := (X 2).1 = 4 ∧ ∀ b, b ≤ 3 → (X 2).2 b = nI (us b)
def BC (μ : p_M) (B : BB) : Prop := match B with
  | none => mI μ 15 3 = -1
  | some q => mI μ 15 3 = nI q.1 ∧ mI μ 15 4 = nI q.2.1 ∧ q.1 ≤ 1000 ∧ q.2.1 ≤ 6 ∧ (∀ j, j < q.2.1 → mI μ 18 j = nI (q.2.2 j)) ∧ ∀ j, j < q.2.1 → q.2.2 j ≤ 3
def CWi (μ : p_M) (x y z : Nat) : Prop := mI μ 15 5 = nI x ∧ mI μ 15 6 = nI y ∧ mI μ 15 7 = nI z ∧ x ≤ 255 ∧ y ≤ 255 ∧ z ≤ 255
def CW (μ : p_M) (n : Nat) (w : Nat → Nat) : Prop := ∀ j, j < n → mI μ 17 j = nI (w j) ∧ w j ≤ 3
def St (μ : p_M) (n : Nat) (L : LK) (h x y z : Nat) (w : Nat → Nat) (B : BB) : Prop := Sh μ ∧ isL (mI μ (19 + n)) L h ∧ CWi μ x y z ∧ CW μ n w ∧ BC μ B
def Keep (μ μ' : p_M) (n : Nat) : Prop := Fq sCl [] μ μ' ∧ (∀ m, m ≤ n → mI μ' (19 + m) = mI μ (19 + m)) ∧ (∀ j, j < n → mI μ' 17 j = mI μ 17 j) ∧ ∀ j, 5 ≤ j → mI μ' 15 j = mI μ 15 j
theorem Keep_r (μ : p_M) (n : Nat) : Keep μ μ n := ⟨Fq_refl μ, fun _ _ => rfl, fun _ _ => rfl, fun _ _ => rfl⟩
theorem Keep_t {μ μ1 μ2 : p_M} {n : Nat} (h : Keep μ μ1 n) (g : Keep μ1 μ2 n) : Keep μ μ2 n := ⟨Fq_trans h.1 g.1, fun m hm => (g.2.1 m hm).trans (h.2.1 m hm), fun j hj => (g.2.2.1 j hj).trans (h.2.2.1 j hj), fun j hj => (g.2.2.2 j hj).trans (h.2.2.2 j hj)⟩
theorem Keep_m {μ μ1 : p_M} {n m : Nat} (h : Keep μ μ1 n) (hm : m ≤ n) : Keep μ μ1 m := ⟨h.1, fun q hq => h.2.1 q (by omega), fun j hj => h.2.2.1 j (by omega), h.2.2.2⟩
theorem St_k {μ μ' : p_M} {n h x y z : Nat} {L : LK} {w : Nat → Nat} {B B' : BB} (s : St μ n L h x y z w B) (k : Keep μ μ' n) (b : BC μ' B') : St μ' n L h x y z w B' := by
  obtain ⟨s1, s2, ⟨i1, i2, i3, i4⟩, s4, s5⟩ := s
  obtain ⟨k1, k2, k3, k4⟩ := k
  refine ⟨Sh_q k1 s1, ?_, ⟨(k4 5 (by decide)).trans i1, (k4 6 (by decide)).trans i2, (k4 7 (by decide)).trans i3, i4⟩, fun j hj => ?_, b⟩
  · rw [k2 n (Nat.le_refl _)]; exact s2
  · rw [k3 j hj]; exact s4 j hj
theorem s_r16 {μ : p_M} (h : Sh μ) {j : Nat} (hj : j < 7) : mR μ 16 j = some (19 + j) := by
  have : j = 0 ∨ j = 1 ∨ j = 2 ∨ j = 3 ∨ j = 4 ∨ j = 5 ∨ j = 6 := by omega
  rcases this with rfl | rfl | rfl | rfl | rfl | rfl | rfl
  · exact s_r16_0 h
  · exact s_r16_1 h
  · exact s_r16_2 h
  · exact s_r16_3 h
  · exact s_r16_4 h
  · exact s_r16_5 h
  · exact s_r16_6 h
theorem s_o19v {μ : p_M} (h : Sh μ) {j : Nat} (hj : j < 7) : mK μ (19 + j) = 4 ∧ 19 + j < mN μ := by
  have : j = 0 ∨ j = 1 ∨ j = 2 ∨ j = 3 ∨ j = 4 ∨ j = 5 ∨ j = 6 := by omega
  rcases this with rfl | rfl | rfl | rfl | rfl | rfl | rfl
  · exact s_o19 h
  · exact s_o20 h
  · exact s_o21 h
  · exact s_o22 h
  · exact s_o23 h
  · exact s_o24 h
  · exact s_o25 h
theorem c_keep {μ : p_M} {n cost : Nat} {w : Nat → Nat} {B : BB} (hS : Sh μ) (hn : n ≤ 6) (hc : cost ≤ 1000) (hW : CW μ n w) (hB : BC μ B) : ∃ μ', F_X9_keepIfBetter 15 (nI n) (nI cost) μ = some (0, μ') ∧ Keep μ μ' 6 ∧ BC μ' (if btr B cost n = true then some (cost, n, w) else B) := by
  have kn := nI_clamp (show n < 2 ^ 31 by omega)
  have z0 : Int32.toNatClampNeg 0 = 0 := rfl
  have z1 : ¬ (0 : Int32) < 0 := by decide
  have z2 : ¬ nI n < 0 := nI_pos (by omega)
  have hN : ¬ mN μ ≤ 18 := by have := (s_o18 hS).2; omega
  have l6 : ¬ 6 < 0 + n := by omega
  have l6' : 0 + n ≤ 6 := by omega
  have do32 : ∃ μ', F_X9_keepIfBetter_c32 15 (nI n) (nI cost) μ = some (0, μ') ∧ Keep μ μ' 6 ∧ BC μ' (some (cost, n, w)) := by
    refine ⟨sA (sI (sI μ 15 3 (nI cost)) 15 4 (nI n)) 18 (va_cpy (mI μ 17) (mI μ 18) 0 0 n), ?_, ⟨Fq_sA (Fq_sI (Fq_sI (Fq_refl μ) (by decide)) (by decide)) (by decide), fun m hm => ?_, fun j _ => ?_, fun j hj => ?_⟩, ?_⟩
    · have s18 := s_a18 hS
      have s17 := s_a17 hS
      simp only [F_X9_keepIfBetter_c32, F_X9_keepIfBetter_c56, bd_some, p_ok, p_let_eq, s_o15 hS, s_r15_0 hS, s_r15_1 hS, s_r15_2 hS, s_a17 hS, s_l17 hS, s_o17 hS, s_a18 hS, s_l18 hS, s_o18 hS, mR_sI, mK_sI, mL_sI, mN_sI, mI_sI, Nat.reduceEqDiff, z0, z1, z2, kn, hN, l6, l6', and_self, true_and, and_true, or_false, or_self, not_true_eq_false, not_false_eq_true, ↓reduceIte]
    · have h1 : ¬ 19 + m = 18 := by omega
      have h2 : ¬ 19 + m = 15 := by omega
      simp only [mI_sI, mR_sI, mK_sI, mN_sI, mL_sI, mI_sG, mR_sG, mK_sG, mN_sG, mL_sG, mI_sJ, mR_sJ, mK_sJ, mN_sJ, mL_sJ, mI_sA, mR_sA, mK_sA, mN_sA, mL_sA, z_up, ↓reduceIte, reduceIte, Nat.reduceEqDiff, true_and, and_true, h1, h2]
    · simp only [mI_sI, mR_sI, mK_sI, mN_sI, mL_sI, mI_sG, mR_sG, mK_sG, mN_sG, mL_sG, mI_sJ, mR_sJ, mK_sJ, mN_sJ, mL_sJ, mI_sA, mR_sA, mK_sA, mN_sA, mL_sA, z_up, ↓reduceIte, reduceIte, Nat.reduceEqDiff, true_and, and_true]
    · have h1 : ¬ j = 4 := by omega
      have h2 : ¬ j = 3 := by omega
      simp only [mI_sI, mR_sI, mK_sI, mN_sI, mL_sI, mI_sG, mR_sG, mK_sG, mN_sG, mL_sG, mI_sJ, mR_sJ, mK_sJ, mN_sJ, mL_sJ, mI_sA, mR_sA, mK_sA, mN_sA, mL_sA, z_up, ↓reduceIte, reduceIte, Nat.reduceEqDiff, true_and, and_true, h1, h2]
    · refine ⟨by simp only [mI_sI, mR_sI, mK_sI, mN_sI, mL_sI, mI_sG, mR_sG, mK_sG, mN_sG, mL_sG, mI_sJ, mR_sJ, mK_sJ, mN_sJ, mL_sJ, mI_sA, mR_sA, mK_sA, mN_sA, mL_sA, z_up, ↓reduceIte, reduceIte, Nat.reduceEqDiff, true_and, and_true], by simp only [mI_sI, mR_sI, mK_sI, mN_sI, mL_sI, mI_sG, mR_sG, mK_sG, mN_sG, mL_sG, mI_sJ, mR_sJ, mK_sJ, mN_sJ, mL_sJ, mI_sA, mR_sA, mK_sA, mN_sA, mL_sA, z_up, ↓reduceIte, reduceIte, Nat.reduceEqDiff, true_and, and_true], hc, hn, fun j hj => ?_, fun j hj => (hW j hj).2⟩
      simp only [mI_sI, mR_sI, mK_sI, mN_sI, mL_sI, mI_sG, mR_sG, mK_sG, mN_sG, mL_sG, mI_sJ, mR_sJ, mK_sJ, mN_sJ, mL_sJ, mI_sA, mR_sA, mK_sA, mN_sA, mL_sA, z_up, ↓reduceIte, reduceIte, Nat.reduceEqDiff, true_and, and_true]
      unfold va_cpy
      rw [if_pos ⟨Nat.zero_le _, by dsimp only at hj; omega⟩, show 0 + (j - 0) = j by omega]
      exact (hW j hj).1
  cases B with
  | none =>
    have hB : mI μ 15 3 = -1 := hB
    obtain ⟨μ', p1, p2, p3⟩ := do32
    refine ⟨μ', ?_, p2, p3⟩
    simp only [F_X9_keepIfBetter, p_ok, s_o15 hS, s_r15_0 hS, s_r15_1 hS, s_r15_2 hS, hB, p1, and_self, ↓reduceIte]
  | some q =>
    obtain ⟨b1, b2, b3, b4, b5⟩ := hB
    have n1 : ¬ nI q.1 = -1 := nI_n1 (by omega)
    have e1 : (nI cost = nI q.1) = (cost = q.1) := propext (nI_eq (by omega) (by omega))
    by_cases c1 : cost < q.1
    · obtain ⟨μ', p1, p2, p3⟩ := do32
      have c1' : nI cost < nI q.1 := nI_lt c1 (by omega)
      have hb : btr (some q) cost n = true := decide_eq_true (Or.inl c1)
      rw [if_pos hb]
      refine ⟨μ', ?_, p2, p3⟩
      simp only [F_X9_keepIfBetter, p_ok, s_o15 hS, s_r15_0 hS, s_r15_1 hS, s_r15_2 hS, b1, n1, c1', p1, and_self, ↓reduceIte]
    · have c1' : ¬ nI cost < nI q.1 := nI_nlt (by omega) (by omega)
      by_cases c2 : cost = q.1
      · have e1 : (nI cost = nI q.1) = True := by rw [e1]; exact eq_true c2
        by_cases c3 : n < q.2.1
        · obtain ⟨μ', p1, p2, p3⟩ := do32
          have c3' : ¬ nI q.2.1 ≤ nI n := nI_ge c3 (by omega)
          have hb : btr (some q) cost n = true := decide_eq_true (Or.inr ⟨c2, c3⟩)
          rw [if_pos hb]
          refine ⟨μ', ?_, p2, p3⟩
          simp only [F_X9_keepIfBetter, p_ok, s_o15 hS, s_r15_0 hS, s_r15_1 hS, s_r15_2 hS, b1, b2, n1, c1', e1, c3', p1, and_self, not_true_eq_false, ↓reduceIte]
        · have c3' : nI q.2.1 ≤ nI n := nI_le (by omega) (by omega)
          have hb : ¬ btr (some q) cost n = true := fun h => by have := of_decide_eq_true h; omega
          rw [if_neg hb]
          refine ⟨μ, ?_, Keep_r μ 6, b1, b2, b3, b4, b5⟩
          simp only [F_X9_keepIfBetter, F_X9_keepIfBetter_c56, p_ok, s_o15 hS, s_r15_0 hS, s_r15_1 hS, s_r15_2 hS, b1, b2, n1, c1', e1, c3', and_self, not_true_eq_false, ↓reduceIte]
      · have e1 : (nI cost = nI q.1) = False := by rw [e1]; exact eq_false c2
        have hb : ¬ btr (some q) cost n = true := fun h => by have := of_decide_eq_true h; omega
        rw [if_neg hb]
        refine ⟨μ, ?_, Keep_r μ 6, b1, b2, b3, b4, b5⟩
        simp only [F_X9_keepIfBetter, F_X9_keepIfBetter_c56, p_ok, s_o15 hS, s_r15_0 hS, s_r15_1 hS, s_r15_2 hS, b1, n1, c1', e1, and_self, not_false_eq_true, ↓reduceIte]
theorem us_le {b : Nat} (h : b ≤ 3) : us b ≤ 4 := by
  rcases b4 h with rfl | rfl | rfl | rfl <;> decide
theorem pc_le {b : Nat} (h : b ≤ 3) : pc b ≤ 7 := by
  rcases b4 h with rfl | rfl | rfl | rfl <;> decide
/-- what the descent promises at a depth -/
def KSok (KS : Nat → Int32 → Int32 → Int32 → p_M → Option (Int32 × p_M)) (h x y z most r n : Nat) : Prop := ∀ (μ : p_M) (L : LK) (cost : Nat) (w : Nat → Nat) (B : BB), cost ≤ 7 * n → okL L → St μ n L h x y z w B → ∃ μ', KS 15 (nI n) (nI most) (nI cost) μ = some (0, μ') ∧ Keep μ μ' n ∧ BC μ' (sC h x y z r n L cost w B)
theorem c_child {X : p_X} (hX : oX2 X) {KS : Nat → Int32 → Int32 → Int32 → p_M → Option (Int32 × p_M)} {K84 : Nat → Int32 → Int32 → Int32 → Nat → Int32 → p_M → Option (Int32 × p_M)} {h x y z most r n cost b : Nat} {L : LK} {w : Nat → Nat} {B : BB} {μ : p_M} (hh : h ≤ 9) (hn : n < 6) (hb : b ≤ 3) (hc : cost ≤ 7 * n) (hK : KSok KS h x y z most r (n + 1)) (hL : okL L) (hs : St μ n L h x y z w B) : ∃ μ', F_X9_descend_c104 X KS K84 15 (nI n) (nI most) (nI cost) (19 + n) (nI b) μ = K84 15 (nI n) (nI most) (nI cost) (19 + n) (nI (b + 1)) μ' ∧ Keep μ μ' n ∧ BC μ' (sC h x y z r (n + 1) (lk h b (us b) L) (cost + pc b) (va_up w n b) B) := by
  obtain ⟨s1, s2, s3, s4, s5⟩ := hs
  have i1 := ix_nI hn (by decide)
  have k1 := nI_clamp (show n < 2 ^ 31 by omega)
  have a1 : nI n + 1 = nI (n + 1) := nI_add n 1
  have i2 := ix_nI (show n + 1 < 7 by omega) (by decide)
  have k2 := nI_clamp (show n + 1 < 2 ^ 31 by omega)
  have l2 : n + 1 < 7 := by omega
  have ib := ix_nI (show b < 4 by omega) (by decide)
  have kb := nI_clamp (show b < 2 ^ 31 by omega)
  have lb : b < 4 := by omega
  have ab : nI b + 1 = nI (b + 1) := nI_add b 1
  have n17 : ¬ 19 + n = 17 := by omega
  -- the row
  have f1 : Fq sCl [] μ (sI μ 17 n (nI b)) := Fq_sI (Fq_refl μ) (by decide)
  have h1 := Sh_q f1 s1
  have L1 : isL (mI (sI μ 17 n (nI b)) (19 + n)) L h := by
    rw [mI_sI, if_neg n17]; exact s2
  -- the copy
  obtain ⟨μ1, p1, p2, p3⟩ := c_copy (μ := sI μ 17 n (nI b)) (a := 19 + (n + 1)) (c := 19 + n) (s_o19v h1 l2) (s_o19v h1 (by omega)) (by omega) (by omega) L1 hL
  have h2 := Sh_q p3 h1
  obtain ⟨μ2, q1, q2, q3⟩ := c_lk (μ := μ1) (a := 19 + (n + 1)) (b := b) (n := us b) (s_o19v h2 l2) (by omega) p2 hL hb (by have := us_le hb; omega) (by omega)
  have h3 := Sh_q q3 h2
  have d1 : ∀ a, a ≠ 19 + (n + 1) → a ≠ 65 → mI μ1 a = mI (sI μ 17 n (nI b)) a := fun a ha hb' => p3.2.1 a hb' (fun e => ha (List.mem_singleton.mp e))
  have d2 : ∀ a, a ≠ 19 + (n + 1) → a ≠ 65 → mI μ2 a = mI μ1 a := fun a ha hb' => q3.2.1 a hb' (fun e => ha (List.mem_singleton.mp e))
  have mem : ∀ a, a ∈ [19 + (n + 1)] → a ∈ sCl := fun a ha => by
    rw [List.mem_singleton.mp ha]
    rcases (show n = 0 ∨ n = 1 ∨ n = 2 ∨ n = 3 ∨ n = 4 ∨ n = 5 by omega) with rfl | rfl | rfl | rfl | rfl | rfl <;> decide
  have kp1 : Keep μ μ2 n := by
    refine ⟨Fq_trans f1 (Fq_trans (Fq_mono p3 mem (by decide)) (Fq_mono q3 mem (by decide))), fun m hm => ?_, fun j hj => ?_, fun j _ => ?_⟩
    · rw [d2 _ (by omega) (by omega), d1 _ (by omega) (by omega), mI_sI, if_neg (by omega)]
    · rw [d2 17 (by omega) (by omega), d1 17 (by omega) (by omega)]
      have : ¬ j = n := by omega
      simp only [mI_sI, mR_sI, mK_sI, mN_sI, mL_sI, mI_sG, mR_sG, mK_sG, mN_sG, mL_sG, mI_sJ, mR_sJ, mK_sJ, mN_sJ, mL_sJ, mI_sA, mR_sA, mK_sA, mN_sA, mL_sA, z_up, ↓reduceIte, reduceIte, Nat.reduceEqDiff, true_and, and_true, this]
    · rw [d2 15 (by omega) (by omega), d1 15 (by omega) (by omega)]
      simp only [mI_sI, mR_sI, mK_sI, mN_sI, mL_sI, mI_sG, mR_sG, mK_sG, mN_sG, mL_sG, mI_sJ, mR_sJ, mK_sJ, mN_sJ, mL_sJ, mI_sA, mR_sA, mK_sA, mN_sA, mL_sA, z_up, ↓reduceIte, reduceIte, Nat.reduceEqDiff, true_and, and_true]
  have bc1 : BC μ2 B := by
    have e15 : mI μ2 15 = mI μ 15 := by
      rw [d2 15 (by omega) (by omega), d1 15 (by omega) (by omega), mI_sI, if_neg (by decide)]
    have e18 : mI μ2 18 = mI μ 18 := by
      rw [d2 18 (by omega) (by omega), d1 18 (by omega) (by omega), mI_sI, if_neg (by decide)]
    unfold BC at s5 ⊢
    rw [e15, e18]
    exact s5
  have cw1 : CW μ2 (n + 1) (va_up w n b) := fun j hj => by
    rw [d2 17 (by omega) (by omega), d1 17 (by omega) (by omega)]
    by_cases c : j = n
    · subst c
      simp only [mI_sI, mR_sI, mK_sI, mN_sI, mL_sI, mI_sG, mR_sG, mK_sG, mN_sG, mL_sG, mI_sJ, mR_sJ, mK_sJ, mN_sJ, mL_sJ, mI_sA, mR_sA, mK_sA, mN_sA, mL_sA, z_up, ↓reduceIte, reduceIte, Nat.reduceEqDiff, true_and, and_true]
      exact hb
    · simp only [mI_sI, mR_sI, mK_sI, mN_sI, mL_sI, mI_sG, mR_sG, mK_sG, mN_sG, mL_sG, mI_sJ, mR_sJ, mK_sJ, mN_sJ, mL_sJ, mI_sA, mR_sA, mK_sA, mN_sA, mL_sA, z_up, ↓reduceIte, reduceIte, Nat.reduceEqDiff, true_and, and_true, c]
      exact s4 j (by omega)
  have ci1 : CWi μ2 x y z := by
    obtain ⟨e1, e2, e3, e4⟩ := s3
    have e15 := kp1.2.2.2
    exact ⟨(e15 5 (by decide)).trans e1, (e15 6 (by decide)).trans e2, (e15 7 (by decide)).trans e3, e4⟩
  obtain ⟨μ3, r1, r2, r3⟩ := hK μ2 (lk h b (us b) L) (cost + pc b) (va_up w n b) B (by have := pc_le hb; omega) (lk_ok hL) ⟨h3, q2, ci1, cw1, bc1⟩
  have pr := w_price (n := us b) hb μ2
  have ac : nI cost + nI (prc b (us b)) = nI (cost + pc b) := nI_add _ _
  refine ⟨μ3, ?_, Keep_t kp1 (Keep_m r2 (by omega)), r3⟩
  have o1 := s_o15 h3
  have o2 := s_o15 h2
  have o3 := s_o16 h2
  have o19a := s_o19v h1 l2
  have o19b := s_o19v h2 l2
  have r16a := s_r16 h1 l2
  have r16b := s_r16 h2 l2
  have l16a := s_l16 h1
  have l16b := s_l16 h2
  have r150 := s_r15_0 h1
  have r150b := s_r15_0 h2
  have o16a := s_o16 h1
  have e5 := hX.2 b hb
  have s17 := s_a17 s1
  have c23 : 23 ≤ 23 ∧ 23 ≤ 26 := by decide
  simp only [mR_sI, mK_sI, mL_sI, mN_sI] at o19a r16a l16a r150 o16a
  simp only [F_X9_descend_c104, F_X9_descend_c165, bd_some, p_ok, p_let_eq, s_o15 s1, s_r15_0 s1, s_r15_1 s1, s_r15_2 s1, s_a17 s1, s_l17 s1, s_o17 s1, mR_sI, mK_sI, mL_sI, mN_sI, i1, k1, hn, r150, o16a, c23, a1, i2, k2, l2, l16a, r16a, o19a, p1, o2, r150b, o3, l16b, r16b, hX.1, ib, kb, lb, e5, o19b, q1, pr, o1, ac, r1, ab, and_self, true_and, and_true, not_false_eq_true, ↓reduceIte]
