/-! the Model seeks -/
def MB (μ : p_M) (B : BB) : Prop := match B with
  | none => mI μ 65 18 = -1
  | some q => mI μ 65 18 = nI q.1 ∧ mI μ 65 19 = nI q.2.1 ∧ q.1 ≤ 1000 ∧ q.2.1 ≤ 6 ∧ ∀ j, j < q.2.1 → mI μ 76 j = nI (q.2.2 j)
def MW (μ : p_M) (n : Nat) (w : Nat → Nat) : Prop := ∀ j, j < n → mI μ 75 j = nI (w j)
def Ms (μ : p_M) (n c : Nat) (L : LK) (h x y z : Nat) (w : Nat → Nat) (B : BB) : Prop := isR (mI μ 74) (41 + n) L ∧ mI μ 73 c = nI h ∧ (mI μ 65 20 = nI x ∧ mI μ 65 21 = nI y ∧ mI μ 65 22 = nI z ∧ x ≤ 255 ∧ y ≤ 255 ∧ z ≤ 255) ∧ MW μ n w ∧ MB μ B
def MK (μ μ' : p_M) (n : Nat) : Prop := Fq [74, 75, 76] [18, 19] μ μ' ∧ (∀ k, k < 5 * (42 + n) → mI μ' 74 k = mI μ 74 k) ∧ ∀ j, j < n → mI μ' 75 j = mI μ 75 j
theorem MK_r (μ : p_M) (n : Nat) : MK μ μ n := ⟨Fq_refl μ, fun _ _ => rfl, fun _ _ => rfl⟩
theorem MK_t {μ μ1 μ2 : p_M} {n : Nat} (h : MK μ μ1 n) (g : MK μ1 μ2 n) : MK μ μ2 n := ⟨Fq_trans h.1 g.1, fun k hk => (g.2.1 k hk).trans (h.2.1 k hk), fun j hj => (g.2.2 j hj).trans (h.2.2 j hj)⟩
theorem MK_m {μ μ1 : p_M} {n m : Nat} (h : MK μ μ1 n) (hm : m ≤ n) : MK μ μ1 m := ⟨h.1, fun k hk => h.2.1 k (by omega), fun j hj => h.2.2 j (by omega)⟩
theorem Ms_k {μ μ' : p_M} {n c h x y z : Nat} {L : LK} {w : Nat → Nat} {B B' : BB} (s : Ms μ n c L h x y z w B) (k : MK μ μ' n) (b : MB μ' B') : Ms μ' n c L h x y z w B' := by
  obtain ⟨s1, s2, ⟨i1, i2, i3, i4⟩, s4, s5⟩ := s
  obtain ⟨k1, k2, k3⟩ := k
  refine ⟨?_, ?_, ⟨(Fq_sc k1 20 rfl).trans i1, (Fq_sc k1 21 rfl).trans i2, (Fq_sc k1 22 rfl).trans i3, i4⟩, fun j hj => (k3 j hj).trans (s4 j hj), b⟩
  · unfold isR at s1 ⊢
    rw [k2 _ (by omega), k2 _ (by omega), k2 _ (by omega), k2 _ (by omega), k2 _ (by omega)]
    exact s1
  · rw [Fq_row k1 73 (by decide)]; exact s2
theorem m_usual {b : Nat} (hb : b ≤ 3) (μ : p_M) : F_X13_usual (nI b) μ = some (nI (us b), μ) := by
  rcases b4 hb with rfl | rfl | rfl | rfl
  · rfl
  · rfl
  · rfl
  · rfl
theorem m_way {KS : Int32 → Int32 → Int32 → Int32 → p_M → Option (Int32 × p_M)} {v1 v3 v4 v5 : Int32} {n : Nat} (hn : n ≤ 6) : ∀ (r k m : Nat) (μ : p_M), k + r = n → r < m → ∃ μ', F_X13_seeks_c74 KS m v1 (nI n) v3 v4 v5 (nI k) μ = F_X13_seeks_c100 KS v1 (nI n) v3 v4 v5 μ' ∧ Fq [76] [] μ μ' ∧ (∀ j, k ≤ j → j < n → mI μ' 76 j = mI μ 75 j) ∧ ∀ j, j < k → mI μ' 76 j = mI μ 76 j := by
  intro r
  induction r with
  | zero =>
    intro k m μ hk hm
    obtain ⟨m, rfl⟩ : ∃ k, m = k + 1 := ⟨m - 1, by omega⟩
    have c1 : nI n ≤ nI k := nI_le (by omega) (by omega)
    refine ⟨μ, ?_, Fq_refl μ, fun j h1 h2 => by omega, fun _ _ => rfl⟩
    simp only [F_X13_seeks_c74, c1, ↓reduceIte]
  | succ r ih =>
    intro k m μ hk hm
    obtain ⟨m, rfl⟩ : ∃ k, m = k + 1 := ⟨m - 1, by omega⟩
    have c1 : ¬ nI n ≤ nI k := nI_ge (by omega) (by omega)
    have i1 := ix_nI (show k < 6 by omega) (by decide)
    have k1 := nI_clamp (show k < 2 ^ 31 by omega)
    have l1 : k < 6 := by omega
    have a1 : nI k + 1 = nI (k + 1) := nI_add k 1
    obtain ⟨μ', p1, p2, p3, p4⟩ := ih (k + 1) m (sI μ 76 k (mI μ 75 k)) (by omega) (by omega)
    refine ⟨μ', ?_, Fq_trans (Fq_sI (Fq_refl μ) (by decide)) p2, fun j h1 h2 => ?_, fun j hj => ?_⟩
    · simp only [F_X13_seeks_c74, p_ok, aM, c1, i1, k1, l1, a1, and_self, true_and, not_false_eq_true, ↓reduceIte]
      exact p1
    · by_cases c : j = k
      · subst c
        rw [p4 j (by omega)]
        simp only [mI_sI, mR_sI, mK_sI, mN_sI, mL_sI, mI_sG, mR_sG, mK_sG, mN_sG, mL_sG, mI_sJ, mR_sJ, mK_sJ, mN_sJ, mL_sJ, mI_sA, mR_sA, mK_sA, mN_sA, mL_sA, z_up, ↓reduceIte, reduceIte, Nat.reduceEqDiff, true_and, and_true]
      · rw [p3 j (by omega) h2]
        simp only [mI_sI, mR_sI, mK_sI, mN_sI, mL_sI, mI_sG, mR_sG, mK_sG, mN_sG, mL_sG, mI_sJ, mR_sJ, mK_sJ, mN_sJ, mL_sJ, mI_sA, mR_sA, mK_sA, mN_sA, mL_sA, z_up, ↓reduceIte, reduceIte, Nat.reduceEqDiff, true_and, and_true]
    · rw [p4 j (by omega)]
      have : ¬ j = k := by omega
      simp only [mI_sI, mR_sI, mK_sI, mN_sI, mL_sI, mI_sG, mR_sG, mK_sG, mN_sG, mL_sG, mI_sJ, mR_sJ, mK_sJ, mN_sJ, mL_sJ, mI_sA, mR_sA, mK_sA, mN_sA, mL_sA, z_up, ↓reduceIte, reduceIte, Nat.reduceEqDiff, true_and, and_true, this]
theorem m_copy5 {KS : Int32 → Int32 → Int32 → Int32 → p_M → Option (Int32 × p_M)} {K109 : Int32 → Int32 → Int32 → Int32 → Int32 → Int32 → p_M → Option (Int32 × p_M)} {v1 v2 v3 v4 v6 : Int32} {q : Nat} (hq : q < 47) : ∀ (r k m : Nat) (μ : p_M), k + r = 5 → r < m → ∃ μ', F_X13_seeks_c118 KS K109 m v1 v2 v3 v4 (nI q) v6 (nI k) μ = F_X13_seeks_c118 KS K109 (m - r) v1 v2 v3 v4 (nI q) v6 5 μ' ∧ Fq [74] [] μ μ' ∧ (∀ j, k ≤ j → j < 5 → mI μ' 74 (5 * (q + 1) + j) = mI μ 74 (5 * q + j)) ∧ ∀ j, j < 5 * (q + 1) + k → mI μ' 74 j = mI μ 74 j := by
  have aq : nI q + 1 = nI (q + 1) := nI_add q 1
  have m5 : 5 * nI q = nI (5 * q) := pk_mul 5 q
  have m5' : 5 * nI (q + 1) = nI (5 * (q + 1)) := pk_mul 5 (q + 1)
  intro r
  induction r with
  | zero =>
    intro k m μ hk hm
    have hk : k = 5 := by omega
    subst hk
    exact ⟨μ, rfl, Fq_refl μ, fun j h1 h2 => by omega, fun _ _ => rfl⟩
  | succ r ih =>
    intro k m μ hk hm
    obtain ⟨m, rfl⟩ : ∃ k, m = k + 1 := ⟨m - 1, by omega⟩
    have c1 : ¬ (5 : Int32) ≤ nI k := (show ¬ nI 5 ≤ nI k from nI_ge (by omega) (by decide))
    have ak : nI (5 * q) + nI k = nI (5 * q + k) := nI_add _ _
    have ak' : nI (5 * (q + 1)) + nI k = nI (5 * (q + 1) + k) := nI_add _ _
    have i1 := ix_nI (show 5 * q + k < 240 by omega) (by decide)
    have k1 := nI_clamp (show 5 * q + k < 2 ^ 31 by omega)
    have l1 : 5 * q + k < 240 := by omega
    have i2 := ix_nI (show 5 * (q + 1) + k < 240 by omega) (by decide)
    have k2 := nI_clamp (show 5 * (q + 1) + k < 2 ^ 31 by omega)
    have l2 : 5 * (q + 1) + k < 240 := by omega
    have a1 : nI k + 1 = nI (k + 1) := nI_add k 1
    obtain ⟨μ', p1, p2, p3, p4⟩ := ih (k + 1) m (sI μ 74 (5 * (q + 1) + k) (mI μ 74 (5 * q + k))) (by omega) (by omega)
    refine ⟨μ', ?_, Fq_trans (Fq_sI (Fq_refl μ) (by decide)) p2, fun j h1 h2 => ?_, fun j hj => ?_⟩
    · rw [show m + 1 - (r + 1) = m - r by omega, F_X13_seeks_c118]
      simp only [p_ok, aM, c1, aq, m5, m5', ak, ak', i1, k1, l1, i2, k2, l2, a1, and_self, true_and, not_false_eq_true, ↓reduceIte]
      exact p1
    · by_cases c : j = k
      · subst c
        rw [p4 _ (by omega)]
        simp only [mI_sI, mR_sI, mK_sI, mN_sI, mL_sI, mI_sG, mR_sG, mK_sG, mN_sG, mL_sG, mI_sJ, mR_sJ, mK_sJ, mN_sJ, mL_sJ, mI_sA, mR_sA, mK_sA, mN_sA, mL_sA, z_up, ↓reduceIte, reduceIte, Nat.reduceEqDiff, true_and, and_true]
      · rw [p3 j (by omega) h2]
        have : ¬ 5 * q + j = 5 * (q + 1) + k := by omega
        simp only [mI_sI, mR_sI, mK_sI, mN_sI, mL_sI, mI_sG, mR_sG, mK_sG, mN_sG, mL_sG, mI_sJ, mR_sJ, mK_sJ, mN_sJ, mL_sJ, mI_sA, mR_sA, mK_sA, mN_sA, mL_sA, z_up, ↓reduceIte, reduceIte, Nat.reduceEqDiff, true_and, and_true, this]
    · rw [p4 j (by omega)]
      have : ¬ j = 5 * (q + 1) + k := by omega
      simp only [mI_sI, mR_sI, mK_sI, mN_sI, mL_sI, mI_sG, mR_sG, mK_sG, mN_sG, mL_sG, mI_sJ, mR_sJ, mK_sJ, mN_sJ, mL_sJ, mI_sA, mR_sA, mK_sA, mN_sA, mL_sA, z_up, ↓reduceIte, reduceIte, Nat.reduceEqDiff, true_and, and_true, this]
def KMok (KS : Int32 → Int32 → Int32 → Int32 → p_M → Option (Int32 × p_M)) (c h x y z most r n : Nat) : Prop := ∀ (μ : p_M) (L : LK) (cost : Nat) (w : Nat → Nat) (B : BB), cost ≤ 7 * n → okL L → Ms μ n c L h x y z w B → ∃ μ', KS (nI c) (nI n) (nI most) (nI cost) μ = some (0, μ') ∧ MK μ μ' n ∧ MB μ' (sM h x y z r n L cost w B)
theorem m_child {KS : Int32 → Int32 → Int32 → Int32 → p_M → Option (Int32 × p_M)} {K109 : Int32 → Int32 → Int32 → Int32 → Int32 → Int32 → p_M → Option (Int32 × p_M)} {c h x y z most r n cost b : Nat} {L : LK} {w : Nat → Nat} {B : BB} {μ : p_M} (hh : h ≤ 9) (hcl : c < 6) (hn : n < 6) (hb : b ≤ 3) (hc : cost ≤ 7 * n) (hK : KMok KS c h x y z most r (n + 1)) (hL : okL L) (hs : Ms μ n c L h x y z w B) : ∃ μ', F_X13_seeks_c118 KS K109 p_fu (nI c) (nI n) (nI most) (nI cost) (nI (41 + n)) (nI b) 0 μ = K109 (nI c) (nI n) (nI most) (nI cost) (nI (41 + n)) (nI (b + 1)) μ' ∧ MK μ μ' n ∧ MB μ' (sM h x y z r (n + 1) (lk h b (us b) L) (cost + pc b) (va_up w n b) B) := by
  obtain ⟨s1, s2, s3, s4, s5⟩ := hs
  obtain ⟨μ1, p1, p2, p3, p4⟩ := m_copy5 (KS := KS) (K109 := K109) (v1 := nI c) (v2 := nI n) (v3 := nI most) (v4 := nI cost) (v6 := nI b) (q := 41 + n) (by omega) 5 0 p_fu μ (by decide) (by decide)
  have p1 : F_X13_seeks_c118 KS K109 p_fu (nI c) (nI n) (nI most) (nI cost) (nI (41 + n)) (nI b) 0 μ = F_X13_seeks_c118 KS K109 (99994 + 1) (nI c) (nI n) (nI most) (nI cost) (nI (41 + n)) (nI b) 5 μ1 := p1
  have R1 : isR (mI μ1 74) (41 + n + 1) L := by
    obtain ⟨r0, r1, r2, r3, r4⟩ := s1
    exact ⟨(p3 0 (by decide) (by decide)).trans r0, (p3 1 (by decide) (by decide)).trans r1, (p3 2 (by decide) (by decide)).trans r2, (p3 3 (by decide) (by decide)).trans r3, (p3 4 (by decide) (by decide)).trans r4⟩
  obtain ⟨μ2, q1, q2, q3, q4⟩ := m_lk (μ := μ1) (r := 41 + n + 1) (c := c) (b := b) (n := us b) (by omega) hcl R1 (by rw [Fq_row p2 73 (by decide)]; exact s2) hL hb (by have := us_le hb; omega) (by omega)
  have fq : Fq [74, 75, 76] [18, 19] μ (sI μ2 75 n (nI b)) := Fq_sI (Fq_trans (Fq_mono p2 (by decide) (by decide)) (Fq_mono q4 (by decide) (by decide))) (by decide)
  have d74 : mI (sI μ2 75 n (nI b)) 74 = mI μ2 74 := by rw [mI_sI, if_neg (by decide)]
  have d75 : mI μ2 75 = mI μ 75 := by rw [Fq_row q4 75 (by decide), Fq_row p2 75 (by decide)]
  have kp1 : MK μ (sI μ2 75 n (nI b)) n := by
    refine ⟨fq, fun k hk => ?_, fun j hj => ?_⟩
    · rw [d74, q3 k (by omega), p4 k (by omega)]
    · have : ¬ j = n := by omega
      simp only [mI_sI, mR_sI, mK_sI, mN_sI, mL_sI, mI_sG, mR_sG, mK_sG, mN_sG, mL_sG, mI_sJ, mR_sJ, mK_sJ, mN_sJ, mL_sJ, mI_sA, mR_sA, mK_sA, mN_sA, mL_sA, z_up, ↓reduceIte, reduceIte, Nat.reduceEqDiff, true_and, and_true, this]
      rw [d75]
  have st : Ms (sI μ2 75 n (nI b)) (n + 1) c (lk h b (us b) L) h x y z (va_up w n b) B := by
    refine ⟨?_, ?_, ?_, fun j hj => ?_, ?_⟩
    · rw [d74]; exact q2
    · rw [Fq_row fq 73 (by decide)]; exact s2
    · obtain ⟨i1, i2, i3, i4⟩ := s3
      refine ⟨?_, ?_, ?_, i4⟩
      · rw [Fq_sc fq 20 rfl]; exact i1
      · rw [Fq_sc fq 21 rfl]; exact i2
      · rw [Fq_sc fq 22 rfl]; exact i3
    · by_cases cj : j = n
      · subst cj
        simp only [mI_sI, mR_sI, mK_sI, mN_sI, mL_sI, mI_sG, mR_sG, mK_sG, mN_sG, mL_sG, mI_sJ, mR_sJ, mK_sJ, mN_sJ, mL_sJ, mI_sA, mR_sA, mK_sA, mN_sA, mL_sA, z_up, ↓reduceIte, reduceIte, Nat.reduceEqDiff, true_and, and_true]
      · simp only [mI_sI, mR_sI, mK_sI, mN_sI, mL_sI, mI_sG, mR_sG, mK_sG, mN_sG, mL_sG, mI_sJ, mR_sJ, mK_sJ, mN_sJ, mL_sJ, mI_sA, mR_sA, mK_sA, mN_sA, mL_sA, z_up, ↓reduceIte, reduceIte, Nat.reduceEqDiff, true_and, and_true, cj]
        rw [d75]
        exact s4 j (by omega)
    · have e76 : mI (sI μ2 75 n (nI b)) 76 = mI μ 76 := by rw [mI_sI, if_neg (by decide), Fq_row q4 76 (by decide), Fq_row p2 76 (by decide)]
      have e18 : mI (sI μ2 75 n (nI b)) 65 18 = mI μ 65 18 := by
        simp only [mI_sI, mR_sI, mK_sI, mN_sI, mL_sI, mI_sG, mR_sG, mK_sG, mN_sG, mL_sG, mI_sJ, mR_sJ, mK_sJ, mN_sJ, mL_sJ, mI_sA, mR_sA, mK_sA, mN_sA, mL_sA, z_up, ↓reduceIte, reduceIte, Nat.reduceEqDiff, true_and, and_true]
        rw [Fq_sc q4 18 rfl, Fq_sc p2 18 rfl]
      have e19 : mI (sI μ2 75 n (nI b)) 65 19 = mI μ 65 19 := by
        simp only [mI_sI, mR_sI, mK_sI, mN_sI, mL_sI, mI_sG, mR_sG, mK_sG, mN_sG, mL_sG, mI_sJ, mR_sJ, mK_sJ, mN_sJ, mL_sJ, mI_sA, mR_sA, mK_sA, mN_sA, mL_sA, z_up, ↓reduceIte, reduceIte, Nat.reduceEqDiff, true_and, and_true]
        rw [Fq_sc q4 19 rfl, Fq_sc p2 19 rfl]
      unfold MB at s5 ⊢
      rw [e76, e18, e19]
      exact s5
  obtain ⟨μ3, r1, r2, r3⟩ := hK (sI μ2 75 n (nI b)) (lk h b (us b) L) (cost + pc b) (va_up w n b) B (by have := pc_le hb; omega) (lk_ok hL) st
  have a41 : nI (41 + n) + 1 = nI (41 + n + 1) := nI_add _ 1
  have i1 := ix_nI hn (by decide)
  have k1 := nI_clamp (show n < 2 ^ 31 by omega)
  have an : nI n + 1 = nI (n + 1) := nI_add _ 1
  have ab : nI b + 1 = nI (b + 1) := nI_add _ 1
  have ac : nI cost + nI (prc b (us b)) = nI (cost + pc b) := nI_add _ _
  have c5 : (5 : Int32) ≤ 5 := by decide
  refine ⟨μ3, ?_, MK_t kp1 (MK_m r2 (by omega)), r3⟩
  rw [p1, F_X13_seeks_c118]
  simp only [bd_some, p_ok, aM, c5, m_usual hb, m_cost hb, a41, q1, i1, k1, hn, an, ab, ac, r1, and_self, true_and, not_false_eq_true, ↓reduceIte]
theorem m_seek {c h x y z most : Nat} (hcl : c < 6) (hh : h ≤ 9) (hm6 : most ≤ 6) : ∀ (r n g : Nat), n + r = most → r < g → KMok (F_X13_seeks g) c h x y z most r n := by
  have kpS : ∀ (KS : Int32 → Int32 → Int32 → Int32 → p_M → Option (Int32 × p_M)) (n : Nat) (μ : p_M) (L : LK) (cost : Nat) (w : Nat → Nat) (B : BB), n ≤ 6 → cost ≤ 7 * n → okL L → Ms μ n c L h x y z w B → ∃ μ1, F_X13_seeks_b KS (nI c) (nI n) (nI most) (nI cost) μ = F_X13_seeks_c100 KS (nI c) (nI n) (nI most) (nI cost) (nI (41 + n)) μ1 ∧ MK μ μ1 n ∧ MB μ1 (kp x y z L cost n w B) := by
    intro KS n μ L cost w B hn hc hL hs
    obtain ⟨s1, s2, ⟨i1, i2, i3, i4, i5, i6⟩, s4, s5⟩ := hs
    have a41 : 41 + nI n = nI (41 + n) := nI_add 41 n
    have sm := m_meets (r := 41 + n) (by omega) s1 (nI x) (nI y) (nI z)
    rw [mtc_mtb hL i4 i5 i6] at sm
    by_cases cm : mtb x y z L = true
    · rw [if_pos cm] at sm
      have do60 : ∃ μ1, F_X13_seeks_c60 KS (nI c) (nI n) (nI most) (nI cost) (nI (41 + n)) μ = F_X13_seeks_c100 KS (nI c) (nI n) (nI most) (nI cost) (nI (41 + n)) μ1 ∧ MK μ μ1 n ∧ MB μ1 (some (cost, n, w)) := by
        obtain ⟨μ1, p1, p2, p3, p4⟩ := m_way (KS := KS) (v1 := nI c) (v3 := nI most) (v4 := nI cost) (v5 := nI (41 + n)) hn n 0 p_fu (sI (sI μ 65 18 (nI cost)) 65 19 (nI n)) (by omega) (by rw [show p_fu = 99999 + 1 from rfl]; omega)
        have p1 : F_X13_seeks_c74 KS p_fu (nI c) (nI n) (nI most) (nI cost) (nI (41 + n)) 0 _ = _ := p1
        refine ⟨μ1, ?_, ⟨Fq_trans (Fq_s65 (Fq_s65 (Fq_refl μ) (by decide)) (by decide)) (Fq_mono p2 (by decide) (by decide)), fun k _ => ?_, fun j _ => ?_⟩, ?_, ?_, by omega, hn, fun j hj => ?_⟩
        · simp only [F_X13_seeks_c60, tM]
          exact p1
        · rw [Fq_row p2 74 (by decide)]; simp only [mI_sI, mR_sI, mK_sI, mN_sI, mL_sI, mI_sG, mR_sG, mK_sG, mN_sG, mL_sG, mI_sJ, mR_sJ, mK_sJ, mN_sJ, mL_sJ, mI_sA, mR_sA, mK_sA, mN_sA, mL_sA, z_up, ↓reduceIte, reduceIte, Nat.reduceEqDiff, true_and, and_true]
        · rw [Fq_row p2 75 (by decide)]; simp only [mI_sI, mR_sI, mK_sI, mN_sI, mL_sI, mI_sG, mR_sG, mK_sG, mN_sG, mL_sG, mI_sJ, mR_sJ, mK_sJ, mN_sJ, mL_sJ, mI_sA, mR_sA, mK_sA, mN_sA, mL_sA, z_up, ↓reduceIte, reduceIte, Nat.reduceEqDiff, true_and, and_true]
        · rw [Fq_sc p2 18 rfl]; simp only [mI_sI, mR_sI, mK_sI, mN_sI, mL_sI, mI_sG, mR_sG, mK_sG, mN_sG, mL_sG, mI_sJ, mR_sJ, mK_sJ, mN_sJ, mL_sJ, mI_sA, mR_sA, mK_sA, mN_sA, mL_sA, z_up, ↓reduceIte, reduceIte, Nat.reduceEqDiff, true_and, and_true]
        · rw [Fq_sc p2 19 rfl]; simp only [mI_sI, mR_sI, mK_sI, mN_sI, mL_sI, mI_sG, mR_sG, mK_sG, mN_sG, mL_sG, mI_sJ, mR_sJ, mK_sJ, mN_sJ, mL_sJ, mI_sA, mR_sA, mK_sA, mN_sA, mL_sA, z_up, ↓reduceIte, reduceIte, Nat.reduceEqDiff, true_and, and_true]
        · rw [p3 j (by omega) hj]
          simp only [mI_sI, mR_sI, mK_sI, mN_sI, mL_sI, mI_sG, mR_sG, mK_sG, mN_sG, mL_sG, mI_sJ, mR_sJ, mK_sJ, mN_sJ, mL_sJ, mI_sA, mR_sA, mK_sA, mN_sA, mL_sA, z_up, ↓reduceIte, reduceIte, Nat.reduceEqDiff, true_and, and_true]
          exact s4 j hj
      cases B with
      | none =>
        have s5 : mI μ 65 18 = -1 := s5
        have z1 : (-1 : Int32) < 0 := by decide
        obtain ⟨μ1, p1, p2, p3⟩ := do60
        refine ⟨μ1, ?_, p2, ?_⟩
        · simp only [F_X13_seeks_b, bd_some, tM, a41, i1, i2, i3, sm, i_10, s5, z1, p1, ↓reduceIte]
        · unfold kp
          rw [if_pos (by rw [cm]; rfl)]
          exact p3
      | some q =>
        have s50 := s5
        obtain ⟨b1, b2, b3, b4, b5⟩ := s5
        have z1 : ¬ nI q.1 < 0 := nI_pos (by omega)
        have e1 : (nI cost = nI q.1) = (cost = q.1) := propext (nI_eq (by omega) (by omega))
        unfold kp
        rw [cm, Bool.true_and]
        by_cases c1 : cost < q.1
        · have c1' : nI cost < nI q.1 := nI_lt c1 (by omega)
          obtain ⟨μ1, p1, p2, p3⟩ := do60
          rw [if_pos (show btr (some q) cost n = true from decide_eq_true (Or.inl c1))]
          refine ⟨μ1, ?_, p2, p3⟩
          simp only [F_X13_seeks_b, bd_some, tM, a41, i1, i2, i3, sm, i_10, b1, z1, c1', p1, ↓reduceIte]
        · have c1' : ¬ nI cost < nI q.1 := nI_nlt (by omega) (by omega)
          by_cases c2 : cost = q.1
          · have e1 : (nI cost = nI q.1) = True := by rw [e1]; exact eq_true c2
            by_cases c3 : n < q.2.1
            · have c3' : ¬ nI q.2.1 ≤ nI n := nI_ge c3 (by omega)
              obtain ⟨μ1, p1, p2, p3⟩ := do60
              rw [if_pos (show btr (some q) cost n = true from decide_eq_true (Or.inr ⟨c2, c3⟩))]
              refine ⟨μ1, ?_, p2, p3⟩
              simp only [F_X13_seeks_b, bd_some, tM, a41, i1, i2, i3, sm, i_10, b1, b2, z1, c1', e1, c3', p1, not_true_eq_false, ↓reduceIte]
            · have c3' : nI q.2.1 ≤ nI n := nI_le (by omega) (by omega)
              rw [if_neg (show ¬ btr (some q) cost n = true from fun h => by have := of_decide_eq_true h; omega)]
              refine ⟨μ, ?_, MK_r μ n, s50⟩
              simp only [F_X13_seeks_b, bd_some, tM, a41, i1, i2, i3, sm, i_10, b1, b2, z1, c1', e1, c3', not_true_eq_false, ↓reduceIte]
          · have e1 : (nI cost = nI q.1) = False := by rw [e1]; exact eq_false c2
            rw [if_neg (show ¬ btr (some q) cost n = true from fun h => by have := of_decide_eq_true h; omega)]
            refine ⟨μ, ?_, MK_r μ n, s50⟩
            simp only [F_X13_seeks_b, bd_some, tM, a41, i1, i2, i3, sm, i_10, b1, z1, c1', e1, not_false_eq_true, ↓reduceIte]
    · rw [if_neg cm] at sm
      refine ⟨μ, ?_, MK_r μ n, ?_⟩
      · simp only [F_X13_seeks_b, bd_some, tM, a41, i1, i2, i3, sm, ↓reduceIte]
      · unfold kp
        rw [if_neg (fun h => cm (by rw [Bool.and_eq_true] at h; exact h.1))]
        exact s5
  intro r
  induction r with
  | zero =>
    intro n g hn hg μ L cost w B hc hL hs
    obtain ⟨g, rfl⟩ : ∃ k, g = k + 1 := ⟨g - 1, by omega⟩
    obtain ⟨μ1, p1, p2, p3⟩ := kpS (F_X13_seeks g) n μ L cost w B (by omega) hc hL hs
    have hn' : n = most := by omega
    subst hn'
    refine ⟨μ1, ?_, p2, p3⟩
    show F_X13_seeks_b (F_X13_seeks g) (nI c) (nI n) (nI n) (nI cost) μ = _
    rw [p1]
    simp only [F_X13_seeks_c100, not_true_eq_false, ↓reduceIte]
  | succ r ih =>
    intro n g hn hg μ L cost w B hc hL hs
    obtain ⟨g, rfl⟩ : ∃ k, g = k + 1 := ⟨g - 1, by omega⟩
    obtain ⟨μ1, p1, p2, p3⟩ := kpS (F_X13_seeks g) n μ L cost w B (by omega) hc hL hs
    have hK := ih (n + 1) g (by omega) (by omega)
    have st1 := Ms_k hs p2 p3
    have nm_ : (nI n = nI most) = False := eq_false (fun h => by have := (nI_eq (show n < 2 ^ 31 by omega) (show most < 2 ^ 31 by omega)).mp h; omega)
    obtain ⟨μ2, a1, a2, a3⟩ := m_child (K109 := F_X13_seeks_c109 (F_X13_seeks g) (99995 + 1 + 1 + 1 + 1)) (b := 0) hh hcl (show n < 6 by omega) (by decide) hc hK hL st1
    have a1 : F_X13_seeks_c118 (F_X13_seeks g) (F_X13_seeks_c109 (F_X13_seeks g) (99995 + 1 + 1 + 1 + 1)) p_fu (nI c) (nI n) (nI most) (nI cost) (nI (41 + n)) 0 0 μ1 = F_X13_seeks_c109 (F_X13_seeks g) (99995 + 1 + 1 + 1 + 1) (nI c) (nI n) (nI most) (nI cost) (nI (41 + n)) 1 μ2 := a1
    obtain ⟨μ3, b1, b2, b3⟩ := m_child (K109 := F_X13_seeks_c109 (F_X13_seeks g) (99995 + 1 + 1 + 1)) (b := 1) hh hcl (show n < 6 by omega) (by decide) hc hK hL (Ms_k st1 a2 a3)
    have b1 : F_X13_seeks_c118 (F_X13_seeks g) (F_X13_seeks_c109 (F_X13_seeks g) (99995 + 1 + 1 + 1)) p_fu (nI c) (nI n) (nI most) (nI cost) (nI (41 + n)) 1 0 μ2 = F_X13_seeks_c109 (F_X13_seeks g) (99995 + 1 + 1 + 1) (nI c) (nI n) (nI most) (nI cost) (nI (41 + n)) 2 μ3 := b1
    have k3 := MK_t a2 b2
    obtain ⟨μ4, g1, g2, g3⟩ := m_child (K109 := F_X13_seeks_c109 (F_X13_seeks g) (99995 + 1 + 1)) (b := 2) hh hcl (show n < 6 by omega) (by decide) hc hK hL (Ms_k st1 k3 b3)
    have g1 : F_X13_seeks_c118 (F_X13_seeks g) (F_X13_seeks_c109 (F_X13_seeks g) (99995 + 1 + 1)) p_fu (nI c) (nI n) (nI most) (nI cost) (nI (41 + n)) 2 0 μ3 = F_X13_seeks_c109 (F_X13_seeks g) (99995 + 1 + 1) (nI c) (nI n) (nI most) (nI cost) (nI (41 + n)) 3 μ4 := g1
    have k4 := MK_t k3 g2
    obtain ⟨μ5, j1, j2, j3⟩ := m_child (K109 := F_X13_seeks_c109 (F_X13_seeks g) (99995 + 1)) (b := 3) hh hcl (show n < 6 by omega) (by decide) hc hK hL (Ms_k st1 k4 g3)
    have j1 : F_X13_seeks_c118 (F_X13_seeks g) (F_X13_seeks_c109 (F_X13_seeks g) (99995 + 1)) p_fu (nI c) (nI n) (nI most) (nI cost) (nI (41 + n)) 3 0 μ4 = F_X13_seeks_c109 (F_X13_seeks g) (99995 + 1) (nI c) (nI n) (nI most) (nI cost) (nI (41 + n)) 4 μ5 := j1
    refine ⟨μ5, ?_, MK_t p2 (MK_t k4 j2), j3⟩
    show F_X13_seeks_b (F_X13_seeks g) (nI c) (nI n) (nI most) (nI cost) μ = _
    rw [p1]
    have up : ∀ (m : Nat) (v6 : Int32) (μ' : p_M), ¬ (3 : Int32) < v6 → F_X13_seeks_c109 (F_X13_seeks g) (m + 1) (nI c) (nI n) (nI most) (nI cost) (nI (41 + n)) v6 μ' = F_X13_seeks_c118 (F_X13_seeks g) (F_X13_seeks_c109 (F_X13_seeks g) m) p_fu (nI c) (nI n) (nI most) (nI cost) (nI (41 + n)) v6 0 μ' := fun m v6 μ' h1 => by
      rw [F_X13_seeks_c109, if_neg h1]
    have st : F_X13_seeks_c100 (F_X13_seeks g) (nI c) (nI n) (nI most) (nI cost) (nI (41 + n)) μ1 = F_X13_seeks_c109 (F_X13_seeks g) (99995 + 1 + 1 + 1 + 1 + 1) (nI c) (nI n) (nI most) (nI cost) (nI (41 + n)) 0 μ1 := by
      simp only [F_X13_seeks_c100, nm_, not_false_eq_true, ↓reduceIte]
      rfl
    rw [st, up _ _ _ (by decide), a1, up _ _ _ (by decide), b1, up _ _ _ (by decide), g1, up _ _ _ (by decide), j1, F_X13_seeks_c109, if_pos (by decide)]
