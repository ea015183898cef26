/-! the DARK pieces go -/
def mdl (dk : Nat → Bool) (sh : Nat → Int32) : Nat → Nat → Int32 → Int32
  | 0, _, v => v
  | r + 1, k, v => mdl dk sh r (k + 1) (if dk k = true then (if sh k < v then sh k else v) else v)
def mdg (dk : Nat → Bool) (sh : Nat → Int32) : Nat → Nat → Int32 → Int32
  | 0, _, v => v
  | r + 1, k, v => mdg dk sh r (k + 1) (if dk k = true then (if v < sh k then sh k else v) else v)
theorem mdl_ok {dk : Nat → Bool} {sh : Nat → Int32} (hs : ∀ p, dk p = true → ∃ x : Nat, x ≤ 255 ∧ sh p = nI x) : ∀ (r k a : Nat), a ≤ 255 → ∃ a' : Nat, a' ≤ 255 ∧ mdl dk sh r k (nI a) = nI a' := by
  intro r
  induction r with
  | zero => intro k a ha; exact ⟨a, ha, rfl⟩
  | succ r ih =>
    intro k a ha
    unfold mdl
    by_cases h : dk k = true
    · rw [if_pos h]
      obtain ⟨x, hx, e⟩ := hs k h
      rw [e]
      by_cases c : nI x < nI a
      · rw [if_pos c]; exact ih (k + 1) x hx
      · rw [if_neg c]; exact ih (k + 1) a ha
    · rw [if_neg h]; exact ih (k + 1) a ha
theorem mdg_ok {dk : Nat → Bool} {sh : Nat → Int32} (hs : ∀ p, dk p = true → ∃ x : Nat, x ≤ 255 ∧ sh p = nI x) : ∀ (r k a : Nat), a ≤ 255 → ∃ a' : Nat, a' ≤ 255 ∧ mdg dk sh r k (nI a) = nI a' := by
  intro r
  induction r with
  | zero => intro k a ha; exact ⟨a, ha, rfl⟩
  | succ r ih =>
    intro k a ha
    unfold mdg
    by_cases h : dk k = true
    · rw [if_pos h]
      obtain ⟨x, hx, e⟩ := hs k h
      rw [e]
      by_cases c : nI a < nI x
      · rw [if_pos c]; exact ih (k + 1) x hx
      · rw [if_neg c]; exact ih (k + 1) a ha
    · rw [if_neg h]; exact ih (k + 1) a ha
theorem md_eq {dk : Nat → Bool} {sh : Nat → Int32} (hs : ∀ p, dk p = true → ∃ x : Nat, x ≤ 255 ∧ sh p = nI x) : ∀ (r k : Nat), (∃ p, k ≤ p ∧ p < k + r ∧ dk p = true) → mdl dk sh r k 255 = mdl dk sh r k 1000000 ∧ mdg dk sh r k 0 = mdg dk sh r k (-1) := by
  intro r
  induction r with
  | zero => intro k ⟨p, h1, h2, _⟩; omega
  | succ r ih =>
    intro k ⟨p, h1, h2, h3⟩
    unfold mdl mdg
    by_cases h : dk k = true
    · obtain ⟨x, hx, e⟩ := hs k h
      rw [if_pos h, if_pos h, if_pos h, if_pos h, e]
      have a1 : (if nI x < 255 then nI x else 255) = nI x := by
        by_cases c : x = 255
        · subst c; rfl
        · rw [if_pos (show nI x < 255 from nI_lt (b := 255) (by omega) (by decide))]
      have a2 : (if nI x < 1000000 then nI x else 1000000) = nI x := by
        rw [if_pos (show nI x < 1000000 from nI_lt (b := 1000000) (by omega) (by decide))]
      have a3 : (if 0 < nI x then nI x else 0) = nI x := nw_max (by omega)
      have a4 : (if -1 < nI x then nI x else -1) = nI x := by
        rw [if_pos]
        rw [Int32.lt_iff_toInt_lt, nI_toInt (by omega)]
        have : (-1 : Int32).toInt = -1 := by decide
        omega
      rw [a1, a2, a3, a4]
      exact ⟨rfl, rfl⟩
    · rw [if_neg h, if_neg h, if_neg h, if_neg h]
      exact ih (k + 1) ⟨p, by
        by_cases c : p = k
        · rw [c] at h3; exact absurd h3 h
        · omega, by omega, h3⟩
theorem md_nat {dk : Nat → Bool} {sh : Nat → Int32} (hs : ∀ p, dk p = true → ∃ x : Nat, x ≤ 255 ∧ sh p = nI x) (r k : Nat) : (∃ a : Nat, a ≤ 255 ∧ mdl dk sh r k 255 = nI a) ∧ ∃ a : Nat, a ≤ 255 ∧ mdg dk sh r k 0 = nI a := ⟨mdl_ok hs r k 255 (Nat.le_refl _), mdg_ok hs r k 0 (by decide)⟩
theorem c_move {c : p_M} {lo P nb v2 : Nat} {sh jj pl : Nat → Int32} (hS : Sh c) (S : LotS c lo P nb) (hP : P ≤ 60) (e1 : mI c lo 1 = nI P) (hv2 : mK c v2 = 4 ∧ v2 < mN c) (hjd : ∀ ν, Fq [lo + 5] [] c ν → ∀ p, p < P → F_X6_shadeOn 38 (mI ν (lo + 6) p) (mI c 0 15) ν = some (sh p, ν) ∧ F_X12_judged 0 lo (nI p) (mI c 0 15) ν = some (jj p, ν)) : ∀ (r k n : Nat) (ν : p_M) (a b : Int32), k + r = P → r < n → Fq [lo + 5] [] c ν → (∀ p, k ≤ p → p < P → mI ν (lo + 5) p = pl p) → ∃ ν', F_X12_moveDark_c10 n 0 lo v2 a b (nI k) ν = some (0, sI (sI ν' v2 0 (mdl (fun p => decide (pl p = 0 ∧ jj p = 3)) sh r k a)) v2 1 (mdg (fun p => decide (pl p = 0 ∧ jj p = 3)) sh r k b)) ∧ Fq [lo + 5] [] c ν' ∧ ∀ p, mI ν' (lo + 5) p = if k ≤ p ∧ p < P ∧ pl p = 0 ∧ jj p = 3 then 1 else mI ν (lo + 5) p := by
  obtain ⟨s0, s1, -, -, s4, s5, -, -, s8, s9, s10, s11⟩ := S
  intro r
  induction r with
  | zero =>
    intro k n ν a b hk hn f hpl
    obtain ⟨n, rfl⟩ : ∃ k, n = k + 1 := ⟨n - 1, by omega⟩
    have hk : k = P := by omega
    subst hk
    have c1 : nI k ≤ nI k := nI_le (Nat.le_refl _) (by omega)
    have Kq : mK ν = mK c := by show ν.2.2.2.1 = c.2.2.2.1; rw [f.1]
    have Nq : mN ν = mN c := by show ν.2.2.2.2.2.1 = c.2.2.2.2.2.1; rw [f.1]
    have e1' : mI ν lo 1 = nI k := by rw [f.2.1 lo (by omega) (by simp only [List.mem_cons, List.not_mem_nil, or_false]; omega)]; exact e1
    refine ⟨ν, ?_, f, fun p => by rw [if_neg (by omega)]⟩
    simp only [F_X12_moveDark_c10, p_ok, p_let_eq, Kq, Nq, s1, e1', c1, hv2, and_self, ↓reduceIte, mdl, mdg]
  | succ r ih =>
    intro k n ν a b hk hn f hpl
    obtain ⟨n, rfl⟩ : ∃ k, n = k + 1 := ⟨n - 1, by omega⟩
    have c1 : ¬ nI P ≤ nI k := nI_ge (by omega) (by omega)
    have ik := ix_nI (show k < P by omega) (by omega)
    have kk := nI_clamp (show k < 2 ^ 31 by omega)
    have lk : k < P := by omega
    have ak : nI k + 1 = nI (k + 1) := nI_add k 1
    have Kq : mK ν = mK c := by show ν.2.2.2.1 = c.2.2.2.1; rw [f.1]
    have Nq : mN ν = mN c := by show ν.2.2.2.2.2.1 = c.2.2.2.2.2.1; rw [f.1]
    have Rq : mR ν = mR c := by show ν.2.1 = c.2.1; rw [f.1]
    have Lq : mL ν = mL c := by show ν.2.2.2.2.1 = c.2.2.2.2.1; rw [f.1]
    have e1' : mI ν lo 1 = nI P := by rw [f.2.1 lo (by omega) (by simp only [List.mem_cons, List.not_mem_nil, or_false]; omega)]; exact e1
    have e0 : mI ν 0 15 = mI c 0 15 := by rw [f.2.1 0 (by omega) (by simp only [List.mem_cons, List.not_mem_nil, or_false]; omega)]
    obtain ⟨j1, j2⟩ := hjd ν f k lk
    have e := hpl k (Nat.le_refl _) lk
    have hN : 113 ≤ mN c := hS.2.1
    unfold mdl mdg
    by_cases h1 : pl k = 0
    · have q1 : F_X4_isStillHere lo (nI k) ν = some (1, ν) := by
        simp only [F_X4_isStillHere, F_X4_isStillHere_c14, bd_some, p_ok, Kq, Nq, Rq, Lq, s1, s4, s8, s9, ik, kk, lk, e, h1, and_self, true_and, not_true_eq_false, not_false_eq_true, ↓reduceIte, or_true]
      by_cases h2 : jj k = 3
      · rw [if_pos (decide_eq_true ⟨h1, h2⟩), if_pos (decide_eq_true ⟨h1, h2⟩)]
        have f1 : Fq [lo + 5] [] c (sI ν (lo + 5) k 1) := Fq_sI f ⟨by simp, by omega⟩
        obtain ⟨ν', g1, g2, g3⟩ := ih (k + 1) n (sI ν (lo + 5) k 1) (if sh k < a then sh k else a) (if b < sh k then sh k else b) (by omega) (by omega) f1 (fun p h3 h4 => by rw [mI_sI, if_pos rfl, z_up, if_neg (by omega)]; exact hpl p (by omega) h4)
        refine ⟨ν', ?_, g2, fun p => ?_⟩
        · have o38 : mK c 38 = 7 ∧ 38 < mN c := s_o38 hS
          simp only [F_X12_moveDark_c10, F_X12_moveDark_c87, bd_some, p_ok, p_let_eq, Kq, Nq, Rq, Lq, s1, e1', c1, q1, i_10, s_o0 hS, s_r0_0 hS, s_r0_1 hS, s_r0_10 hS, s_r0_11 hS, s_r0_12 hS, s_r0_14 hS, s_r0_16 hS, s_r0_19 hS, s_r0_7 hS, s_r0_8 hS, s_r0_9 hS, o38, e0, j2, h2, s5, s10, s11, ik, kk, lk, j1, s4, s8, s9, ak, and_self, true_and, not_true_eq_false, not_false_eq_true, ↓reduceIte]
          exact g1
        · rw [g3, mI_sI, if_pos rfl, z_up]
          by_cases c : p = k
          · subst c; rw [if_neg (by omega), if_pos rfl, if_pos ⟨Nat.le_refl _, lk, h1, h2⟩]
          · by_cases c2 : k + 1 ≤ p ∧ p < P ∧ pl p = 0 ∧ jj p = 3
            · rw [if_pos c2, if_pos ⟨by omega, c2.2⟩]
            · rw [if_neg c2, if_neg c, if_neg (fun h => c2 ⟨by omega, h.2⟩)]
      · rw [if_neg (fun q => h2 (of_decide_eq_true q).2), if_neg (fun q => h2 (of_decide_eq_true q).2)]
        obtain ⟨ν', g1, g2, g3⟩ := ih (k + 1) n ν a b (by omega) (by omega) f (fun p h3 h4 => hpl p (by omega) h4)
        refine ⟨ν', ?_, g2, fun p => ?_⟩
        · simp only [F_X12_moveDark_c10, F_X12_moveDark_c87, bd_some, p_ok, Kq, Nq, s1, e1', c1, q1, i_10, s_o0 hS, s_r0_0 hS, s_r0_1 hS, s_r0_10 hS, s_r0_11 hS, s_r0_12 hS, s_r0_14 hS, s_r0_16 hS, s_r0_19 hS, s_r0_7 hS, s_r0_8 hS, s_r0_9 hS, e0, j2, h2, ak, and_self, not_false_eq_true, ↓reduceIte]
          exact g1
        · rw [g3]
          by_cases c2 : k + 1 ≤ p ∧ p < P ∧ pl p = 0 ∧ jj p = 3
          · rw [if_pos c2, if_pos ⟨by omega, c2.2⟩]
          · rw [if_neg c2, if_neg (fun h => c2 ⟨by
              by_cases c : p = k
              · rw [c] at h; exact absurd h.2.2.2 h2
              · omega, h.2⟩)]
    · rw [if_neg (fun q => h1 (of_decide_eq_true q).1), if_neg (fun q => h1 (of_decide_eq_true q).1)]
      have q1 : F_X4_isStillHere lo (nI k) ν = some (0, ν) := by
        simp only [F_X4_isStillHere, F_X4_isStillHere_c14, bd_some, p_ok, Kq, Nq, Rq, Lq, s1, s4, s8, s9, ik, kk, lk, e, h1, and_self, true_and, not_false_eq_true, ↓reduceIte, true_or]
      obtain ⟨ν', g1, g2, g3⟩ := ih (k + 1) n ν a b (by omega) (by omega) f (fun p h3 h4 => hpl p (by omega) h4)
      refine ⟨ν', ?_, g2, fun p => ?_⟩
      · simp only [F_X12_moveDark_c10, F_X12_moveDark_c87, bd_some, p_ok, Kq, Nq, s1, e1', c1, q1, ak, and_self, ↓reduceIte]
        exact g1
      · rw [g3]
        by_cases c2 : k + 1 ≤ p ∧ p < P ∧ pl p = 0 ∧ jj p = 3
        · rw [if_pos c2, if_pos ⟨by omega, c2.2⟩]
        · rw [if_neg c2, if_neg (fun h => c2 ⟨by
            by_cases c : p = k
            · rw [c] at h; exact absurd h.2.2.1 h1
            · omega, h.2⟩)]
theorem m_move {m : p_M} {j N P : Nat} {sh jj pl : Nat → Int32} (hj : j < 40) (hN : N < 40) (hP : P ≤ 60) (e90 : mI m 90 j = nI P) (hkn : ∀ ν, Fq [74, 103] [] m ν → ∀ p, p < P → F_X13_shadeOf (nI j) (nI p) (mI m 65 42) ν = some (sh p, ν) ∧ F_X13_knownOf (nI j) (nI p) (mI m 65 42) ν = some (jj p, ν)) : ∀ (r k n : Nat) (ν : p_M) (a b : Int32), k + r = P → r < n → Fq [74, 103] [] m ν → mI ν 74 (5 * N) = a → mI ν 74 (5 * N + 1) = b → (∀ p, k ≤ p → p < P → mI ν 103 (60 * j + p) = pl p) → ∃ ν', F_X13_again_c249 n (nI j) (nI N) (nI k) ν = some (nI N, ν') ∧ Fq [74, 103] [] m ν' ∧ mI ν' 74 (5 * N) = mdl (fun p => decide (pl p = 0 ∧ jj p = 3)) sh r k a ∧ mI ν' 74 (5 * N + 1) = mdg (fun p => decide (pl p = 0 ∧ jj p = 3)) sh r k b ∧ (∀ q, q ≠ 5 * N → q ≠ 5 * N + 1 → mI ν' 74 q = mI ν 74 q) ∧ (∀ p, p < 60 → mI ν' 103 (60 * j + p) = if k ≤ p ∧ p < P ∧ pl p = 0 ∧ jj p = 3 then 1 else mI ν 103 (60 * j + p)) ∧ ∀ q, q < 60 * j ∨ 60 * j + 60 ≤ q → mI ν' 103 q = mI ν 103 q := by
  have ij := ix_nI hj (by decide)
  have kj := nI_clamp (show j < 2 ^ 31 by omega)
  have m60 : 60 * nI j = nI (60 * j) := pk_mul 60 j
  have m5 : 5 * nI N = nI (5 * N) := pk_mul 5 N
  have a5 : nI (5 * N) + 1 = nI (5 * N + 1) := nI_add _ 1
  have i5 := ix_nI (show 5 * N < 240 by omega) (by decide)
  have k5 := nI_clamp (show 5 * N < 2 ^ 31 by omega)
  have l5 : 5 * N < 240 := by omega
  have i6 := ix_nI (show 5 * N + 1 < 240 by omega) (by decide)
  have k6 := nI_clamp (show 5 * N + 1 < 2 ^ 31 by omega)
  have l6 : 5 * N + 1 < 240 := by omega
  have n56 : ¬ 5 * N + 1 = 5 * N := by omega
  have n65 : ¬ 5 * N = 5 * N + 1 := by omega
  intro r
  induction r with
  | zero =>
    intro k n ν a b hk hn f ea eb hpl
    obtain ⟨n, rfl⟩ : ∃ k, n = k + 1 := ⟨n - 1, by omega⟩
    have hk : k = P := by omega
    subst hk
    have c1 : nI k ≤ nI k := nI_le (Nat.le_refl _) (by omega)
    have e90' : mI ν 90 j = nI k := by rw [Fq_row f 90 (by decide)]; exact e90
    refine ⟨ν, ?_, f, ea, eb, fun q _ _ => rfl, fun p _ => by rw [if_neg (by omega)], fun q _ => rfl⟩
    simp only [F_X13_again_c249, p_ok, aM, ij, kj, hj, e90', c1, and_self, true_and, not_false_eq_true, ↓reduceIte]
  | succ r ih =>
    intro k n ν a b hk hn f ea eb hpl
    obtain ⟨n, rfl⟩ : ∃ k, n = k + 1 := ⟨n - 1, by omega⟩
    have c1 : ¬ nI P ≤ nI k := nI_ge (by omega) (by omega)
    have a60 : nI (60 * j) + nI k = nI (60 * j + k) := nI_add _ _
    have i1 := ix_nI (show 60 * j + k < 2400 by omega) (by decide)
    have k1 := nI_clamp (show 60 * j + k < 2 ^ 31 by omega)
    have l1 : 60 * j + k < 2400 := by omega
    have ak : nI k + 1 = nI (k + 1) := nI_add k 1
    have e90' : mI ν 90 j = nI P := by rw [Fq_row f 90 (by decide)]; exact e90
    have e42 : mI ν 65 42 = mI m 65 42 := f.2.2 42 (by simp)
    have e := hpl k (Nat.le_refl _) (by omega)
    obtain ⟨j1, j2⟩ := hkn ν f k (by omega)
    unfold mdl mdg
    by_cases h1 : pl k = 0
    · by_cases h2 : jj k = 3
      · rw [if_pos (decide_eq_true ⟨h1, h2⟩), if_pos (decide_eq_true ⟨h1, h2⟩)]
        have f1 : Fq [74, 103] [] m (sI ν 103 (60 * j + k) 1) := Fq_sI f (by decide)
        have f2 : Fq [74, 103] [] m (sI (sI ν 103 (60 * j + k) 1) 74 (5 * N) (if sh k < a then sh k else a)) := Fq_sI f1 (by decide)
        have f3 : Fq [74, 103] [] m (sI (sI (sI ν 103 (60 * j + k) 1) 74 (5 * N) (if sh k < a then sh k else a)) 74 (5 * N + 1) (if b < sh k then sh k else b)) := Fq_sI f2 (by decide)
        have t1 := (hkn _ f1 k (by omega)).1
        have t2 := (hkn _ f2 k (by omega)).1
        obtain ⟨ν', g1, g2, g3, g4, g5, g6, g7⟩ := ih (k + 1) n _ (if sh k < a then sh k else a) (if b < sh k then sh k else b) (by omega) (by omega) f3 (by simp only [mI_sI, z_up, n65, ↓reduceIte]) (by simp only [mI_sI, z_up, ↓reduceIte]) (fun p h3 h4 => by
          have : ¬ 60 * j + p = 60 * j + k := by omega
          simp only [mI_sI, z_up, this, Nat.reduceEqDiff, ↓reduceIte]
          exact hpl p (by omega) h4)
        refine ⟨ν', ?_, g2, g3, g4, fun q h3 h4 => ?_, fun p hp => ?_, fun q hq => ?_⟩
        · simp only [F_X13_again_c249, F_X13_again_c370, bd_some, p_ok, tM, aM, ij, kj, hj, e90', c1, m60, a60, i1, k1, l1, e, h1, e42, j2, h2, m5, a5, i5, k5, l5, i6, k6, l6, mI_sI, z_up, Nat.reduceEqDiff, ea, eb, n56, t1, t2, ak, and_self, true_and, not_true_eq_false, not_false_eq_true, ↓reduceIte]
          exact g1
        · rw [g5 q h3 h4]
          simp only [mI_sI, z_up, h3, h4, Nat.reduceEqDiff, ↓reduceIte]
        · rw [g6 p hp]
          simp only [mI_sI, z_up, Nat.reduceEqDiff, ↓reduceIte]
          by_cases c : p = k
          · subst c; rw [if_neg (by omega), if_pos rfl, if_pos ⟨Nat.le_refl _, by omega, h1, h2⟩]
          · have c' : ¬ 60 * j + p = 60 * j + k := by omega
            by_cases c2 : k + 1 ≤ p ∧ p < P ∧ pl p = 0 ∧ jj p = 3
            · rw [if_pos c2, if_pos ⟨by omega, c2.2⟩]
            · rw [if_neg c2, if_neg c', if_neg (fun h => c2 ⟨by omega, h.2⟩)]
        · rw [g7 q hq]
          have c' : ¬ q = 60 * j + k := by omega
          simp only [mI_sI, z_up, Nat.reduceEqDiff, ↓reduceIte, c']
      · rw [if_neg (fun q => h2 (of_decide_eq_true q).2), if_neg (fun q => h2 (of_decide_eq_true q).2)]
        obtain ⟨ν', g1, g2, g3, g4, g5, g6, g7⟩ := ih (k + 1) n ν a b (by omega) (by omega) f ea eb (fun p h3 h4 => hpl p (by omega) h4)
        refine ⟨ν', ?_, g2, g3, g4, g5, fun p hp => ?_, g7⟩
        · simp only [F_X13_again_c249, F_X13_again_c370, bd_some, p_ok, tM, aM, ij, kj, hj, e90', c1, m60, a60, i1, k1, l1, e, h1, e42, j2, h2, ak, and_self, true_and, not_true_eq_false, not_false_eq_true, ↓reduceIte]
          exact g1
        · rw [g6 p hp]
          by_cases c2 : k + 1 ≤ p ∧ p < P ∧ pl p = 0 ∧ jj p = 3
          · rw [if_pos c2, if_pos ⟨by omega, c2.2⟩]
          · rw [if_neg c2, if_neg (fun h => c2 ⟨by
              by_cases c : p = k
              · rw [c] at h; exact absurd h.2.2.2 h2
              · omega, h.2⟩)]
    · rw [if_neg (fun q => h1 (of_decide_eq_true q).1), if_neg (fun q => h1 (of_decide_eq_true q).1)]
      obtain ⟨ν', g1, g2, g3, g4, g5, g6, g7⟩ := ih (k + 1) n ν a b (by omega) (by omega) f ea eb (fun p h3 h4 => hpl p (by omega) h4)
      refine ⟨ν', ?_, g2, g3, g4, g5, fun p hp => ?_, g7⟩
      · simp only [F_X13_again_c249, F_X13_again_c370, bd_some, p_ok, tM, aM, ij, kj, hj, e90', c1, m60, a60, i1, k1, l1, e, h1, ak, and_self, true_and, not_true_eq_false, not_false_eq_true, ↓reduceIte]
        exact g1
      · rw [g6 p hp]
        by_cases c2 : k + 1 ≤ p ∧ p < P ∧ pl p = 0 ∧ jj p = 3
        · rw [if_pos c2, if_pos ⟨by omega, c2.2⟩]
        · rw [if_neg c2, if_neg (fun h => c2 ⟨by
            by_cases c : p = k
            · rw [c] at h; exact absurd h.2.2.1 h1
            · omega, h.2⟩)]
theorem cnt_pos {Q : Nat → Bool} : ∀ n, ¬ cnt Q n = 0 → ∃ p, p < n ∧ Q p = true := by
  intro n
  induction n with
  | zero => intro h; exact absurd rfl h
  | succ n ih =>
    intro h
    by_cases c : Q n = true
    · exact ⟨n, by omega, c⟩
    · have e : cnt Q (n + 1) = cnt Q n := by
        show cnt Q n + (if Q n = true then 1 else 0) = _
        rw [if_neg c, Nat.add_zero]
      rw [e] at h
      obtain ⟨p, h1, h2⟩ := ih h
      exact ⟨p, by omega, h2⟩
