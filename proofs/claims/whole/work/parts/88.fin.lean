/-! a LOT is WASHED, or not yet -/
theorem cl_fin {c : p_M} {i l P nb dn : Nat} (hS : Sh c) (i4 : i < 4) (S : LotS c l P nb) (e11 : mI c l 11 = nI dn) (e2 : mI c (l + 2) 2 = nI nb) (hd : dn ≤ 20) (hn : nb ≤ 20) : ∃ c', F_X12_finishIfNoneLeft 0 (57 + 2 * i) l c = some (0, c') ∧ (∀ k, mI c' l k = if dn < nb then mI c l k else if k = 9 then 3 else if k = 10 then -1 else if k = 12 then mI c 0 15 else mI c l k) ∧ (∀ k, mI c' (57 + 2 * i) k = if dn < nb then mI c (57 + 2 * i) k else if k = 3 then -1 else mI c (57 + 2 * i) k) ∧ Fq [l, 57 + 2 * i] [] c c' := by
  obtain ⟨s0, s1, s2, -, -, -, -, ⟨s7, -⟩, -⟩ := S
  have o57 := s_o57v hS i4
  by_cases h : dn < nb
  · have h' : nI dn < nI nb := nI_lt h (by omega)
    refine ⟨c, ?_, fun k => by rw [if_pos h], fun k => by rw [if_pos h], Fq_refl c⟩
    simp only [F_X12_finishIfNoneLeft, F_X12_finishIfNoneLeft_c37, bd_some, p_ok, s1, s2, s7, e11, e2, h', and_self, ↓reduceIte]
  · have h' : ¬ nI dn < nI nb := nI_nlt (by omega) (by omega)
    have n0 : ¬ 0 = l := by omega
    have n57 : ¬ l = 57 + 2 * i := by omega
    have n57' : ¬ 57 + 2 * i = l := by omega
    have m1 : l ∈ [l, 57 + 2 * i] ∧ l ≠ 65 := ⟨by simp, by omega⟩
    have m2 : 57 + 2 * i ∈ [l, 57 + 2 * i] ∧ 57 + 2 * i ≠ 65 := ⟨by simp, by omega⟩
    refine ⟨sI (sI (sI (sI c l 9 3) l 10 (-1)) l 12 (mI c 0 15)) (57 + 2 * i) 3 (-1), ?_, fun k => ?_, fun k => ?_, Fq_sI (Fq_sI (Fq_sI (Fq_sI (Fq_refl c) m1) m1) m1) m2⟩
    · simp only [F_X12_finishIfNoneLeft, F_X12_finishIfNoneLeft_c37, bd_some, p_ok, p_let_eq, s1, s2, s7, e11, e2, h', s_o0 hS, s_r0_0 hS, s_r0_1 hS, s_r0_10 hS, s_r0_11 hS, s_r0_12 hS, s_r0_14 hS, s_r0_16 hS, s_r0_19 hS, s_r0_7 hS, s_r0_8 hS, s_r0_9 hS, o57, mK_sI, mN_sI, mI_sI, n0, and_self, ↓reduceIte]
    · simp only [mI_sI, n57, h, ↓reduceIte, z_up]
      by_cases a : k = 12
      · subst a; rfl
      · by_cases b : k = 10
        · subst b; rfl
        · by_cases d : k = 9
          · subst d; rfl
          · rw [if_neg a, if_neg b, if_neg d, if_neg d, if_neg b, if_neg a]
    · simp only [mI_sI, n57', h, ↓reduceIte, z_up]
theorem ml_fin {m : p_M} {i j nb dn : Nat} (i4 : i < 4) (hj : j < 40) (e86 : mI m 86 i = nI j) (e98 : mI m 98 j = nI dn) (e68 : mI m 68 j = nI nb) (hd : dn ≤ 20) (hn : nb ≤ 20) : ∃ m', F_X13_washes (nI i) m = some (0, m') ∧ (∀ k, mI m' 96 k = if dn < nb then mI m 96 k else if k = j then 3 else mI m 96 k) ∧ (∀ k, mI m' 97 k = if dn < nb then mI m 97 k else if k = j then -1 else mI m 97 k) ∧ (∀ k, mI m' 99 k = if dn < nb then mI m 99 k else if k = j then mI m 65 42 else mI m 99 k) ∧ (∀ k, mI m' 86 k = if dn < nb then mI m 86 k else if k = i then -1 else mI m 86 k) ∧ Fq [86, 96, 97, 99] [] m m' := by
  have ii := ix_nI i4 (by decide)
  have ki := nI_clamp (show i < 2 ^ 31 by omega)
  have ij := ix_nI hj (by decide)
  have kj := nI_clamp (show j < 2 ^ 31 by omega)
  have ij2 := ix_nI (show j < 42 by omega) (by decide)
  have l42 : j < 42 := by omega
  by_cases h : dn < nb
  · have h' : ¬ nI nb ≤ nI dn := nI_ge h (by omega)
    refine ⟨m, ?_, fun k => by rw [if_pos h], fun k => by rw [if_pos h], fun k => by rw [if_pos h], fun k => by rw [if_pos h], Fq_refl m⟩
    simp only [F_X13_washes, p_ok, aM, ii, ki, i4, e86, ij, kj, hj, ij2, l42, e68, e98, h', and_self, true_and, not_false_eq_true, ↓reduceIte]
  · have h' : nI nb ≤ nI dn := nI_le (by omega) (by omega)
    refine ⟨sI (sI (sI (sI m 96 j 3) 99 j (mI m 65 42)) 97 j (-1)) 86 i (-1), ?_, fun k => ?_, fun k => ?_, fun k => ?_, fun k => ?_, Fq_sI (Fq_sI (Fq_sI (Fq_sI (Fq_refl m) (by decide)) (by decide)) (by decide)) (by decide)⟩
    · simp only [F_X13_washes, p_ok, aM, tM, ii, ki, i4, e86, ij, kj, hj, ij2, l42, e68, e98, h', and_self, true_and, not_false_eq_true, ↓reduceIte, mI_sI, Nat.reduceEqDiff]
    · simp only [mI_sI, h, ↓reduceIte, Nat.reduceEqDiff, z_up]
    · simp only [mI_sI, h, ↓reduceIte, Nat.reduceEqDiff, z_up]
    · simp only [mI_sI, h, ↓reduceIte, Nat.reduceEqDiff, z_up]
    · simp only [mI_sI, h, ↓reduceIte, Nat.reduceEqDiff, z_up]
theorem fin_step {c m c5 m5 : p_M} {N K M C E j i dn s : Nat} {lr : Nat → Nat} {kk : Int32} (hS : Sh c) (hLs : LstR (mg c m) N E lr) (hC : mI m 65 14 = nI C ∧ C ≤ 6) (hK : mI c 0 13 = nI K ∧ mI m 65 47 = nI K ∧ K ≤ 4) (hLot : ∀ j, j < N → LotR (mg c m) C K M j (lr j)) (hM : ∀ i, i < K → MacR (mg c m) N i) (hZ : ∀ i, K ≤ i → i < 4 → MacZ (mg c m) i) (hzr : ZroR (mg c m) N) (hme : MeaR (mg c m) N M) (hld : LdR (mg c m) N) (hMs : RMisc (mg c m)) (hj : j < N) (hi : i < K) (hw : mI m 96 j = 1 ∨ mI m 96 j = 2) (hm : mI m 97 j = nI i)
    (fc : Fq [30, 32, 33, 57 + 2 * i, 58 + 2 * i, lr j, lr j + 1] [] c c5) (fm : Fq [74, 81, 82, 86, 87, 88, 96, 97, 98, 99] [31, 32, 34, 35, 36, 37] m m5)
    (p0 : mI c5 (57 + 2 * i) 0 = mI c (57 + 2 * i) 0) (p3 : mI c5 (57 + 2 * i) 3 = nI j) (p4 : mI c5 (57 + 2 * i) 4 = kk) (p5 : mI c5 (57 + 2 * i) 5 = mI c (57 + 2 * i) 5 + nI s)
    (q86 : ∀ a, mI m5 86 a = if a = i then nI j else mI m 86 a) (q87 : ∀ a, mI m5 87 a = if a = i then kk else mI m 87 a) (q88 : mI m5 88 = mI m 88)
    (v0 : ∀ a, a ≠ 9 → a ≠ 11 → mI c5 (lr j) a = mI c (lr j) a) (v9 : mI c5 (lr j) 9 = 2) (v11 : mI c5 (lr j) 11 = nI dn)
    (r96 : ∀ a, mI m5 96 a = if a = j then 2 else mI m 96 a) (r97 : mI m5 97 = mI m 97) (r98 : ∀ a, mI m5 98 a = if a = j then nI dn else mI m 98 a) (r99 : mI m5 99 = mI m 99)
    (hL : ∃ (L : LK) (h c' : Nat), okL L ∧ h ≤ 9 ∧ isL (mI c5 (lr j + 1)) L h ∧ isR (mI m5 74) j L ∧ c' < 6 ∧ mI m 89 j = nI c' ∧ mI m 73 c' = nI h)
    (r74 : ∀ a, a < 5 * j ∨ 5 * j + 5 ≤ a → mI m5 74 a = mI m 74 a) (hn : ∀ nb : Nat, nb ≤ 20 → mI m 68 j = nI nb → dn ≤ nb) (hk : okB kk)
    (hQ : ∀ μ2 : p_M, (∀ j', wt μ2 i j' = if j' = j then false else wt (mg c m) i j') → mI μ2 (57 + 2 * i) 2 = mI c5 (57 + 2 * i) 2 → mI μ2 (58 + 2 * i) = mI c5 (58 + 2 * i) → mI μ2 102 = mI m 102 → QueR μ2 N i) :
    ∃ c6 m6, F_X12_finishIfNoneLeft 0 (57 + 2 * i) (lr j) c5 = some (0, c6) ∧ F_X13_washes (nI i) m5 = some (0, m6) ∧ RLots (mg c6 (sI m6 88 i (mI m6 88 i + nI s))) ∧ Fq [lr j, 57 + 2 * i] [] c5 c6 ∧ Fq [86, 96, 97, 99] [] m5 m6 ∧ ∀ j', wt m6 i j' = if j' = j then false else wt m i j' := by
  have i4 : i < 4 := by omega
  have hN : N ≤ 40 := hLs.2.2.1
  obtain ⟨P, nb, S, V, G, -, Cc, -, -⟩ := hLot j hj
  have hlj : 113 ≤ lr j := S.1
  have hnb : nb ≤ 20 := Cc.1
  have e68 : mI m 68 j = nI nb := Cc.2.1
  have elen := Cc.2.2.1
  rw [mg_c (show ¬ (65 ≤ lr j + 2 ∧ lr j + 2 ≤ 111) by omega)] at elen
  have hdn := hn nb hnb e68
  have S5 : LotS c5 (lr j) P nb := LotS_pt (μ := c) (by show c.2.2.2.2.2.1 ≤ c5.2.2.2.2.2.1; rw [fc.1]; exact Nat.le_refl _) (fun a _ _ => ⟨by show c5.2.1 a = c.2.1 a; rw [fc.1], by show c5.2.2.2.1 a = c.2.2.2.1 a; rw [fc.1], by show c5.2.2.2.2.1 a = c.2.2.2.2.1 a; rw [fc.1]⟩) S
  have cr : ∀ a, a ≠ 65 → a ≠ 30 → a ≠ 32 → a ≠ 33 → a ≠ 57 + 2 * i → a ≠ 58 + 2 * i → a ≠ lr j → a ≠ lr j + 1 → mI c5 a = mI c a := fun a h1 h2 h3 h4 h5 h6 h7 h8 => fc.2.1 a h1 (by
    simp only [List.mem_cons, List.not_mem_nil, or_false]
    omega)
  have elen5 : mI c5 (lr j + 2) 2 = nI nb := by rw [cr (lr j + 2) (by omega) (by omega) (by omega) (by omega) (by omega) (by omega) (by omega) (by omega)]; exact elen
  obtain ⟨c6, f1, f2, f3, f4⟩ := cl_fin (Sh_q fc hS) i4 S5 v11 elen5 (by omega) hnb
  obtain ⟨m6, g1, g2, g3, g4, g5, g6⟩ := ml_fin (m := m5) (j := j) (dn := dn) (nb := nb) i4 (by omega) (by rw [q86, if_pos rfl]) (by rw [r98, if_pos rfl]) (by rw [Fq_row fm 68 (by decide)]; exact e68) (by omega) hnb
  have d42 : mI c5 0 15 = mI m5 65 42 := by
    rw [cr 0 (by omega) (by omega) (by omega) (by omega) (by omega) (by omega) (by omega) (by omega), Fq_sc fm 42 (by decide)]
    obtain ⟨⟨d, -, d1, d2⟩, -⟩ := hMs
    exact d1.trans d2.symm
  obtain ⟨w0, w1, w2, w3, w4, w5, w6, w7, w8, w9, w10, w11, w12⟩ := V
  have hmlr : ¬ (65 ≤ lr j ∧ lr j ≤ 111) := by omega
  rw [mg_c hmlr] at w8 w10
  have w8 : mI c (lr j) 10 = mI m 97 j := w8
  have w10 : mI c (lr j) 12 = mI m 99 j := w10
  have wt6 : ∀ j', wt m6 i j' = if j' = j then false else wt m i j' := fun j' => by
    unfold wt
    rw [g2, g3, r96, r97]
    by_cases h1 : j' = j
    · rw [if_pos h1, if_pos h1]
      by_cases h2 : dn < nb
      · rw [if_pos h2, if_pos h2, if_pos h1]; exact decide_eq_false (fun h => absurd h.1 (by decide))
      · rw [if_neg h2, if_neg h2, if_pos h1, if_pos h1]; exact decide_eq_false (fun h => absurd h.1 (by decide))
    · rw [if_neg h1, if_neg h1, if_neg h1, if_neg h1]
      by_cases h2 : dn < nb
      · rw [if_pos h2, if_pos h2]
      · rw [if_neg h2, if_neg h2]
  refine ⟨c6, m6, f1, g1, ?_, f4, g6, wt6⟩
  have hm57 : ¬ (65 ≤ 57 + 2 * i ∧ 57 + 2 * i ≤ 111) := by omega
  have hm58 : ¬ (65 ≤ 58 + 2 * i ∧ 58 + 2 * i ≤ 111) := by omega
  have hmlr1 : ¬ (65 ≤ lr j + 1 ∧ lr j + 1 ≤ 111) := by omega
  have y3 := (hM i hi).2.2.2.1
  rw [mg_c hm57] at y3
  have y3 : mI c (57 + 2 * i) 5 = mI m 88 i := y3
  have r58 : mI c6 (58 + 2 * i) = mI c5 (58 + 2 * i) := f4.2.1 _ (by omega) (by simp only [List.mem_cons, List.not_mem_nil, or_false]; omega)
  have rl1 : mI c6 (lr j + 1) = mI c5 (lr j + 1) := f4.2.1 _ (by omega) (by simp only [List.mem_cons, List.not_mem_nil, or_false]; omega)
  have e88 : mI m6 88 = mI m 88 := (Fq_row g6 88 (by decide)).trans q88
  have e87 : mI m6 87 = mI m5 87 := Fq_row g6 87 (by decide)
  have e98 : mI m6 98 = mI m5 98 := Fq_row g6 98 (by decide)
  have e74 : mI m6 74 = mI m5 74 := Fq_row g6 74 (by decide)
  have e102 : mI m6 102 = mI m 102 := (Fq_row g6 102 (by decide)).trans (Fq_row fm 102 (by decide))
  have Fc : Fq [30, 32, 33, 57 + 2 * i, 58 + 2 * i, lr j, lr j + 1] [] c c6 := Fq_trans fc (Fq_mono f4 (by simp) (fun a h => h))
  have Fm : Fq [74, 81, 82, 86, 87, 88, 96, 97, 98, 99] [31, 32, 34, 35, 36, 37] m (sI m6 88 i (mI m6 88 i + nI s)) := Fq_sI (Fq_trans fm (Fq_mono g6 (by decide) (by decide))) (by decide)
  refine stp_RL (s' := if dn < nb then 2 else 3) (m' := if dn < nb then nI i else -1) (w' := if dn < nb then mI m 99 j else mI m5 65 42) (in' := if dn < nb then nI j else -1) (k' := kk) (mi' := mI c (57 + 2 * i) 5 + nI s) (dn := dn) hLs hC hK hLot hM hZ hzr hme hld hj hi hw hm (Fr_mono (mg_fr Fc Fm) (fun a h => h) (by decide)) ?_ ?_ ?_ ?_ (fun a => ?_) (fun a => ?_) (fun a => ?_) (fun a h1 h2 h3 h4 => ?_) ?_ ?_ ?_ ?_ (fun a => ?_) (fun a => ?_) (fun a => ?_) (fun a => ?_) ?_ (fun a ha => ?_) ?_ (fun nb' h1 h2 => ?_) hk (hQ _ (fun j' => ?_) ?_ ?_ ?_)
  · rw [mg_c hm57, mg_c hm57, f3 0]
    by_cases h : dn < nb
    · rw [if_pos h]; exact p0
    · rw [if_neg h]; exact p0
  · rw [mg_c hm57, f3 3]
    by_cases h : dn < nb
    · rw [if_pos h, if_pos h]; exact p3
    · rw [if_neg h, if_neg h]; rfl
  · rw [mg_c hm57, f3 4]
    by_cases h : dn < nb
    · rw [if_pos h]; exact p4
    · rw [if_neg h]; exact p4
  · rw [mg_c hm57, f3 5]
    by_cases h : dn < nb
    · rw [if_pos h]; exact p5
    · rw [if_neg h]; exact p5
  · show mI m6 86 a = if a = i then _ else mI m 86 a
    rw [g5, q86]
    by_cases h : dn < nb
    · rw [if_pos h, if_pos h]
    · rw [if_neg h, if_neg h]
      by_cases h2 : a = i
      · rw [if_pos h2, if_pos h2]
      · rw [if_neg h2, if_neg h2, if_neg h2]
  · show mI m6 87 a = if a = i then _ else mI m 87 a
    rw [e87, q87]
  · show va_up (mI m6 88) i (mI m6 88 i + nI s) a = if a = i then _ else mI m 88 a
    rw [z_up, e88, y3]
  · rw [mg_c hmlr, mg_c hmlr, f2, if_neg h1, if_neg h2, if_neg h4, v0 a h1 h3]
    by_cases h : dn < nb
    · rw [if_pos h]
    · rw [if_neg h]
  · rw [mg_c hmlr, f2]
    by_cases h : dn < nb
    · rw [if_pos h, if_pos h]; exact v9
    · rw [if_neg h, if_neg h]; rfl
  · rw [mg_c hmlr, f2]
    by_cases h : dn < nb
    · rw [if_pos h, if_pos h, v0 10 (by decide) (by decide), w8]; exact hm
    · rw [if_neg h, if_neg h]; rfl
  · rw [mg_c hmlr, f2]
    by_cases h : dn < nb
    · rw [if_pos h]; exact v11
    · rw [if_neg h]; exact v11
  · rw [mg_c hmlr, f2]
    by_cases h : dn < nb
    · rw [if_pos h, if_pos h, v0 12 (by decide) (by decide)]; exact w10
    · rw [if_neg h, if_neg h]; exact d42
  · show mI m6 96 a = if a = j then _ else mI m 96 a
    rw [g2, r96]
    by_cases h : dn < nb
    · rw [if_pos h, if_pos h]
    · rw [if_neg h, if_neg h]
      by_cases h2 : a = j
      · rw [if_pos h2, if_pos h2]
      · rw [if_neg h2, if_neg h2, if_neg h2]
  · show mI m6 97 a = if a = j then _ else mI m 97 a
    rw [g3, r97]
    by_cases h : dn < nb
    · rw [if_pos h, if_pos h]
      by_cases h2 : a = j
      · rw [if_pos h2, h2, hm]
      · rw [if_neg h2]
    · rw [if_neg h, if_neg h]
  · show mI m6 98 a = if a = j then _ else mI m 98 a
    rw [e98, r98]
  · show mI m6 99 a = if a = j then _ else mI m 99 a
    rw [g4, r99]
    by_cases h : dn < nb
    · rw [if_pos h, if_pos h]
      by_cases h2 : a = j
      · rw [if_pos h2, h2]
      · rw [if_neg h2]
    · rw [if_neg h, if_neg h]
  · obtain ⟨L, h, c', k1, k2, k3, k4, k5, k6, k7⟩ := hL
    refine ⟨L, h, c', k1, k2, ?_, ?_, k5, k6, k7⟩
    · rw [mg_c hmlr1, rl1]; exact k3
    · show isR (mI m6 74) j L
      rw [e74]; exact k4
  · show mI m6 74 a = mI m 74 a
    rw [e74]; exact r74 a ha
  · by_cases h : dn < nb
    · exact Or.inl ⟨if_pos h, if_pos h, if_pos h⟩
    · exact Or.inr ⟨if_neg h, if_neg h, if_neg h⟩
  · have h2 : mI m 68 j = nI nb' := h2
    have : nb' = nb := (nI_eq (show nb' < 2 ^ 31 by omega) (show nb < 2 ^ 31 by omega)).mp (h2.symm.trans e68)
    subst this
    refine ⟨hdn, fun h => ?_⟩
    by_cases h3 : dn < nb'
    · exact h3
    · rw [if_neg h3] at h; exact absurd h (by decide)
  · exact wt6 j'
  · rw [mg_c hm57, f3 2]
    by_cases h : dn < nb
    · rw [if_pos h]
    · rw [if_neg h]; rfl
  · rw [mg_c hm58]; exact r58
  · exact e102
