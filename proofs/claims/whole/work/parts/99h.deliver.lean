/-! pieces are delivered: what both sides hold afterwards -/
theorem plc_RL {μ μ2 : p_M} {N K M C E : Nat} {lr : Nat → Nat} (hLs : LstR μ N E lr) (hC : mI μ 65 14 = nI C ∧ C ≤ 6) (hK : mI μ 0 13 = nI K ∧ mI μ 65 47 = nI K ∧ K ≤ 4) (hLot : ∀ j, j < N → LotR μ C K M j (lr j)) (hM : ∀ i, i < K → MacR μ N i) (hZ : ∀ i, K ≤ i → i < 4 → MacZ μ i) (hzr : ZroR μ N) (hme : MeaR μ N M) (hld : LdR μ N)
    (hR : mR μ2 = mR μ) (hKK : mK μ2 = mK μ) (hL : mL μ2 = mL μ) (hN : mN μ2 = mN μ) (c0 : mI μ2 0 13 = mI μ 0 13) (c1 : ∀ a, a < 65 → a ∉ [0, 38, 42, 43, 44, 45] → mI μ2 a = mI μ a) (c38 : ∀ k, k ≠ 9 → mI μ2 38 k = mI μ 38 k) (d1 : ∀ a, 66 ≤ a → a ≤ 107 → a ≠ 103 → mI μ2 a = mI μ a) (sc : ∀ k, k ∉ [0, 73, 74, 75] → mI μ2 65 k = mI μ 65 k) (b2 : ∀ j, j < N → ∀ a, lr j ≤ a → a ≤ lr j + 6 → a ≠ lr j + 5 → mI μ2 a = mI μ a) (b3 : ∀ j, j < N → ∀ P, P ≤ 60 → mI μ 90 j = nI P → LotP μ2 j (lr j) P) (z103 : ∀ k, 60 * N ≤ k → mI μ2 103 k = mI μ 103 k) : RLots μ2 := by
  obtain ⟨l1, l2, l3, l4, l5, l6⟩ := hLs
  have r96 := d1 96 (by decide) (by decide) (by decide)
  have r97 := d1 97 (by decide) (by decide) (by decide)
  have r98 := d1 98 (by decide) (by decide) (by decide)
  have r101 := d1 101 (by decide) (by decide) (by decide)
  have r102 := d1 102 (by decide) (by decide) (by decide)
  have r104 := d1 104 (by decide) (by decide) (by decide)
  have r105 := d1 105 (by decide) (by decide) (by decide)
  refine ⟨N, K, M, C, E, lr, ⟨?_, ?_, l3, ?_, l5, l6⟩, ⟨(sc 14 (by decide)).trans hC.1, hC.2⟩, ⟨c0.trans hK.1, (sc 47 (by decide)).trans hK.2.1, hK.2.2⟩, fun j hj => ?_, fun i hi => ?_, fun i h1 h2 => ?_, ⟨fun j h1 h2 => ?_, fun k h1 h2 => ?_⟩, ?_, ?_⟩
  · rw [c1 37 (by decide) (by decide)]; exact l1
  · rw [sc 62 (by decide)]; exact l2
  · rw [hR, hKK, hL, hN]; exact l4
  · obtain ⟨P, nb, S, V, G, L, Cc, Pz, Pm⟩ := hLot j hj
    have cell := b2 j hj
    have rr : ∀ a, 89 ≤ a → a ≤ 101 → mI μ2 a j = mI μ a j := fun a h1 h2 => by rw [d1 a (by omega) (by omega) (by omega)]
    refine ⟨P, nb, LotS_pt (by rw [hN]; exact Nat.le_refl _) (fun a _ _ => ⟨by rw [hR], by rw [hKK], by rw [hL]⟩) S, LotV_pt (cell _ (by omega) (by omega) (by omega)) rr V, LotG_pt (Nat.le_refl C) (Nat.le_refl K) rr G, LotL_pt (cell _ (by omega) (by omega) (by omega)) (fun k _ _ => by rw [d1 74 (by decide) (by decide) (by decide)]) (rr 89 (by decide) (by decide)) (fun c _ _ => by rw [d1 73 (by decide) (by decide) (by decide)]) L, LotC_pt (cell _ (by omega) (by omega) (by omega)) (cell _ (by omega) (by omega) (by omega)) (cell _ (by omega) (by omega) (by omega)) (by rw [d1 68 (by decide) (by decide) (by decide)]) (fun k _ _ => by rw [d1 69 (by decide) (by decide) (by decide), d1 70 (by decide) (by decide) (by decide)]; exact ⟨rfl, rfl⟩) Cc, b3 j hj P G.2.2.2.1 G.2.1, LotM_pt (cell _ (by omega) (by omega) (by omega)) r104 r105 Pm⟩
  · have e57 : mI μ2 (57 + 2 * i) = mI μ (57 + 2 * i) := c1 _ (by omega) (by simp only [List.mem_cons, List.not_mem_nil, or_false]; omega)
    have e58 : mI μ2 (58 + 2 * i) = mI μ (58 + 2 * i) := c1 _ (by omega) (by simp only [List.mem_cons, List.not_mem_nil, or_false]; omega)
    unfold MacR
    rw [wt_g r96 r97, e57, e58, d1 85 (by decide) (by decide) (by decide), d1 86 (by decide) (by decide) (by decide), d1 87 (by decide) (by decide) (by decide), d1 88 (by decide) (by decide) (by decide), r96, r97, r102]
    exact hM i hi
  · have e57 : mI μ2 (57 + 2 * i) = mI μ (57 + 2 * i) := c1 _ (by omega) (by simp only [List.mem_cons, List.not_mem_nil, or_false]; omega)
    unfold MacZ
    rw [e57, d1 88 (by decide) (by decide) (by decide)]
    exact hZ i h1 h2
  · rw [r96, r98, r101]; exact hzr.1 j h1 h2
  · rw [z103 k h1]; exact hzr.2 k h1 h2
  · unfold MeaR
    rw [c38 3 (by decide), c38 4 (by decide), c1 39 (by decide) (by decide), c1 40 (by decide) (by decide), c1 41 (by decide) (by decide), r104, r105, d1 106 (by decide) (by decide) (by decide), d1 107 (by decide) (by decide) (by decide), sc 69 (by decide), sc 70 (by decide)]
    exact hme
  · unfold LdR
    rw [sc 63 (by decide), ld_g r96, r102]
    exact hld
/-- one code delivered by the class -/
def dC1 (lr : Nat → Nat) (c : p_M) (e : Nat) : p_M := sI c (lr (lof e) + 5) (pof e) 2
def ltf (due : Nat → Int32) (d : Nat) (a : Int32) (e : Nat) : Int32 := a + (if nI d ≤ due (lof e) then 0 else 1)
theorem ltf_add {due : Nat → Int32} {d : Nat} : ∀ (D : List Nat) (a b : Int32), D.foldl (ltf due d) (a + b) = a + D.foldl (ltf due d) b := by
  intro D
  induction D with
  | nil => intro a b; rfl
  | cons e D ih =>
    intro a b
    show D.foldl (ltf due d) (a + b + _) = a + D.foldl (ltf due d) (b + _)
    rw [Int32.add_assoc, ih]
theorem ltf_M {d : Nat} : ∀ (D : List Nat) (m : p_M), mI (D.foldl (dM1 d) m) 65 75 = D.foldl (ltf (mI m 95) d) (mI m 65 75) := by
  intro D
  induction D with
  | nil => intro m; rfl
  | cons e D ih =>
    intro m
    show mI (D.foldl (dM1 d) (dM1 d m e)) 65 75 = _
    rw [ih]
    rfl
theorem dM_fr {d : Nat} : ∀ (D : List Nat) (m : p_M), Fq [103] [75] m (D.foldl (dM1 d) m) := by
  intro D
  induction D with
  | nil => intro m; exact Fq_refl m
  | cons e D ih =>
    intro m
    refine Fq_trans ?_ (ih (dM1 d m e))
    exact Fq_s65 (Fq_sI (Fq_refl m) (by decide)) (by decide)
/-- what the class reads while it delivers -/
def okC (μ : p_M) (N n : Nat) (lr : Nat → Nat) (O : Nat → Nat) (c : p_M) : Prop := c.2 = μ.2 ∧ (∀ a, a < 113 → a ∉ [38, 42, 43, 44, 45] → mI c a = mI μ a) ∧ (∀ j, j < N → ∀ a, lr j ≤ a → a ≤ lr j + 6 → a ≠ lr j + 5 → mI c a = mI μ a) ∧ mI c 38 9 = nI n ∧ (∀ k, k ≠ 9 → mI c 38 k = mI μ 38 k) ∧ ∀ i, i < n → mI c 43 i = nI (O i)
theorem okC_d {μ c : p_M} {N n e : Nat} {lr O : Nat → Nat} (h5 : ∀ i j, i < j → j < N → lr i + 7 ≤ lr j) (h1 : ∀ j, j < N → 113 ≤ lr j) (h : okC μ N n lr O c) (he : lof e < N) : okC μ N n lr O (dC1 lr c e) := by
  obtain ⟨a1, a2, a3, a4, a5, a6⟩ := h
  have := h1 (lof e) he
  refine ⟨a1, fun a g1 g2 => ?_, fun j hj a g1 g2 g3 => ?_, ?_, fun k hk => ?_, fun i hi => ?_⟩
  · unfold dC1; rw [mI_sI, if_neg (by omega)]; exact a2 a g1 g2
  · unfold dC1
    rw [mI_sI, if_neg ?_]
    · exact a3 j hj a g1 g2 g3
    · by_cases c : j = lof e
      · subst c; exact g3
      · by_cases c2 : j < lof e
        · have := h5 j (lof e) c2 he; omega
        · have := h5 (lof e) j (by omega) hj; omega
  · unfold dC1; rw [mI_sI, if_neg (by omega)]; exact a4
  · unfold dC1; rw [mI_sI, if_neg (by omega)]; exact a5 k hk
  · unfold dC1; rw [mI_sI, if_neg (by omega)]; exact a6 i hi
theorem okC_f {μ : p_M} {N n : Nat} {lr O : Nat → Nat} (h5 : ∀ i j, i < j → j < N → lr i + 7 ≤ lr j) (h1 : ∀ j, j < N → 113 ≤ lr j) : ∀ (D : List Nat) (c : p_M), (∀ e, e ∈ D → lof e < N) → okC μ N n lr O c → okC μ N n lr O (D.foldl (dC1 lr) c) := by
  intro D
  induction D with
  | nil => intro c _ h; exact h
  | cons e D ih =>
    intro c hD h
    exact ih _ (fun e' he' => hD e' (List.mem_cons_of_mem _ he')) (okC_d h5 h1 h (hD e (List.mem_cons_self ..)))
theorem rng_in {T : Nat → Nat} : ∀ (r i e : Nat), e ∈ rng T r i → ∃ k, i ≤ k ∧ k < i + r ∧ e = T k := by
  intro r
  induction r with
  | zero => intro i e h; cases h
  | succ r ih =>
    intro i e h
    cases h with
    | head => exact ⟨i, Nat.le_refl _, by omega, rfl⟩
    | tail _ h =>
      obtain ⟨k, h1, h2, h3⟩ := ih (i + 1) e h
      exact ⟨k, by omega, by omega, h3⟩
theorem e_lof {e : Nat} (he : e < 2 ^ 20) : ((nI e).toUInt32 >>> ((6 : Int32).toUInt32 &&& Int32.toUInt32 31)).toInt32 &&& (63 : Int32) = nI (lof e) := by
  rw [pk_ushrN (show e < 2 ^ 32 by omega) 6 6 (by decide), pk_andN (show e / 2 ^ 6 < 2 ^ 32 by omega) 6 (by decide)]
  rfl
theorem e_pof {e : Nat} (he : e < 2 ^ 20) : nI e &&& (63 : Int32) = nI (pof e) := by
  rw [pk_andN (show e < 2 ^ 32 by omega) 6 (by decide)]
  rfl
theorem c_17 {μ : p_M} {N n d b st E : Nat} {lr P O : Nat → Nat} (hS : Sh μ) (hLs : LstR μ N E lr) (hLot : ∀ j, j < N → (∃ nb, LotS μ (lr j) (P j) nb) ∧ mI μ (lr j) 1 = nI (P j) ∧ P j ≤ 60 ∧ mI μ (lr j) 3 = mI μ 95 j) (t1 : mI μ 0 15 = nI d) (hn : n ≤ 250) (hO : ∀ i, i < n → O i < 2 ^ 20 ∧ lof (O i) < N ∧ pof (O i) < P (lof (O i))) (hb : b + st ≤ n) : ∀ (r i f : Nat) (c : p_M) (lt : Int32), i + r = b + st → r < f → okC μ N n lr O c → F_X12_deliverPack_c17 f 0 lt (nI (b + st)) (nI i) c = some (0, (rng O r i).foldl (ltf (mI μ 95) d) lt, (rng O r i).foldl (dC1 lr) c) := by
  have h113 : ∀ j, j < N → 113 ≤ lr j := fun j hj => by obtain ⟨⟨nb, S⟩, -⟩ := hLot j hj; exact S.1
  have hN := hLs.2.2.1
  intro r
  induction r with
  | zero =>
    intro i f c lt hi hf hc
    obtain ⟨f, rfl⟩ : ∃ k, f = k + 1 := ⟨f - 1, by omega⟩
    have c1 : nI (b + st) ≤ nI i := nI_le (by omega) (by omega)
    unfold F_X12_deliverPack_c17
    simp only [c1, ↓reduceIte]
    rfl
  | succ r ih =>
    intro i f c lt hi hf hc
    obtain ⟨f, rfl⟩ : ∃ k, f = k + 1 := ⟨f - 1, by omega⟩
    have c1 : ¬ nI (b + st) ≤ nI i := nI_ge (by omega) (by omega)
    have hc0 := hc
    obtain ⟨a1, a2, a3, a4, a5, a6⟩ := hc
    have Kq : mK c = mK μ := by show c.2.2.2.1 = μ.2.2.2.1; rw [a1]
    have Nq : mN c = mN μ := by show c.2.2.2.2.2.1 = μ.2.2.2.2.2.1; rw [a1]
    have Rq : mR c = mR μ := by show c.2.1 = μ.2.1; rw [a1]
    have Lq : mL c = mL μ := by show c.2.2.2.2.1 = μ.2.2.2.2.1; rw [a1]
    have hSc : Sh c := by
      unfold Sh ShM at *
      rw [Kq, Nq, Rq, Lq]; exact hS
    obtain ⟨o1, o2, o3⟩ := hO i (by omega)
    have v43 := a6 i (by omega)
    have ni : ¬ nI i < 0 := nI_pos (by omega)
    have c2 : ¬ nI n ≤ nI i := nI_ge (by omega) (by omega)
    have ki := nI_clamp (show i < 2 ^ 31 by omega)
    have li : i < 250 := by omega
    have el := e_lof o1
    have ep := e_pof o1
    have q1 : F_X6_lotOf 38 (nI i) c = some (nI (lof (O i)), c) := by
      simp only [F_X6_lotOf, F_X6_lotOf_c28, bd_some, p_ok, s_o38 hSc, s_r38_0 hSc, s_r38_1 hSc, s_r38_2 hSc, s_r38_5 hSc, s_r38_6 hSc, s_r38_7 hSc, s_r38_8 hSc, s_a43 hSc, s_l43 hSc, s_o43 hSc, s_o38 hSc, a4, ni, c2, ki, li, v43, el, and_self, true_and, not_false_eq_true, ↓reduceIte]
    have q2 : F_X6_pieceOf 38 (nI i) c = some (nI (pof (O i)), c) := by
      simp only [F_X6_pieceOf, F_X6_pieceOf_c25, bd_some, p_ok, s_o38 hSc, s_r38_0 hSc, s_r38_1 hSc, s_r38_2 hSc, s_r38_5 hSc, s_r38_6 hSc, s_r38_7 hSc, s_r38_8 hSc, s_a43 hSc, s_l43 hSc, s_o43 hSc, s_o38 hSc, a4, ni, c2, ki, li, v43, ep, and_self, true_and, not_false_eq_true, ↓reduceIte]
    obtain ⟨⟨nb, S⟩, e1, hP, e3⟩ := hLot _ o2
    have hl := h113 _ o2
    have LsC : LstR c N E lr := by
      unfold LstR at *
      rw [Rq, Kq, Nq, Lq, a2 37 (by decide) (by decide), a2 65 (by decide) (by decide)]; exact hLs
    have la := c_lotAt hSc LsC o2 (by rw [Kq, Nq]; exact S.2.1)
    have e1' : mI c (lr (lof (O i))) 1 = nI (P (lof (O i))) := by rw [a3 _ o2 _ (by omega) (by omega) (by omega)]; exact e1
    have np : ¬ nI (pof (O i)) < 0 := nI_pos (by omega)
    have cp : ¬ nI (P (lof (O i))) ≤ nI (pof (O i)) := nI_ge o3 (by omega)
    have kp := nI_clamp (show pof (O i) < 2 ^ 31 by omega)
    have q3 : F_X4_setDelivered (lr (lof (O i))) (nI (pof (O i))) c = some (0, dC1 lr c (O i)) := by
      simp only [F_X4_setDelivered, F_X4_setDelivered_c19, bd_some, p_ok, p_let_eq, Kq, Nq, Rq, Lq, S.2.1, S.2.2.2.2.1, S.2.2.2.2.2.2.2.2.1, S.2.2.2.2.2.2.2.2.2.1, np, e1', cp, kp, o3, and_self, true_and, not_false_eq_true, ↓reduceIte]
      rfl
    have hd := okC_d hLs.2.2.2.2.1 h113 hc0 o2
    have r1 := ih (i + 1) f (dC1 lr c (O i)) (ltf (mI μ 95) d lt (O i)) (by omega) (by omega) hd
    have ai : nI i + 1 = nI (i + 1) := nI_add i 1
    have x0 : mI (dC1 lr c (O i)) 0 15 = nI d := by rw [hd.2.1 0 (by decide) (by decide)]; exact t1
    have x3 : mI (dC1 lr c (O i)) (lr (lof (O i))) 3 = mI μ 95 (lof (O i)) := by rw [hd.2.2.1 _ o2 _ (by omega) (by omega) (by omega)]; exact e3
    have Kd : mK (dC1 lr c (O i)) = mK μ := Kq
    have Nd : mN (dC1 lr c (O i)) = mN μ := Nq
    show _ = some (0, (rng O r (i + 1)).foldl (ltf (mI μ 95) d) (ltf (mI μ 95) d lt (O i)), (rng O r (i + 1)).foldl (dC1 lr) (dC1 lr c (O i)))
    rw [← r1]
    have o38 : mK μ 38 = 7 ∧ 38 < mN μ := s_o38 hS
    by_cases cd : nI d ≤ mI μ 95 (lof (O i))
    · have e : ltf (mI μ 95) d lt (O i) = lt := by unfold ltf; rw [if_pos cd]; exact Int32.add_zero _
      rw [e]
      conv => lhs; unfold F_X12_deliverPack_c17
      simp only [F_X12_deliverPack_c67, bd_some, p_ok, c1, Kq, Nq, Rq, s_o0 hS, s_r0_0 hS, s_r0_1 hS, s_r0_10 hS, s_r0_11 hS, s_r0_12 hS, s_r0_14 hS, s_r0_16 hS, s_r0_19 hS, s_r0_7 hS, s_r0_8 hS, s_r0_9 hS, o38, q1, la, q2, S.2.1, q3, Kd, Nd, x0, x3, cd, ai, and_self, ↓reduceIte]
    · have e : ltf (mI μ 95) d lt (O i) = lt + 1 := by unfold ltf; rw [if_neg cd]
      rw [e]
      conv => lhs; unfold F_X12_deliverPack_c17
      simp only [F_X12_deliverPack_c67, bd_some, p_ok, c1, Kq, Nq, Rq, s_o0 hS, s_r0_0 hS, s_r0_1 hS, s_r0_10 hS, s_r0_11 hS, s_r0_12 hS, s_r0_14 hS, s_r0_16 hS, s_r0_19 hS, s_r0_7 hS, s_r0_8 hS, s_r0_9 hS, o38, q1, la, q2, S.2.1, q3, Kd, Nd, x0, x3, cd, ai, and_self, ↓reduceIte]
def dcn (L : List Nat) (O : Nat → Nat) (st : Nat) : Nat → Nat → List Nat
  | 0, _ => []
  | r + 1, i => rng O st (nth L i) ++ dcn L O st r (i + 1)
theorem dcn_s {L : List Nat} {O : Nat → Nat} {st x : Nat} : ∀ (r i : Nat), dcn (x :: L) O st r (i + 1) = dcn L O st r i := by
  intro r
  induction r with
  | zero => intro i; rfl
  | succ r ih =>
    intro i
    show rng O st (nth L i) ++ dcn (x :: L) O st r (i + 1 + 1) = rng O st (nth L i) ++ dcn L O st r (i + 1)
    rw [ih]
theorem dcn_t {O : Nat → Nat} {st : Nat} : ∀ (w : Nat) (L : List Nat), w ≤ L.length → dcn L O st w 0 = dcs O st (L.take w) := by
  intro w
  induction w with
  | zero => intro L _; rw [List.take_zero]; rfl
  | succ w ih =>
    intro L hL
    cases L with
    | nil => exact absurd hL (by rw [List.length_nil]; omega)
    | cons x L =>
      rw [List.take_succ_cons]
      show rng O st x ++ dcn (x :: L) O st w (0 + 1) = rng O st x ++ dcs O st (L.take w)
      rw [dcn_s, ih L (by rw [List.length_cons] at hL; omega)]
theorem nth_in : ∀ (L : List Nat) (i : Nat), i < L.length → nth L i ∈ L := by
  intro L
  induction L with
  | nil => intro i h; exact absurd h (Nat.not_lt_zero _)
  | cons x L ih =>
    intro i h
    cases i with
    | zero => exact List.mem_cons_self ..
    | succ i => exact List.mem_cons_of_mem _ (ih i (by rw [List.length_cons] at h; omega))
theorem c_34 {μ : p_M} {N n d st E w : Nat} {lr P O : Nat → Nat} {L : List Nat} (hS : Sh μ) (hRH : RHouse μ) (est : mI μ 84 16 = nI st) (hLs : LstR μ N E lr) (hLot : ∀ j, j < N → (∃ nb, LotS μ (lr j) (P j) nb) ∧ mI μ (lr j) 1 = nI (P j) ∧ P j ≤ 60 ∧ mI μ (lr j) 3 = mI μ 95 j) (t1 : mI μ 0 15 = nI d) (hn : n ≤ 250) (hst : st ≤ 20) (hO : ∀ i, i < n → O i < 2 ^ 20 ∧ lof (O i) < N ∧ pof (O i) < P (lof (O i))) (hw : w ≤ 20) (hwL : w ≤ L.length) (hLb : ∀ b, b ∈ L → b + st ≤ n) : ∀ (r i f : Nat) (c : p_M) (lt : Int32), i + r = w → r < f → okC μ N n lr O c → (∀ i, i < L.length → mI c 44 i = nI (nth L i)) → F_X12_deliver_c34 f 0 (nI w) lt (nI i) c = some (0, (dcn L O st r i).foldl (ltf (mI μ 95) d) lt, sI (sI ((dcn L O st r i).foldl (dC1 lr) c) 0 17 (mI μ 0 17 + nI w)) 0 18 (mI μ 0 18 + (dcn L O st r i).foldl (ltf (mI μ 95) d) lt)) := by
  have h113 : ∀ j, j < N → 113 ≤ lr j := fun j hj => by obtain ⟨⟨nb, S⟩, -⟩ := hLot j hj; exact S.1
  intro r
  induction r with
  | zero =>
    intro i f c lt hi hf hc h44
    obtain ⟨f, rfl⟩ : ∃ k, f = k + 1 := ⟨f - 1, by omega⟩
    have c1 : nI w ≤ nI i := nI_le (by omega) (by omega)
    have Kq : mK c = mK μ := by show c.2.2.2.1 = μ.2.2.2.1; rw [hc.1]
    have Nq : mN c = mN μ := by show c.2.2.2.2.2.1 = μ.2.2.2.2.2.1; rw [hc.1]
    have e0 : mI c 0 = mI μ 0 := hc.2.1 0 (by decide) (by decide)
    show _ = some (0, lt, sI (sI c 0 17 (mI μ 0 17 + nI w)) 0 18 (mI μ 0 18 + lt))
    unfold F_X12_deliver_c34
    simp only [p_ok, p_let_eq, c1, Kq, Nq, s_o0 hS, s_r0_0 hS, s_r0_1 hS, s_r0_10 hS, s_r0_11 hS, s_r0_12 hS, s_r0_14 hS, s_r0_16 hS, s_r0_19 hS, s_r0_7 hS, s_r0_8 hS, s_r0_9 hS, mI_sI, z_up, e0, Nat.reduceEqDiff, and_self, ↓reduceIte]
  | succ r ih =>
    intro i f c lt hi hf hc h44
    obtain ⟨f, rfl⟩ : ∃ k, f = k + 1 := ⟨f - 1, by omega⟩
    have c1 : ¬ nI w ≤ nI i := nI_ge (by omega) (by omega)
    have Kq : mK c = mK μ := by show c.2.2.2.1 = μ.2.2.2.1; rw [hc.1]
    have Nq : mN c = mN μ := by show c.2.2.2.2.2.1 = μ.2.2.2.2.2.1; rw [hc.1]
    have Rq : mR c = mR μ := by show c.2.1 = μ.2.1; rw [hc.1]
    have Lq : mL c = mL μ := by show c.2.2.2.2.1 = μ.2.2.2.2.1; rw [hc.1]
    have hSc : Sh c := by
      unfold Sh ShM at *
      rw [Kq, Nq, Rq, Lq]; exact hS
    have ni : ¬ nI i < 0 := nI_pos (by omega)
    have c2 : ¬ nI 250 ≤ nI i := nI_ge (by omega) (by decide)
    have ki := nI_clamp (show i < 2 ^ 31 by omega)
    have li : i < 250 := by omega
    have c20 : 20 ≤ 20 ∧ 20 ≤ 26 := by decide
    have v44 := h44 i (by omega)
    have hb := hLb _ (nth_in L i (by omega))
    have q1 : F_X6_packBegin 38 (nI i) c = some (nI (nth L i), c) := by
      simp only [F_X6_packBegin, F_X6_packBegin_c23, bd_some, p_ok, s_o38 hSc, s_r38_0 hSc, s_r38_1 hSc, s_r38_2 hSc, s_r38_5 hSc, s_r38_6 hSc, s_r38_7 hSc, s_r38_8 hSc, s_a44 hSc, s_l44 hSc, s_o44 hSc, s_o38 hSc, c20, ni, c2, ki, li, v44, and_self, true_and, not_false_eq_true, ↓reduceIte]
    have hRHc : RHouse c := RHouse_of (μ := μ) (by rw [Rq]) (fun a ha => hc.2.1 a (by simp only [List.mem_cons, List.not_mem_nil, or_false] at ha; omega) (by simp only [List.mem_cons, List.not_mem_nil, or_false] at ha ⊢; omega)) (by rw [hc.2.1 65 (by decide) (by decide)]) hRH
    obtain ⟨r', hr5, hrk, hval⟩ := h_value hSc hRHc
    have v16 : F_X1_value r' 16 c = some (nI st, c) := by rw [hval 16 (by decide) 16 rfl, hc.2.1 84 (by decide) (by decide), est]
    rw [Rq] at hr5
    rw [Kq, Nq] at hrk
    have as : nI (nth L i) + nI st = nI (nth L i + st) := nI_add _ _
    have q2 : F_X12_deliverPack 0 (nI (nth L i)) c = some (0, (rng O st (nth L i)).foldl (ltf (mI μ 95) d) 0, (rng O st (nth L i)).foldl (dC1 lr) c) := by
      have := c_17 (b := nth L i) (st := st) hS hLs hLot t1 hn hO hb st (nth L i) p_fu c 0 rfl (show st < 100000 by omega) hc
      unfold F_X12_deliverPack
      simp only [bd_s2, p_ok, Kq, Nq, Rq, s_o0 hS, s_r0_0 hS, s_r0_1 hS, s_r0_10 hS, s_r0_11 hS, s_r0_12 hS, s_r0_14 hS, s_r0_16 hS, s_r0_19 hS, s_r0_7 hS, s_r0_8 hS, s_r0_9 hS, hr5, hrk, v16, as, this, and_self, ↓reduceIte]
    have hin : ∀ e, e ∈ rng O st (nth L i) → lof e < N := fun e he => by
      obtain ⟨k, k1, k2, k3⟩ := rng_in st (nth L i) e he
      rw [k3]; exact (hO k (by omega)).2.1
    have hd := okC_f (O := O) (n := n) (μ := μ) hLs.2.2.2.2.1 h113 (rng O st (nth L i)) c hin hc
    have h44' : ∀ (D : List Nat) (c : p_M), (∀ e, e ∈ D → lof e < N) → mI (D.foldl (dC1 lr) c) 44 = mI c 44 := by
      intro D
      induction D with
      | nil => intro c _; rfl
      | cons e D ihD =>
        intro c hD
        show mI (D.foldl (dC1 lr) (dC1 lr c e)) 44 = mI c 44
        rw [ihD _ (fun e' he' => hD e' (List.mem_cons_of_mem _ he'))]
        unfold dC1
        rw [mI_sI, if_neg (by have := h113 _ (hD e (List.mem_cons_self ..)); omega)]
    have ai : nI i + 1 = nI (i + 1) := nI_add i 1
    have al : lt + (rng O st (nth L i)).foldl (ltf (mI μ 95) d) 0 = (rng O st (nth L i)).foldl (ltf (mI μ 95) d) lt := by
      rw [← ltf_add, Int32.add_zero]
    have r1 := ih (i + 1) f ((rng O st (nth L i)).foldl (dC1 lr) c) ((rng O st (nth L i)).foldl (ltf (mI μ 95) d) lt) (by omega) (by omega) hd (fun i hi => by rw [h44' _ _ hin]; exact h44 i hi)
    show _ = some (0, (rng O st (nth L i) ++ dcn L O st r (i + 1)).foldl (ltf (mI μ 95) d) lt, sI (sI ((rng O st (nth L i) ++ dcn L O st r (i + 1)).foldl (dC1 lr) c) 0 17 (mI μ 0 17 + nI w)) 0 18 (mI μ 0 18 + (rng O st (nth L i) ++ dcn L O st r (i + 1)).foldl (ltf (mI μ 95) d) lt))
    rw [List.foldl_append, List.foldl_append, ← r1]
    have o38 : mK μ 38 = 7 ∧ 38 < mN μ := s_o38 hS
    conv => lhs; unfold F_X12_deliver_c34
    simp only [bd_s2, p_ok, c1, Kq, Nq, Rq, s_o0 hS, s_r0_0 hS, s_r0_1 hS, s_r0_10 hS, s_r0_11 hS, s_r0_12 hS, s_r0_14 hS, s_r0_16 hS, s_r0_19 hS, s_r0_7 hS, s_r0_8 hS, s_r0_9 hS, o38, q1, q2, ai, al, and_self, ↓reduceIte]
