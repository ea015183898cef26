/-! the class reads a house -/
/-- the text: read up to k, or wrong at p -/
def CS (μ : p_M) (f : Nat → Int32) (e : Nat) (st : Nat ⊕ Nat) : Prop := match st with
  | .inl p => p ≤ e ∧ e ≤ 400 ∧ mI μ 1 3 = nI p
  | .inr k => Tx μ f e k ∧ mI μ 1 3 = -1
theorem CS_sI {μ : p_M} {f : Nat → Int32} {e a j : Nat} {v : Int32} {st : Nat ⊕ Nat} (h : CS μ f e st) (h1 : ¬ 1 = a) (h2 : ¬ 2 = a) : CS (sI μ a j v) f e st := by
  cases st with
  | inl p =>
    refine ⟨h.1, h.2.1, ?_⟩
    simp only [mI_sI, mR_sI, mK_sI, mN_sI, mL_sI, mI_sG, mR_sG, mK_sG, mN_sG, mL_sG, mI_sJ, mR_sJ, mK_sJ, mN_sJ, mL_sJ, mI_sA, mR_sA, mK_sA, mN_sA, mL_sA, z_up, ↓reduceIte, reduceIte, Nat.reduceEqDiff, true_and, and_true, h1]
    exact h.2.2
  | inr k =>
    obtain ⟨⟨t1, t2, t3, t4, t5⟩, t6⟩ := h
    refine ⟨?_, ?_⟩
    · unfold Tx
      simp only [mI_sI, mR_sI, mK_sI, mN_sI, mL_sI, mI_sG, mR_sG, mK_sG, mN_sG, mL_sG, mI_sJ, mR_sJ, mK_sJ, mN_sJ, mL_sJ, mI_sA, mR_sA, mK_sA, mN_sA, mL_sA, z_up, ↓reduceIte, reduceIte, Nat.reduceEqDiff, true_and, and_true, h1, h2]
      exact ⟨t1, t2, t3, t4, t5⟩
    · simp only [mI_sI, mR_sI, mK_sI, mN_sI, mL_sI, mI_sG, mR_sG, mK_sG, mN_sG, mL_sG, mI_sJ, mR_sJ, mK_sJ, mN_sJ, mL_sJ, mI_sA, mR_sA, mK_sA, mN_sA, mL_sA, z_up, ↓reduceIte, reduceIte, Nat.reduceEqDiff, true_and, and_true, h1]
      exact t6
theorem CS_n1 {μ : p_M} {f : Nat → Int32} {e p : Nat} (h : CS μ f e (.inl p)) : ¬ mI μ 1 3 = -1 := by
  obtain ⟨h1, h2, h3⟩ := h
  rw [h3]
  exact nI_n1 (by omega)
abbrev wO (f : Nat → Int32) (e : Nat) (v : Int32) (μ' : p_M) (o : Nat ⊕ (Nat × Nat)) : Prop := match o with
  | .inl p => v = -1 ∧ CS μ' f e (.inl p)
  | .inr q => v = nI q.1 ∧ CS μ' f e (.inr q.2)
abbrev nO (f : Nat → Int32) (e : Nat) (v : Int32) (μ' : p_M) (o : Nat ⊕ (Int32 × Nat)) : Prop := match o with
  | .inl p => v = -1 ∧ CS μ' f e (.inl p)
  | .inr q => v = q.1 ∧ CS μ' f e (.inr q.2)
theorem c_pickS {f : Nat → Int32} {e W : Nat} {μ : p_M} {st : Nat ⊕ Nat} (hS : Sh μ) (hC : CS μ f e st) (w : List Int32) (ws : List (List Int32)) (hw : ∀ x, x ∈ w :: ws → x.length ≤ 400 ∧ ∀ c, c ∈ x → c ≠ 32) (h : tR W 0 (joinw (w :: ws))) (hm : (joinw (w :: ws)).length < 1000) (hn : (w :: ws).length < 2 ^ 31) : ∃ v μ', F_X10_pick 1 W μ = some (v, μ') ∧ Fq [1] [] μ μ' ∧ Sh μ' ∧ wO f e v μ' (bnd st (pW f e (w :: ws))) := by
  cases st with
  | inl p => exact ⟨-1, μ, c_pickD hS (CS_n1 hC), Fq_refl μ, hS, rfl, hC⟩
  | inr k =>
    obtain ⟨hT, h3⟩ := hC
    have q := c_pick hS hT h3 w ws hw h hm hn
    have hb := bl_le (f := f) hT.2.2.2.2
    have hwd := wd_le (f := f) hT.2.2.2.2
    show ∃ v μ', _ ∧ _ ∧ _ ∧ wO f e v μ' (pW f e (w :: ws) k)
    unfold pW
    cases hp : plc f (bl f e k) (wd f e k) (w :: ws) 0 with
    | none =>
      rw [hp] at q
      have fq : Fq [1] [] μ (sI (cset μ (wd f e k)) 1 3 (nI (bl f e k))) := Fq_sI (Fq_sI (Fq_refl μ) (by decide)) (by decide)
      refine ⟨-1, _, q, fq, Sh_q fq hS, rfl, by omega, hT.2.2.2.1, ?_⟩
      show mI (sI (cset μ (wd f e k)) 1 3 (nI (bl f e k))) 1 3 = _
      simp only [mI_sI, mR_sI, mK_sI, mN_sI, mL_sI, mI_sG, mR_sG, mK_sG, mN_sG, mL_sG, mI_sJ, mR_sJ, mK_sJ, mN_sJ, mL_sJ, mI_sA, mR_sA, mK_sA, mN_sA, mL_sA, z_up, ↓reduceIte, reduceIte, Nat.reduceEqDiff, true_and, and_true]
    | some x =>
      rw [hp] at q
      exact ⟨nI x, _, q, Fq_cset _, Sh_cset _ hS, rfl, Tx_cset hT hwd.2, mI_cset3.trans h3⟩
theorem c_numS {f : Nat → Int32} {e : Nat} {lo hi : Int32} {μ : p_M} {st : Nat ⊕ Nat} (hS : Sh μ) (hC : CS μ f e st) : ∃ v μ', F_X10_number 1 3 lo hi μ = some (v, μ') ∧ Fq [1] [] μ μ' ∧ Sh μ' ∧ nO f e v μ' (bnd st (pN f e lo hi)) := by
  cases st with
  | inl p => exact ⟨-1, μ, c_numberD hS (CS_n1 hC), Fq_refl μ, hS, rfl, hC⟩
  | inr k =>
    obtain ⟨hT, h3⟩ := hC
    have q := c_number (g := 3) (lo := lo) (hi := hi) (by decide) hS hT h3
    have q : F_X10_number 1 3 lo hi μ = _ := q
    have hb := bl_le (f := f) hT.2.2.2.2
    have hnm := nm_le (f := f) hT.2.2.2.2
    show ∃ v μ', _ ∧ _ ∧ _ ∧ nO f e v μ' (pN f e lo hi k)
    unfold pN
    cases hp : numP f e 3 lo hi k with
    | none =>
      rw [hp] at q
      have fq : Fq [1] [] μ (sI (cset μ (nm f e k)) 1 3 (nI (bl f e k))) := Fq_sI (Fq_sI (Fq_refl μ) (by decide)) (by decide)
      refine ⟨-1, _, q, fq, Sh_q fq hS, rfl, by omega, hT.2.2.2.1, ?_⟩
      show mI (sI (cset μ (nm f e k)) 1 3 (nI (bl f e k))) 1 3 = _
      simp only [mI_sI, mR_sI, mK_sI, mN_sI, mL_sI, mI_sG, mR_sG, mK_sG, mN_sG, mL_sG, mI_sJ, mR_sJ, mK_sJ, mN_sJ, mL_sJ, mI_sA, mR_sA, mK_sA, mN_sA, mL_sA, z_up, ↓reduceIte, reduceIte, Nat.reduceEqDiff, true_and, and_true]
    | some x =>
      rw [hp] at q
      exact ⟨x, _, q, Fq_cset _, Sh_cset _ hS, rfl, Tx_cset hT hnm.2, mI_cset3.trans h3⟩
def HT (H T : Nat) : Prop := H = 10 ∧ T = 11 ∨ H = 12 ∧ T = 13
def isHou (μ : p_M) (H T : Nat) : Prop := (mK μ H = 2 ∧ H < mN μ) ∧ mR μ H 0 = some T ∧ (T < p_E ∧ mK μ T = 20 ∧ T < mN μ) ∧ mL μ T = 18
theorem hou_sh {μ : p_M} (hS : Sh μ) {H T : Nat} (h : HT H T) : isHou μ H T := by
  rcases h with ⟨rfl, rfl⟩ | ⟨rfl, rfl⟩
  · exact ⟨s_o10 hS, s_r10_0 hS, s_a11 hS, s_l11 hS⟩
  · exact ⟨s_o12 hS, s_r12_0 hS, s_a13 hS, s_l13 hS⟩
/-- after a rule -/
abbrev rO (f : Nat → Int32) (e T : Nat) (μ' : p_M) (o : HO) : Prop := match o with
  | .inl p => CS μ' f e (.inl p)
  | .inr q => CS μ' f e (.inr q.1) ∧ ∀ j, j < 18 → mI μ' T j = q.2 j
theorem c_ofBath {f : Nat → Int32} {e H T k w : Nat} {lo hi : Int32} {s : Nat → Int32} {μ : p_M} (hS : Sh μ) (hH : HT H T) (hC : CS μ f e (.inr k)) (hw : w ≤ 9) (hs : ∀ j, j < 18 → mI μ T j = s j) : ∃ μ', F_X1_readOfBath H 1 (nI w) lo hi μ = some (0, μ') ∧ Fq [1, T] [] μ μ' ∧ rO f e T μ' (rB f e w lo hi k s) := by
  have hh : ∀ μ, Sh μ → isHou μ H T := fun μ h => hou_sh h hH
  have n1 : ¬ 1 = T := by rcases hH with h | h <;> omega
  have n2 : ¬ 2 = T := by rcases hH with h | h <;> omega
  have n65 : T ≠ 65 := by rcases hH with h | h <;> omega
  have mT : T ∈ [1, T] ∧ T ≠ 65 := ⟨by simp, n65⟩
  have f1 : ∀ {μ μ' : p_M}, Fq [1] [] μ μ' → Fq [1, T] [] μ μ' := fun h => Fq_mono h (by simp) (by simp)
  have t1 : ∀ {μ μ' : p_M}, Fq [1] [] μ μ' → mI μ' T = mI μ T := fun h => h.2.1 T n65 (by simp; omega)
  obtain ⟨v1, μ1, a1, a2, a3, a4⟩ := c_pickS (W := p_E + 10 + 22) hS hC w_wash [w_stone, w_bleach, w_rinse] ok_B4 tR_B4 (by decide) (by decide)
  have hk := hC.1.2.2.2.2
  unfold rB
  show ∃ μ', _ ∧ _ ∧ rO f e T μ' (bnd (pW f e (w_wash :: [w_stone, w_bleach, w_rinse]) k) _)
  have a5 : wO f e v1 μ1 (pW f e (w_wash :: [w_stone, w_bleach, w_rinse]) k) := a4
  clear a4
  cases hp : pW f e (w_wash :: [w_stone, w_bleach, w_rinse]) k with
  | inl p =>
    rw [hp] at a5
    obtain ⟨rfl, a6⟩ := a5
    obtain ⟨v2, μ2, b1, b2, b3, b4⟩ := c_numS (lo := lo) (hi := hi) a3 a6
    obtain ⟨rfl, b5⟩ : v2 = -1 ∧ CS μ2 f e (.inl p) := b4
    refine ⟨μ2, ?_, Fq_trans (f1 a2) (f1 b2), b5⟩
    simp only [F_X1_readOfBath, F_X1_readOfBath_c35, bd_some, p_ok, s_o1 hS, s_o1 a3, a1, b1, and_self, true_and, ↓reduceIte]
  | inr q =>
    rw [hp] at a5
    obtain ⟨rfl, a6⟩ := a5
    obtain ⟨q1, q2, q3⟩ := pW_ok hk hp
    have q1 : q.1 < 4 := q1
    obtain ⟨v2, μ2, b1, b2, b3, b4⟩ := c_numS (lo := lo) (hi := hi) a3 a6
    obtain ⟨o1, o2, o3, o4⟩ := hh μ2 b3
    have aw : nI w + nI q.1 = nI (w + q.1) := nI_add _ _
    have iw := ix_nI (show w + q.1 < 18 by omega) (by decide)
    have kw := nI_clamp (show w + q.1 < 2 ^ 31 by omega)
    have lw : w + q.1 < 18 := by omega
    have nq : ¬ nI q.1 = -1 := nI_n1 (by omega)
    refine ⟨sI μ2 T (w + q.1) v2, ?_, Fq_sI (Fq_trans (f1 a2) (f1 b2)) mT, ?_⟩
    · simp only [F_X1_readOfBath, F_X1_readOfBath_c35, bd_some, p_ok, p_let_eq, s_o1 hS, s_o1 a3, a1, b1, nq, o1, o2, o3, o4, aw, iw, kw, lw, and_self, true_and, and_true, not_false_eq_true, ↓reduceIte]
    · have b5 : nO f e v2 μ2 (pN f e lo hi q.2) := b4
      clear b4
      rw [bnd_r]
      cases hn : pN f e lo hi q.2 with
      | inl p =>
        rw [hn] at b5
        exact CS_sI b5.2 n1 n2
      | inr r =>
        rw [hn] at b5
        obtain ⟨rfl, b6⟩ := b5
        refine ⟨CS_sI b6 n1 n2, fun j hj => ?_⟩
        simp only [mI_sI, mR_sI, mK_sI, mN_sI, mL_sI, mI_sG, mR_sG, mK_sG, mN_sG, mL_sG, mI_sJ, mR_sJ, mK_sJ, mN_sJ, mL_sJ, mI_sA, mR_sA, mK_sA, mN_sA, mL_sA, z_up, ↓reduceIte, reduceIte, Nat.reduceEqDiff, true_and, and_true]
        rw [t1 b2, t1 a2, hs j hj]
theorem c_hN {f : Nat → Int32} {e H T k w : Nat} {lo hi : Int32} {s : Nat → Int32} {μ : p_M} (hS : Sh μ) (hH : HT H T) (hC : CS μ f e (.inr k)) (hw : w < 18) (hs : ∀ j, j < 18 → mI μ T j = s j) : ∃ v μ', F_X10_number 1 3 lo hi μ = some (v, μ') ∧ Fq [1] [] μ μ' ∧ Sh μ' ∧ rO f e T (sI μ' T w v) (rN f e w lo hi k s) := by
  have n1 : ¬ 1 = T := by rcases hH with h | h <;> omega
  have n2 : ¬ 2 = T := by rcases hH with h | h <;> omega
  have n65 : T ≠ 65 := by rcases hH with h | h <;> omega
  have t1 : ∀ {μ μ' : p_M}, Fq [1] [] μ μ' → mI μ' T = mI μ T := fun h => h.2.1 T n65 (by simp; omega)
  obtain ⟨v2, μ2, b1, b2, b3, b4⟩ := c_numS (lo := lo) (hi := hi) hS hC
  refine ⟨v2, μ2, b1, b2, b3, ?_⟩
  have b5 : nO f e v2 μ2 (pN f e lo hi k) := b4
  clear b4
  unfold rN
  cases hn : pN f e lo hi k with
  | inl p =>
    rw [hn] at b5
    exact CS_sI b5.2 n1 n2
  | inr r =>
    rw [hn] at b5
    obtain ⟨rfl, b6⟩ := b5
    refine ⟨CS_sI b6 n1 n2, fun j hj => ?_⟩
    simp only [mI_sI, mR_sI, mK_sI, mN_sI, mL_sI, mI_sG, mR_sG, mK_sG, mN_sG, mL_sG, mI_sJ, mR_sJ, mK_sJ, mN_sJ, mL_sJ, mI_sA, mR_sA, mK_sA, mN_sA, mL_sA, z_up, ↓reduceIte, reduceIte, Nat.reduceEqDiff, true_and, and_true]
    rw [t1 b2, hs j hj]
theorem c_rPours {f : Nat → Int32} {e H T k : Nat} {s : Nat → Int32} {μ : p_M} (hS : Sh μ) (hH : HT H T) (hC : CS μ f e (.inr k)) (hs : ∀ j, j < 18 → mI μ T j = s j) : ∃ μ', F_X1_readPours H 1 μ = some (0, μ') ∧ Fq [1, T] [] μ μ' ∧ rO f e T μ' (rP f e k s) := by
  have hh : ∀ μ, Sh μ → isHou μ H T := fun μ h => hou_sh h hH
  have n1 : ¬ 1 = T := by rcases hH with h | h <;> omega
  have n2 : ¬ 2 = T := by rcases hH with h | h <;> omega
  have n65 : T ≠ 65 := by rcases hH with h | h <;> omega
  have mT : T ∈ [1, T] ∧ T ≠ 65 := ⟨by simp, n65⟩
  have f1 : ∀ {μ μ' : p_M}, Fq [1] [] μ μ' → Fq [1, T] [] μ μ' := fun h => Fq_mono h (by simp) (by simp)
  have t1 : ∀ {μ μ' : p_M}, Fq [1] [] μ μ' → mI μ' T = mI μ T := fun h => h.2.1 T n65 (by simp; omega)
  have m10 : ¬ (-1 : Int32) = 0 := by decide
  obtain ⟨v1, μ1, a1, a2, a3, a4⟩ := c_pickS (W := p_E + 10 + 22) hS hC w_wash [w_stone, w_bleach, w_rinse] ok_B4 tR_B4 (by decide) (by decide)
  have hk := hC.1.2.2.2.2
  unfold rP
  show ∃ μ', _ ∧ _ ∧ rO f e T μ' (bnd (pW f e (w_wash :: [w_stone, w_bleach, w_rinse]) k) _)
  have a5 : wO f e v1 μ1 (pW f e (w_wash :: [w_stone, w_bleach, w_rinse]) k) := a4
  clear a4
  cases hp : pW f e (w_wash :: [w_stone, w_bleach, w_rinse]) k with
  | inl p =>
    rw [hp] at a5
    obtain ⟨rfl, a6⟩ := a5
    obtain ⟨v2, μ2, b1, b2, b3, b4⟩ := c_pickS (W := p_E + 10 + 19) a3 a6 w_to [w_away] ok_TA tR_TA (by decide) (by decide)
    obtain ⟨rfl, b5⟩ : v2 = -1 ∧ CS μ2 f e (.inl p) := b4
    refine ⟨μ2, ?_, Fq_trans (f1 a2) (f1 b2), b5⟩
    simp only [F_X1_readPours, F_X1_readPours_c27, F_X1_readPours_c42, bd_some, p_ok, s_o1 hS, s_o1 a3, a1, b1, m10, and_self, true_and, not_false_eq_true, ↓reduceIte]
  | inr q =>
    rw [hp] at a5
    obtain ⟨rfl, a6⟩ := a5
    obtain ⟨q1, q2, q3⟩ := pW_ok hk hp
    have q1 : q.1 < 4 := q1
    have aw : 4 + nI q.1 = nI (4 + q.1) := nI_add 4 _
    have iw := ix_nI (show 4 + q.1 < 18 by omega) (by decide)
    have kw := nI_clamp (show 4 + q.1 < 2 ^ 31 by omega)
    have lw : 4 + q.1 < 18 := by omega
    have nq : ¬ nI q.1 = -1 := nI_n1 (by omega)
    obtain ⟨v2, μ2, b1, b2, b3, b4⟩ := c_pickS (W := p_E + 10 + 19) a3 a6 w_to [w_away] ok_TA tR_TA (by decide) (by decide)
    have b5 : wO f e v2 μ2 (pW f e (w_to :: [w_away]) q.2) := b4
    clear b4
    obtain ⟨o1, o2, o3, o4⟩ := hh μ2 b3
    rw [bnd_r]
    show ∃ μ', _ ∧ _ ∧ rO f e T μ' (bnd (pW f e (w_to :: [w_away]) q.2) _)
    cases hq : pW f e (w_to :: [w_away]) q.2 with
    | inl p =>
      rw [hq] at b5
      obtain ⟨rfl, b6⟩ := b5
      refine ⟨sI μ2 T (4 + q.1) (-1), ?_, Fq_sI (Fq_trans (f1 a2) (f1 b2)) mT, CS_sI b6 n1 n2⟩
      simp only [F_X1_readPours, F_X1_readPours_c27, F_X1_readPours_c42, bd_some, p_ok, p_let_eq, s_o1 hS, s_o1 a3, a1, b1, m10, nq, o1, o2, o3, o4, aw, iw, kw, lw, and_self, true_and, and_true, not_false_eq_true, ↓reduceIte]
    | inr t =>
      rw [hq] at b5
      obtain ⟨rfl, b6⟩ := b5
      obtain ⟨t1', t2', t3'⟩ := pW_ok q3 hq
      have t1' : t.1 < 2 := t1'
      have z0 : (nI t.1 = 0) = (t.1 = 0) := propext (nI_eq (show t.1 < 2 ^ 31 by omega) (show 0 < 2 ^ 31 by decide))
      rw [bnd_r]
      by_cases c : t.1 = 0
      · rw [if_pos c]
        have z0 : (nI t.1 = 0) = True := by rw [z0]; exact eq_true c
        obtain ⟨v3, μ3, d1, d2, d3, d4⟩ := c_numS (lo := 0) (hi := 4) b3 b6
        have d5 : nO f e v3 μ3 (pN f e 0 4 t.2) := d4
        clear d4
        obtain ⟨o1, o2, o3, o4⟩ := hh μ3 d3
        refine ⟨sI μ3 T (4 + q.1) v3, ?_, Fq_sI (Fq_trans (f1 a2) (Fq_trans (f1 b2) (f1 d2))) mT, ?_⟩
        · simp only [F_X1_readPours, F_X1_readPours_c27, F_X1_readPours_c42, bd_some, p_ok, p_let_eq, s_o1 hS, s_o1 a3, s_o1 b3, a1, b1, d1, z0, nq, o1, o2, o3, o4, aw, iw, kw, lw, and_self, true_and, and_true, not_false_eq_true, not_true_eq_false, ↓reduceIte]
        · cases hn : pN f e 0 4 t.2 with
          | inl p =>
            rw [hn] at d5
            exact CS_sI d5.2 n1 n2
          | inr r =>
            rw [hn] at d5
            obtain ⟨rfl, d6⟩ := d5
            refine ⟨CS_sI d6 n1 n2, fun j hj => ?_⟩
            simp only [mI_sI, mR_sI, mK_sI, mN_sI, mL_sI, mI_sG, mR_sG, mK_sG, mN_sG, mL_sG, mI_sJ, mR_sJ, mK_sJ, mN_sJ, mL_sJ, mI_sA, mR_sA, mK_sA, mN_sA, mL_sA, z_up, ↓reduceIte, reduceIte, Nat.reduceEqDiff, true_and, and_true]
            rw [t1 d2, t1 b2, t1 a2, hs j hj]
      · rw [if_neg c]
        have z0 : (nI t.1 = 0) = False := by rw [z0]; exact eq_false c
        refine ⟨sI μ2 T (4 + q.1) (-1), ?_, Fq_sI (Fq_trans (f1 a2) (f1 b2)) mT, CS_sI b6 n1 n2, fun j hj => ?_⟩
        · simp only [F_X1_readPours, F_X1_readPours_c27, F_X1_readPours_c42, bd_some, p_ok, p_let_eq, s_o1 hS, s_o1 a3, a1, b1, z0, nq, o1, o2, o3, o4, aw, iw, kw, lw, and_self, true_and, and_true, not_false_eq_true, not_true_eq_false, ↓reduceIte]
        · simp only [mI_sI, mR_sI, mK_sI, mN_sI, mL_sI, mI_sG, mR_sG, mK_sG, mN_sG, mL_sG, mI_sJ, mR_sJ, mK_sJ, mN_sJ, mL_sJ, mI_sA, mR_sA, mK_sA, mN_sA, mL_sA, z_up, ↓reduceIte, reduceIte, Nat.reduceEqDiff, true_and, and_true]
          rw [t1 b2, t1 a2, hs j hj]
