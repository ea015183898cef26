abbrev hO (e H T : Nat) (μ' : p_M) (o : HO) : Prop := match o with
  | .inl p => p ≤ e ∧ mI μ' 1 3 = nI p
  | .inr q => mI μ' 1 3 = -1 ∧ mI μ' H 1 = nI q.1 ∧ ∀ j, j < 18 → mI μ' T j = q.2 j
theorem c_hou {X : p_X} {f : Nat → Int32} {e H T : Nat} (hH : HT H T) : ∀ (r n k m : Nat) (μ : p_M) (s : Nat → Int32), e - k < r → n ≤ 24 → 25 - n < m → Sh μ → CS μ f e (.inr k) → mI μ H 1 = nI n → okS s → (∀ j, j < 18 → mI μ T j = s j) → ∃ μ', F_X1_read_c37 X m H 1 1 (nI n) μ = some (0, μ') ∧ Fq [1, H, T] [] μ μ' ∧ hO e H T μ' (houP f e r n k s) := by
  have hh : ∀ μ, Sh μ → isHou μ H T := fun μ h => hou_sh h hH
  have nH1 : H ≠ 1 := by rcases hH with h | h <;> omega
  have nT1 : T ≠ 1 := by rcases hH with h | h <;> omega
  have m1 : 1 ∈ [1, H, T] ∧ 1 ≠ 65 := ⟨List.mem_cons_self, by decide⟩
  intro r
  induction r with
  | zero => intro n k m μ s h; omega
  | succ r ih =>
    intro n k m μ s hr hn hm hS hC hl hok hs
    obtain ⟨m, rfl⟩ : ∃ k, m = k + 2 := ⟨m - 2, by omega⟩
    have g24 : ¬ (24 : Int32) < nI n := (show ¬ nI 24 < nI n from nI_nlt hn (by decide))
    have a1 : nI n + 1 = nI (n + 1) := nI_add n 1
    have hk := hC.1.2.2.2.2
    obtain ⟨μ1, b1, b2, b3, b4⟩ := c_rule hS hH hC hn hl hs
    have hS1 := Sh_q b2 hS
    have oH := (hh μ hS).1
    have y1 := s_o1 hS1
    have stop : ∀ μ2, F_X10_goesOn 1 μ1 = some (0, μ2) → F_X1_read_c37 X (m + 2) H 1 1 (nI n) μ = some (0, μ2) := by
      intro μ2 h
      by_cases g : (24 : Int32) < nI (n + 1)
      · simp only [F_X1_read_c37, F_X1_read_c63, bd_some, p_ok, g24, i_10, oH, b1, y1, h, a1, g, and_self, true_and, ↓reduceIte]
      · simp only [F_X1_read_c37, F_X1_read_c63, bd_some, p_ok, g24, i_10, oH, b1, y1, h, a1, g, and_self, true_and, ↓reduceIte]
    unfold houP
    cases hu : rul f e n k s with
    | inl p =>
      rw [hu] at b3
      exact ⟨μ1, stop μ1 (c_goesOnD hS1 (CS_n1 b3)), b2, b3.1, b3.2.2⟩
    | inr q =>
      rw [hu] at b3
      rw [bnd_r]
      obtain ⟨hok2, q1, q2⟩ := rul_ok hk hok hu
      obtain ⟨⟨hT1, h31⟩, hs1⟩ := b3
      have hn24 : n < 24 := by
        by_cases c : n = 24
        · unfold rul at hu
          rw [if_pos c] at hu
          cases hu
        · omega
      have l1 := b4 hn24
      have gO := c_goesOn hS1 hT1 h31
      have hb := bl_le (f := f) q2
      by_cases c5 : bl f e q.1 < e
      · rw [if_pos c5] at gO ⊢
        by_cases c6 : f (bl f e q.1) = 59
        · rw [if_pos c6] at gO ⊢
          have fq2 : Fq [1, H, T] [] μ1 (cset μ1 (bl f e q.1 + 1)) := Fq_sI (Fq_refl _) m1
          obtain ⟨μ', p1, p2, p3⟩ := ih (n + 1) (bl f e q.1 + 1) (m + 1) (cset μ1 (bl f e q.1 + 1)) q.2 (by omega) (by omega) (by omega) (Sh_cset _ hS1) ⟨Tx_cset hT1 (by omega), mI_cset3.trans h31⟩ (by rw [mI_csetO nH1]; exact l1) hok2 (fun j hj => by rw [mI_csetO nT1]; exact hs1 j hj)
          refine ⟨μ', ?_, Fq_trans b2 (Fq_trans fq2 p2), p3⟩
          rw [show m + 2 = (m + 1) + 1 from rfl]
          unfold F_X1_read_c37
          simp only [bd_some, p_ok, g24, i_10, oH, b1, y1, gO, a1, and_self, true_and, ↓reduceIte]
          exact p1
        · rw [if_neg c6] at gO ⊢
          refine ⟨_, stop _ gO, Fq_trans b2 (Fq_sI (Fq_sI (Fq_refl _) m1) m1), hb.2, by simp only [mI_sI, mR_sI, mK_sI, mN_sI, mL_sI, mI_sG, mR_sG, mK_sG, mN_sG, mL_sG, mI_sJ, mR_sJ, mK_sJ, mN_sJ, mL_sJ, mI_sA, mR_sA, mK_sA, mN_sA, mL_sA, z_up, ↓reduceIte, reduceIte, Nat.reduceEqDiff, true_and, and_true]⟩
      · rw [if_neg c5] at gO ⊢
        refine ⟨cset μ1 (bl f e q.1), stop _ gO, Fq_trans b2 (Fq_sI (Fq_refl _) m1), mI_cset3.trans h31, by rw [mI_csetO nH1]; exact l1, fun j hj => by rw [mI_csetO nT1]; exact hs1 j hj⟩
/-! the Model -/
theorem mtw_inj {f : Nat → Int32} {b a : Nat} : ∀ (w v : List Int32) (t : Nat), mtw f b a w t = true → mtw f b a v t = true → w.length = v.length → w = v := by
  intro w
  induction w with
  | nil =>
    intro v t _ _ h
    cases v with
    | nil => rfl
    | cons c cs => cases h
  | cons c cs ih =>
    intro v t h1 h2 h
    cases v with
    | nil => cases h
    | cons d ds =>
      unfold mtw at h1 h2
      rw [Bool.and_eq_true, decide_eq_true_eq] at h1 h2
      rw [ih ds (t + 1) h1.2 h2.2 (by rw [List.length_cons, List.length_cons] at h; omega), ← h1.1.2, ← h2.1.2]
theorem isw_inj {f : Nat → Int32} {b a : Nat} {w v : List Int32} (h1 : isw f b a w = true) (h2 : isw f b a v = true) : w = v := by
  unfold isw at h1 h2
  rw [Bool.and_eq_true, decide_eq_true_eq] at h1 h2
  exact mtw_inj w v 0 h1.1 h2.1 (h1.2.trans h2.2.symm)
theorem plc_get {f : Nat → Int32} {b a : Nat} : ∀ (ws : List (List Int32)) (p q : Nat), plc f b a ws p = some q → ∃ w, ws[q - p]? = some w ∧ isw f b a w = true ∧ p ≤ q := by
  intro ws
  induction ws with
  | nil => intro p q h; cases h
  | cons w ws ih =>
    intro p q h
    unfold plc at h
    split at h
    · rename_i c
      cases h
      exact ⟨w, by rw [Nat.sub_self]; rfl, c, Nat.le_refl _⟩
    · obtain ⟨v, h1, h2, h3⟩ := ih (p + 1) q h
      refine ⟨v, ?_, h2, by omega⟩
      rw [show q - p = (q - (p + 1)) + 1 by omega]
      exact h1
def nthw : List (List Int32) → Nat → List Int32
  | [], _ => []
  | w :: _, 0 => w
  | _ :: ws, n + 1 => nthw ws n
theorem plc_nth {f : Nat → Int32} {b a : Nat} : ∀ (ws : List (List Int32)) (p q : Nat), plc f b a ws p = some q → isw f b a (nthw ws (q - p)) = true ∧ p ≤ q := by
  intro ws
  induction ws with
  | nil => intro p q h; cases h
  | cons w ws ih =>
    intro p q h
    unfold plc at h
    split at h
    · rename_i c
      cases h
      rw [Nat.sub_self]
      exact ⟨c, Nat.le_refl _⟩
    · obtain ⟨h1, h2⟩ := ih (p + 1) q h
      rw [show q - p = (q - (p + 1)) + 1 by omega]
      exact ⟨h1, by omega⟩
theorem plc_no {f : Nat → Int32} {b a : Nat} : ∀ (ws : List (List Int32)) (p : Nat), plc f b a ws p = none → ∀ w, w ∈ ws → ¬ isw f b a w = true := by
  intro ws
  induction ws with
  | nil => intro p _ w hw; cases hw
  | cons v ws ih =>
    intro p h w hw
    unfold plc at h
    split at h
    · cases h
    · rename_i c
      cases hw with
      | head => exact c
      | tail _ hw => exact ih (p + 1) h w hw
abbrev mO (f : Nat → Int32) (e : Nat) (v : Int32) (μ' : p_M) (o : HO) : Prop := match o with
  | .inl p => v = 0 ∧ mI μ' 65 5 = nI p
  | .inr q => v = 1 ∧ MT μ' f e q.1 ∧ ∀ j, j < 18 → mI μ' 84 (18 + j) = q.2 j
/-- the Model's row of what the house says, but for the draft -/
def Fh (μ μ' : p_M) : Prop := Fq [84] [3, 5] μ μ' ∧ ∀ j, j < 18 → mI μ' 84 j = mI μ 84 j
theorem Fh_trans {μ μ1 μ2 : p_M} (h : Fh μ μ1) (g : Fh μ1 μ2) : Fh μ μ2 := ⟨Fq_trans h.1 g.1, fun j hj => (g.2 j hj).trans (h.2 j hj)⟩
theorem Fh_mset {μ : p_M} (k b : Nat) : Fh μ (mset μ k b) := ⟨Fq_mono (Fq_mset k b) (by decide) (by decide), fun j _ => by rw [mI_msetO (by decide)]⟩
theorem Fh_set {μ : p_M} {w : Nat} {v : Int32} : Fh μ (sI μ 84 (18 + w) v) := ⟨Fq_sI (Fq_refl μ) (by decide), fun j hj => by
  have c : ¬ j = 18 + w := by omega
  simp only [mI_sI, mR_sI, mK_sI, mN_sI, mL_sI, mI_sG, mR_sG, mK_sG, mN_sG, mL_sG, mI_sJ, mR_sJ, mK_sJ, mN_sJ, mL_sJ, mI_sA, mR_sA, mK_sA, mN_sA, mL_sA, z_up, ↓reduceIte, reduceIte, Nat.reduceEqDiff, true_and, and_true, c]⟩
theorem mt_set {μ : p_M} {f : Nat → Int32} {e k w : Nat} {v : Int32} (h : MT μ f e k) : MT (sI μ 84 w v) f e k := by
  obtain ⟨h1, h2, h3, h4, h5⟩ := h
  unfold MT
  simp only [mI_sI, mR_sI, mK_sI, mN_sI, mL_sI, mI_sG, mR_sG, mK_sG, mN_sG, mL_sG, mI_sJ, mR_sJ, mK_sJ, mN_sJ, mL_sJ, mI_sA, mR_sA, mK_sA, mN_sA, mL_sA, z_up, ↓reduceIte, reduceIte, Nat.reduceEqDiff, true_and, and_true]
  exact ⟨h1, h2, h3, h4, h5⟩
theorem m_rN {f : Nat → Int32} {e k w : Nat} {lo hi : Int32} {s : Nat → Int32} {μ : p_M} (hT : MT μ f e k) (hw : w < 18) (hlo : (0 : Int32) ≤ lo) (hs : ∀ j, j < 18 → mI μ 84 (18 + j) = s j) : ∃ v μ', F_X13_sets (nI w) lo hi μ = some (v, μ') ∧ Fh μ μ' ∧ mO f e v μ' (rN f e w lo hi k s) := by
  have nu := m_number (g := 3) (lo := lo) (hi := hi) (by decide) hT
  have nu : F_X13_number 3 lo hi μ = _ := nu
  have hnm := nm_le (f := f) hT.2.2.2.2
  unfold rN pN
  cases hn : numP f e 3 lo hi k with
  | none =>
    rw [hn] at nu
    have z : ¬ (0 : Int32) ≤ -1 := by decide
    refine ⟨0, mset μ (nm f e k) (bl f e k), ?_, Fh_mset _ _, rfl, mI_mset5⟩
    simp only [F_X13_sets, bd_some, nu, Option.getD_none, z, ↓reduceIte]
  | some v =>
    rw [hn] at nu
    have hv := numP_ok hn
    have z : (0 : Int32) ≤ v := Int32.le_iff_toInt_le.mpr (Int.le_trans (Int32.le_iff_toInt_le.mp hlo) (Int32.le_iff_toInt_le.mp hv.1))
    have aw : 18 + nI w = nI (18 + w) := nI_add 18 w
    have iw := ix_nI (show 18 + w < 36 by omega) (by decide)
    have kw := nI_clamp (show 18 + w < 2 ^ 31 by omega)
    have lw : 18 + w < 36 := by omega
    refine ⟨1, sI (mset μ (nm f e k) (bl f e k)) 84 (18 + w) v, ?_, Fh_trans (Fh_mset _ _) Fh_set, rfl, mt_set (MT_mset hT hnm.2), fun j hj => ?_⟩
    · simp only [F_X13_sets, bd_some, p_ok, nu, Option.getD_some, z, aw, iw, kw, lw, aM, and_self, true_and, not_false_eq_true, ↓reduceIte]
    · simp only [mI_sI, mR_sI, mK_sI, mN_sI, mL_sI, mI_sG, mR_sG, mK_sG, mN_sG, mL_sG, mI_sJ, mR_sJ, mK_sJ, mN_sJ, mL_sJ, mI_sA, mR_sA, mK_sA, mN_sA, mL_sA, z_up, ↓reduceIte, reduceIte, Nat.reduceEqDiff, true_and, and_true]
      by_cases c : j = w
      · subst c; simp only [↓reduceIte]
      · rw [if_neg c, if_neg (show ¬ 18 + j = 18 + w by omega), mI_msetO (by decide)]
        exact hs j hj
theorem pW_B4 {f : Nat → Int32} {e k : Nat} : pW f e ws_B4 k = match bth f e k with
  | none => .inl (bl f e k)
  | some x => .inr (x, wd f e k) := rfl
