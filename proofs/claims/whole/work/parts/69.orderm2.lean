theorem m_ok {n S : Nat} {c : Nat → Nat → Option Nat} {g b : Nat → Int32} (hn : n ≤ 9) (hS : S < 512) (hS1 : 1 ≤ S) (hok : okK n g b) (hc : c = cB n g b) (K25 : Int32 → Int32 → p_M → Option (Int32 × p_M)) (v1 : Int32) : ∀ (r k m : Nat) (μ : p_M), k + r = n → r < m → mI μ 65 25 = nI n → mI μ 77 = g → mI μ 78 = b → TabM n c (mI μ 79) S → (∀ q, q < k → mI μ 79 (9 * S + q) = oM (DD n c S q)) → ∃ μ', F_X13_order_c32 K25 m v1 (nI S) (nI k) μ = K25 v1 (nI (S + 1)) μ' ∧ Fq [79] [] μ μ' ∧ TabM n c (mI μ' 79) (S + 1) := by
  intro r
  induction r with
  | zero =>
    intro k m μ hk hm e25 e23 e24 hT hp
    obtain ⟨m, rfl⟩ : ∃ k, m = k + 1 := ⟨m - 1, by omega⟩
    have c1 : nI n ≤ nI k := nI_le (by omega) (by omega)
    have aS : nI S + 1 = nI (S + 1) := nI_add S 1
    refine ⟨μ, ?_, Fq_refl μ, fun s q h1 h2 h3 => ?_⟩
    · simp only [F_X13_order_c32, tM, e25, c1, aS, ↓reduceIte]
    · by_cases cs : s = S
      · subst cs
        exact hp q (by omega)
      · exact hT s q h1 (by omega) h3
  | succ r ih =>
    intro k m μ hk hm e25 e23 e24 hT hp
    obtain ⟨m, rfl⟩ : ∃ k, m = k + 1 := ⟨m - 1, by omega⟩
    have c1 : ¬ nI n ≤ nI k := nI_ge (by omega) (by omega)
    have h2k := sh1 (show k ≤ 9 by omega)
    have hr := nI_rst S k
    have hrl := rst_le S k
    have z0 : (nI (rst S k) = 0) = (rst S k = 0) := propext (nI_eq (show rst S k < 2 ^ 31 by omega) (show 0 < 2 ^ 31 by decide))
    have go := m_oj (n := n) (S := S) (k := k) (c := c) (f := mI μ 79) hn hS (by omega) hok K25 (F_X13_order_c32 K25 m) v1 (t := rst S k) (by omega) rfl μ e25 e23 e24 rfl hc (fun _ => hT) n 0 p_fu
    have ne : ∀ s q, ¬ (s = S ∧ q = k) → q < n → mI (sI μ 79 (9 * S + k) (oM (DD n c S k))) 79 (9 * s + q) = mI μ 79 (9 * s + q) := fun s q h1 h2 => by
      have c : ¬ 9 * s + q = 9 * S + k := by omega
      simp only [mI_sI, mR_sI, mK_sI, mN_sI, mL_sI, mI_sG, mR_sG, mK_sG, mN_sG, mL_sG, mI_sJ, mR_sJ, mK_sJ, mN_sJ, mL_sJ, mI_sA, mR_sA, mK_sA, mN_sA, mL_sA, z_up, ↓reduceIte, reduceIte, Nat.reduceEqDiff, true_and, and_true, c]
    obtain ⟨μ', p1, p2, p3⟩ := ih (k + 1) m (sI μ 79 (9 * S + k) (oM (DD n c S k))) (by omega) (by omega) (by simp only [mI_sI, mR_sI, mK_sI, mN_sI, mL_sI, mI_sG, mR_sG, mK_sG, mN_sG, mL_sG, mI_sJ, mR_sJ, mK_sJ, mN_sJ, mL_sJ, mI_sA, mR_sA, mK_sA, mN_sA, mL_sA, z_up, ↓reduceIte, reduceIte, Nat.reduceEqDiff, true_and, and_true]; exact e25) (by simp only [mI_sI, mR_sI, mK_sI, mN_sI, mL_sI, mI_sG, mR_sG, mK_sG, mN_sG, mL_sG, mI_sJ, mR_sJ, mK_sJ, mN_sJ, mL_sJ, mI_sA, mR_sA, mK_sA, mN_sA, mL_sA, z_up, ↓reduceIte, reduceIte, Nat.reduceEqDiff, true_and, and_true]; exact e23) (by simp only [mI_sI, mR_sI, mK_sI, mN_sI, mL_sI, mI_sG, mR_sG, mK_sG, mN_sG, mL_sG, mI_sJ, mR_sJ, mK_sJ, mN_sJ, mL_sJ, mI_sA, mR_sA, mK_sA, mN_sA, mL_sA, z_up, ↓reduceIte, reduceIte, Nat.reduceEqDiff, true_and, and_true]; exact e24) (fun s q h1 h2 h3 => by
        rw [ne s q (fun h => by omega) h3]
        exact hT s q h1 h2 h3) (fun q hq => by
        by_cases cq : q = k
        · subst cq
          simp only [mI_sI, mR_sI, mK_sI, mN_sI, mL_sI, mI_sG, mR_sG, mK_sG, mN_sG, mL_sG, mI_sJ, mR_sJ, mK_sJ, mN_sJ, mL_sJ, mI_sA, mR_sA, mK_sA, mN_sA, mL_sA, z_up, ↓reduceIte, reduceIte, Nat.reduceEqDiff, true_and, and_true]
        · rw [ne S q (fun h => cq h.2) (by omega)]
          exact hp q (by omega))
    refine ⟨μ', ?_, Fq_trans (Fq_sI (Fq_refl μ) (by decide)) p2, p3⟩
    by_cases cr : rst S k = 0
    · have z0 : (nI (rst S k) = 0) = True := by rw [z0]; exact eq_true cr
      simp only [F_X13_order_c32, F_X13_order_c61, tM, e25, c1, h2k, hr, z0, not_true_eq_false, ↓reduceIte]
      have go := go 0 (by omega) (by rw [show p_fu = 99999 + 1 from rfl]; omega) (fun _ => by rw [if_pos cr])
      exact go.trans p1
    · have z0 : (nI (rst S k) = 0) = False := by rw [z0]; exact eq_false cr
      simp only [F_X13_order_c32, F_X13_order_c61, tM, e25, c1, h2k, hr, z0, not_false_eq_true, ↓reduceIte]
      have go := go 1000000 (by omega) (by rw [show p_fu = 99999 + 1 from rfl]; omega) (fun _ => by rw [if_neg cr]; rfl)
      exact go.trans p1
theorem m_os {n all : Nat} {c : Nat → Nat → Option Nat} {g b : Nat → Int32} (hn : n ≤ 9) (hall : all < 512) (hok : okK n g b) (hc : c = cB n g b) : ∀ (r S m : Nat) (μ : p_M), S + r = all + 1 → r < m → 1 ≤ S → mI μ 65 25 = nI n → mI μ 77 = g → mI μ 78 = b → TabM n c (mI μ 79) S → ∃ μ', F_X13_order_c25 m (nI all) (nI S) μ = F_X13_order_c190 p_fu (nI all) 1000000 0 μ' ∧ Fq [79] [] μ μ' ∧ TabM n c (mI μ' 79) (all + 1) := by
  intro r
  induction r with
  | zero =>
    intro S m μ hS hm h1 e25 e23 e24 hT
    obtain ⟨m, rfl⟩ : ∃ k, m = k + 1 := ⟨m - 1, by omega⟩
    have hS : S = all + 1 := by omega
    subst hS
    have c1 : nI all < nI (all + 1) := nI_lt (by omega) (by omega)
    refine ⟨μ, ?_, Fq_refl μ, hT⟩
    simp only [F_X13_order_c25, c1, ↓reduceIte]
  | succ r ih =>
    intro S m μ hS hm h1 e25 e23 e24 hT
    obtain ⟨m, rfl⟩ : ∃ k, m = k + 1 := ⟨m - 1, by omega⟩
    have c1 : ¬ nI all < nI S := nI_nlt (by omega) (by omega)
    obtain ⟨μ1, p1, p2, p3⟩ := m_ok hn (show S < 512 by omega) h1 hok hc (F_X13_order_c25 m) (nI all) n 0 p_fu μ (by omega) (by rw [show p_fu = 99999 + 1 from rfl]; omega) e25 e23 e24 hT (fun q hq => by omega)
    have p1 : F_X13_order_c32 (F_X13_order_c25 m) p_fu (nI all) (nI S) 0 μ = _ := p1
    obtain ⟨μ2, q1, q2, q3⟩ := ih (S + 1) m μ1 (by omega) (by omega) (by omega) ((Fq_sc p2 25 rfl).trans e25) ((Fq_row p2 77 (by decide)).trans e23) ((Fq_row p2 78 (by decide)).trans e24) p3
    refine ⟨μ2, ?_, Fq_trans p2 q2, q3⟩
    simp only [F_X13_order_c25, c1, ↓reduceIte]
    exact p1.trans q1
/-- the least of the first m -/
def fn (D : Nat → Option Nat) : Nat → Option Nat
  | 0 => none
  | m + 1 => mn (fn D m) (D m)
theorem fn_b {D : Nat → Option Nat} {B : Nat} (h : ∀ k x, D k = some x → x ≤ B) : ∀ m x, fn D m = some x → x ≤ B := by
  intro m
  induction m with
  | zero => intro x hx; cases hx
  | succ m ih =>
    intro x hx
    have hx : mn (fn D m) (D m) = some x := hx
    cases h1 : fn D m with
    | none => rw [h1] at hx; exact h m x hx
    | some y =>
      rw [h1] at hx
      cases h2 : D m with
      | none => rw [h2] at hx; exact ih x (h1.trans hx)
      | some z =>
        rw [h2] at hx
        have := ih y h1
        have := h m z h2
        cases hx
        split <;> omega
theorem oM_mn2 {a d : Option Nat} (ha : ∀ x, a = some x → x < 1000000) (hd : ∀ x, d = some x → x < 1000000) : (if oM d < oM a then oM d else oM a) = oM (mn a d) := by
  cases d with
  | none =>
    rw [mn_none]
    cases a with
    | none => rw [if_neg (show ¬ oM none < oM none from (show ¬ nI 1000000 < nI 1000000 from nI_nlt (by omega) (by omega)))]
    | some x =>
      have := ha x rfl
      rw [if_neg (show ¬ oM none < oM (some x) from (show ¬ nI 1000000 < nI x from nI_nlt (by omega) (by omega)))]
  | some z =>
    have hz := hd z rfl
    cases a with
    | none => rw [if_pos (show oM (some z) < oM none from (show nI z < nI 1000000 from nI_lt (by omega) (by omega)))]; rfl
    | some x =>
      have hx := ha x rfl
      show _ = nI (if z < x then z else x)
      by_cases c : z < x
      · rw [if_pos c, if_pos (show oM (some z) < oM (some x) from (show nI z < nI x from nI_lt c (by omega)))]; rfl
      · rw [if_neg c, if_neg (show ¬ oM (some z) < oM (some x) from (show ¬ nI z < nI x from nI_nlt (by omega) (by omega)))]; rfl
theorem m_of {n all : Nat} {c : Nat → Nat → Option Nat} (hn : n ≤ 9) (hall : all < 512) (h1 : 1 ≤ all) (hcb : bC c) (μ : p_M) (e25 : mI μ 65 25 = nI n) (hT : TabM n c (mI μ 79) (all + 1)) : ∀ (r k m : Nat), k + r = n → r < m → F_X13_order_c190 m (nI all) (oM (fn (DD n c all) k)) (nI k) μ = some (oN (fn (DD n c all) n), μ) := by
  have bD : ∀ k x, DD n c all k = some x → x ≤ 51100 := fun k x h => by have := DD_b hcb all k x hall h; omega
  intro r
  induction r with
  | zero =>
    intro k m hk hm
    obtain ⟨m, rfl⟩ : ∃ k, m = k + 1 := ⟨m - 1, by omega⟩
    have hk : k = n := by omega
    subst hk
    have c1 : nI k ≤ nI k := nI_le (Nat.le_refl _) (by omega)
    cases hf : fn (DD k c all) k with
    | none =>
      have c2 : ¬ oM none < 1000000 := by decide
      simp only [F_X13_order_c190, F_X13_order_c232, tM, e25, c1, c2, ↓reduceIte]
      rfl
    | some x =>
      have := fn_b bD k x hf
      have c2 : oM (some x) < 1000000 := (show nI x < nI 1000000 from nI_lt (by omega) (by decide))
      simp only [F_X13_order_c190, F_X13_order_c232, tM, e25, c1, c2, ↓reduceIte]
      rfl
  | succ r ih =>
    intro k m hk hm
    obtain ⟨m, rfl⟩ : ∃ k, m = k + 1 := ⟨m - 1, by omega⟩
    have c1 : ¬ nI n ≤ nI k := nI_ge (by omega) (by omega)
    have m9 : 9 * nI all = nI (9 * all) := pk_mul 9 all
    have a9 : nI (9 * all) + nI k = nI (9 * all + k) := nI_add _ _
    have i9 := ix_nI (show 9 * all + k < 4608 by omega) (by decide)
    have k9 := nI_clamp (show 9 * all + k < 2 ^ 31 by omega)
    have l9 : 9 * all + k < 4608 := by omega
    have ak : nI k + 1 = nI (k + 1) := nI_add k 1
    have hv := hT all k h1 (by omega) (by omega)
    have hmn := oM_mn2 (a := fn (DD n c all) k) (d := DD n c all k) (fun x hx => by have := fn_b bD k x hx; omega) (fun x hx => by have := bD k x hx; omega)
    have r1 := ih (k + 1) m (by omega) (by omega)
    simp only [F_X13_order_c190, p_ok, tM, aM, e25, c1, m9, a9, i9, k9, l9, ak, hv, hmn, and_self, true_and, not_false_eq_true, ↓reduceIte]
    exact r1
theorem two_n {n : Nat} (h : n ≤ 9) : 2 ^ n ≤ 512 := Nat.le_trans (Nat.pow_le_pow_right (by decide) h) (by decide)
theorem m_order {n : Nat} {g b : Nat → Int32} (hn : n ≤ 9) (hn1 : 1 ≤ n) (hok : okK n g b) (μ : p_M) (e25 : mI μ 65 25 = nI n) (e23 : mI μ 77 = g) (e24 : mI μ 78 = b) : ∃ μ', F_X13_order μ = some (oN (fn (DD n (cB n g b) (2 ^ n - 1)) n), μ') ∧ Fq [79] [0] μ μ' ∧ mI μ' 65 0 = 0 := by
  have h2 := two_n hn
  have h21 : 2 ≤ 2 ^ n := Nat.le_trans (by decide) (Nat.pow_le_pow_right (show 0 < 2 by decide) hn1)
  have sh := sh1 hn
  have sb : nI (2 ^ n) - 1 = nI (2 ^ n - 1) := pk_sub (b := 1) (by omega)
  obtain ⟨μ1, p1, p2, p3⟩ := m_os (c := cB n g b) (all := 2 ^ n - 1) hn (by omega) hok rfl (2 ^ n - 1) 1 p_fu (sI μ 65 0 0) (by omega) (by rw [show p_fu = 99999 + 1 from rfl]; omega) (by decide) (by simp only [mI_sI, mR_sI, mK_sI, mN_sI, mL_sI, mI_sG, mR_sG, mK_sG, mN_sG, mL_sG, mI_sJ, mR_sJ, mK_sJ, mN_sJ, mL_sJ, mI_sA, mR_sA, mK_sA, mN_sA, mL_sA, z_up, ↓reduceIte, reduceIte, Nat.reduceEqDiff, true_and, and_true]; exact e25) (by simp only [mI_sI, mR_sI, mK_sI, mN_sI, mL_sI, mI_sG, mR_sG, mK_sG, mN_sG, mL_sG, mI_sJ, mR_sJ, mK_sJ, mN_sJ, mL_sJ, mI_sA, mR_sA, mK_sA, mN_sA, mL_sA, z_up, ↓reduceIte, reduceIte, Nat.reduceEqDiff, true_and, and_true]; exact e23) (by simp only [mI_sI, mR_sI, mK_sI, mN_sI, mL_sI, mI_sG, mR_sG, mK_sG, mN_sG, mL_sG, mI_sJ, mR_sJ, mK_sJ, mN_sJ, mL_sJ, mI_sA, mR_sA, mK_sA, mN_sA, mL_sA, z_up, ↓reduceIte, reduceIte, Nat.reduceEqDiff, true_and, and_true]; exact e24) (fun s k h1 h2 => by omega)
  have q1 := m_of (c := cB n g b) (all := 2 ^ n - 1) hn (by omega) (by omega) (cB_b hok) μ1 (by rw [Fq_sc p2 25 rfl]; simp only [mI_sI, mR_sI, mK_sI, mN_sI, mL_sI, mI_sG, mR_sG, mK_sG, mN_sG, mL_sG, mI_sJ, mR_sJ, mK_sJ, mN_sJ, mL_sJ, mI_sA, mR_sA, mK_sA, mN_sA, mL_sA, z_up, ↓reduceIte, reduceIte, Nat.reduceEqDiff, true_and, and_true]; exact e25) p3 n 0 p_fu (by omega) (by rw [show p_fu = 99999 + 1 from rfl]; omega)
  have nz : ¬ nI n = 0 := fun h => by
    have := (nI_eq (show n < 2 ^ 31 by omega) (show 0 < 2 ^ 31 by decide)).mp h
    omega
  refine ⟨μ1, ?_, Fq_trans (Fq_s65 (Fq_refl μ) (by decide)) (Fq_mono p2 (by decide) (by decide)), ?_⟩
  · have p1 : F_X13_order_c25 p_fu (nI (2 ^ n - 1)) 1 (sI μ 65 0 0) = _ := p1
    have q1 : F_X13_order_c190 p_fu (nI (2 ^ n - 1)) 1000000 0 μ1 = _ := q1
    simp only [F_X13_order, tM, mI_sI, z_up, Nat.reduceEqDiff, e25, nz, sh, sb, p1, q1, not_false_eq_true, ↓reduceIte]
  · rw [Fq_sc p2 0 rfl]; simp only [mI_sI, mR_sI, mK_sI, mN_sI, mL_sI, mI_sG, mR_sG, mK_sG, mN_sG, mL_sG, mI_sJ, mR_sJ, mK_sJ, mN_sJ, mL_sJ, mI_sA, mR_sA, mK_sA, mN_sA, mL_sA, z_up, ↓reduceIte, reduceIte, Nat.reduceEqDiff, true_and, and_true]
