/-! a RECIPE is copied, a LOT is put into the list -/
theorem cr_add {μ : p_M} {R B A N k : Nat} (hi : isRec μ R B A N) (e2 : mI μ R 2 = nI k) (hk : k < N) (hN : N ≤ 20) (n1 : R ≠ B) (n2 : R ≠ A) (n3 : A ≠ B) (x y : Int32) : F_X8_add R x y μ = some (0, sI (sI (sI μ B k x) A k y) R 2 (nI (k + 1))) := by
  obtain ⟨h1, h2, h3, h4, h5, h6, h7⟩ := hi
  have c1 : ¬ nI N ≤ nI k := nI_ge hk (by omega)
  have ik := ix_nI hk (by omega)
  have kk := nI_clamp (show k < 2 ^ 31 by omega)
  have c20 : 20 ≤ 20 ∧ 20 ≤ 26 := by decide
  have ak : nI k + 1 = nI (k + 1) := nI_add k 1
  simp only [F_X8_add, F_X8_add_c42, bd_some, p_ok, p_let_eq, h1, h2, h3, h4, h5, h6, h7, c20, e2, c1, ik, kk, hk, mK_sI, mN_sI, mR_sI, mL_sI, mI_sI, n1, n2, n3, ak, and_self, true_and, not_false_eq_true, ↓reduceIte]
theorem c_copyR {R B A n0 l nb : Nat} (hn : n0 ≤ nb) (hnb : nb ≤ 20) (hl : 113 ≤ l) (hR : R < l ∧ B < l ∧ A < l) : ∀ (r k n : Nat) (μ : p_M), k + r = n0 → r < n → isRec μ R B A 20 → isRec μ (l + 2) (l + 3) (l + 4) nb → mI μ R 2 = nI n0 → mI μ (l + 2) 2 = nI k → ∃ μ', F_X8_copy_c7 n (l + 2) R (nI k) μ = some (0, μ') ∧ mI μ' (l + 2) 2 = nI n0 ∧ (∀ j, mI μ' (l + 3) j = if k ≤ j ∧ j < n0 then mI μ B j else mI μ (l + 3) j) ∧ (∀ j, mI μ' (l + 4) j = if k ≤ j ∧ j < n0 then mI μ A j else mI μ (l + 4) j) ∧ Fq [l + 2, l + 3, l + 4] [] μ μ' := by
  intro r
  induction r with
  | zero =>
    intro k n μ hk hr hi hj e1 e2
    obtain ⟨n, rfl⟩ : ∃ k, n = k + 1 := ⟨n - 1, by omega⟩
    have hk : k = n0 := by omega
    subst hk
    have c1 : nI k ≤ nI k := nI_le (Nat.le_refl _) (by omega)
    refine ⟨μ, ?_, e2, fun j => by rw [if_neg (by omega)], fun j => by rw [if_neg (by omega)], Fq_refl μ⟩
    simp only [F_X8_copy_c7, p_ok, hi.1, e1, c1, and_self, ↓reduceIte]
  | succ r ih =>
    intro k n μ hk hr hi hj e1 e2
    obtain ⟨n, rfl⟩ : ∃ k, n = k + 1 := ⟨n - 1, by omega⟩
    have c1 : ¬ nI n0 ≤ nI k := nI_ge (by omega) (by omega)
    have ik := ix_nI (show k < 20 by omega) (by decide)
    have kk := nI_clamp (show k < 2 ^ 31 by omega)
    have lk : k < 20 := by omega
    have ak : nI k + 1 = nI (k + 1) := nI_add k 1
    have hadd := cr_add hj e2 (show k < nb by omega) hnb (by omega) (by omega) (by omega) (mI μ B k) (mI μ A k)
    have hf : Fq [l + 2, l + 3, l + 4] [] μ (sI (sI (sI μ (l + 3) k (mI μ B k)) (l + 4) k (mI μ A k)) (l + 2) 2 (nI (k + 1))) := Fq_sI (Fq_sI (Fq_sI (Fq_refl μ) ⟨by simp, by omega⟩) ⟨by simp, by omega⟩) ⟨by simp, by omega⟩
    have rd : ∀ a, a < l → mI (sI (sI (sI μ (l + 3) k (mI μ B k)) (l + 4) k (mI μ A k)) (l + 2) 2 (nI (k + 1))) a = mI μ a := fun a ha => by
      rw [mI_sI, if_neg (by omega), mI_sI, if_neg (by omega), mI_sI, if_neg (by omega)]
    have rd3 : ∀ j, mI (sI (sI (sI μ (l + 3) k (mI μ B k)) (l + 4) k (mI μ A k)) (l + 2) 2 (nI (k + 1))) (l + 3) j = if j = k then mI μ B k else mI μ (l + 3) j := fun j => by
      rw [mI_sI, if_neg (show ¬ l + 3 = l + 2 by omega), mI_sI, if_neg (show ¬ l + 3 = l + 4 by omega), mI_sI, if_pos rfl, z_up]
    have rd4 : ∀ j, mI (sI (sI (sI μ (l + 3) k (mI μ B k)) (l + 4) k (mI μ A k)) (l + 2) 2 (nI (k + 1))) (l + 4) j = if j = k then mI μ A k else mI μ (l + 4) j := fun j => by
      rw [mI_sI, if_neg (show ¬ l + 4 = l + 2 by omega), mI_sI, if_pos rfl, z_up, mI_sI, if_neg (show ¬ l + 4 = l + 3 by omega)]
    obtain ⟨μ', g1, g2, g3, g4, g5⟩ := ih (k + 1) n _ (by omega) (by omega) (isRec_q hf hi) (isRec_q hf hj) (by rw [rd R hR.1]; exact e1) (by rw [mI_sI, if_pos rfl, z_up, if_pos rfl])
    refine ⟨μ', ?_, g2, fun j => ?_, fun j => ?_, Fq_trans hf g5⟩
    · obtain ⟨h1, h2, h3, h4, h5, h6, h7⟩ := hi
      simp only [F_X8_copy_c7, bd_some, p_ok, h1, h2, h3, h4, h5, h6, h7, hj.1, e1, c1, ik, kk, lk, hadd, ak, and_self, true_and, not_false_eq_true, ↓reduceIte]
      exact g1
    · rw [g3, rd B hR.2.1, rd3]
      by_cases c : j = k
      · rw [if_neg (by omega), if_pos c, if_pos (by omega), c]
      · by_cases c2 : k ≤ j ∧ j < n0
        · rw [if_pos (by omega), if_pos c2]
        · rw [if_neg (by omega), if_neg c, if_neg c2]
    · rw [g4, rd A hR.2.2, rd4]
      by_cases c : j = k
      · rw [if_neg (by omega), if_pos c, if_pos (by omega), c]
      · by_cases c2 : k ≤ j ∧ j < n0
        · rw [if_pos (by omega), if_pos c2]
        · rw [if_neg (by omega), if_neg c, if_neg c2]
def LstE (μ : p_M) (N E : Nat) (lr : Nat → Nat) : Prop := N = 0 ∧ mR μ 37 1 = some (p_E + 3) ∨ 1 ≤ N ∧ mR μ 37 1 = some E ∧ 113 ≤ E ∧ E < mN μ ∧ mK μ E = 25 ∧ N ≤ mL μ E ∧ (mL μ E = 10 ∨ mL μ E = 15 ∨ mL μ E = 22 ∨ mL μ E = 33 ∨ mL μ E = 49) ∧ ∀ j, j < N → mR μ E j = some (lr j)
/-- what comes of putting one more in -/
def AddO (μ μ' : p_M) (N E E' l : Nat) (lr : Nat → Nat) : Prop := mI μ' 37 2 = nI (N + 1) ∧ mR μ' 37 1 = some E' ∧ 113 ≤ E' ∧ E' < mN μ' ∧ mK μ' E' = 25 ∧ N + 1 ≤ mL μ' E' ∧ (mL μ' E' = 10 ∨ mL μ' E' = 15 ∨ mL μ' E' = 22 ∨ mL μ' E' = 33 ∨ mL μ' E' = 49) ∧ (∀ j, j < N → mR μ' E' j = some (lr j)) ∧ mR μ' E' N = some l ∧ (E' = E ∧ 1 ≤ N ∨ E' = mN μ) ∧ (∀ a, a < mN μ → mK μ' a = mK μ a ∧ mL μ' a = mL μ a) ∧ (∀ a, a < mN μ → a ≠ 37 → mI μ' a = mI μ a) ∧ (∀ a, a < mN μ → a ≠ 37 → a ≠ E' → mR μ' a = mR μ a) ∧ mN μ ≤ mN μ' ∧ mN μ' ≤ mN μ + 1 ∧ mC μ' ≤ mC μ + 1 ∧ mS μ' ≤ mS μ + 49
theorem c_alAdd {μ : p_M} {N E l : Nat} {lr : Nat → Nat} (hS : Sh μ) (hv : mK μ l = 5 ∧ l < mN μ) (e2 : mI μ 37 2 = nI N) (hN : N < 40) (hE : LstE μ N E lr) : ∃ E' μ', al_add 37 l μ = some μ' ∧ AddO μ μ' N E E' l lr := by
  have hn0 : ¬ nI N < 0 := nI_pos (by omega)
  have hn1 : nI N < 1000 := nI_lt (b := 1000) (by omega) (by decide)
  have kN := nI_clamp (show N < 2 ^ 31 by omega)
  have aN : nI N + 1 = nI (N + 1) := nI_add N 1
  have hcond : 37 < mN μ ∧ mK μ 37 = 0 ∧ l < mN μ ∧ mK μ l = 5 ∧ ¬ mI μ 37 2 < 0 ∧ mI μ 37 2 < 1000 := ⟨(s_o37 hS).2, (s_o37 hS).1, hv.2, hv.1, by rw [e2]; exact hn0, by rw [e2]; exact hn1⟩
  have h113 : 113 ≤ mN μ := hS.2.1
  have hmE : mN μ < p_E := hS.2.2.1
  rcases hE with ⟨h0, h1⟩ | ⟨h1, h2, h3, h4, h5, h6, h7, h8⟩
  · subst h0
    have e2 : mI μ 37 2 = 0 := e2
    refine ⟨mN μ, sI (sI (sR (sR (sN μ 25 10 10) (mN μ) 0 (some l)) 37 1 (some (mN μ))) 37 0 (mI μ 37 0 + 1)) 37 2 1, ?_, ?_⟩
    · unfold al_add
      rw [if_pos hcond, h1]
      dsimp only
      rw [if_pos ⟨rfl, e2⟩]
    · have n37 : ¬ 37 = mN μ := by omega
      have n37' : ¬ mN μ = 37 := by omega
      refine ⟨?_, ?_, h113, ?_, ?_, ?_, ?_, fun j hj => by omega, ?_, Or.inr rfl, fun a ha => ?_, fun a ha h37 => ?_, fun a ha h37 h' => ?_, ?_, ?_, Nat.le_refl _, by show mS μ + 10 ≤ _; omega⟩
      · simp only [mI_sI, ↓reduceIte, z_up]; rfl
      · simp only [mR_sI, mR_sR, ↓reduceIte, z_up]
      · simp only [mN_sI, mN_sR, mN_sN]; omega
      · simp only [mK_sI, mK_sR, mK_sN, ↓reduceIte]
      · simp only [mL_sI, mL_sR, mL_sN, ↓reduceIte]; decide
      · simp only [mL_sI, mL_sR, mL_sN, ↓reduceIte, true_or]
      · simp only [mR_sI, mR_sR, mR_sN, n37', ↓reduceIte, z_up]
      · have : ¬ a = mN μ := by omega
        simp only [mK_sI, mK_sR, mK_sN, mL_sI, mL_sR, mL_sN, this, ↓reduceIte, and_self]
      · have : ¬ a = mN μ := by omega
        simp only [mI_sI, mI_sR, mI_sN, this, h37, ↓reduceIte]
      · simp only [mR_sI, mR_sR, mR_sN, h', h37, ↓reduceIte]
      · simp only [mN_sI, mN_sR, mN_sN]; omega
      · simp only [mN_sI, mN_sR, mN_sN]; omega
  · have nE3 : ¬ (E = p_E + 3 ∧ mI μ 37 2 = 0) := fun h => by omega
    have nE37 : ¬ E = 37 := by omega
    have n37E : ¬ 37 = E := by omega
    by_cases c : N < mL μ E
    · refine ⟨E, sI (sI (sR μ E N (some l)) 37 0 (mI μ 37 0 + 1)) 37 2 (nI (N + 1)), ?_, ?_⟩
      · unfold al_add
        rw [if_pos hcond, h2]
        dsimp only
        rw [if_neg nE3, e2, kN, if_pos ⟨h4, h5, c⟩, aN]
      · refine ⟨?_, ?_, h3, h4, h5, ?_, h7, fun j hj => ?_, ?_, Or.inl ⟨rfl, h1⟩, fun a ha => ⟨rfl, rfl⟩, fun a ha h37 => ?_, fun a ha h37 h' => ?_, Nat.le_refl _, Nat.le_add_right _ _, Nat.le_add_right _ _, Nat.le_add_right _ _⟩
        · simp only [mI_sI, ↓reduceIte, z_up]
        · simp only [mR_sI, mR_sR, n37E, ↓reduceIte]; exact h2
        · simp only [mL_sI, mL_sR]; omega
        · have : ¬ j = N := by omega
          simp only [mR_sI, mR_sR, ↓reduceIte, z_up, this]
          exact h8 j hj
        · simp only [mR_sI, mR_sR, ↓reduceIte, z_up]
        · simp only [mI_sI, mI_sR, h37, ↓reduceIte]
        · simp only [mR_sI, mR_sR, h', ↓reduceIte]
    · have hNE : N = mL μ E := by omega
      have hL49 : mL μ E ≤ 33 ∧ 10 ≤ mL μ E := by omega
      refine ⟨mN μ, sI (sI (sR (sR ((mI (sN μ 25 (mL μ E + mL μ E / 2) (mL μ E + mL μ E / 2)), va_up (mR (sN μ 25 (mL μ E + mL μ E / 2) (mL μ E + mL μ E / 2))) (mN μ) (fun j => if j < mL μ E then mR μ E j else none), (sN μ 25 (mL μ E + mL μ E / 2) (mL μ E + mL μ E / 2)).2.2)) (mN μ) (mL μ E) (some l)) 37 1 (some (mN μ))) 37 0 (mI μ 37 0 + 1)) 37 2 (nI (N + 1)), ?_, ?_⟩
      · unfold al_add
        rw [if_pos hcond, h2]
        dsimp only
        rw [if_neg nE3, e2, kN, if_neg (fun h => c h.2.2), if_pos ⟨h4, h5, hNE, by omega, by omega⟩, aN]
      · have n37 : ¬ 37 = mN μ := by omega
        have n37' : ¬ mN μ = 37 := by omega
        have iX : ∀ (Z : p_M) (g : Nat → Nat → Option Nat) (a : Nat), mI ((mI Z, g, Z.2.2) : p_M) a = mI Z a := fun _ _ _ => rfl
        have rX : ∀ (Z : p_M) (g : Nat → Nat → Option Nat) (a : Nat), mR ((mI Z, g, Z.2.2) : p_M) a = g a := fun _ _ _ => rfl
        have kX : ∀ (Z : p_M) (g : Nat → Nat → Option Nat) (a : Nat), mK ((mI Z, g, Z.2.2) : p_M) a = mK Z a := fun _ _ _ => rfl
        have lX : ∀ (Z : p_M) (g : Nat → Nat → Option Nat) (a : Nat), mL ((mI Z, g, Z.2.2) : p_M) a = mL Z a := fun _ _ _ => rfl
        have nX : ∀ (Z : p_M) (g : Nat → Nat → Option Nat), mN ((mI Z, g, Z.2.2) : p_M) = mN Z := fun _ _ => rfl
        refine ⟨?_, ?_, h113, ?_, ?_, ?_, ?_, fun j hj => ?_, ?_, Or.inr rfl, fun a ha => ?_, fun a ha h37 => ?_, fun a ha h37 h' => ?_, ?_, ?_, Nat.le_refl _, ?_⟩
        · simp only [mI_sI, ↓reduceIte, z_up]
        · simp only [mR_sI, mR_sR, ↓reduceIte, z_up]
        · simp only [mN_sI, mN_sR, nX, mN_sN]; omega
        · simp only [mK_sI, mK_sR, kX, mK_sN, ↓reduceIte]
        · simp only [mL_sI, mL_sR, lX, mL_sN, ↓reduceIte]; omega
        · simp only [mL_sI, mL_sR, lX, mL_sN, ↓reduceIte]; omega
        · have q1 : ¬ j = mL μ E := by omega
          have q2 : j < mL μ E := by omega
          simp only [mR_sI, mR_sR, rX, n37', ↓reduceIte, z_up, q1, q2]
          exact h8 j hj
        · simp only [mR_sI, mR_sR, n37', ↓reduceIte, z_up, hNE]
        · have : ¬ a = mN μ := by omega
          simp only [mK_sI, mK_sR, kX, mK_sN, mL_sI, mL_sR, lX, mL_sN, this, ↓reduceIte, and_self]
        · have : ¬ a = mN μ := by omega
          simp only [mI_sI, mI_sR, iX, mI_sN, this, h37, ↓reduceIte]
        · simp only [mR_sI, mR_sR, rX, z_up, mR_sN, h', h37, ↓reduceIte]
        · simp only [mN_sI, mN_sR, nX, mN_sN]; omega
        · simp only [mN_sI, mN_sR, nX, mN_sN]; omega
        · show mS μ + (mL μ E + mL μ E / 2) ≤ mS μ + 49
          omega
theorem c_addLot {μ : p_M} {N E l : Nat} {lr : Nat → Nat} (hS : Sh μ) (hv : mK μ l = 5 ∧ l < mN μ) (e2 : mI μ 37 2 = nI N) (hN : N < 40) (hE : LstE μ N E lr) : ∃ E' μ', F_X12_addLot 0 l μ = some (nI N, μ') ∧ AddO μ μ' N E E' l lr := by
  obtain ⟨E', μ', h1, h2⟩ := c_alAdd hS hv e2 hN hE
  refine ⟨E', μ', ?_, h2⟩
  obtain ⟨a1, a2, a3, -, -, -, -, -, -, -, a4, -, a5, a6, -⟩ := h2
  have h113 : 113 ≤ mN μ := hS.2.1
  have k0 : mK μ' 0 = 13 ∧ 0 < mN μ' := ⟨(a4 0 (by omega)).1.trans (s_o0 hS).1, by omega⟩
  have r14 : mR μ' 0 14 = some 37 := by rw [a5 0 (by omega) (by omega) (by omega)]; exact s_r0_14 hS
  have k37 : 37 < mN μ' ∧ mK μ' 37 = 0 := ⟨by omega, (a4 37 (by omega)).1.trans (s_o37 hS).1⟩
  have pr : nI (N + 1) - 1 = nI N := nI_pred N
  simp only [F_X12_addLot, bd_some, p_ok, s_o0 hS, s_r0_0 hS, s_r0_1 hS, s_r0_10 hS, s_r0_11 hS, s_r0_12 hS, s_r0_14 hS, s_r0_16 hS, s_r0_19 hS, s_r0_7 hS, s_r0_8 hS, s_r0_9 hS, h1, k0, r14, k37, a1, pr, and_self, ↓reduceIte]
