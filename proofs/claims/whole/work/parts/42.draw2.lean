/-! the Model's draw -/
def cz (l : Nat → Int32) : Nat → Nat
  | 0 => 0
  | n + 1 => cz l n + (if l n = 0 then 0 else 1)
theorem cz_0 {l : Nat → Int32} : ∀ n, cz l n = 0 → ∀ j, j < n → l j = 0 := by
  intro n
  induction n with
  | zero => intro _ j hj; omega
  | succ n ih =>
    intro h j hj
    rw [cz] at h
    by_cases e : l n = 0
    · by_cases ej : j = n
      · rw [ej]; exact e
      · exact ih (by omega) j (by omega)
    · rw [if_neg e] at h; omega
theorem cz_up {l : Nat → Int32} {t : Nat} (h : ¬ l t = 0) : ∀ n, t < n → cz (va_up l t 0) n + 1 = cz l n := by
  have hge : ∀ n, n ≤ t → cz (va_up l t 0) n = cz l n := by
    intro n
    induction n with
    | zero => intro _; rfl
    | succ n ih => intro hn; rw [cz, cz, ih (by omega), z_up, if_neg (show ¬ n = t by omega)]
  intro n
  induction n with
  | zero => intro h; omega
  | succ n ih =>
    intro hn
    rw [cz, cz, z_up]
    by_cases e : n = t
    · rw [if_pos e, hge n (by omega), if_pos rfl, e, if_neg h]
    · rw [if_neg e, ← ih (by omega)]
      omega
theorem cz_le {l : Nat → Int32} : ∀ n, cz l n ≤ n := by
  intro n
  induction n with
  | zero => exact Nat.le_refl _
  | succ n ih => rw [cz]; split <;> omega
theorem dz_none {l d : Nat → Int32} {b : Int32} {n : Nat} (hn : n ≤ 5) (h : ∀ j, j < n → l j = 0) : dz l d b n 0 (-1) = -1 := by
  by_cases c : dz l d b n 0 (-1) = -1
  · exact c
  · obtain ⟨t, ht, -, hb⟩ := dz_get hn c
    have := hb.1
    rw [h t ht] at this
    exact absurd this (by decide)
theorem m_takeE {ν : p_M} : F_X13_draws_c139 ν = some (0, sI ν 65 31 (mI ν 65 31 + mI ν 65 35)) := rfl
theorem m_step {n t m : Nat} {b k p : Int32} {ν : p_M} (ht : t < 5) (hc : ¬ mI ν 65 35 ≤ 0) (hl : 0 < mI ν 81 t) (hk : k = if mI ν 81 t < mI ν 65 35 then mI ν 81 t else mI ν 65 35) (hp : p = pu (mI ν 82 t) k (mI ν 81 t)) : F_X13_draws_c16 (m + 1) b (nI t) ν = if mI ν 81 t - k ≤ 0 then (F_X13_dirtiest b (sI (sI (sI (sI ν 81 t (mI ν 81 t - k)) 82 t (mI ν 82 t - p)) 65 35 (mI ν 65 35 - k)) 65 36 (mI ν 65 36 + p))).bind (fun q2 => F_X13_draws_c16 m b q2.1 q2.2) else F_X13_draws_c139 (sI (sI (sI (sI ν 81 t (mI ν 81 t - k)) 82 t (mI ν 82 t - p)) 65 35 (mI ν 65 35 - k)) 65 36 (mI ν 65 36 + p)) := by
  have i1 := ix_nI ht (by decide)
  have k1 := nI_clamp (show t < 2 ^ 31 by omega)
  have z6 := i64_ne0 hl
  unfold pu at hp
  rw [F_X13_draws_c16, if_neg i1.1]
  simp only [p_ok, mI_sI, z_up, ↓reduceIte, reduceIte, Nat.reduceEqDiff, tM, aM, k1, hc, i1.1, ht, z6, not_false_eq_true, and_self, ← hk, ← hp]
theorem m_take {n : Nat} (hn : n ≤ 5) {b : Int32} : ∀ (r m : Nat) (ν : p_M) (C : Nat), C ≤ 5000 → mI ν 65 35 = nI C → mI ν 65 30 = nI n → (∀ j, j < 5 → ∃ w : Nat, w ≤ 1000 ∧ mI ν 81 j = nI w) → cz (mI ν 81) n ≤ r → r < m → ∃ ν', F_X13_draws_c16 m b (dz (mI ν 81) (mI ν 82) b n 0 (-1)) ν = some (0, ν') ∧ mI ν' 81 = (tk n b r (mI ν 81) (mI ν 82) (mI ν 65 35) (mI ν 65 36)).1 ∧ mI ν' 82 = (tk n b r (mI ν 81) (mI ν 82) (mI ν 65 35) (mI ν 65 36)).2.1 ∧ mI ν' 65 35 = (tk n b r (mI ν 81) (mI ν 82) (mI ν 65 35) (mI ν 65 36)).2.2.1 ∧ mI ν' 65 36 = (tk n b r (mI ν 81) (mI ν 82) (mI ν 65 35) (mI ν 65 36)).2.2.2 ∧ mI ν' 65 31 = mI ν 65 31 + (tk n b r (mI ν 81) (mI ν 82) (mI ν 65 35) (mI ν 65 36)).2.2.1 ∧ Fq [81, 82] [31, 35, 36] ν ν' := by
  intro r
  induction r with
  | zero =>
    intro m ν C hC eC e1 hl hz h2
    obtain ⟨m, rfl⟩ : ∃ k, m = k + 1 := ⟨m - 1, by omega⟩
    have hd : dz (mI ν 81) (mI ν 82) b n 0 (-1) = -1 := dz_none hn (cz_0 n (by omega))
    refine ⟨sI ν 65 31 (mI ν 65 31 + mI ν 65 35), ?_, ?_, ?_, ?_, ?_, ?_, Fq_s65 (Fq_refl ν) (by decide)⟩
    · rw [hd, F_X13_draws_c16, if_pos (by decide)]; rfl
    · simp only [mI_sI, mR_sI, mK_sI, mN_sI, mL_sI, mI_sG, mR_sG, mK_sG, mN_sG, mL_sG, mI_sJ, mR_sJ, mK_sJ, mN_sJ, mL_sJ, mI_sA, mR_sA, mK_sA, mN_sA, mL_sA, z_up, ↓reduceIte, reduceIte, Nat.reduceEqDiff, true_and, and_true, tk]
    · simp only [mI_sI, mR_sI, mK_sI, mN_sI, mL_sI, mI_sG, mR_sG, mK_sG, mN_sG, mL_sG, mI_sJ, mR_sJ, mK_sJ, mN_sJ, mL_sJ, mI_sA, mR_sA, mK_sA, mN_sA, mL_sA, z_up, ↓reduceIte, reduceIte, Nat.reduceEqDiff, true_and, and_true, tk]
    · simp only [mI_sI, mR_sI, mK_sI, mN_sI, mL_sI, mI_sG, mR_sG, mK_sG, mN_sG, mL_sG, mI_sJ, mR_sJ, mK_sJ, mN_sJ, mL_sJ, mI_sA, mR_sA, mK_sA, mN_sA, mL_sA, z_up, ↓reduceIte, reduceIte, Nat.reduceEqDiff, true_and, and_true, tk]
    · simp only [mI_sI, mR_sI, mK_sI, mN_sI, mL_sI, mI_sG, mR_sG, mK_sG, mN_sG, mL_sG, mI_sJ, mR_sJ, mK_sJ, mN_sJ, mL_sJ, mI_sA, mR_sA, mK_sA, mN_sA, mL_sA, z_up, ↓reduceIte, reduceIte, Nat.reduceEqDiff, true_and, and_true, tk]
    · simp only [mI_sI, mR_sI, mK_sI, mN_sI, mL_sI, mI_sG, mR_sG, mK_sG, mN_sG, mL_sG, mI_sJ, mR_sJ, mK_sJ, mN_sJ, mL_sJ, mI_sA, mR_sA, mK_sA, mN_sA, mL_sA, z_up, ↓reduceIte, reduceIte, Nat.reduceEqDiff, true_and, and_true, tk]
  | succ r ih =>
    intro m ν C hC eC e1 hl hz h2
    obtain ⟨m, rfl⟩ : ∃ k, m = k + 1 := ⟨m - 1, by omega⟩
    by_cases hs : mI ν 65 35 ≤ 0 ∨ dz (mI ν 81) (mI ν 82) b n 0 (-1) = -1
    · rw [tk_stop hs]
      refine ⟨sI ν 65 31 (mI ν 65 31 + mI ν 65 35), ?_, ?_, ?_, ?_, ?_, ?_, Fq_s65 (Fq_refl ν) (by decide)⟩
      · rw [F_X13_draws_c16]
        by_cases c0 : dz (mI ν 81) (mI ν 82) b n 0 (-1) < 0
        · rw [if_pos c0]; rfl
        · have hd : ¬ dz (mI ν 81) (mI ν 82) b n 0 (-1) = -1 := fun e => c0 (by rw [e]; decide)
          rw [if_neg c0, if_pos (show mI ν tM 35 ≤ 0 from hs.resolve_right hd)]; rfl
      · simp only [mI_sI, mR_sI, mK_sI, mN_sI, mL_sI, mI_sG, mR_sG, mK_sG, mN_sG, mL_sG, mI_sJ, mR_sJ, mK_sJ, mN_sJ, mL_sJ, mI_sA, mR_sA, mK_sA, mN_sA, mL_sA, z_up, ↓reduceIte, reduceIte, Nat.reduceEqDiff, true_and, and_true]
      · simp only [mI_sI, mR_sI, mK_sI, mN_sI, mL_sI, mI_sG, mR_sG, mK_sG, mN_sG, mL_sG, mI_sJ, mR_sJ, mK_sJ, mN_sJ, mL_sJ, mI_sA, mR_sA, mK_sA, mN_sA, mL_sA, z_up, ↓reduceIte, reduceIte, Nat.reduceEqDiff, true_and, and_true]
      · simp only [mI_sI, mR_sI, mK_sI, mN_sI, mL_sI, mI_sG, mR_sG, mK_sG, mN_sG, mL_sG, mI_sJ, mR_sJ, mK_sJ, mN_sJ, mL_sJ, mI_sA, mR_sA, mK_sA, mN_sA, mL_sA, z_up, ↓reduceIte, reduceIte, Nat.reduceEqDiff, true_and, and_true]
      · simp only [mI_sI, mR_sI, mK_sI, mN_sI, mL_sI, mI_sG, mR_sG, mK_sG, mN_sG, mL_sG, mI_sJ, mR_sJ, mK_sJ, mN_sJ, mL_sJ, mI_sA, mR_sA, mK_sA, mN_sA, mL_sA, z_up, ↓reduceIte, reduceIte, Nat.reduceEqDiff, true_and, and_true]
      · simp only [mI_sI, mR_sI, mK_sI, mN_sI, mL_sI, mI_sG, mR_sG, mK_sG, mN_sG, mL_sG, mI_sJ, mR_sJ, mK_sJ, mN_sJ, mL_sJ, mI_sA, mR_sA, mK_sA, mN_sA, mL_sA, z_up, ↓reduceIte, reduceIte, Nat.reduceEqDiff, true_and, and_true]
    · have hc : ¬ mI ν 65 35 ≤ 0 := fun e => hs (Or.inl e)
      obtain ⟨t, ht, et, hb⟩ := dz_get hn (fun e => hs (Or.inr e))
      have hl0 : 0 < mI ν 81 t := hb.1
      obtain ⟨w, hw, ew⟩ := hl t (by omega)
      obtain ⟨k, hk⟩ : ∃ k, k = if mI ν 81 t < mI ν 65 35 then mI ν 81 t else mI ν 65 35 := ⟨_, rfl⟩
      obtain ⟨p, hp⟩ : ∃ p, p = pu (mI ν 82 t) k (mI ν 81 t) := ⟨_, rfl⟩
      rw [tk_go hc ht hn et hk hp, et, m_step (n := n) (show t < 5 by omega) hc hl0 hk hp]
      obtain ⟨ν1, hν⟩ : ∃ ν1, ν1 = sI (sI (sI (sI ν 81 t (mI ν 81 t - k)) 82 t (mI ν 82 t - p)) 65 35 (mI ν 65 35 - k)) 65 36 (mI ν 65 36 + p) := ⟨_, rfl⟩
      have q81 : mI ν1 81 = va_up (mI ν 81) t (mI ν 81 t - k) := by rw [hν]; simp only [mI_sI, mR_sI, mK_sI, mN_sI, mL_sI, mI_sG, mR_sG, mK_sG, mN_sG, mL_sG, mI_sJ, mR_sJ, mK_sJ, mN_sJ, mL_sJ, mI_sA, mR_sA, mK_sA, mN_sA, mL_sA, z_up, ↓reduceIte, reduceIte, Nat.reduceEqDiff, true_and, and_true]
      have q82 : mI ν1 82 = va_up (mI ν 82) t (mI ν 82 t - p) := by rw [hν]; simp only [mI_sI, mR_sI, mK_sI, mN_sI, mL_sI, mI_sG, mR_sG, mK_sG, mN_sG, mL_sG, mI_sJ, mR_sJ, mK_sJ, mN_sJ, mL_sJ, mI_sA, mR_sA, mK_sA, mN_sA, mL_sA, z_up, ↓reduceIte, reduceIte, Nat.reduceEqDiff, true_and, and_true]
      have q35 : mI ν1 65 35 = mI ν 65 35 - k := by rw [hν]; simp only [mI_sI, mR_sI, mK_sI, mN_sI, mL_sI, mI_sG, mR_sG, mK_sG, mN_sG, mL_sG, mI_sJ, mR_sJ, mK_sJ, mN_sJ, mL_sJ, mI_sA, mR_sA, mK_sA, mN_sA, mL_sA, z_up, ↓reduceIte, reduceIte, Nat.reduceEqDiff, true_and, and_true]
      have q36 : mI ν1 65 36 = mI ν 65 36 + p := by rw [hν]; simp only [mI_sI, mR_sI, mK_sI, mN_sI, mL_sI, mI_sG, mR_sG, mK_sG, mN_sG, mL_sG, mI_sJ, mR_sJ, mK_sJ, mN_sJ, mL_sJ, mI_sA, mR_sA, mK_sA, mN_sA, mL_sA, z_up, ↓reduceIte, reduceIte, Nat.reduceEqDiff, true_and, and_true]
      have q31 : mI ν1 65 31 = mI ν 65 31 := by rw [hν]; simp only [mI_sI, mR_sI, mK_sI, mN_sI, mL_sI, mI_sG, mR_sG, mK_sG, mN_sG, mL_sG, mI_sJ, mR_sJ, mK_sJ, mN_sJ, mL_sJ, mI_sA, mR_sA, mK_sA, mN_sA, mL_sA, z_up, ↓reduceIte, reduceIte, Nat.reduceEqDiff, true_and, and_true]
      have q30 : mI ν1 65 30 = nI n := by rw [hν]; simp only [mI_sI, mR_sI, mK_sI, mN_sI, mL_sI, mI_sG, mR_sG, mK_sG, mN_sG, mL_sG, mI_sJ, mR_sJ, mK_sJ, mN_sJ, mL_sJ, mI_sA, mR_sA, mK_sA, mN_sA, mL_sA, z_up, ↓reduceIte, reduceIte, Nat.reduceEqDiff, true_and, and_true]; exact e1
      have hq : Fq [81, 82] [31, 35, 36] ν ν1 := by rw [hν]; exact Fq_s65 (Fq_s65 (Fq_sI (Fq_sI (Fq_refl ν) (by decide)) (by decide)) (by decide)) (by decide)
      rw [← hν, ← q81, ← q82, ← q35, ← q36, ← q31]
      have hw0 : 0 < w := by
        rcases Nat.eq_zero_or_pos w with e | e
        · rw [ew, e] at hl0; exact absurd hl0 (by decide)
        · exact e
      have hC0 : 0 < C := by
        rcases Nat.eq_zero_or_pos C with e | e
        · rw [eC, e] at hc; exact absurd (by decide) hc
        · exact e
      rw [ew, eC] at hk
      have hl1 : ∃ w2 C2 : Nat, w2 ≤ 1000 ∧ C2 ≤ 5000 ∧ mI ν 81 t - k = nI w2 ∧ mI ν 65 35 - k = nI C2 ∧ (w2 = 0 ∨ C2 = 0) := by
        by_cases cw : w < C
        · rw [if_pos (nI_lt cw (by omega))] at hk
          exact ⟨0, C - w, by omega, by omega, by rw [ew, hk, pk_sub (Nat.le_refl w), Nat.sub_self], by rw [eC, hk, pk_sub (by omega)], Or.inl rfl⟩
        · rw [if_neg (nI_nlt (by omega) (by omega))] at hk
          exact ⟨w - C, 0, by omega, by omega, by rw [ew, hk, pk_sub (by omega)], by rw [eC, hk, pk_sub (Nat.le_refl C), Nat.sub_self], Or.inr rfl⟩
      obtain ⟨w2, C2, hw2, hC2, ew2, eC2, hor⟩ := hl1
      rw [ew2]
      by_cases c3 : w2 = 0
      · rw [c3] at ew2
        rw [c3, if_pos (show nI 0 ≤ 0 by decide)]
        have hl' : ∀ j, j < 5 → ∃ w : Nat, w ≤ 1000 ∧ mI ν1 81 j = nI w := fun j hj => by
          rw [q81, z_up]
          by_cases ej : j = t
          · rw [if_pos ej, ew2]; exact ⟨0, by omega, rfl⟩
          · rw [if_neg ej]; exact hl j hj
        have hcz : cz (mI ν1 81) n ≤ r := by
          have hne : ¬ mI ν 81 t = 0 := fun e => by rw [e] at hl0; exact absurd hl0 (by decide)
          have := cz_up hne n ht
          rw [q81, ew2, nI_0]
          omega
        have hdir := m_dirtiest (μ := ν1) hn q30 (fun j hj => by obtain ⟨x, hx, ex⟩ := hl' j hj; rw [ex]; exact nI_pos (by omega)) b
        rw [hdir, bd_some]
        obtain ⟨ν', g1, g2, g3, g4, g5, g6, g7⟩ := ih m ν1 C2 hC2 (by rw [q35]; exact eC2) q30 hl' hcz (by omega)
        exact ⟨ν', g1, g2, g3, g4, g5, g6, Fq_trans hq g7⟩
      · have hC20 : C2 = 0 := hor.resolve_left c3
        rw [hC20] at eC2
        have q35' : mI ν1 65 35 = 0 := by rw [q35]; exact eC2
        rw [if_neg (nI_nle (by omega) (by omega)), m_takeE, tk_stop (Or.inl (by rw [q35']; decide))]
        refine ⟨_, rfl, ?_, ?_, ?_, ?_, ?_, Fq_s65 hq (by decide)⟩
        · simp only [mI_sI, mR_sI, mK_sI, mN_sI, mL_sI, mI_sG, mR_sG, mK_sG, mN_sG, mL_sG, mI_sJ, mR_sJ, mK_sJ, mN_sJ, mL_sJ, mI_sA, mR_sA, mK_sA, mN_sA, mL_sA, z_up, ↓reduceIte, reduceIte, Nat.reduceEqDiff, true_and, and_true]
        · simp only [mI_sI, mR_sI, mK_sI, mN_sI, mL_sI, mI_sG, mR_sG, mK_sG, mN_sG, mL_sG, mI_sJ, mR_sJ, mK_sJ, mN_sJ, mL_sJ, mI_sA, mR_sA, mK_sA, mN_sA, mL_sA, z_up, ↓reduceIte, reduceIte, Nat.reduceEqDiff, true_and, and_true]
        · simp only [mI_sI, mR_sI, mK_sI, mN_sI, mL_sI, mI_sG, mR_sG, mK_sG, mN_sG, mL_sG, mI_sJ, mR_sJ, mK_sJ, mN_sJ, mL_sJ, mI_sA, mR_sA, mK_sA, mN_sA, mL_sA, z_up, ↓reduceIte, reduceIte, Nat.reduceEqDiff, true_and, and_true]
        · simp only [mI_sI, mR_sI, mK_sI, mN_sI, mL_sI, mI_sG, mR_sG, mK_sG, mN_sG, mL_sG, mI_sJ, mR_sJ, mK_sJ, mN_sJ, mL_sJ, mI_sA, mR_sA, mK_sA, mN_sA, mL_sA, z_up, ↓reduceIte, reduceIte, Nat.reduceEqDiff, true_and, and_true]
        · simp only [mI_sI, mR_sI, mK_sI, mN_sI, mL_sI, mI_sG, mR_sG, mK_sG, mN_sG, mL_sG, mI_sJ, mR_sJ, mK_sJ, mN_sJ, mL_sJ, mI_sA, mR_sA, mK_sA, mN_sA, mL_sA, z_up, ↓reduceIte, reduceIte, Nat.reduceEqDiff, true_and, and_true]
