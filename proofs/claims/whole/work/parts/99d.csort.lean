/-! the class puts them in order -/
theorem e_sha {e : Nat} (he : e < 2 ^ 20) (μ : p_M) : F_X6_shadeOf (nI e) μ = some (nI (sha e), μ) := by
  unfold F_X6_shadeOf
  rw [pk_ushrN (show e < 2 ^ 32 by omega) 12 12 (by decide), pk_andN (show e / 2 ^ 12 < 2 ^ 32 by omega) 8 (by decide)]
  have : e / 2 ^ 12 % 2 ^ 8 = sha e := by unfold sha; omega
  rw [this]
/-- what the class holds of the gathered ones -/
def GrC (c : p_M) (n : Nat) (g : Nat → Nat) : Prop := mI c 38 9 = nI n ∧ ∀ k, k < n → mI c 42 k = nI (g k)
theorem c_cs1 {n : Nat} {g : Nat → Nat} (hn : n ≤ 250) (hg : okG n g) (hb : ∀ k, k < n → g k < 2 ^ 20) : ∀ (r k f : Nat) (c : p_M), k + r = n → r < f → Sh c → GrC c n g → (∀ s, s ≤ 255 → mI c 45 (s + 1) = nI (eqc g s k)) → mI c 45 0 = 0 → ∃ c', F_X6_putInOrder_c10 f 38 (nI k) c = F_X6_putInOrder_c46 p_fu 38 1 c' ∧ (∀ s, s ≤ 255 → mI c' 45 (s + 1) = nI (eqc g s n)) ∧ mI c' 45 0 = 0 ∧ Fq [45] [] c c' := by
  intro r
  induction r with
  | zero =>
    intro k f c hk hf hS hG h1 h0
    obtain ⟨f, rfl⟩ : ∃ k, f = k + 1 := ⟨f - 1, by omega⟩
    have hk : k = n := by omega
    subst hk
    have c1 : nI k ≤ nI k := nI_le (Nat.le_refl _) (by omega)
    refine ⟨c, ?_, h1, h0, Fq_refl c⟩
    simp only [F_X6_putInOrder_c10, p_ok, s_o38 hS, hG.1, c1, and_self, ↓reduceIte]
  | succ r ih =>
    intro k f c hk hf hS hG h1 h0
    obtain ⟨f, rfl⟩ : ∃ k, f = k + 1 := ⟨f - 1, by omega⟩
    have c1 : ¬ nI n ≤ nI k := nI_ge (by omega) (by omega)
    have ik := ix_nI (show k < 250 by omega) (by decide)
    have kk := nI_clamp (show k < 2 ^ 31 by omega)
    have lk : k < 250 := by omega
    have ak : nI k + 1 = nI (k + 1) := nI_add k 1
    have e := hG.2 k (by omega)
    have es := e_sha (hb k (by omega)) c
    have hs := hg.1 k (by omega)
    have as : nI (sha (g k)) + 1 = nI (sha (g k) + 1) := nI_add _ 1
    have is := ix_nI (show sha (g k) + 1 < 257 by omega) (by decide)
    have ks := nI_clamp (show sha (g k) + 1 < 2 ^ 31 by omega)
    have ls : sha (g k) + 1 < 257 := by omega
    have ev := h1 (sha (g k)) hs
    have av : nI (eqc g (sha (g k)) k) + 1 = nI (eqc g (sha (g k)) k + 1) := nI_add _ 1
    have f1 : Fq [45] [] c (sI c 45 (sha (g k) + 1) (nI (eqc g (sha (g k)) k + 1))) := Fq_sI (Fq_refl c) (by decide)
    obtain ⟨c', g1, g2, g3, g4⟩ := ih (k + 1) f (sI c 45 (sha (g k) + 1) (nI (eqc g (sha (g k)) k + 1))) (by omega) (by omega) (Sh_q f1 hS) ⟨by rw [mI_sI, if_neg (by decide)]; exact hG.1, fun q hq => by rw [mI_sI, if_neg (by decide)]; exact hG.2 q hq⟩ (fun s hs' => by
      rw [mI_sI, if_pos rfl, z_up, eqc_succ]
      by_cases c : sha (g k) = s
      · rw [if_pos (by omega), if_pos c, c]
      · rw [if_neg (by omega), if_neg c, Nat.add_zero]; exact h1 s hs') (by rw [mI_sI, if_pos rfl, z_up, if_neg (by omega)]; exact h0)
    refine ⟨c', ?_, g2, g3, Fq_trans f1 g4⟩
    simp only [F_X6_putInOrder_c10, bd_some, p_ok, p_let_eq, s_o38 hS, s_r38_0 hS, s_r38_1 hS, s_r38_2 hS, s_r38_5 hS, s_r38_6 hS, s_r38_7 hS, s_r38_8 hS, s_a42 hS, s_l42 hS, s_o42 hS, s_a45 hS, s_l45 hS, s_o45 hS, hG.1, c1, ik, kk, lk, e, es, as, is, ks, ls, ev, av, ak, and_self, true_and, not_false_eq_true, ↓reduceIte]
    exact g1
theorem c_cs2 {n : Nat} {g : Nat → Nat} (hn : n ≤ 250) (hg : okG n g) : ∀ (r s f : Nat) (c : p_M), s + r = 256 → 1 ≤ s → r < f → Sh c → (∀ q, q < s → mI c 45 q = nI (stt n g q)) → (∀ q, s ≤ q → q ≤ 256 → mI c 45 q = nI (eqc g (q - 1) n)) → ∃ c', F_X6_putInOrder_c46 f 38 (nI s) c = F_X6_putInOrder_c78 p_fu 38 0 c' ∧ (∀ q, q ≤ 255 → mI c' 45 q = nI (stt n g q)) ∧ Fq [45] [] c c' := by
  intro r
  induction r with
  | zero =>
    intro s f c hs hs1 hf hS h1 h2
    obtain ⟨f, rfl⟩ : ∃ k, f = k + 1 := ⟨f - 1, by omega⟩
    have hs : s = 256 := by omega
    subst hs
    have c1 : (255 : Int32) < nI 256 := by decide
    refine ⟨c, ?_, fun q hq => h1 q (by omega), Fq_refl c⟩
    simp only [F_X6_putInOrder_c46, c1, ↓reduceIte]
  | succ r ih =>
    intro s f c hs hs1 hf hS h1 h2
    obtain ⟨f, rfl⟩ : ∃ k, f = k + 1 := ⟨f - 1, by omega⟩
    have c1 : ¬ (255 : Int32) < nI s := nI_nlt (a := 255) (by omega) (by decide)
    have is := ix_nI (show s < 257 by omega) (by decide)
    have ks := nI_clamp (show s < 2 ^ 31 by omega)
    have ls : s < 257 := by omega
    have sb : nI s - 1 = nI (s - 1) := pk_sub (b := 1) hs1
    have is' := ix_nI (show s - 1 < 257 by omega) (by decide)
    have ks' := nI_clamp (show s - 1 < 2 ^ 31 by omega)
    have ls' : s - 1 < 257 := by omega
    have as : nI s + 1 = nI (s + 1) := nI_add s 1
    have e1 := h2 s (Nat.le_refl _) (by omega)
    have e2 := h1 (s - 1) (by omega)
    have ev : nI (eqc g (s - 1) n) + nI (stt n g (s - 1)) = nI (stt n g s) := by
      have := stt_s g (s - 1) n
      rw [show s - 1 + 1 = s by omega] at this
      rw [nI_add, this, Nat.add_comm]
    have f1 : Fq [45] [] c (sI c 45 s (nI (stt n g s))) := Fq_sI (Fq_refl c) (by decide)
    obtain ⟨c', g1, g2, g3⟩ := ih (s + 1) f (sI c 45 s (nI (stt n g s))) (by omega) (by omega) (by omega) (Sh_q f1 hS) (fun q hq => by
      rw [mI_sI, if_pos rfl, z_up]
      by_cases c : q = s
      · rw [if_pos c, c]
      · rw [if_neg c]; exact h1 q (by omega)) (fun q h3 h4 => by
      rw [mI_sI, if_pos rfl, z_up, if_neg (by omega)]; exact h2 q (by omega) h4)
    refine ⟨c', ?_, g2, Fq_trans f1 g3⟩
    simp only [F_X6_putInOrder_c46, bd_some, p_ok, p_let_eq, s_o38 hS, s_r38_0 hS, s_r38_1 hS, s_r38_2 hS, s_r38_5 hS, s_r38_6 hS, s_r38_7 hS, s_r38_8 hS, s_a45 hS, s_l45 hS, s_o45 hS, c1, is, ks, ls, sb, is', ks', ls', e1, e2, ev, as, and_self, true_and, not_false_eq_true, ↓reduceIte]
    exact g1
theorem c_cs3 {n : Nat} {g : Nat → Nat} (hn : n ≤ 250) (hg : okG n g) (hb : ∀ k, k < n → g k < 2 ^ 20) : ∀ (r k f : Nat) (c : p_M), k + r = n → r < f → Sh c → GrC c n g → (∀ s, s ≤ 255 → mI c 45 s = nI (stt n g s + eqc g s k)) → (∀ q, q < k → mI c 43 (pf n g q) = nI (g q)) → ∃ c', F_X6_putInOrder_c78 f 38 (nI k) c = some (0, c') ∧ (∀ q, q < n → mI c' 43 (pf n g q) = nI (g q)) ∧ Fq [43, 45] [] c c' := by
  intro r
  induction r with
  | zero =>
    intro k f c hk hf hS hG h1 h2
    obtain ⟨f, rfl⟩ : ∃ k, f = k + 1 := ⟨f - 1, by omega⟩
    have hk : k = n := by omega
    subst hk
    have c1 : nI k ≤ nI k := nI_le (Nat.le_refl _) (by omega)
    refine ⟨c, ?_, h2, Fq_refl c⟩
    simp only [F_X6_putInOrder_c78, p_ok, s_o38 hS, hG.1, c1, and_self, ↓reduceIte]
  | succ r ih =>
    intro k f c hk hf hS hG h1 h2
    obtain ⟨f, rfl⟩ : ∃ k, f = k + 1 := ⟨f - 1, by omega⟩
    have c1 : ¬ nI n ≤ nI k := nI_ge (by omega) (by omega)
    have ik := ix_nI (show k < 250 by omega) (by decide)
    have kk := nI_clamp (show k < 2 ^ 31 by omega)
    have lk : k < 250 := by omega
    have kn : k < n := by omega
    have ak : nI k + 1 = nI (k + 1) := nI_add k 1
    have e := hG.2 k (by omega)
    have es := e_sha (hb k (by omega)) c
    have hs := hg.1 k (by omega)
    have is := ix_nI (show sha (g k) < 257 by omega) (by decide)
    have ks := nI_clamp (show sha (g k) < 2 ^ 31 by omega)
    have ls : sha (g k) < 257 := by omega
    have ev : mI c 45 (sha (g k)) = nI (pf n g k) := h1 (sha (g k)) hs
    have hp := pf_n hg kn
    have ip := ix_nI (show pf n g k < 250 by omega) (by decide)
    have kp := nI_clamp (show pf n g k < 2 ^ 31 by omega)
    have lp : pf n g k < 250 := by omega
    have av : nI (pf n g k) + 1 = nI (pf n g k + 1) := nI_add _ 1
    have f1 : Fq [43, 45] [] c (sI (sI c 43 (pf n g k) (nI (g k))) 45 (sha (g k)) (nI (pf n g k + 1))) := Fq_sI (Fq_sI (Fq_refl c) (by decide)) (by decide)
    obtain ⟨c', g1, g2, g3⟩ := ih (k + 1) f (sI (sI c 43 (pf n g k) (nI (g k))) 45 (sha (g k)) (nI (pf n g k + 1))) (by omega) (by omega) (Sh_q f1 hS) ⟨by simp only [mI_sI, Nat.reduceEqDiff, ↓reduceIte]; exact hG.1, fun q hq => by simp only [mI_sI, Nat.reduceEqDiff, ↓reduceIte]; exact hG.2 q hq⟩ (fun s hs' => by
      simp only [mI_sI, Nat.reduceEqDiff, ↓reduceIte, z_up]
      rw [eqc_succ]
      by_cases c : sha (g k) = s
      · rw [if_pos c.symm, if_pos c]
        unfold pf
        rw [c, Nat.add_assoc]
      · rw [if_neg (fun e => c e.symm), if_neg c, Nat.add_zero]; exact h1 s hs') (fun q hq => by
      simp only [mI_sI, Nat.reduceEqDiff, ↓reduceIte, z_up]
      by_cases c : q = k
      · rw [c, if_pos rfl]
      · rw [if_neg (fun e => c (pf_inj hg (by omega) kn e))]; exact h2 q (by omega))
    refine ⟨c', ?_, g2, Fq_trans f1 g3⟩
    simp only [F_X6_putInOrder_c78, bd_some, p_ok, p_let_eq, s_o38 hS, s_r38_0 hS, s_r38_1 hS, s_r38_2 hS, s_r38_5 hS, s_r38_6 hS, s_r38_7 hS, s_r38_8 hS, s_a42 hS, s_l42 hS, s_o42 hS, s_a43 hS, s_l43 hS, s_o43 hS, s_a45 hS, s_l45 hS, s_o45 hS, hG.1, c1, ik, kk, lk, e, es, is, ks, ls, ev, ip, kp, lp, mI_sI, Nat.reduceEqDiff, av, ak, and_self, true_and, not_false_eq_true, ↓reduceIte]
    exact g1
theorem c_srt {n : Nat} {g : Nat → Nat} {c : p_M} (hn : n ≤ 250) (hg : okG n g) (hb : ∀ k, k < n → g k < 2 ^ 20) (hS : Sh c) (hG : GrC c n g) : ∃ c' O, F_X6_putInOrder 38 c = some (0, c') ∧ srt O n g ∧ (∀ i, i < n → mI c' 43 i = nI (O i)) ∧ Fq [43, 45] [] c c' := by
  have hf := w_fill (μ := c) (a := 45) (N := 257) (v := 0) (s_a45 hS) (s_l45 hS) (by decide)
  have f0 : Fq [43, 45] [] c (sA c 45 (fun j => if j < 257 then 0 else mI c 45 j)) := Fq_sA (Fq_refl c) (by decide)
  obtain ⟨c1, a1, a2, a3, a4⟩ := c_cs1 hn hg hb n 0 p_fu (sA c 45 (fun j => if j < 257 then 0 else mI c 45 j)) (by omega) (show n < 100000 by omega) (Sh_q f0 hS) ⟨by rw [mI_sA, if_neg (by decide)]; exact hG.1, fun q hq => by rw [mI_sA, if_neg (by decide)]; exact hG.2 q hq⟩ (fun s hs => by
    rw [mI_sA, if_pos rfl]
    exact if_pos (show s + 1 < 257 by omega)) (by rw [mI_sA, if_pos rfl]; rfl)
  have f1 : Fq [43, 45] [] c c1 := Fq_trans f0 (Fq_mono a4 (by decide) (by decide))
  obtain ⟨c2, b1, b2, b3⟩ := c_cs2 hn hg 255 1 p_fu c1 (by omega) (by omega) (show 255 < 100000 by decide) (Sh_q f1 hS) (fun q hq => by
    have : q = 0 := by omega
    subst this
    rw [a3, stt_0]; rfl) (fun q h1 h2 => by
    have := a2 (q - 1) (by omega)
    rw [show q - 1 + 1 = q by omega] at this
    exact this)
  have f2 : Fq [43, 45] [] c c2 := Fq_trans f1 (Fq_mono b3 (by decide) (by decide))
  obtain ⟨c3, d1, d2, d3⟩ := c_cs3 hn hg hb n 0 p_fu c2 (by omega) (show n < 100000 by omega) (Sh_q f2 hS) ⟨by rw [Fq_row f2 38 (by decide)]; exact hG.1, fun q hq => by rw [Fq_row f2 42 (by decide)]; exact hG.2 q hq⟩ (fun s hs => by
    rw [b2 s hs]; rfl) (fun q hq => by omega)
  have hO : ∀ k, k < n → (mI c3 43 (pf n g k)).toNatClampNeg = g k := fun k hk => by rw [d2 k hk, nI_clamp (by have := hb k hk; omega)]
  refine ⟨c3, fun i => (mI c3 43 i).toNatClampNeg, ?_, srt_pf hg hO, fun i hi => ?_, Fq_trans f2 d3⟩
  · have a1 : F_X6_putInOrder_c10 p_fu 38 0 (sA c 45 (fun j => if j < 257 then 0 else mI c 45 j)) = _ := a1
    have b1 : F_X6_putInOrder_c46 p_fu 38 1 c1 = _ := b1
    have d1 : F_X6_putInOrder_c78 p_fu 38 0 c2 = _ := d1
    simp only [F_X6_putInOrder, bd_some, p_ok, s_o38 hS, s_r38_0 hS, s_r38_1 hS, s_r38_2 hS, s_r38_5 hS, s_r38_6 hS, s_r38_7 hS, s_r38_8 hS, s_o38 hS, hf, a1, b1, d1, and_self, ↓reduceIte]
  · obtain ⟨k, k1, k2⟩ := pf_surj hg hi
    show mI c3 43 i = nI (mI c3 43 i).toNatClampNeg
    rw [← k2, hO k k1, d2 k k1]
