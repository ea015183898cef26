/-! gathering the GOOD pieces -/
def gpush (s : Nat × (Nat → Nat)) (e : Nat) : Nat × (Nat → Nat) := (s.1 + 1, fun k => if k = s.1 then e else s.2 k)
def gP (gd : Nat → Bool) (cd : Nat → Nat) : Nat → Nat → Nat × (Nat → Nat) → Nat × (Nat → Nat)
  | 0, _, s => s
  | r + 1, p, s => gP gd cd r (p + 1) (if gd p = true then gpush s (cd p) else s)
def gL (gd : Nat → Nat → Bool) (cd : Nat → Nat → Nat) (P : Nat → Nat) : Nat → Nat → Nat × (Nat → Nat) → Nat × (Nat → Nat)
  | 0, _, s => s
  | r + 1, j, s => gL gd cd P r (j + 1) (gP (gd j) (cd j) (P j) 0 s)
theorem gP_no {gd : Nat → Bool} {cd : Nat → Nat} (h : ∀ p, gd p = false) : ∀ (r p : Nat) (s : Nat × (Nat → Nat)), gP gd cd r p s = s := by
  intro r
  induction r with
  | zero => intro p s; rfl
  | succ r ih =>
    intro p s
    unfold gP
    rw [h p, if_neg Bool.false_ne_true]
    exact ih (p + 1) s
/-- a code of a measured piece -/
def okE (N : Nat) (P : Nat → Nat) (e : Nat) : Prop := ∃ x j p : Nat, x ≤ 255 ∧ j < N ∧ p < P j ∧ e = 4096 * x + 64 * j + p
theorem okE_b {N : Nat} {P : Nat → Nat} (hN : N ≤ 40) (hP : ∀ j, j < N → P j ≤ 60) {e : Nat} (h : okE N P e) : e < 2 ^ 20 ∧ sha e ≤ 255 ∧ lof e < N ∧ pof e < P (lof e) := by
  obtain ⟨x, j, p, h1, h2, h3, rfl⟩ := h
  have := hP j h2
  have e1 : lof (4096 * x + 64 * j + p) = j := by unfold lof; omega
  have e2 : pof (4096 * x + 64 * j + p) = p := by unfold pof; omega
  rw [e1, e2]
  unfold sha
  exact ⟨by omega, by omega, h2, h3⟩
def hasM (f : Nat → Nat) (M : Nat) (q : Nat) : Bool := decide (∃ m, m < M ∧ f m = q)
theorem cnt_one {P Q : Nat → Bool} {a : Nat} (h : ∀ q, Q q = true → P q = true ∨ q = a) : ∀ n, cnt Q n ≤ cnt P n + (if a < n then 1 else 0) := by
  intro n
  induction n with
  | zero => exact Nat.zero_le _
  | succ n ih =>
    show cnt Q n + (if Q n = true then 1 else 0) ≤ cnt P n + (if P n = true then 1 else 0) + (if a < n + 1 then 1 else 0)
    by_cases c : Q n = true
    · rw [if_pos c]
      rcases h n c with h1 | h1
      · rw [if_pos h1]
        by_cases c2 : a < n
        · rw [if_pos c2] at ih; rw [if_pos (show a < n + 1 by omega)]; omega
        · rw [if_neg c2] at ih; omega
      · subst h1
        rw [if_neg (Nat.lt_irrefl _)] at ih
        rw [if_pos (show n < n + 1 by omega)]
        omega
    · rw [if_neg c]
      by_cases c2 : a < n
      · rw [if_pos c2] at ih; rw [if_pos (show a < n + 1 by omega)]; omega
      · rw [if_neg c2] at ih; omega
theorem cnt_has (f : Nat → Nat) (n : Nat) : ∀ M, cnt (hasM f M) n ≤ M := by
  intro M
  induction M with
  | zero =>
    have e : cnt (hasM f 0) n = 0 := cnt_0 (fun j _ => by
      unfold hasM
      refine decide_eq_false ?_
      rintro ⟨m, h1, -⟩
      omega)
    rw [e]
    exact Nat.le_refl _
  | succ M ih =>
    have := cnt_one (P := hasM f M) (Q := hasM f (M + 1)) (a := f M) (fun q hq => by
      obtain ⟨m, h1, h2⟩ := of_decide_eq_true hq
      by_cases c : m = M
      · rw [c] at h2; exact Or.inr h2.symm
      · exact Or.inl (decide_eq_true ⟨m, by omega, h2⟩)) n
    split at this <;> omega
/-- what holds of the gathered ones as far as lot j, piece p -/
def GI (N : Nat) (P : Nat → Nat) (f : Nat → Nat) (M : Nat) (s : Nat × (Nat → Nat)) (j p : Nat) : Prop := okG s.1 s.2 ∧ (∀ k, k < s.1 → okE N P (s.2 k) ∧ s.2 k % 4096 < 64 * j + p) ∧ s.1 ≤ cnt (hasM f M) (60 * j + p)
theorem GI_skip {N : Nat} {P : Nat → Nat} {f : Nat → Nat} {M : Nat} {s : Nat × (Nat → Nat)} {j p j' p' : Nat} (h : GI N P f M s j p) (h1 : 64 * j + p ≤ 64 * j' + p') (h2 : 60 * j + p ≤ 60 * j' + p') : GI N P f M s j' p' := ⟨h.1, fun k hk => ⟨(h.2.1 k hk).1, by have := (h.2.1 k hk).2; omega⟩, Nat.le_trans h.2.2 (cnt_mono h2)⟩
theorem GI_push {N : Nat} {P : Nat → Nat} {f : Nat → Nat} {M : Nat} {s : Nat × (Nat → Nat)} {j p x : Nat} (h : GI N P f M s j p) (hj : j < N) (hN : N ≤ 40) (hp : p < P j) (hP : P j ≤ 60) (hx : x ≤ 255) (hm : hasM f M (60 * j + p) = true) : GI N P f M (gpush s (4096 * x + 64 * j + p)) j (p + 1) := by
  obtain ⟨⟨g1, g2⟩, g3, g4⟩ := h
  have em : (4096 * x + 64 * j + p) % 4096 = 64 * j + p := by omega
  have es : sha (4096 * x + 64 * j + p) = x := by unfold sha; omega
  refine ⟨⟨fun k hk => ?_, fun k k' h1 h2 => ?_⟩, fun k hk => ?_, ?_⟩
  · show sha (if k = s.1 then _ else s.2 k) ≤ 255
    have hk : k < s.1 + 1 := hk
    by_cases c : k = s.1
    · rw [if_pos c, es]; exact hx
    · rw [if_neg c]; exact g1 k (by omega)
  · show (if k = s.1 then 4096 * x + 64 * j + p else s.2 k) % 4096 < (if k' = s.1 then 4096 * x + 64 * j + p else s.2 k') % 4096
    have h2 : k' < s.1 + 1 := h2
    rw [if_neg (show ¬ k = s.1 by omega)]
    by_cases c : k' = s.1
    · rw [if_pos c, em]; exact (g3 k (by omega)).2
    · rw [if_neg c]; exact g2 k k' h1 (by omega)
  · have hk : k < s.1 + 1 := hk
    show okE N P (if k = s.1 then _ else s.2 k) ∧ (if k = s.1 then 4096 * x + 64 * j + p else s.2 k) % 4096 < 64 * j + (p + 1)
    by_cases c : k = s.1
    · rw [if_pos c, em]; exact ⟨⟨x, j, p, hx, hj, hp, rfl⟩, by omega⟩
    · rw [if_neg c]; exact ⟨(g3 k (by omega)).1, by have := (g3 k (by omega)).2; omega⟩
  · show s.1 + 1 ≤ cnt (hasM f M) (60 * j + (p + 1))
    have := cnt_at (P := hasM f M) (k := 60 * j + p) (n := 60 * j + (p + 1)) (by omega) hm
    omega
/-- what both sides read when they gather -/
def GB (μ : p_M) (N M d : Nat) (lr P : Nat → Nat) : Prop := Sh μ ∧ N ≤ 40 ∧ mI μ 0 15 = nI d ∧ mI μ 65 42 = nI d ∧ mI μ 65 62 = nI N ∧ MeaR μ N M ∧ ∀ j, j < N → (∃ nb, LotS μ (lr j) (P j) nb) ∧ mI μ (lr j) 1 = nI (P j) ∧ mI μ 90 j = nI (P j) ∧ (1 ≤ P j ∧ P j ≤ 60) ∧ LotP μ j (lr j) (P j) ∧ LotM μ j (lr j) (P j) M ∧ mI μ (lr j) 0 = mI μ 89 j ∧ mI μ (lr j) 9 = mI μ 96 j ∧ mI μ (lr j) 4 = mI μ 92 j ∧ mI μ (lr j) 5 = mI μ 93 j
abbrev shg (μ : p_M) (d M j p : Nat) : Int32 := shd (mI μ 104) (mI μ 105) (mI μ 106) (mI μ 107) j p (nI d) M
abbrev jjg (μ : p_M) (d M j p : Nat) : Int32 := jdg (shg μ d M j p) (mI μ 92 j) (mI μ 93 j)
def gdg (μ : p_M) (d M : Nat) (cv : Int32) (j p : Nat) : Bool := decide (mI μ 89 j = cv ∧ mI μ 96 j = 3 ∧ mI μ 103 (60 * j + p) = 0 ∧ jjg μ d M j p = 2)
def cdg (μ : p_M) (d M j p : Nat) : Nat := 4096 * (shg μ d M j p).toNatClampNeg + 64 * j + p
def fmg (μ : p_M) (m : Nat) : Nat := 60 * (mI μ 104 m).toNatClampNeg + (mI μ 105 m).toNatClampNeg
theorem shd_has {a b s t : Nat → Int32} {j p : Nat} {day : Int32} : ∀ m, ¬ shd a b s t j p day m = -1 → ∃ k, k < m ∧ a k = nI j ∧ b k = nI p := by
  intro m
  induction m with
  | zero => intro h; exact absurd rfl h
  | succ m ih =>
    intro h
    by_cases c : a m = nI j ∧ b m = nI p ∧ ¬ day < t m
    · exact ⟨m, by omega, c.1, c.2.1⟩
    · have e : shd a b s t j p day (m + 1) = shd a b s t j p day m := if_neg c
      rw [e] at h
      obtain ⟨k, h1, h2⟩ := ih h
      exact ⟨k, by omega, h2⟩
theorem gd_good {μ : p_M} {N M d j p : Nat} {cv : Int32} (hme : MeaR μ N M) (hj : j < 40) (hp : p < 60) (hg : jjg μ d M j p = 2) : (∃ x : Nat, x ≤ 255 ∧ shg μ d M j p = nI x ∧ cdg μ d M j p = 4096 * x + 64 * j + p) ∧ hasM (fmg μ) M (60 * j + p) = true := by
  have hn : ¬ shg μ d M j p = -1 := fun e => by
    have hg : jdg (shg μ d M j p) (mI μ 92 j) (mI μ 93 j) = 2 := hg
    unfold jdg at hg
    rw [if_pos e] at hg
    exact absurd hg (by decide)
  constructor
  · rcases shd_ok (a := mI μ 104) (b := mI μ 105) (s := mI μ 106) (t := mI μ 107) (j := j) (p := p) (day := nI d) (M := M) (fun k hk => by
      obtain ⟨-, -, ⟨x, -, q3, q3'⟩, -⟩ := hme.2.2.2.2 k hk
      exact ⟨x, q3, q3'⟩) M (Nat.le_refl _) with h | ⟨x, hx, h⟩
    · exact absurd h hn
    · refine ⟨x, hx, h, ?_⟩
      unfold cdg
      rw [show shg μ d M j p = nI x from h, nI_clamp (by omega)]
  · obtain ⟨k, k1, k2, k3⟩ := shd_has M hn
    refine decide_eq_true ⟨k, k1, ?_⟩
    unfold fmg
    rw [k2, k3, nI_clamp (by omega), nI_clamp (by omega)]
/-- the class, one lot -/
theorem c_gath {μ : p_M} {N M d j : Nat} {lr P : Nat → Nat} {cv : Int32} (hB : GB μ N M d lr P) (hj : j < N) (h89 : mI μ 89 j = cv) (h96 : mI μ 96 j = 3) : ∀ (r p f : Nat) (c : p_M) (s : Nat × (Nat → Nat)), p + r = P j → r < f → Fq [38, 42] [] μ c → (∀ k, k ≠ 9 → mI c 38 k = mI μ 38 k) → GrC c s.1 s.2 → GI N P (fmg μ) M s j p → ∃ c', F_X12_gatherGood_c2 f 0 (nI j) (lr j) (nI p) c = some (0, c') ∧ Fq [38, 42] [] μ c' ∧ (∀ k, k ≠ 9 → mI c' 38 k = mI μ 38 k) ∧ GrC c' (gP (gdg μ d M cv j) (cdg μ d M j) r p s).1 (gP (gdg μ d M cv j) (cdg μ d M j) r p s).2 ∧ GI N P (fmg μ) M (gP (gdg μ d M cv j) (cdg μ d M j) r p s) j (P j) := by
  obtain ⟨hS, hN, t1, -, -, hme, hL⟩ := hB
  obtain ⟨⟨nb, S⟩, e1, -, hP, Pz, Pm, -, -, e4, e5⟩ := hL j hj
  have hX := MeaX_of (c := μ) (m := μ) (N := N) (M := M) hN (by rw [mg_self]; exact hme)
  have hl : 113 ≤ lr j := S.1
  intro r
  induction r with
  | zero =>
    intro p f c s hp hf fq h38 hG hI
    obtain ⟨f, rfl⟩ : ∃ k, f = k + 1 := ⟨f - 1, by omega⟩
    have hp : p = P j := by omega
    subst hp
    have c1 : nI (P j) ≤ nI (P j) := nI_le (Nat.le_refl _) (by omega)
    have Kq : mK c = mK μ := by show c.2.2.2.1 = μ.2.2.2.1; rw [fq.1]
    have Nq : mN c = mN μ := by show c.2.2.2.2.2.1 = μ.2.2.2.2.2.1; rw [fq.1]
    have e1' : mI c (lr j) 1 = nI (P j) := by rw [fq.2.1 _ (by omega) (by simp only [List.mem_cons, List.not_mem_nil, or_false]; omega)]; exact e1
    refine ⟨c, ?_, fq, h38, hG, hI⟩
    simp only [F_X12_gatherGood_c2, p_ok, Kq, Nq, S.2.1, e1', c1, and_self, ↓reduceIte]
  | succ r ih =>
    intro p f c s hp hf fq h38 hG hI
    obtain ⟨f, rfl⟩ : ∃ k, f = k + 1 := ⟨f - 1, by omega⟩
    have c1 : ¬ nI (P j) ≤ nI p := nI_ge (by omega) (by omega)
    have ip := ix_nI (show p < P j by omega) (by omega)
    have kp := nI_clamp (show p < 2 ^ 31 by omega)
    have lp : p < P j := by omega
    have ap : nI p + 1 = nI (p + 1) := nI_add p 1
    have hSc := Sh_q fq hS
    have Kq : mK c = mK μ := by show c.2.2.2.1 = μ.2.2.2.1; rw [fq.1]
    have Nq : mN c = mN μ := by show c.2.2.2.2.2.1 = μ.2.2.2.2.2.1; rw [fq.1]
    have Rq : mR c = mR μ := by show c.2.1 = μ.2.1; rw [fq.1]
    have Lq : mL c = mL μ := by show c.2.2.2.2.1 = μ.2.2.2.2.1; rw [fq.1]
    have rw_ : ∀ a, a ≠ 65 → a ≠ 38 → a ≠ 42 → mI c a = mI μ a := fun a h1 h2 h3 => fq.2.1 a h1 (by simp only [List.mem_cons, List.not_mem_nil, or_false]; omega)
    have e1' : mI c (lr j) 1 = nI (P j) := by rw [rw_ _ (by omega) (by omega) (by omega)]; exact e1
    have e015 : mI c 0 15 = nI d := by rw [rw_ _ (by omega) (by omega) (by omega)]; exact t1
    have Sc : LotS c (lr j) (P j) nb := LotS_pt (μ := μ) (by rw [Nq]; exact Nat.le_refl _) (fun a _ _ => ⟨by rw [Rq], by rw [Kq], by rw [Lq]⟩) S
    have hXc : MeaX c (mI μ 104) (mI μ 105) (mI μ 106) (mI μ 107) M := by
      unfold MeaX
      rw [h38 3 (by decide), rw_ 39 (by omega) (by omega) (by omega), rw_ 40 (by omega) (by omega) (by omega), rw_ 41 (by omega) (by omega) (by omega)]
      exact hX
    have hj2 := c_judged hSc hXc (show j < 40 by omega) hP.2 Sc lp (by rw [rw_ _ (by omega) (by omega) (by omega)]; exact Pm p lp) (nI d)
    rw [rw_ (lr j) (by omega) (by omega) (by omega), e4, e5] at hj2
    obtain ⟨j1, j2⟩ := hj2
    have j1 : F_X6_shadeOn 38 (mI c (lr j + 6) p) (nI d) c = some (shg μ d M j p, c) := j1
    have j2 : F_X12_judged 0 (lr j) (nI p) (nI d) c = some (jjg μ d M j p, c) := j2
    have e5' : mI c (lr j + 5) p = mI μ 103 (60 * j + p) := by rw [rw_ _ (by omega) (by omega) (by omega)]; exact (Pz p lp).1
    unfold gP
    by_cases h1 : mI μ 103 (60 * j + p) = 0
    · have q1 : F_X4_isStillHere (lr j) (nI p) c = some (1, c) := by
        simp only [F_X4_isStillHere, F_X4_isStillHere_c14, bd_some, p_ok, Kq, Nq, Rq, Lq, S.2.1, S.2.2.2.2.1, S.2.2.2.2.2.2.2.2.1, S.2.2.2.2.2.2.2.2.2.1, ip, kp, lp, e5', h1, and_self, true_and, not_true_eq_false, not_false_eq_true, ↓reduceIte, or_true]
      by_cases h2 : jjg μ d M j p = 2
      · obtain ⟨⟨x, hx, ex, ec⟩, hm⟩ := gd_good (cv := cv) hme (show j < 40 by omega) (show p < 60 by omega) h2
        have hgd : gdg μ d M cv j p = true := decide_eq_true ⟨h89, h96, h1, h2⟩
        rw [if_pos hgd, ec]
        have hI' := GI_push hI hj hN lp hP.2 hx hm
        have hn : s.1 < 250 := by
          have h3 := hI'.2.2
          have h4 := cnt_has (fmg μ) (60 * j + (p + 1)) M
          have h5 : s.1 + 1 ≤ cnt (hasM (fmg μ) M) (60 * j + (p + 1)) := h3
          have := hme.1
          omega
        have cn : ¬ (250 : Int32) ≤ nI s.1 := nI_ge (b := 250) hn (by decide)
        have in_ := ix_nI hn (by decide)
        have kn := nI_clamp (show s.1 < 2 ^ 31 by omega)
        have an : nI s.1 + 1 = nI (s.1 + 1) := nI_add _ 1
        have ev : nI x <<< ((12 : Int32) &&& 31) + nI j <<< ((6 : Int32) &&& 31) + nI p = nI (4096 * x + 64 * j + p) := by
          rw [pk_shlN ((12 : Int32) &&& 31) 12 (by decide) (by omega), pk_shlN ((6 : Int32) &&& 31) 6 (by decide) (by omega), nI_add, nI_add]
          congr 1
          omega
        have f1 : Fq [38, 42] [] μ (sI (sI c 42 s.1 (nI (4096 * x + 64 * j + p))) 38 9 (nI (s.1 + 1))) := Fq_sI (Fq_sI fq (by decide)) (by decide)
        obtain ⟨c', g1, g2, g3, g4, g5⟩ := ih (p + 1) f (sI (sI c 42 s.1 (nI (4096 * x + 64 * j + p))) 38 9 (nI (s.1 + 1))) (gpush s (4096 * x + 64 * j + p)) (by omega) (by omega) f1 (fun k hk => by
          rw [mI_sI, if_pos rfl, z_up, if_neg hk, mI_sI, if_neg (by decide)]; exact h38 k hk) ⟨by rw [mI_sI, if_pos rfl, z_up, if_pos rfl]; rfl, fun k hk => by
          rw [mI_sI, if_neg (by decide), mI_sI, if_pos rfl, z_up]
          show _ = nI (if k = s.1 then _ else s.2 k)
          have hk : k < s.1 + 1 := hk
          by_cases c : k = s.1
          · rw [if_pos c, if_pos c]
          · rw [if_neg c, if_neg c]; exact hG.2 k (by omega)⟩ hI'
        refine ⟨c', ?_, g2, g3, g4, g5⟩
        rw [ex] at j1
        have o38 : mK μ 38 = 7 ∧ 38 < mN μ := s_o38 hS
        simp only [F_X12_gatherGood_c2, F_X12_gatherGood_c58, F_X6_gather, F_X6_gather_c40, bd_some, p_ok, p_let_eq, Kq, Nq, Rq, Lq, S.2.1, e1', c1, q1, i_10, s_o0 hS, s_r0_0 hS, s_r0_1 hS, s_r0_10 hS, s_r0_11 hS, s_r0_12 hS, s_r0_14 hS, s_r0_16 hS, s_r0_19 hS, s_r0_7 hS, s_r0_8 hS, s_r0_9 hS, s_o38 hS, s_r38_0 hS, s_r38_1 hS, s_r38_2 hS, s_r38_5 hS, s_r38_6 hS, s_r38_7 hS, s_r38_8 hS, s_a42 hS, s_l42 hS, s_o42 hS, o38, e015, j2, h2, S.2.2.2.2.2.1, S.2.2.2.2.2.2.2.2.2.2.1, S.2.2.2.2.2.2.2.2.2.2.2, ip, kp, lp, j1, hG.1, cn, in_, kn, hn, ev, mI_sI, Nat.reduceEqDiff, an, ap, and_self, true_and, not_true_eq_false, not_false_eq_true, ↓reduceIte]
        exact g1
      · have hgd : ¬ gdg μ d M cv j p = true := fun h => h2 (of_decide_eq_true h).2.2.2
        rw [if_neg hgd]
        obtain ⟨c', g1, g2⟩ := ih (p + 1) f c s (by omega) (by omega) fq h38 hG (GI_skip hI (by omega) (by omega))
        refine ⟨c', ?_, g2⟩
        simp only [F_X12_gatherGood_c2, F_X12_gatherGood_c58, bd_some, p_ok, Kq, Nq, S.2.1, e1', c1, q1, i_10, s_o0 hS, s_r0_0 hS, s_r0_1 hS, s_r0_10 hS, s_r0_11 hS, s_r0_12 hS, s_r0_14 hS, s_r0_16 hS, s_r0_19 hS, s_r0_7 hS, s_r0_8 hS, s_r0_9 hS, e015, j2, h2, ap, and_self, not_false_eq_true, ↓reduceIte]
        exact g1
    · have q1 : F_X4_isStillHere (lr j) (nI p) c = some (0, c) := by
        simp only [F_X4_isStillHere, F_X4_isStillHere_c14, bd_some, p_ok, Kq, Nq, Rq, Lq, S.2.1, S.2.2.2.2.1, S.2.2.2.2.2.2.2.2.1, S.2.2.2.2.2.2.2.2.2.1, ip, kp, lp, e5', h1, and_self, true_and, not_false_eq_true, ↓reduceIte, true_or]
      have hgd : ¬ gdg μ d M cv j p = true := fun h => h1 (of_decide_eq_true h).2.2.1
      rw [if_neg hgd]
      obtain ⟨c', g1, g2⟩ := ih (p + 1) f c s (by omega) (by omega) fq h38 hG (GI_skip hI (by omega) (by omega))
      refine ⟨c', ?_, g2⟩
      simp only [F_X12_gatherGood_c2, F_X12_gatherGood_c58, bd_some, p_ok, Kq, Nq, S.2.1, e1', c1, q1, ap, and_self, ↓reduceIte]
      exact g1
