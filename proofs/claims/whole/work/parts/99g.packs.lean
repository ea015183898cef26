/-! packs of one shade -/
def nth : List Nat → Nat → Nat
  | [], _ => 0
  | x :: _, 0 => x
  | _ :: l, i + 1 => nth l i
def pkB (S : Nat → Nat) (n st bd : Nat) : Nat → Nat → List Nat
  | 0, _ => []
  | r + 1, a => if a + st ≤ n then (if S (a + st - 1) - S a ≤ bd then a :: pkB S n st bd r (a + st) else pkB S n st bd r (a + 1)) else []
theorem pkB_ext {S S' : Nat → Nat} {n st bd : Nat} (hst : 1 ≤ st) (h : ∀ i, i < n → S i = S' i) : ∀ r a, pkB S n st bd r a = pkB S' n st bd r a := by
  intro r
  induction r with
  | zero => intro a; rfl
  | succ r ih =>
    intro a
    unfold pkB
    by_cases c : a + st ≤ n
    · rw [if_pos c, if_pos c, h _ (show a + st - 1 < n by omega), h a (by omega), ih, ih]
    · rw [if_neg c, if_neg c]
theorem pkB_in {S : Nat → Nat} {n st bd : Nat} : ∀ r a b, b ∈ pkB S n st bd r a → b + st ≤ n := by
  intro r
  induction r with
  | zero => intro a b h; cases h
  | succ r ih =>
    intro a b h
    unfold pkB at h
    by_cases c : a + st ≤ n
    · rw [if_pos c] at h
      by_cases c2 : S (a + st - 1) - S a ≤ bd
      · rw [if_pos c2] at h
        cases h with
        | head => exact c
        | tail _ h => exact ih _ _ h
      · rw [if_neg c2] at h
        exact ih _ _ h
    · rw [if_neg c] at h
      cases h
theorem pkB_le {S : Nat → Nat} {n st bd : Nat} (hst : 1 ≤ st) : ∀ r a, (pkB S n st bd r a).length ≤ n - a := by
  intro r
  induction r with
  | zero => intro a; exact Nat.zero_le _
  | succ r ih =>
    intro a
    unfold pkB
    by_cases c : a + st ≤ n
    · rw [if_pos c]
      by_cases c2 : S (a + st - 1) - S a ≤ bd
      · rw [if_pos c2]
        have := ih (a + st)
        show (pkB S n st bd r (a + st)).length + 1 ≤ n - a
        omega
      · rw [if_neg c2]
        have := ih (a + 1)
        omega
    · rw [if_neg c]; exact Nat.zero_le _
theorem c_packs {n st bd : Nat} {O : Nat → Nat} (hn : n ≤ 250) (hs1 : 1 ≤ st) (hs2 : st ≤ 20) (hbd : bd ≤ 50) (hO : ∀ i, i < n → O i < 2 ^ 20) (hm : ∀ i j, i < j → j < n → O i < O j) : ∀ (r a fd f : Nat) (c : p_M), n + 1 ≤ a + r → a ≤ n + 20 → r < f → fd ≤ a → Sh c → mI c 38 9 = nI n → (∀ i, i < n → mI c 43 i = nI (O i)) → ∃ c', F_X6_formPacks_c16 f 38 (nI bd) (nI st) (nI fd) (nI a) c = some (nI (fd + (pkB (fun i => sha (O i)) n st bd r a).length), c') ∧ (∀ i, i < (pkB (fun i => sha (O i)) n st bd r a).length → mI c' 44 (fd + i) = nI (nth (pkB (fun i => sha (O i)) n st bd r a) i)) ∧ (∀ i, i < fd → mI c' 44 i = mI c 44 i) ∧ Fq [44] [] c c' := by
  intro r
  induction r with
  | zero =>
    intro a fd f c ha ha2 hf hfd hS e9 e43
    obtain ⟨f, rfl⟩ : ∃ k, f = k + 1 := ⟨f - 1, by omega⟩
    have c1 : nI n < nI a + nI st := by rw [nI_add]; exact nI_lt (by omega) (by omega)
    refine ⟨c, ?_, fun i hi => absurd hi (Nat.not_lt_zero _), fun i _ => rfl, Fq_refl c⟩
    simp only [F_X6_formPacks_c16, p_ok, s_o38 hS, e9, c1, and_self, ↓reduceIte]
    rfl
  | succ r ih =>
    intro a fd f c ha ha2 hf hfd hS e9 e43
    obtain ⟨f, rfl⟩ : ∃ k, f = k + 1 := ⟨f - 1, by omega⟩
    have as : nI a + nI st = nI (a + st) := nI_add _ _
    unfold pkB
    by_cases c1 : a + st ≤ n
    · rw [if_pos c1]
      have c1' : ¬ nI n < nI (a + st) := nI_nlt c1 (by omega)
      have sb : nI (a + st) - 1 = nI (a + st - 1) := pk_sub (b := 1) (by omega)
      have i1 := ix_nI (show a + st - 1 < 250 by omega) (by decide)
      have k1 := nI_clamp (show a + st - 1 < 2 ^ 31 by omega)
      have l1 : a + st - 1 < 250 := by omega
      have i2 := ix_nI (show a < 250 by omega) (by decide)
      have k2 := nI_clamp (show a < 2 ^ 31 by omega)
      have l2 : a < 250 := by omega
      have v1 := e43 (a + st - 1) (by omega)
      have v2 := e43 a (by omega)
      have w1 := e_sha (hO (a + st - 1) (by omega)) c
      have w2 := e_sha (hO a (by omega)) c
      have hle : sha (O a) ≤ sha (O (a + st - 1)) := by
        by_cases q : a = a + st - 1
        · rw [← q]; exact Nat.le_refl _
        · have := hm a (a + st - 1) (by omega) (by omega)
          unfold sha
          omega
      have dif : nI (sha (O (a + st - 1))) - nI (sha (O a)) = nI (sha (O (a + st - 1)) - sha (O a)) := pk_sub hle
      have hb := hO (a + st - 1) (by omega)
      have hsl : sha (O (a + st - 1)) < 2 ^ 20 := by unfold sha; omega
      by_cases c2 : sha (O (a + st - 1)) - sha (O a) ≤ bd
      · rw [if_pos c2]
        have c2' : ¬ nI bd < nI (sha (O (a + st - 1)) - sha (O a)) := nI_nlt c2 (by omega)
        have i3 := ix_nI (show fd < 250 by omega) (by decide)
        have k3 := nI_clamp (show fd < 2 ^ 31 by omega)
        have l3 : fd < 250 := by omega
        have af : nI fd + 1 = nI (fd + 1) := nI_add fd 1
        have f1 : Fq [44] [] c (sI c 44 fd (nI a)) := Fq_sI (Fq_refl c) (by decide)
        obtain ⟨c', g1, g2, g3, g4⟩ := ih (a + st) (fd + 1) f (sI c 44 fd (nI a)) (by omega) (by omega) (by omega) (by omega) (Sh_q f1 hS) (by rw [mI_sI, if_neg (by decide)]; exact e9) (fun i hi => by rw [mI_sI, if_neg (by decide)]; exact e43 i hi)
        refine ⟨c', ?_, fun i hi => ?_, fun i hi => ?_, Fq_trans f1 g4⟩
        · rw [show fd + (a :: pkB (fun i => sha (O i)) n st bd r (a + st)).length = fd + 1 + (pkB (fun i => sha (O i)) n st bd r (a + st)).length from by rw [List.length_cons]; omega]
          simp only [F_X6_formPacks_c16, bd_some, p_ok, p_let_eq, s_o38 hS, s_r38_0 hS, s_r38_1 hS, s_r38_2 hS, s_r38_5 hS, s_r38_6 hS, s_r38_7 hS, s_r38_8 hS, s_a43 hS, s_l43 hS, s_o43 hS, s_a44 hS, s_l44 hS, s_o44 hS, as, e9, c1', sb, i1, k1, l1, i2, k2, l2, v1, v2, w1, w2, dif, c2', i3, k3, l3, af, and_self, true_and, not_false_eq_true, ↓reduceIte]
          exact g1
        · cases i with
          | zero =>
            show mI c' 44 (fd + 0) = nI a
            rw [Nat.add_zero, g3 fd (by omega), mI_sI, if_pos rfl, z_up, if_pos rfl]
          | succ i =>
            have := g2 i (by rw [List.length_cons] at hi; omega)
            rw [show fd + (i + 1) = fd + 1 + i by omega]
            exact this
        · rw [g3 i (by omega), mI_sI, if_pos rfl, z_up, if_neg (by omega)]
      · rw [if_neg c2]
        have c2' : nI bd < nI (sha (O (a + st - 1)) - sha (O a)) := nI_lt (by omega) (by omega)
        have aa : nI a + 1 = nI (a + 1) := nI_add a 1
        obtain ⟨c', g1, g2⟩ := ih (a + 1) fd f c (by omega) (by omega) (by omega) (by omega) hS e9 e43
        refine ⟨c', ?_, g2⟩
        simp only [F_X6_formPacks_c16, bd_some, p_ok, s_o38 hS, s_r38_0 hS, s_r38_1 hS, s_r38_2 hS, s_r38_5 hS, s_r38_6 hS, s_r38_7 hS, s_r38_8 hS, s_a43 hS, s_l43 hS, s_o43 hS, as, e9, c1', sb, i1, k1, l1, i2, k2, l2, v1, v2, w1, w2, dif, c2', aa, and_self, true_and, not_false_eq_true, ↓reduceIte]
        exact g1
    · rw [if_neg c1]
      have c1' : nI n < nI (a + st) := nI_lt (by omega) (by omega)
      refine ⟨c, ?_, fun i hi => absurd hi (Nat.not_lt_zero _), fun i _ => rfl, Fq_refl c⟩
      simp only [F_X6_formPacks_c16, p_ok, s_o38 hS, as, e9, c1', and_self, ↓reduceIte]
      rfl
/-- one code delivered by the Model -/
def dM1 (d : Nat) (m : p_M) (e : Nat) : p_M := sI (sI m 103 (60 * lof e + pof e) 2) 65 75 (mI m 65 75 + (if nI d ≤ mI m 95 (lof e) then 0 else 1))
def rng (T : Nat → Nat) : Nat → Nat → List Nat
  | 0, _ => []
  | r + 1, i => T i :: rng T r (i + 1)
def dcs (T : Nat → Nat) (st : Nat) : List Nat → List Nat
  | [] => []
  | b :: L => rng T st b ++ dcs T st L
def okM (m : p_M) (n st bd d : Nat) (T : Nat → Nat) : Prop := mI m 65 73 = nI n ∧ mI m 84 16 = nI st ∧ mI m 84 17 = nI bd ∧ mI m 65 42 = nI d ∧ ∀ i, i < n → mI m 109 i = nI (sha (T i)) ∧ mI m 108 i = nI (60 * lof (T i) + pof (T i))
theorem okM_d {m : p_M} {n st bd d e : Nat} {T : Nat → Nat} (h : okM m n st bd d T) : okM (dM1 d m e) n st bd d T := h
theorem okM_f {n st bd d : Nat} {T : Nat → Nat} : ∀ (D : List Nat) (m : p_M), okM m n st bd d T → okM (D.foldl (dM1 d) m) n st bd d T := by
  intro D
  induction D with
  | nil => intro m h; exact h
  | cons e D ih => intro m h; exact ih _ (okM_d h)
theorem m_62 {n st bd d w nn a : Nat} {T : Nat → Nat} (K4 : Int32 → Int32 → Int32 → p_M → Option (Int32 × p_M)) (hn : n ≤ 250) (hw : w ≤ 20) (hnn : nn < w) (hT : ∀ i, i < n → lof (T i) < 40 ∧ pof (T i) < 60) (ha : a + st ≤ n) : ∀ (r i f : Nat) (m : p_M), i + r = a + st → r < f → okM m n st bd d T → F_X13_packsOf_c62 K4 f (nI w) (nI nn) (nI a) (nI i) m = K4 (nI w) (nI (nn + 1)) (nI (a + st)) ((rng T r i).foldl (dM1 d) m) := by
  have k16 : Int32.toNatClampNeg 16 = 16 := by decide
  have n16 : ¬ (16 : Int32) < 0 := by decide
  have l16 : 16 < 36 := by decide
  have as : nI a + nI st = nI (a + st) := nI_add _ _
  have an : nI nn + 1 = nI (nn + 1) := nI_add nn 1
  have cw : ¬ nI w ≤ nI nn := nI_ge hnn (by omega)
  intro r
  induction r with
  | zero =>
    intro i f m hi hf hm
    obtain ⟨f, rfl⟩ : ∃ k, f = k + 1 := ⟨f - 1, by omega⟩
    have c1 : nI (a + st) ≤ nI i := nI_le (by omega) (by omega)
    obtain ⟨-, e16, -⟩ := hm
    unfold F_X13_packsOf_c62 F_X13_packsOf_c136 aM
    simp only [p_ok, k16, n16, l16, e16, as, c1, an, and_self, true_and, not_false_eq_true, ↓reduceIte]
    rfl
  | succ r ih =>
    intro i f m hi hf hm
    obtain ⟨f, rfl⟩ : ∃ k, f = k + 1 := ⟨f - 1, by omega⟩
    have c1 : ¬ nI (a + st) ≤ nI i := nI_ge (by omega) (by omega)
    have hm0 := hm
    obtain ⟨-, e16, -, e42, hr⟩ := hm
    have i1 := ix_nI (show i < 2400 by omega) (by decide)
    have k1 := nI_clamp (show i < 2 ^ 31 by omega)
    have l1 : i < 2400 := by omega
    obtain ⟨t1, t2⟩ := hT i (by omega)
    have e8 := (hr i (by omega)).2
    have i2 := ix_nI (show 60 * lof (T i) + pof (T i) < 2400 by omega) (by decide)
    have k2 := nI_clamp (show 60 * lof (T i) + pof (T i) < 2 ^ 31 by omega)
    have l2 : 60 * lof (T i) + pof (T i) < 2400 := by omega
    have dv : nI (60 * lof (T i) + pof (T i)) / 60 = nI (lof (T i)) := by
      rw [show (60 : Int32) = nI 60 from rfl, pk_div (by omega) (by decide) (by decide)]
      congr 1
      omega
    have i3 := ix_nI t1 (by decide)
    have k3 := nI_clamp (show lof (T i) < 2 ^ 31 by omega)
    have n60 : ¬ (60 : Int32) = 0 := by decide
    have ai : nI i + 1 = nI (i + 1) := nI_add i 1
    have r1 := ih (i + 1) f (dM1 d m (T i)) (by omega) (by omega) (okM_d hm0)
    show _ = K4 (nI w) (nI (nn + 1)) (nI (a + st)) ((rng T r (i + 1)).foldl (dM1 d) (dM1 d m (T i)))
    rw [← r1]
    unfold dM1
    by_cases c2 : nI d ≤ mI m 95 (lof (T i))
    · rw [if_pos c2]
      conv => lhs; unfold F_X13_packsOf_c62 tM aM
      simp only [F_X13_packsOf_c126, p_ok, tM, k16, n16, l16, e16, as, c1, cw, i1, k1, l1, e8, i2, k2, l2, n60, mI_sI, Nat.reduceEqDiff, dv, i3, k3, t1, e42, c2, ai, and_self, true_and, not_false_eq_true, ↓reduceIte]
    · rw [if_neg c2]
      conv => lhs; unfold F_X13_packsOf_c62 tM aM
      simp only [F_X13_packsOf_c126, p_ok, tM, k16, n16, l16, e16, as, c1, cw, i1, k1, l1, e8, i2, k2, l2, n60, mI_sI, Nat.reduceEqDiff, dv, i3, k3, t1, e42, c2, ai, and_self, true_and, not_false_eq_true, ↓reduceIte]
theorem m_62n {st w nn a i f : Nat} (K4 : Int32 → Int32 → Int32 → p_M → Option (Int32 × p_M)) {m : p_M} (hnn : w ≤ nn) (hw : nn < 2 ^ 31) (e16 : mI m 84 16 = nI st) : F_X13_packsOf_c62 K4 (f + 1) (nI w) (nI nn) (nI a) (nI i) m = K4 (nI w) (nI (nn + 1)) (nI (a + st)) m := by
  have k16 : Int32.toNatClampNeg 16 = 16 := by decide
  have n16 : ¬ (16 : Int32) < 0 := by decide
  have l16 : 16 < 36 := by decide
  have as : nI a + nI st = nI (a + st) := nI_add _ _
  have an : nI nn + 1 = nI (nn + 1) := nI_add nn 1
  have cw : nI w ≤ nI nn := nI_le hnn hw
  unfold F_X13_packsOf_c62 F_X13_packsOf_c136 aM
  by_cases c1 : nI (a + st) ≤ nI i
  · simp only [p_ok, k16, n16, l16, e16, as, c1, an, and_self, true_and, not_false_eq_true, ↓reduceIte]
  · simp only [p_ok, k16, n16, l16, e16, as, c1, cw, an, and_self, true_and, not_false_eq_true, ↓reduceIte]
theorem m_packs {n st bd d w : Nat} {T : Nat → Nat} (hn : n ≤ 250) (hs1 : 1 ≤ st) (hs2 : st ≤ 20) (hbd : bd ≤ 50) (hw : w ≤ 20) (hT : ∀ i, i < n → lof (T i) < 40 ∧ pof (T i) < 60 ∧ T i < 2 ^ 20) (hm : ∀ i j, i < j → j < n → T i < T j) : ∀ (r a nn f : Nat) (m : p_M), n + 1 ≤ a + r → a ≤ n + 20 → r < f → nn ≤ a → okM m n st bd d T → F_X13_packsOf_c4 f (nI w) (nI nn) (nI a) m = some (nI (nn + (pkB (fun i => sha (T i)) n st bd r a).length), (dcs T st ((pkB (fun i => sha (T i)) n st bd r a).take (w - nn))).foldl (dM1 d) m) := by
  have k16 : Int32.toNatClampNeg 16 = 16 := by decide
  have n16 : ¬ (16 : Int32) < 0 := by decide
  have l16 : 16 < 36 := by decide
  have k17 : Int32.toNatClampNeg 17 = 17 := by decide
  have n17 : ¬ (17 : Int32) < 0 := by decide
  have l17 : 17 < 36 := by decide
  intro r
  induction r with
  | zero =>
    intro a nn f m ha ha2 hf hnn hM
    obtain ⟨f, rfl⟩ : ∃ k, f = k + 1 := ⟨f - 1, by omega⟩
    obtain ⟨e73, e16, -⟩ := hM
    have c1 : nI n < nI a + nI st := by rw [nI_add]; exact nI_lt (by omega) (by omega)
    have ht : dcs T st (List.take (w - nn) (pkB (fun i => sha (T i)) n st bd 0 a)) = [] := by
      show dcs T st (List.take (w - nn) []) = []
      rw [List.take_nil]; rfl
    rw [ht]
    unfold F_X13_packsOf_c4 tM aM
    simp only [p_ok, k16, n16, l16, e73, e16, c1, and_self, true_and, not_false_eq_true, ↓reduceIte]
    rfl
  | succ r ih =>
    intro a nn f m ha ha2 hf hnn hM
    obtain ⟨f, rfl⟩ : ∃ k, f = k + 1 := ⟨f - 1, by omega⟩
    have hM0 := hM
    obtain ⟨e73, e16, e17, e42, hr⟩ := hM
    have as : nI a + nI st = nI (a + st) := nI_add _ _
    unfold pkB
    by_cases c1 : a + st ≤ n
    · rw [if_pos c1]
      have c1' : ¬ nI n < nI (a + st) := nI_nlt c1 (by omega)
      have sb : nI (a + st) - 1 = nI (a + st - 1) := pk_sub (b := 1) (by omega)
      have i1 := ix_nI (show a + st - 1 < 2400 by omega) (by decide)
      have k1 := nI_clamp (show a + st - 1 < 2 ^ 31 by omega)
      have l1 : a + st - 1 < 2400 := by omega
      have i2 := ix_nI (show a < 2400 by omega) (by decide)
      have k2 := nI_clamp (show a < 2 ^ 31 by omega)
      have l2 : a < 2400 := by omega
      have v1 := (hr (a + st - 1) (by omega)).1
      have v2 := (hr a (by omega)).1
      have hle : sha (T a) ≤ sha (T (a + st - 1)) := by
        by_cases q : a = a + st - 1
        · rw [← q]; exact Nat.le_refl _
        · have := hm a (a + st - 1) (by omega) (by omega)
          unfold sha
          omega
      have dif : nI (sha (T (a + st - 1))) - nI (sha (T a)) = nI (sha (T (a + st - 1)) - sha (T a)) := pk_sub hle
      have hsl : sha (T (a + st - 1)) < 2 ^ 20 := by have := (hT (a + st - 1) (by omega)).2.2; unfold sha; omega
      by_cases c2 : sha (T (a + st - 1)) - sha (T a) ≤ bd
      · rw [if_pos c2]
        have c2' : nI (sha (T (a + st - 1)) - sha (T a)) ≤ nI bd := nI_le c2 (by omega)
        have hst : F_X13_packsOf_c4 (f + 1) (nI w) (nI nn) (nI a) m = F_X13_packsOf_c62 (F_X13_packsOf_c4 f) p_fu (nI w) (nI nn) (nI a) (nI a) m := by
          conv => lhs; unfold F_X13_packsOf_c4 tM aM
          simp only [p_ok, k16, n16, l16, k17, n17, l17, e73, e16, e17, as, c1', sb, i1, k1, l1, i2, k2, l2, v1, v2, dif, c2', and_self, true_and, not_false_eq_true, ↓reduceIte]
        rw [hst]
        by_cases c3 : nn < w
        · rw [m_62 (F_X13_packsOf_c4 f) hn hw c3 (fun i hi => ⟨(hT i hi).1, (hT i hi).2.1⟩) c1 st a p_fu m (by omega) (show st < 100000 by omega) hM0, ih (a + st) (nn + 1) f _ (by omega) (by omega) (by omega) (by omega) (okM_f _ m hM0)]
          rw [show w - nn = (w - (nn + 1)) + 1 by omega, List.take_succ_cons]
          show some (nI (nn + 1 + (pkB (fun i => sha (T i)) n st bd r (a + st)).length), _) = some (nI (nn + ((pkB (fun i => sha (T i)) n st bd r (a + st)).length + 1)), List.foldl (dM1 d) m (rng T st a ++ dcs T st (List.take (w - (nn + 1)) (pkB (fun i => sha (T i)) n st bd r (a + st)))))
          rw [List.foldl_append, show nn + 1 + (pkB (fun i => sha (T i)) n st bd r (a + st)).length = nn + ((pkB (fun i => sha (T i)) n st bd r (a + st)).length + 1) by omega]
        · rw [show p_fu = 99999 + 1 from rfl, m_62n (F_X13_packsOf_c4 f) (by omega) (by omega) e16, ih (a + st) (nn + 1) f m (by omega) (by omega) (by omega) (by omega) hM0]
          rw [show w - nn = 0 by omega, show w - (nn + 1) = 0 by omega, List.take_zero, List.take_zero]
          show some (nI (nn + 1 + (pkB (fun i => sha (T i)) n st bd r (a + st)).length), _) = some (nI (nn + ((pkB (fun i => sha (T i)) n st bd r (a + st)).length + 1)), _)
          rw [show nn + 1 + (pkB (fun i => sha (T i)) n st bd r (a + st)).length = nn + ((pkB (fun i => sha (T i)) n st bd r (a + st)).length + 1) by omega]
      · rw [if_neg c2]
        have c2' : ¬ nI (sha (T (a + st - 1)) - sha (T a)) ≤ nI bd := nI_ge (by omega) (by omega)
        have aa : nI a + 1 = nI (a + 1) := nI_add a 1
        have hst : F_X13_packsOf_c4 (f + 1) (nI w) (nI nn) (nI a) m = F_X13_packsOf_c4 f (nI w) (nI nn) (nI (a + 1)) m := by
          conv => lhs; unfold F_X13_packsOf_c4 tM aM
          simp only [p_ok, k16, n16, l16, k17, n17, l17, e73, e16, e17, as, c1', sb, i1, k1, l1, i2, k2, l2, v1, v2, dif, c2', aa, and_self, true_and, not_false_eq_true, ↓reduceIte]
        rw [hst, ih (a + 1) nn f m (by omega) (by omega) (by omega) (by omega) hM0]
    · rw [if_neg c1]
      have c1' : nI n < nI (a + st) := nI_lt (by omega) (by omega)
      rw [List.take_nil]
      unfold F_X13_packsOf_c4 tM aM
      simp only [p_ok, k16, n16, l16, e73, e16, as, c1', and_self, true_and, not_false_eq_true, ↓reduceIte]
      rfl
