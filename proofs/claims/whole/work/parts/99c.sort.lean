/-! measured pieces in order: plain functions -/
def sha (e : Nat) : Nat := e / 4096
def lof (e : Nat) : Nat := e / 64 % 64
def pof (e : Nat) : Nat := e % 64
theorem cnt_mono {P : Nat → Bool} {k : Nat} : ∀ {n : Nat}, k ≤ n → cnt P k ≤ cnt P n := by
  intro n
  induction n with
  | zero => intro h; have : k = 0 := by omega
            subst this; exact Nat.le_refl _
  | succ n ih =>
    intro h
    by_cases c : k = n + 1
    · subst c; exact Nat.le_refl _
    · have := ih (by omega)
      show cnt P k ≤ cnt P n + (if P n = true then 1 else 0)
      omega
theorem cnt_at {P : Nat → Bool} {k n : Nat} (h : k < n) (hp : P k = true) : cnt P k < cnt P n := by
  have : cnt P (k + 1) ≤ cnt P n := cnt_mono (by omega)
  have e : cnt P (k + 1) = cnt P k + 1 := by
    show cnt P k + (if P k = true then 1 else 0) = _
    rw [if_pos hp]
  omega
theorem cnt_reach {P : Nat → Bool} : ∀ {n r : Nat}, r < cnt P n → ∃ k, k < n ∧ P k = true ∧ cnt P k = r := by
  intro n
  induction n with
  | zero => intro r h; exact absurd h (Nat.not_lt_zero r)
  | succ n ih =>
    intro r h
    by_cases c : P n = true
    · have e : cnt P (n + 1) = cnt P n + 1 := by
        show cnt P n + (if P n = true then 1 else 0) = _
        rw [if_pos c]
      by_cases c2 : r = cnt P n
      · exact ⟨n, by omega, c, c2.symm⟩
      · obtain ⟨k, h1, h2, h3⟩ := ih (show r < cnt P n by omega)
        exact ⟨k, by omega, h2, h3⟩
    · have e : cnt P (n + 1) = cnt P n := by
        show cnt P n + (if P n = true then 1 else 0) = _
        rw [if_neg c, Nat.add_zero]
      obtain ⟨k, h1, h2, h3⟩ := ih (show r < cnt P n by omega)
      exact ⟨k, by omega, h2, h3⟩
theorem cnt_all {P : Nat → Bool} : ∀ {n : Nat}, (∀ k, k < n → P k = true) → cnt P n = n := by
  intro n
  induction n with
  | zero => intro _; rfl
  | succ n ih =>
    intro h
    show cnt P n + (if P n = true then 1 else 0) = _
    rw [ih (fun k hk => h k (by omega)), if_pos (h n (by omega))]
def stt (n : Nat) (g : Nat → Nat) (s : Nat) : Nat := cnt (fun k => decide (sha (g k) < s)) n
def eqc (g : Nat → Nat) (s k : Nat) : Nat := cnt (fun k' => decide (sha (g k') = s)) k
def pf (n : Nat) (g : Nat → Nat) (k : Nat) : Nat := stt n g (sha (g k)) + eqc g (sha (g k)) k
def okG (n : Nat) (g : Nat → Nat) : Prop := (∀ k, k < n → sha (g k) ≤ 255) ∧ ∀ k k', k < k' → k' < n → g k % 4096 < g k' % 4096
theorem eqc_succ (g : Nat → Nat) (s k : Nat) : eqc g s (k + 1) = eqc g s k + (if sha (g k) = s then 1 else 0) := by
  show eqc g s k + (if decide (sha (g k) = s) = true then 1 else 0) = _
  by_cases c : sha (g k) = s
  · rw [if_pos (decide_eq_true c), if_pos c]
  · rw [if_neg (fun h => c (of_decide_eq_true h)), if_neg c]
theorem stt_s (g : Nat → Nat) (s : Nat) : ∀ n, stt n g (s + 1) = stt n g s + eqc g s n := by
  intro n
  induction n with
  | zero => rfl
  | succ n ih =>
    rw [eqc_succ]
    show stt n g (s + 1) + (if decide (sha (g n) < s + 1) = true then 1 else 0) = stt n g s + (if decide (sha (g n) < s) = true then 1 else 0) + _
    rw [ih]
    by_cases c : sha (g n) < s
    · rw [if_pos (decide_eq_true c), if_pos (decide_eq_true (by omega)), if_neg (show ¬ sha (g n) = s by omega)]
      omega
    · rw [if_neg (fun h => c (of_decide_eq_true h))]
      by_cases c2 : sha (g n) = s
      · rw [if_pos c2, if_pos (decide_eq_true (by omega))]
        omega
      · rw [if_neg c2, if_neg (fun h => by have := of_decide_eq_true h; omega)]
        omega
theorem stt_0 (n : Nat) (g : Nat → Nat) : stt n g 0 = 0 := cnt_0 (fun k _ => decide_eq_false (Nat.not_lt_zero _))
theorem stt_mono {n : Nat} {g : Nat → Nat} {s s' : Nat} (h : s ≤ s') : stt n g s ≤ stt n g s' := by
  induction s' with
  | zero => have : s = 0 := by omega
            subst this; exact Nat.le_refl _
  | succ s' ih =>
    by_cases c : s = s' + 1
    · subst c; exact Nat.le_refl _
    · have := ih (by omega)
      rw [stt_s]; omega
theorem stt_n {n : Nat} {g : Nat → Nat} (h : okG n g) : stt n g 256 = n := cnt_all (fun k hk => decide_eq_true (by have := h.1 k hk; omega))
theorem pf_lt {n : Nat} {g : Nat → Nat} {k : Nat} (hk : k < n) : pf n g k < stt n g (sha (g k) + 1) := by
  have : eqc g (sha (g k)) k < eqc g (sha (g k)) n := cnt_at hk (decide_eq_true rfl)
  rw [stt_s]
  unfold pf
  omega
theorem pf_n {n : Nat} {g : Nat → Nat} (h : okG n g) {k : Nat} (hk : k < n) : pf n g k < n := by
  have h1 := pf_lt (g := g) hk
  have h2 := stt_mono (n := n) (g := g) (show sha (g k) + 1 ≤ 256 by have := h.1 k hk; omega)
  rw [stt_n h] at h2
  omega
theorem pf_ord {n : Nat} {g : Nat → Nat} {k k' : Nat} (hk : k < n) (hk' : k' < n) (h : sha (g k) < sha (g k') ∨ sha (g k) = sha (g k') ∧ k < k') : pf n g k < pf n g k' := by
  rcases h with h | ⟨h1, h2⟩
  · have h1 := pf_lt (g := g) hk
    have h2 := stt_mono (n := n) (g := g) (show sha (g k) + 1 ≤ sha (g k') by omega)
    unfold pf at *
    omega
  · unfold pf
    rw [← h1]
    have : eqc g (sha (g k)) k < eqc g (sha (g k)) k' := cnt_at h2 (decide_eq_true rfl)
    omega
theorem g_ord {n : Nat} {g : Nat → Nat} (h : okG n g) {k k' : Nat} (hk : k < n) (hk' : k' < n) (ne : k ≠ k') : (g k < g k' ↔ (sha (g k) < sha (g k') ∨ sha (g k) = sha (g k') ∧ k < k')) := by
  have q : k < k' → g k % 4096 < g k' % 4096 := fun h1 => h.2 k k' h1 hk'
  have q' : k' < k → g k' % 4096 < g k % 4096 := fun h1 => h.2 k' k h1 hk
  unfold sha
  constructor
  · intro h1
    by_cases c : g k / 4096 < g k' / 4096
    · exact Or.inl c
    · have e : g k / 4096 = g k' / 4096 := by omega
      refine Or.inr ⟨e, ?_⟩
      by_cases c2 : k < k'
      · exact c2
      · have := q' (by omega); omega
  · rintro (h1 | ⟨h1, h2⟩)
    · omega
    · have := q h2; omega
theorem pf_g {n : Nat} {g : Nat → Nat} (h : okG n g) {k k' : Nat} (hk : k < n) (hk' : k' < n) (hlt : g k < g k') : pf n g k < pf n g k' := pf_ord hk hk' ((g_ord h hk hk' (fun e => by rw [e] at hlt; exact Nat.lt_irrefl _ hlt)).mp hlt)
theorem g_ne {n : Nat} {g : Nat → Nat} (h : okG n g) {k k' : Nat} (hk : k < n) (hk' : k' < n) (ne : k ≠ k') : g k < g k' ∨ g k' < g k := by
  by_cases c : k < k'
  · have := h.2 k k' c hk'; omega
  · have := h.2 k' k (by omega) hk; omega
theorem pf_inj {n : Nat} {g : Nat → Nat} (h : okG n g) {k k' : Nat} (hk : k < n) (hk' : k' < n) (e : pf n g k = pf n g k') : k = k' := by
  by_cases c : k = k'
  · exact c
  · rcases g_ne h hk hk' c with q | q
    · have := pf_g h hk hk' q; omega
    · have := pf_g h hk' hk q; omega
theorem pf_surj {n : Nat} {g : Nat → Nat} (h : okG n g) {pos : Nat} (hp : pos < n) : ∃ k, k < n ∧ pf n g k = pos := by
  have hb : ∀ s, s ≤ 256 → pos < stt n g s → ∃ s', s' < s ∧ stt n g s' ≤ pos ∧ pos < stt n g (s' + 1) := by
    intro s
    induction s with
    | zero => intro _ h0; rw [stt_0] at h0; exact absurd h0 (Nat.not_lt_zero _)
    | succ s ih =>
      intro h1 h2
      by_cases c : pos < stt n g s
      · obtain ⟨s', q1, q2, q3⟩ := ih (by omega) c
        exact ⟨s', by omega, q2, q3⟩
      · exact ⟨s, by omega, by omega, h2⟩
  obtain ⟨s, h1, h2, h3⟩ := hb 256 (Nat.le_refl _) (by rw [stt_n h]; exact hp)
  rw [stt_s] at h3
  obtain ⟨k, k1, k2, k3⟩ := cnt_reach (P := fun k' => decide (sha (g k') = s)) (n := n) (r := pos - stt n g s) (show pos - stt n g s < eqc g s n by omega)
  have e : sha (g k) = s := of_decide_eq_true k2
  refine ⟨k, k1, ?_⟩
  unfold pf
  rw [e]
  have : eqc g s k = pos - stt n g s := k3
  omega
theorem uniq {f g : Nat → Nat} {n : Nat} (hf : ∀ i j, i < j → j < n → f i < f j) (hg : ∀ i j, i < j → j < n → g i < g j) (h1 : ∀ i, i < n → ∃ j, j < n ∧ f i = g j) (h2 : ∀ i, i < n → ∃ j, j < n ∧ g i = f j) : ∀ m i, i ≤ m → i < n → f i = g i := by
  intro m
  induction m with
  | zero =>
    intro i hi hn
    have : i = 0 := by omega
    subst this
    obtain ⟨j, j1, j2⟩ := h1 0 hn
    obtain ⟨k, k1, k2⟩ := h2 0 hn
    by_cases c : j = 0
    · rw [c] at j2; exact j2
    · by_cases c2 : k = 0
      · rw [c2] at k2; exact k2.symm
      · have := hg 0 j (by omega) j1
        have := hf 0 k (by omega) k1
        omega
  | succ m ih =>
    intro i hi hn
    by_cases c0 : i ≤ m
    · exact ih i c0 hn
    · have e : i = m + 1 := by omega
      subst e
      obtain ⟨j, j1, j2⟩ := h1 (m + 1) hn
      obtain ⟨k, k1, k2⟩ := h2 (m + 1) hn
      have hj : ¬ j < m + 1 := fun h => by
        have := ih j (by omega) j1
        have := hf j (m + 1) h hn
        omega
      have hk : ¬ k < m + 1 := fun h => by
        have := ih k (by omega) k1
        have := hg k (m + 1) h hn
        omega
      by_cases c : j = m + 1
      · rw [c] at j2; exact j2
      · by_cases c2 : k = m + 1
        · rw [c2] at k2; exact k2.symm
        · have := hg (m + 1) j (by omega) j1
          have := hf (m + 1) k (by omega) k1
          omega
/-- a row in order -/
def srt (T : Nat → Nat) (n : Nat) (g : Nat → Nat) : Prop := (∀ i j, i < j → j < n → T i < T j) ∧ (∀ i, i < n → ∃ k, k < n ∧ T i = g k) ∧ ∀ k, k < n → ∃ i, i < n ∧ T i = g k
theorem srt_pf {n : Nat} {g O : Nat → Nat} (h : okG n g) (hO : ∀ k, k < n → O (pf n g k) = g k) : srt O n g := by
  refine ⟨fun i j hij hj => ?_, fun i hi => ?_, fun k hk => ⟨pf n g k, pf_n h hk, hO k hk⟩⟩
  · obtain ⟨k, k1, k2⟩ := pf_surj h (show i < n by omega)
    obtain ⟨k', k1', k2'⟩ := pf_surj h hj
    rw [← k2, ← k2', hO k k1, hO k' k1']
    by_cases c : k = k'
    · subst c; omega
    · rcases g_ne h k1 k1' c with q | q
      · exact q
      · have := pf_g h k1' k1 q; omega
  · obtain ⟨k, k1, k2⟩ := pf_surj h hi
    exact ⟨k, k1, by rw [← k2, hO k k1]⟩
theorem srt_uniq {n : Nat} {g O T : Nat → Nat} (h1 : srt O n g) (h2 : srt T n g) : ∀ i, i < n → O i = T i := fun i hi => uniq h1.1 h2.1 (fun i hi => by
  obtain ⟨k, k1, k2⟩ := h1.2.1 i hi
  obtain ⟨j, j1, j2⟩ := h2.2.2 k k1
  exact ⟨j, j1, by rw [k2, j2]⟩) (fun i hi => by
  obtain ⟨k, k1, k2⟩ := h2.2.1 i hi
  obtain ⟨j, j1, j2⟩ := h1.2.2 k k1
  exact ⟨j, j1, by rw [k2, j2]⟩) i i (Nat.le_refl _) hi
/-- one more comes in -/
theorem srt_ins {n at' e : Nat} {g T : Nat → Nat} (h : srt T n g) (ha : at' ≤ n) (h1 : ∀ i, i < at' → T i < e) (h2 : ∀ i, at' ≤ i → i < n → e < T i) : srt (fun i => if i < at' then T i else if i = at' then e else T (i - 1)) (n + 1) (fun k => if k = n then e else g k) := by
  obtain ⟨s1, s2, s3⟩ := h
  refine ⟨fun i j hij hj => ?_, fun i hi => ?_, fun k hk => ?_⟩
  · dsimp only
    by_cases a : i < at'
    · rw [if_pos a]
      by_cases b : j < at'
      · rw [if_pos b]; exact s1 i j hij (by omega)
      · rw [if_neg b]
        by_cases c : j = at'
        · rw [if_pos c]; exact h1 i a
        · rw [if_neg c]; exact s1 i (j - 1) (by omega) (by omega)
    · rw [if_neg a, if_neg (show ¬ j < at' by omega), if_neg (show ¬ j = at' by omega)]
      by_cases c : i = at'
      · rw [if_pos c]; exact h2 (j - 1) (by omega) (by omega)
      · rw [if_neg c]; exact s1 (i - 1) (j - 1) (by omega) (by omega)
  · dsimp only
    by_cases a : i < at'
    · rw [if_pos a]
      obtain ⟨k, k1, k2⟩ := s2 i (by omega)
      exact ⟨k, by omega, by rw [if_neg (by omega)]; exact k2⟩
    · rw [if_neg a]
      by_cases c : i = at'
      · rw [if_pos c]; exact ⟨n, by omega, by rw [if_pos rfl]⟩
      · rw [if_neg c]
        obtain ⟨k, k1, k2⟩ := s2 (i - 1) (by omega)
        exact ⟨k, by omega, by rw [if_neg (by omega)]; exact k2⟩
  · dsimp only
    by_cases c : k = n
    · rw [if_pos c]
      exact ⟨at', by omega, by rw [if_neg (by omega), if_pos rfl]⟩
    · rw [if_neg c]
      obtain ⟨i, i1, i2⟩ := s3 k (by omega)
      by_cases a : i < at'
      · exact ⟨i, by omega, by rw [if_pos a]; exact i2⟩
      · exact ⟨i + 1, by omega, by rw [if_neg (by omega), if_neg (by omega)]; exact i2⟩
