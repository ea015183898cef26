/-! sets as bits -/
theorem nI_and (s t : Nat) : nI s &&& nI t = nI (s &&& t) := by
  apply Int32.toBitVec_inj.mp
  show BitVec.ofNat 32 s &&& BitVec.ofNat 32 t = BitVec.ofNat 32 (s &&& t)
  exact (BitVec.ofNat_and).symm
theorem nI_or (s t : Nat) : nI s ||| nI t = nI (s ||| t) := by
  apply Int32.toBitVec_inj.mp
  show BitVec.ofNat 32 s ||| BitVec.ofNat 32 t = BitVec.ofNat 32 (s ||| t)
  exact (BitVec.ofNat_or).symm
theorem nI_xor (s t : Nat) : nI s ^^^ nI t = nI (s ^^^ t) := by
  apply Int32.toBitVec_inj.mp
  show BitVec.ofNat 32 s ^^^ BitVec.ofNat 32 t = BitVec.ofNat 32 (s ^^^ t)
  exact (BitVec.ofNat_xor).symm
theorem c10 {k : Nat} (h : k ≤ 9) : k = 0 ∨ k = 1 ∨ k = 2 ∨ k = 3 ∨ k = 4 ∨ k = 5 ∨ k = 6 ∨ k = 7 ∨ k = 8 ∨ k = 9 := by omega
theorem sh1 {k : Nat} (h : k ≤ 9) : (1 : Int32) <<< (nI k &&& 31) = nI (2 ^ k) := by
  rcases c10 h with rfl | rfl | rfl | rfl | rfl | rfl | rfl | rfl | rfl | rfl <;> decide
/-- without one -/
def rst (s k : Nat) : Nat := s &&& (2 ^ k ^^^ 4294967295)
theorem nI_rst (s k : Nat) : nI s &&& (nI (2 ^ k) ^^^ -1) = nI (rst s k) := by
  rw [show (-1 : Int32) = nI 4294967295 from rfl, nI_xor, nI_and]
  rfl
theorem nI_bit {s k : Nat} (h : k ≤ 9) : (((nI s >>> (nI k &&& 31)) &&& 1) = 1) = (s.testBit k = true) := by
  have key : ∀ n : Nat, n < 32 → ((nI k &&& 31).toBitVec.smod 32).toNat = n → (((nI s >>> (nI k &&& 31)) &&& 1) = 1) = (s.testBit n = true) := by
    intro n hn he
    have e1 : (((nI s >>> (nI k &&& 31)) &&& 1) = 1) = ((BitVec.ofNat 32 s).sshiftRight n &&& 1#32 = 1#32) := by
      rw [← Int32.toBitVec_inj]
      show ((BitVec.ofNat 32 s).sshiftRight ((nI k &&& 31).toBitVec.smod 32).toNat &&& 1#32 = 1#32) = _
      rw [he]
    rw [e1, BitVec.and_one_eq_setWidth_ofBool_getLsbD, BitVec.getLsbD_sshiftRight, BitVec.getLsbD_ofNat]
    have h1 : 0 + n < 32 := by omega
    have h2 : ¬ 32 ≤ 0 := by decide
    have h3 : n + 0 < 32 := by omega
    simp only [h1, h3, h2, hn, Nat.add_zero, decide_false, decide_true, Bool.not_false, Bool.true_and, ↓reduceIte]
    cases s.testBit n <;> decide
  rcases c10 h with rfl | rfl | rfl | rfl | rfl | rfl | rfl | rfl | rfl | rfl
  · exact key 0 (by decide) (by decide)
  · exact key 1 (by decide) (by decide)
  · exact key 2 (by decide) (by decide)
  · exact key 3 (by decide) (by decide)
  · exact key 4 (by decide) (by decide)
  · exact key 5 (by decide) (by decide)
  · exact key 6 (by decide) (by decide)
  · exact key 7 (by decide) (by decide)
  · exact key 8 (by decide) (by decide)
  · exact key 9 (by decide) (by decide)
theorem and_bit {s k : Nat} (hs : s < 512) : (nI s &&& nI (2 ^ k) = 0) = (s.testBit k = false) := by
  rw [nI_and]
  have hle : s &&& 2 ^ k ≤ s := Nat.and_le_left
  have hb : (s &&& 2 ^ k).testBit k = s.testBit k := by rw [Nat.testBit_and, Nat.testBit_two_pow, decide_eq_true rfl, Bool.and_true]
  apply propext
  constructor
  · intro h
    have h := (nI_eq (show s &&& 2 ^ k < 2 ^ 31 by omega) (show 0 < 2 ^ 31 by decide)).mp h
    rw [h, Nat.zero_testBit] at hb
    exact hb.symm
  · intro h
    have : s &&& 2 ^ k = 0 := by
      apply Nat.eq_of_testBit_eq
      intro j
      rw [Nat.testBit_and, Nat.testBit_two_pow, Nat.zero_testBit]
      by_cases c : k = j
      · subst c; rw [h]; rfl
      · rw [decide_eq_false c, Bool.and_false]
    rw [this]
    rfl
theorem rst_bit {s k j : Nat} (hs : s < 512) : (rst s k).testBit j = (s.testBit j && decide (¬ k = j)) := by
  unfold rst
  rw [Nat.testBit_and, Nat.testBit_xor, show (4294967295 : Nat) = 2 ^ 32 - 1 from rfl, Nat.testBit_two_pow_sub_one, Nat.testBit_two_pow]
  by_cases hj : j < 32
  · rw [decide_eq_true hj]
    by_cases c : k = j
    · rw [decide_eq_true c, decide_eq_false (fun h => h c)]; cases s.testBit j <;> rfl
    · rw [decide_eq_false c, decide_eq_true c]; cases s.testBit j <;> rfl
  · have : s.testBit j = false := Nat.testBit_lt_two_pow (Nat.lt_of_lt_of_le hs (Nat.le_trans (show 512 ≤ 2 ^ 9 by decide) (Nat.pow_le_pow_right (by decide) (by omega))))
    rw [this, Bool.false_and, Bool.false_and]
theorem rst_le (s k : Nat) : rst s k ≤ s := Nat.and_le_left
theorem rst_lt {s k : Nat} (hs : s < 512) (h : s.testBit k = true) : rst s k < s := by
  have h1 := rst_le s k
  by_cases c : rst s k = s
  · have h2 := rst_bit (k := k) (j := k) hs
    rw [c, h, decide_eq_false (fun h => h rfl)] at h2
    cases h2
  · omega
theorem rst_no {s k : Nat} (hs : s < 512) (h : s.testBit k = false) : rst s k = s := by
  apply Nat.eq_of_testBit_eq
  intro j
  rw [rst_bit hs]
  by_cases c : k = j
  · subst c; rw [h]; rfl
  · rw [decide_eq_true c, Bool.and_true]
theorem or_lt {s k n : Nat} (hs : s < 2 ^ n) (hk : k < n) : s ||| 2 ^ k < 2 ^ n := Nat.or_lt_two_pow hs (Nat.pow_lt_pow_right (by decide) hk)
theorem rst_or {s k : Nat} (hs : s < 512) (hk : k < 9) (h : s.testBit k = false) : rst (s ||| 2 ^ k) k = s := by
  apply Nat.eq_of_testBit_eq
  intro j
  rw [rst_bit (or_lt (n := 9) hs hk), Nat.testBit_or, Nat.testBit_two_pow]
  by_cases c : k = j
  · subst c; rw [h, decide_eq_true rfl, decide_eq_false (fun h => h rfl)]; rfl
  · rw [decide_eq_false c, decide_eq_true c, Bool.or_false, Bool.and_true]
theorem or_rst {s k : Nat} (hs : s < 512) (h : s.testBit k = true) : rst s k ||| 2 ^ k = s := by
  apply Nat.eq_of_testBit_eq
  intro j
  rw [Nat.testBit_or, rst_bit hs, Nat.testBit_two_pow]
  by_cases c : k = j
  · subst c; rw [h, decide_eq_true rfl, Bool.or_true]
  · rw [decide_eq_false c, decide_eq_true c, Bool.or_false, Bool.and_true]
theorem or_bit {s k : Nat} : (s ||| 2 ^ k).testBit k = true := by
  rw [Nat.testBit_or, Nat.testBit_two_pow, decide_eq_true rfl, Bool.or_true]
theorem or_gt {s k : Nat} (hs : s < 512) (hk : k < 9) (h : s.testBit k = false) : s < s ||| 2 ^ k := by
  have := rst_lt (or_lt (n := 9) hs hk) (or_bit (s := s) (k := k))
  rw [rst_or hs hk h] at this
  exact this
/-! the least sums -/
def mn (a b : Option Nat) : Option Nat := match a, b with
  | none, b => b
  | some x, none => some x
  | some x, some y => some (if y < x then y else x)
def ad (a b : Option Nat) : Option Nat := match a, b with
  | some x, some y => some (x + y)
  | _, _ => none
theorem mn_none (a : Option Nat) : mn a none = a := by cases a <;> rfl
theorem ad_none (a : Option Nat) : ad a none = none := by cases a <;> rfl
/-- by way of the first m of t -/
def pl (E : Nat → Option Nat) (c : Nat → Nat → Option Nat) (t k : Nat) : Nat → Option Nat
  | 0 => none
  | m + 1 => if t.testBit m = true then mn (pl E c t k m) (ad (E m) (c m k)) else pl E c t k m
def ET (n : Nat) (c : Nat → Nat → Option Nat) : Nat → Nat → Nat → Option Nat
  | 0, _, _ => none
  | g + 1, s, k => if s.testBit k = true then (if rst s k = 0 then some 0 else pl (ET n c g (rst s k)) c (rst s k) k n) else none
def DD (n : Nat) (c : Nat → Nat → Option Nat) (s k : Nat) : Option Nat := ET n c (s + 1) s k
theorem pl_ext {E E' : Nat → Option Nat} {c : Nat → Nat → Option Nat} {t k : Nat} (h : ∀ j, E j = E' j) (m : Nat) : pl E c t k m = pl E' c t k m := by
  induction m with
  | zero => rfl
  | succ m ih => unfold pl; rw [ih, h]
theorem ET_eq {n : Nat} {c : Nat → Nat → Option Nat} : ∀ (g h s k : Nat), s < 512 → s < g → s < h → ET n c g s k = ET n c h s k := by
  intro g
  induction g with
  | zero => intro h s k _ h1; omega
  | succ g ih =>
    intro h s k hs h1 h2
    obtain ⟨h, rfl⟩ : ∃ x, h = x + 1 := ⟨h - 1, by omega⟩
    unfold ET
    by_cases c1 : s.testBit k = true
    · rw [if_pos c1, if_pos c1]
      by_cases c2 : rst s k = 0
      · rw [if_pos c2, if_pos c2]
      · rw [if_neg c2, if_neg c2]
        have hr := rst_lt hs c1
        exact pl_ext (fun j => ih h (rst s k) j (by omega) (by omega) (by omega)) n
    · rw [if_neg c1, if_neg c1]
theorem DD_eq {n : Nat} {c : Nat → Nat → Option Nat} {s k : Nat} (hs : s < 512) : DD n c s k = if s.testBit k = true then (if rst s k = 0 then some 0 else pl (DD n c (rst s k)) c (rst s k) k n) else none := by
  have e : DD n c s k = ET n c (s + 1) s k := rfl
  rw [e]
  unfold ET
  by_cases c1 : s.testBit k = true
  · rw [if_pos c1, if_pos c1]
    by_cases c2 : rst s k = 0
    · rw [if_pos c2, if_pos c2]
    · rw [if_neg c2, if_neg c2]
      have hr := rst_lt hs c1
      exact pl_ext (fun j => ET_eq s (rst s k + 1) (rst s k) j (by omega) (by omega) (by omega)) n
  · rw [if_neg c1, if_neg c1]
def bC (c : Nat → Nat → Option Nat) : Prop := ∀ j k x, c j k = some x → x ≤ 100
theorem pl_b {E : Nat → Option Nat} {c : Nat → Nat → Option Nat} {t k B : Nat} (hc : bC c) (hE : ∀ j x, E j = some x → x ≤ B) : ∀ (m x : Nat), pl E c t k m = some x → x ≤ B + 100 := by
  intro m
  induction m with
  | zero => intro x h; cases h
  | succ m ih =>
    intro x h
    unfold pl at h
    split at h
    · cases h1 : pl E c t k m with
      | none =>
        rw [h1] at h
        cases h2 : E m with
        | none => rw [h2] at h; cases h
        | some y =>
          cases h3 : c m k with
          | none => rw [h2, h3] at h; cases h
          | some z =>
            rw [h2, h3] at h
            cases h
            have := hE m y h2
            have := hc m k z h3
            omega
      | some w =>
        have hw := ih w h1
        rw [h1] at h
        cases h2 : ad (E m) (c m k) with
        | none => rw [h2] at h; cases h; exact hw
        | some y =>
          rw [h2] at h
          cases h
          split
          · omega
          · exact hw
    · exact ih x h
theorem DD_b {n : Nat} {c : Nat → Nat → Option Nat} (hc : bC c) : ∀ (s k x : Nat), s < 512 → DD n c s k = some x → x ≤ 100 * s := by
  intro s
  induction s using Nat.strongRecOn with
  | _ s ih =>
    intro k x hs h
    rw [DD_eq hs] at h
    split at h
    · rename_i c1
      have hr := rst_lt hs c1
      split at h
      · cases h; omega
      · have := pl_b hc (fun j y hy => ih (rst s k) hr j y (by omega) hy) n x h
        omega
    · cases h
