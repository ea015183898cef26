/-! the search: plain functions; what is cut off holds nothing better -/
def us (b : Nat) : Nat := if b = 0 then 4 else if b = 1 then 2 else if b = 2 then 3 else 1
def pc (b : Nat) : Nat := prc b (us b)
abbrev BB : Type := Option (Nat × Nat × (Nat → Nat))
def btr (B : BB) (cost n : Nat) : Bool := match B with
  | none => true
  | some q => decide (cost < q.1 ∨ (cost = q.1 ∧ n < q.2.1))
def mtb (x y z : Nat) (L : LK) : Bool := decide (x ≤ L.1 ∧ L.2.1 ≤ y ∧ z ≤ L.2.2.1 ∧ L.2.2.2.2 = 0)
def kp (x y z : Nat) (L : LK) (cost n : Nat) (w : Nat → Nat) (B : BB) : BB := if (mtb x y z L && btr B cost n) = true then some (cost, n, w) else B
def sM (h x y z : Nat) : Nat → Nat → LK → Nat → (Nat → Nat) → BB → BB
  | 0, n, L, cost, w, B => kp x y z L cost n w B
  | r + 1, n, L, cost, w, B => sM h x y z r (n + 1) (lk h 3 (us 3) L) (cost + pc 3) (va_up w n 3) (sM h x y z r (n + 1) (lk h 2 (us 2) L) (cost + pc 2) (va_up w n 2) (sM h x y z r (n + 1) (lk h 1 (us 1) L) (cost + pc 1) (va_up w n 1) (sM h x y z r (n + 1) (lk h 0 (us 0) L) (cost + pc 0) (va_up w n 0) (kp x y z L cost n w B))))
theorem sM_s {h x y z r n cost : Nat} {L : LK} {w : Nat → Nat} {B : BB} : sM h x y z (r + 1) n L cost w B = sM h x y z r (n + 1) (lk h 3 (us 3) L) (cost + pc 3) (va_up w n 3) (sM h x y z r (n + 1) (lk h 2 (us 2) L) (cost + pc 2) (va_up w n 2) (sM h x y z r (n + 1) (lk h 1 (us 1) L) (cost + pc 1) (va_up w n 1) (sM h x y z r (n + 1) (lk h 0 (us 0) L) (cost + pc 0) (va_up w n 0) (kp x y z L cost n w B)))) := rfl
def dear (B : BB) (cost : Nat) : Bool := match B with
  | none => false
  | some q => decide (q.1 ≤ cost)
def sC (h x y z : Nat) : Nat → Nat → LK → Nat → (Nat → Nat) → BB → BB
  | 0, n, L, cost, w, B => if L.1 < x ∨ L.2.2.1 < z then B else kp x y z L cost n w B
  | r + 1, n, L, cost, w, B => if L.1 < x ∨ L.2.2.1 < z then B else if dear (kp x y z L cost n w B) cost = true then kp x y z L cost n w B else if L.2.2.2.2 = 0 then sC h x y z r (n + 1) (lk h 2 (us 2) L) (cost + pc 2) (va_up w n 2) (sC h x y z r (n + 1) (lk h 1 (us 1) L) (cost + pc 1) (va_up w n 1) (sC h x y z r (n + 1) (lk h 0 (us 0) L) (cost + pc 0) (va_up w n 0) (kp x y z L cost n w B))) else sC h x y z r (n + 1) (lk h 3 (us 3) L) (cost + pc 3) (va_up w n 3) (sC h x y z r (n + 1) (lk h 2 (us 2) L) (cost + pc 2) (va_up w n 2) (sC h x y z r (n + 1) (lk h 1 (us 1) L) (cost + pc 1) (va_up w n 1) (sC h x y z r (n + 1) (lk h 0 (us 0) L) (cost + pc 0) (va_up w n 0) (kp x y z L cost n w B))))
def rn (h : Nat) : LK → List Nat → LK
  | L, [] => L
  | L, b :: p => rn h (lk h b (us b) L) p
def pp : List Nat → Nat
  | [] => 0
  | b :: p => pc b + pp p
theorem pc_pos {b : Nat} (h : b ≤ 3) : 1 ≤ pc b := by
  rcases b4 h with rfl | rfl | rfl | rfl <;> decide
def ok4 (p : List Nat) : Prop := ∀ b, b ∈ p → b ≤ 3
/-- nothing in reach is better -/
def NB (h x y z : Nat) (B : BB) (r : Nat) (L : LK) (cost : Nat) : Prop := ∀ p, p.length ≤ r → ok4 p → mtb x y z (rn h L p) = true → ∃ q, B = some q ∧ q.1 < cost + pp p
theorem NB_c {h x y z r cost b : Nat} {B : BB} {L : LK} (hb : b ≤ 3) (hN : NB h x y z B (r + 1) L cost) : NB h x y z B r (lk h b (us b) L) (cost + pc b) := by
  intro p hp ho hm
  obtain ⟨q, h1, h2⟩ := hN (b :: p) (by rw [List.length_cons]; omega) (fun c hc => by
    cases hc with
    | head => exact hb
    | tail _ hc => exact ho c hc) hm
  refine ⟨q, h1, ?_⟩
  have h2 : q.1 < cost + (pc b + pp p) := h2
  omega
theorem kp_nb {h x y z r cost n : Nat} {B : BB} {L : LK} {w : Nat → Nat} (hN : NB h x y z B r L cost) : kp x y z L cost n w B = B := by
  unfold kp
  split
  · rename_i c
    rw [Bool.and_eq_true] at c
    obtain ⟨q, h1, h2⟩ := hN [] (Nat.zero_le _) (fun b hb => by cases hb) c.1
    have h2 : q.1 < cost + 0 := h2
    have c2 := c.2
    rw [h1] at c2
    have c2 := of_decide_eq_true c2
    omega
  · rfl
theorem sM_nb {h x y z : Nat} : ∀ (r n : Nat) (L : LK) (cost : Nat) (w : Nat → Nat) (B : BB), NB h x y z B r L cost → sM h x y z r n L cost w B = B := by
  intro r
  induction r with
  | zero => intro n L cost w B hN; exact kp_nb hN
  | succ r ih =>
    intro n L cost w B hN
    unfold sM
    rw [kp_nb hN, ih _ _ _ _ _ (NB_c (by decide) hN), ih _ _ _ _ _ (NB_c (by decide) hN), ih _ _ _ _ _ (NB_c (by decide) hN), ih _ _ _ _ _ (NB_c (by decide) hN)]
/-- no dearer -/
def lB (B' B : BB) : Prop := ∀ c, (∃ q, B = some q ∧ q.1 ≤ c) → ∃ q, B' = some q ∧ q.1 ≤ c
theorem kp_le {x y z cost n : Nat} {B : BB} {L : LK} {w : Nat → Nat} : lB (kp x y z L cost n w B) B := by
  intro c ⟨q, h1, h2⟩
  unfold kp
  split
  · rename_i g
    rw [Bool.and_eq_true, h1] at g
    have g2 := of_decide_eq_true g.2
    exact ⟨(cost, n, w), rfl, by dsimp only; omega⟩
  · exact ⟨q, h1, h2⟩
theorem lB_t {A B C : BB} (h : lB A B) (g : lB B C) : lB A C := fun c hc => h c (g c hc)
theorem sM_le {h x y z : Nat} : ∀ (r n : Nat) (L : LK) (cost : Nat) (w : Nat → Nat) (B : BB), lB (sM h x y z r n L cost w B) B := by
  intro r
  induction r with
  | zero => intro n L cost w B; exact kp_le
  | succ r ih =>
    intro n L cost w B
    unfold sM
    exact lB_t (ih _ _ _ _ _) (lB_t (ih _ _ _ _ _) (lB_t (ih _ _ _ _ _) (lB_t (ih _ _ _ _ _) kp_le)))
theorem kp_cov {x y z cost n : Nat} {B : BB} {L : LK} {w : Nat → Nat} (hm : mtb x y z L = true) : ∃ q, kp x y z L cost n w B = some q ∧ q.1 ≤ cost := by
  unfold kp
  split
  · exact ⟨_, rfl, Nat.le_refl _⟩
  · rename_i g
    rw [hm, Bool.true_and] at g
    cases B with
    | none => exact absurd rfl g
    | some q =>
      refine ⟨q, rfl, ?_⟩
      have g : ¬ (cost < q.1 ∨ (cost = q.1 ∧ n < q.2.1)) := fun c => g (decide_eq_true c)
      omega
theorem sM_cov {h x y z : Nat} : ∀ (r n : Nat) (L : LK) (cost : Nat) (w : Nat → Nat) (B : BB) (p : List Nat), p.length ≤ r → ok4 p → mtb x y z (rn h L p) = true → ∃ q, sM h x y z r n L cost w B = some q ∧ q.1 ≤ cost + pp p := by
  intro r
  induction r with
  | zero =>
    intro n L cost w B p hp ho hm
    cases p with
    | nil => exact kp_cov hm
    | cons b p => rw [List.length_cons] at hp; omega
  | succ r ih =>
    intro n L cost w B p hp ho hm
    unfold sM
    cases p with
    | nil => exact lB_t (sM_le _ _ _ _ _ _) (lB_t (sM_le _ _ _ _ _ _) (lB_t (sM_le _ _ _ _ _ _) (sM_le _ _ _ _ _ _))) _ (kp_cov hm)
    | cons b p =>
      rw [List.length_cons] at hp
      have hb := ho b List.mem_cons_self
      have ho' : ok4 p := fun c hc => ho c (List.mem_cons_of_mem _ hc)
      have k : ∀ B', ∃ q, sM h x y z r (n + 1) (lk h b (us b) L) (cost + pc b) (va_up w n b) B' = some q ∧ q.1 ≤ cost + pp (b :: p) := fun B' => by
        obtain ⟨q, h1, h2⟩ := ih (n + 1) (lk h b (us b) L) (cost + pc b) (va_up w n b) B' p (by omega) ho' hm
        exact ⟨q, h1, by show q.1 ≤ cost + (pc b + pp p); omega⟩
      rcases b4 hb with rfl | rfl | rfl | rfl
      · exact lB_t (sM_le _ _ _ _ _ _) (lB_t (sM_le _ _ _ _ _ _) (sM_le _ _ _ _ _ _)) _ (k _)
      · exact lB_t (sM_le _ _ _ _ _ _) (sM_le _ _ _ _ _ _) _ (k _)
      · exact sM_le _ _ _ _ _ _ _ (k _)
      · exact k _
theorem lk_le {h b n : Nat} {L : LK} : (lk h b n L).1 ≤ L.1 ∧ (lk h b n L).2.2.1 ≤ L.2.2.1 := by
  obtain ⟨l, g, w, s, y⟩ := L
  unfold lk
  split
  · dsimp only; omega
  · split
    · dsimp only; omega
    · split
      · dsimp only; omega
      · dsimp only; omega
theorem rn_le {h : Nat} : ∀ (p : List Nat) (L : LK), (rn h L p).1 ≤ L.1 ∧ (rn h L p).2.2.1 ≤ L.2.2.1 := by
  intro p
  induction p with
  | nil => intro L; exact ⟨Nat.le_refl _, Nat.le_refl _⟩
  | cons b p ih =>
    intro L
    have h1 := ih (lk h b (us b) L)
    have h2 := lk_le (h := h) (b := b) (n := us b) (L := L)
    exact ⟨Nat.le_trans h1.1 h2.1, Nat.le_trans h1.2 h2.2⟩
theorem NB_dead {h x y z r cost : Nat} {B : BB} {L : LK} (hd : L.1 < x ∨ L.2.2.1 < z) : NB h x y z B r L cost := by
  intro p _ _ hm
  have := of_decide_eq_true hm
  have := rn_le (h := h) p L
  omega
/-- a rinse without lye does nothing -/
theorem rn_strip {h : Nat} {L : LK} (hy : L.2.2.2.2 = 0) : ∀ (p : List Nat), ok4 p → ∃ q, ok4 q ∧ q.length ≤ p.length ∧ pp q ≤ pp p ∧ rn h L q = rn h L p ∧ (q = [] ∨ ∃ b t, q = b :: t ∧ b ≤ 2) := by
  intro p
  induction p with
  | nil => intro _; exact ⟨[], (fun b hb => by cases hb), Nat.le_refl _, Nat.le_refl _, rfl, Or.inl rfl⟩
  | cons b p ih =>
    intro ho
    have hb := ho b List.mem_cons_self
    have ho' : ok4 p := fun c hc => ho c (List.mem_cons_of_mem _ hc)
    by_cases c : b = 3
    · subst c
      obtain ⟨q, h1, h2, h3, h4, h5⟩ := ih ho'
      have e : lk h 3 (us 3) L = L := by
        obtain ⟨l, g, w, s, y⟩ := L
        have hy : y = 0 := hy
        subst hy
        rfl
      refine ⟨q, h1, by rw [List.length_cons]; omega, ?_, ?_, h5⟩
      · show pp q ≤ pc 3 + pp p
        omega
      · show rn h L q = rn h (lk h 3 (us 3) L) p
        rw [e]
        exact h4
    · exact ⟨b :: p, ho, Nat.le_refl _, Nat.le_refl _, rfl, Or.inr ⟨b, p, rfl, by omega⟩⟩
theorem sC_eq {h x y z : Nat} : ∀ (r n : Nat) (L : LK) (cost : Nat) (w : Nat → Nat) (B : BB), sC h x y z r n L cost w B = sM h x y z r n L cost w B := by
  intro r
  induction r with
  | zero =>
    intro n L cost w B
    unfold sC
    split
    · rename_i c
      exact (sM_nb 0 n L cost w B (NB_dead c)).symm
    · rfl
  | succ r ih =>
    intro n L cost w B
    unfold sC
    split
    · rename_i c
      exact (sM_nb (r + 1) n L cost w B (NB_dead c)).symm
    · simp only [ih]
      split
      · rename_i c
        have hN : ∀ b, b ≤ 3 → NB h x y z (kp x y z L cost n w B) r (lk h b (us b) L) (cost + pc b) := fun b hb p _ _ _ => by
          cases hk : kp x y z L cost n w B with
          | none => rw [hk] at c; cases c
          | some q =>
            rw [hk] at c
            have c := of_decide_eq_true c
            have := pc_pos hb
            exact ⟨q, rfl, by omega⟩
        unfold sM
        rw [sM_nb _ _ _ _ _ _ (hN 0 (by decide)), sM_nb _ _ _ _ _ _ (hN 1 (by decide)), sM_nb _ _ _ _ _ _ (hN 2 (by decide)), sM_nb _ _ _ _ _ _ (hN 3 (by decide))]
      · split
        · rename_i hy
          rw [sM_s]
          refine (sM_nb r (n + 1) _ _ _ _ ?_).symm
          have e : lk h 3 (us 3) L = L := by
            obtain ⟨l, g, w', s, y'⟩ := L
            have hy : y' = 0 := hy
            subst hy
            rfl
          rw [e]
          intro p hp ho hm
          obtain ⟨q, h1, h2, h3, h4, h5⟩ := rn_strip (h := h) hy p ho
          rw [← h4] at hm
          have fin : (∃ t, (sM h x y z r (n + 1) (lk h 2 (us 2) L) (cost + pc 2) (va_up w n 2) (sM h x y z r (n + 1) (lk h 1 (us 1) L) (cost + pc 1) (va_up w n 1) (sM h x y z r (n + 1) (lk h 0 (us 0) L) (cost + pc 0) (va_up w n 0) (kp x y z L cost n w B)))) = some t ∧ t.1 ≤ cost + pp q) → ∃ t, (sM h x y z r (n + 1) (lk h 2 (us 2) L) (cost + pc 2) (va_up w n 2) (sM h x y z r (n + 1) (lk h 1 (us 1) L) (cost + pc 1) (va_up w n 1) (sM h x y z r (n + 1) (lk h 0 (us 0) L) (cost + pc 0) (va_up w n 0) (kp x y z L cost n w B)))) = some t ∧ t.1 < cost + pc 3 + pp p := fun ⟨t, t1, t2⟩ => ⟨t, t1, by have : pc 3 = 1 := rfl; omega⟩
          apply fin
          rcases h5 with rfl | ⟨b, t, rfl, hb⟩
          · exact lB_t (sM_le _ _ _ _ _ _) (lB_t (sM_le _ _ _ _ _ _) (sM_le _ _ _ _ _ _)) _ (kp_cov hm)
          · have ho' : ok4 t := fun c hc => h1 c (List.mem_cons_of_mem _ hc)
            rw [List.length_cons] at h2
            have k : ∀ B', ∃ q, sM h x y z r (n + 1) (lk h b (us b) L) (cost + pc b) (va_up w n b) B' = some q ∧ q.1 ≤ cost + pp (b :: t) := fun B' => by
              obtain ⟨q, g1, g2⟩ := sM_cov r (n + 1) (lk h b (us b) L) (cost + pc b) (va_up w n b) B' t (by omega) ho' hm
              exact ⟨q, g1, by show q.1 ≤ cost + (pc b + pp t); omega⟩
            rcases (show b = 0 ∨ b = 1 ∨ b = 2 by omega) with rfl | rfl | rfl
            · exact lB_t (sM_le _ _ _ _ _ _) (sM_le _ _ _ _ _ _) _ (k _)
            · exact sM_le _ _ _ _ _ _ _ (k _)
            · exact k _
        · rfl
