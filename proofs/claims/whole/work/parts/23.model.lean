/-! the Model: where its cells lie, and what its methods leave alone -/
def tM : Nat := 65
def eM : Nat := 112
def aM : Nat → Nat := fun k => match k with
  | 1 => 66
  | 7 => 67
  | 8 => 68
  | 9 => 69
  | 10 => 70
  | 11 => 71
  | 12 => 72
  | 13 => 73
  | 15 => 74
  | 16 => 75
  | 17 => 76
  | 23 => 77
  | 24 => 78
  | 26 => 79
  | 27 => 80
  | 28 => 81
  | 29 => 82
  | 38 => 83
  | 40 => 84
  | 43 => 85
  | 44 => 86
  | 45 => 87
  | 46 => 88
  | 48 => 89
  | 49 => 90
  | 50 => 91
  | 51 => 92
  | 52 => 93
  | 53 => 94
  | 54 => 95
  | 55 => 96
  | 56 => 97
  | 57 => 98
  | 58 => 99
  | 59 => 100
  | 60 => 101
  | 61 => 102
  | 64 => 103
  | 65 => 104
  | 66 => 105
  | 67 => 106
  | 68 => 107
  | 71 => 108
  | 72 => 109
  | 78 => 110
  | 79 => 111
  | _ => 0
def kdM : Nat → Nat := fun k => match k with
  | 1 => 21
  | _ => 20
def lnM : Nat → Nat := fun k => match k with
  | 1 => 400
  | 7 => 5
  | 8 => 42
  | 9 => 840
  | 10 => 840
  | 11 => 6
  | 12 => 6
  | 13 => 6
  | 15 => 240
  | 16 => 6
  | 17 => 6
  | 23 => 36
  | 24 => 9
  | 26 => 4608
  | 27 => 5
  | 28 => 5
  | 29 => 5
  | 38 => 40
  | 40 => 36
  | 43 => 4
  | 44 => 4
  | 45 => 4
  | 46 => 4
  | 48 => 40
  | 49 => 40
  | 50 => 40
  | 51 => 40
  | 52 => 40
  | 53 => 40
  | 54 => 40
  | 55 => 40
  | 56 => 40
  | 57 => 40
  | 58 => 40
  | 59 => 40
  | 60 => 40
  | 61 => 40
  | 64 => 2400
  | 65 => 250
  | 66 => 250
  | 67 => 250
  | 68 => 250
  | 71 => 2400
  | 72 => 2400
  | 78 => 24
  | 79 => 192
  | _ => 0
def ShM (μ : p_M) : Prop := mK μ tM = 14 ∧ tM < mN μ ∧ mN μ < p_E ∧ ∀ k, k < 80 → p_isR 14 k = true → mR μ tM k = some (aM k) ∧ mK μ (aM k) = kdM k ∧ mL μ (aM k) = lnM k ∧ aM k < mN μ
/-- all but the Model's ints is as before -/
def Sm (μ μ' : p_M) : Prop := μ'.2 = μ.2 ∧ ∀ a : Nat, ¬ (65 ≤ a ∧ a < 112) → μ'.1 a = μ.1 a
theorem Sm_refl (μ : p_M) : Sm μ μ := ⟨rfl, fun _ _ => rfl⟩
theorem Sm_trans {μ μ1 μ2 : p_M} (h : Sm μ μ1) (h2 : Sm μ1 μ2) : Sm μ μ2 := ⟨h2.1.trans h.1, fun a ha => (h2.2 a ha).trans (h.2 a ha)⟩
theorem Sm_set {μ μ1 : p_M} {a k : Nat} {v : Int32} (h : Sm μ μ1) (ha : 65 ≤ a ∧ a < 112) : Sm μ (sI μ1 a k v) := ⟨h.1, fun b hb => by
  have hne : b ≠ a := fun e => by subst e; exact hb ha
  show p_up μ1.1 a k v b = _
  rw [q_up_ne hne]
  exact h.2 b hb⟩
theorem ShM_of {μ μ' : p_M} (h : Sm μ μ') (hs : ShM μ) : ShM μ' := by
  obtain ⟨i, r⟩ := μ
  obtain ⟨i', r'⟩ := μ'
  obtain ⟨e, -⟩ := h
  have e : r' = r := e
  subst e
  exact hs
section EX
variable {X : p_X} {d : Nat} {M : q_M} {pc : Nat} {lo st : List Value} {μ : p_M} {Q : p_R → Prop}
theorem e_swD {x : Int32} {df l h : Int} {offs : Array Int} {len : Nat} (hd : decode (q_cc M) pc = .ok (.tableswitch df l h offs, len)) (hc : x.toInt < l ∨ h < x.toInt) (tgt : Nat) (ht : ¬ (pc : Int) + df < 0 ∧ ((pc : Int) + df).toNat = tgt) (K : p_Ev X d M tgt lo st μ Q) : p_Ev X d M pc lo (.int x :: st) μ Q := by
  obtain ⟨h1, h2⟩ := ht
  subst h2
  exact e_x hd (by show p_tsw df l h offs pc lo (.int x :: st) μ = _; unfold p_tsw; dsimp only; rw [if_pos hc]; unfold p_go; rw [if_neg h1]) K
theorem e_swK {x v : Int32} {df l h off : Int} {offs : Array Int} {len : Nat} (hd : decode (q_cc M) pc = .ok (.tableswitch df l h offs, len)) (hx : x = v) (hv : ¬ (v.toInt < l ∨ h < v.toInt)) (ho : offs[(v.toInt - l).toNat]? = some off) (tgt : Nat) (ht : ¬ (pc : Int) + off < 0 ∧ ((pc : Int) + off).toNat = tgt) (K : p_Ev X d M tgt lo st μ Q) : p_Ev X d M pc lo (.int x :: st) μ Q := by
  obtain ⟨h1, h2⟩ := ht
  subst h2 hx
  exact e_x hd (by show p_tsw df l h offs pc lo (.int x :: st) μ = _; unfold p_tsw; dsimp only; rw [if_neg hv, ho]; dsimp only; unfold p_go; rw [if_neg h1]) K
theorem e_ldc {k : Nat} {v : Int32} (hd : decode (q_cc M) pc = .ok (.ldc k, 2)) (hl : q_lK (q_o M) k = some v) (K : p_Ev X d M (pc + 2) lo (.int v :: st) μ Q) : p_Ev X d M pc lo st μ Q := e_p hd rfl (q := (pc + 2, lo, .int v :: st, μ)) (by unfold p_pool; dsimp only; rw [if_pos rfl, hl]) K
theorem e_ldc_w {k : Nat} {v : Int32} (hd : decode (q_cc M) pc = .ok (.ldc_w k, 3)) (hl : q_lK (q_o M) k = some v) (K : p_Ev X d M (pc + 3) lo (.int v :: st) μ Q) : p_Ev X d M pc lo st μ Q := e_p hd rfl (q := (pc + 3, lo, .int v :: st, μ)) (by unfold p_pool; dsimp only; rw [if_pos rfl, hl]) K
theorem e_ldcS {k : Nat} {v : Nat × String} (hd : decode (q_cc M) pc = .ok (.ldc k, 2)) (hn : q_lK (q_o M) k = none) (hl : q_lStr (q_o M) k = some v) (K : p_Ev X d M (pc + 2) lo (.ref (p_E + 10 + v.1) :: st) μ Q) : p_Ev X d M pc lo st μ Q := e_p hd rfl (q := (pc + 2, lo, .ref (p_E + 10 + v.1) :: st, μ)) (by unfold p_pool; dsimp only; rw [if_pos rfl, hn]; dsimp only; rw [hl]) K
theorem e_ldc_wS {k : Nat} {v : Nat × String} (hd : decode (q_cc M) pc = .ok (.ldc_w k, 3)) (hn : q_lK (q_o M) k = none) (hl : q_lStr (q_o M) k = some v) (K : p_Ev X d M (pc + 3) lo (.ref (p_E + 10 + v.1) :: st) μ Q) : p_Ev X d M pc lo st μ Q := e_p hd rfl (q := (pc + 3, lo, .ref (p_E + 10 + v.1) :: st, μ)) (by unfold p_pool; dsimp only; rw [if_pos rfl, hn]; dsimp only; rw [hl]) K
theorem e_ldc2 {k : Nat} {v : Int64} (hd : decode (q_cc M) pc = .ok (.ldc2_w k, 3)) (hl : q_lKL (q_o M) k = some v) (K : p_Ev X d M (pc + 3) lo (.long v :: st) μ Q) : p_Ev X d M pc lo st μ Q := e_p hd rfl (q := (pc + 3, lo, .long v :: st, μ)) (by unfold p_pool; dsimp only; rw [if_pos rfl, hl]) K
theorem e_txl {k a : Nat} {v : Int32} (hd : decode (q_cc M) pc = .ok (.invokevirtual k, 3)) (hl : q_lP (q_o M) k = some 10) (hs : p_cat st ≤ 8) (hx : tx_len a = some v) (K : p_Ev X d M (pc + 3) lo (.int v :: st) μ Q) : p_Ev X d M pc lo (.ref a :: st) μ Q :=
  e_pr (kk := 10) (as := [.ref a]) (rest := st) (v := some (.int v)) (μ1 := μ) hd rfl rfl rfl rfl (by unfold p_callP; rw [if_pos rfl]; simp only [hl]; unfold p_pop; rw [if_pos ⟨by simp, hs, rfl⟩]; rfl) (by
    show (match tx_len a with | some t => some (some (Value.int t), μ) | none => none) = _
    rw [hx]) K
theorem e_txc {k a : Nat} {i v : Int32} (hd : decode (q_cc M) pc = .ok (.invokevirtual k, 3)) (hl : q_lP (q_o M) k = some 11) (hs : p_cat st ≤ 8) (hx : tx_at a i = some v) (K : p_Ev X d M (pc + 3) lo (.int v :: st) μ Q) : p_Ev X d M pc lo (.int i :: .ref a :: st) μ Q :=
  e_pr (kk := 11) (as := [.ref a, .int i]) (rest := st) (v := some (.int v)) (μ1 := μ) hd rfl rfl rfl rfl (by unfold p_callP; rw [if_pos rfl]; simp only [hl]; unfold p_pop; rw [if_pos ⟨by simp, hs, rfl⟩]; rfl) (by
    show (match tx_at a i with | some t => some (some (Value.int t), μ) | none => none) = _
    rw [hx]) K
end EX
