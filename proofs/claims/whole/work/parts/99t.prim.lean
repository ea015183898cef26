/-! the primitives: Object.<init>, max, min, arraycopy of our own arrays -/
theorem q_callP_in {M : q_M} {i : Instr} {st as rest : List Value} {k : Nat} (h : p_callP M i 3 st = some (k, as, rest)) :
    ∃ kx n, q_lP (q_o M) kx = some k ∧ p_pop n st = some (as, rest) ∧ ((i = .invokestatic kx ∧ ((k = 1 ∨ k = 2 ∨ k = 3) ∧ n = 2 ∨ k = 4 ∧ n = 5)) ∨ (i = .invokespecial kx ∧ (k = 0 ∨ k = 6) ∧ n = 1) ∨ (i = .invokevirtual kx ∧ ((k = 5 ∨ k = 7 ∨ k = 10) ∧ n = 1 ∨ (k = 8 ∨ k = 9 ∨ k = 11) ∧ n = 2))) := by
  unfold p_callP at h
  rw [if_pos rfl] at h
  split at h
  · rename_i kx
    split at h
    all_goals first | (rename_i hl; obtain ⟨q, h1, h2⟩ := Option.map_eq_some_iff.mp h; cases h2; exact ⟨kx, _, hl, h1, Or.inl ⟨rfl, by simp⟩⟩) | cases h
  · rename_i kx
    split at h
    all_goals first | (rename_i hl; obtain ⟨q, h1, h2⟩ := Option.map_eq_some_iff.mp h; cases h2; exact ⟨kx, _, hl, h1, Or.inr (Or.inl ⟨rfl, by simp⟩)⟩) | cases h
  · rename_i kx
    split at h
    all_goals first | (rename_i hl; obtain ⟨q, h1, h2⟩ := Option.map_eq_some_iff.mp h; cases h2; exact ⟨kx, _, hl, h1, Or.inr (Or.inr ⟨rfl, by simp⟩)⟩) | cases h
  · cases h
theorem kO1 : Cond.instanceMethod Lib.objectInit ∈ lw_tbl := List.mem_of_getElem? (i := 124) (by decide +kernel)
theorem kO2 : Cond.code Lib.objectInit ⟨#[0xb1]⟩ 1 none ∈ lw_tbl := List.mem_of_getElem? (i := 125) (by decide +kernel)
theorem kMx1 : Cond.static Lib.Math.max.name ∈ lw_tbl := List.mem_of_getElem? (i := 158) (by decide +kernel)
theorem kMx2 : Cond.code Lib.Math.max.name Lib.Math.max.code 2 (some .int) ∈ lw_tbl := List.mem_of_getElem? (i := 159) (by decide +kernel)
theorem kMn1 : Cond.static Lib.Math.min.name ∈ lw_tbl := List.mem_of_getElem? (i := 569) (by decide +kernel)
theorem kMn2 : Cond.code Lib.Math.min.name Lib.Math.min.code 2 (some .int) ∈ lw_tbl := List.mem_of_getElem? (i := 570) (by decide +kernel)
theorem kMi : Cond.initialized "java/lang/Math" ∈ lw_tbl := List.mem_of_getElem? (i := 87) (by decide +kernel)
theorem kAc1 : Cond.native arraycopyName ∈ lw_tbl := List.mem_of_getElem? (i := 943) (by decide +kernel)
theorem kAc2 : Cond.static arraycopyName ∈ lw_tbl := List.mem_of_getElem? (i := 942) (by decide +kernel)
theorem kAc3 : Cond.initialized "java/lang/System" ∈ lw_tbl := List.mem_of_getElem? (i := 112) (by decide +kernel)
theorem kAc4 : nativeFrameWords "java/lang/System" "arraycopy" 5 + 11 ≤ 300 := by decide +kernel
/-! what a primitive's answer says of its arguments -/
theorem pn {X : p_X} {k : Nat} {as : List Value} {μ μ1 : p_M} {v : Option Value} (h : p_prim X k as μ = some (v, μ1)) (e : p_prim X k as μ = none) : False := by
  rw [e] at h
  cases h
theorem pr_r {as : List Value} (h : as.length = 1) (hc : ∀ v ∈ as, v.category = 1) : ∃ x, as = [x] := by
  match as, h with
  | [x], _ => exact ⟨x, rfl⟩
theorem pr_rr {as : List Value} (h : as.length = 2) : ∃ x y, as = [x, y] := by
  match as, h with
  | [x, y], _ => exact ⟨x, y, rfl⟩
theorem pr0_in {X : p_X} {as : List Value} {μ μ1 : p_M} {v : Option Value} (hl : as.length = 1) (h : p_prim X 0 as μ = some (v, μ1)) : ∃ a, as = [.ref a] ∧ (a < mN μ ∧ mK μ a < 15) ∧ v = none ∧ μ1 = μ := by
  match as, hl with
  | [x], _ =>
    cases x with
    | ref a =>
      by_cases c : a < mN μ ∧ mK μ a < 15
      · rw [show p_prim X 0 [.ref a] μ = (if a < mN μ ∧ mK μ a < 15 then some (none, μ) else none) from rfl, if_pos c] at h
        cases h
        exact ⟨a, rfl, c, rfl, rfl⟩
      · rw [show p_prim X 0 [.ref a] μ = (if a < mN μ ∧ mK μ a < 15 then some (none, μ) else none) from rfl, if_neg c] at h
        cases h
    | _ => exact (pn h rfl).elim
theorem pr_ii {X : p_X} {k : Nat} {as : List Value} {μ μ1 : p_M} {v : Option Value} (hk : k = 1 ∨ k = 2 ∨ k = 3) (hl : as.length = 2) (h : p_prim X k as μ = some (v, μ1)) : ∃ x y, as = [.int x, .int y] := by
  match as, hl with
  | [x, y], _ =>
    rcases hk with rfl | rfl | rfl
    all_goals
      cases x with
      | int a =>
        cases y with
        | int b => exact ⟨a, b, rfl⟩
        | _ => exact (pn h rfl).elim
      | _ => exact (pn h rfl).elim
section QPR
variable {p : Program} {l : Launch} {e : Env} {R : Room} {s : State} {m : MethodId} {args : Array Value} {below : List Frame} {meth : Method} {c : Code} {H : Heap} {locs : List Loc} {Q : State → Prop}
variable {X : p_X} {M : q_M} {D : va_G} {A : Nat → Prop} {xa : Nat → Nat} {c0 s0 : Nat} {ad0 ad : List Nat} {μ μ1 : p_M} {lo st : List Value} {ls : Array Slot} {sa as rest : List Value} {pc kx : Nat} {v : Option Value}
theorem q_size (P : q_Pt s A D xa (q_ml M) ad0 H locs ad μ lo st ls sa) : ls.size = q_ml M := by obtain ⟨lv, l1, -⟩ := P.2.2.1; exact l1.1
theorem q_pr0 (hl : q_lP (q_o M) kx = some 0) (hp : p_pop 1 st = some (as, rest)) (hx : p_prim X 0 as μ = some (v, μ1)) (hd : decode (q_cc M) pc = .ok (.invokespecial kx, 3)) (hdR : q_dR 0 R) (C : q_Ctx p s m args meth c M D A) (P : q_Pt s A D xa (q_ml M) ad0 H locs ad μ lo st ls sa)
    (K : q_Nx p l e R s m args below meth c Q D A xa (q_ml M) c0 s0 ad0 (pc + 3, lo, v.toList ++ rest, μ1)) : W p l e R s m args below meth c H locs (mC μ - c0) (mS μ - s0) Q (F0 m pc ls sa) := by
  obtain ⟨aA, rA, g1, g2, g3, g4, g5, g6⟩ := q_pop hp P.2.2.2.1
  obtain ⟨a, rfl, -, rfl, rfl⟩ := pr0_in g4 hx
  obtain ⟨v1, r1, e1, ⟨b, h1, h1'⟩, h3⟩ := g2
  have h3 : r1 = [] := h3
  subst e1 h1' h3 g1
  have hw : ∀ w, w ∈ lw_tbl → goodWord w = true → w.before args s = true := fun w h1 h2 => C.2.2.2.2.2.2.1 _ (q_tbl_in h1 h2)
  refine W.objInit C.1 C.2.1 C.2.2.2.2.2.1 (hw _ (kP _ _ _ hl) rfl) (hw _ kO1 rfl) (hw _ kO2 rfl) rfl (by rw [C.2.2.1]; exact q_size P) rfl hd (by have := hdR.1; omega) (by show 2 * 0 + (rA.map fun v => v.category).sum + 12 ≤ R.locals; have := hdR.2; omega) ?_
  exact K H locs ad ls rA ⟨P.1, P.2.1, P.2.2.1, g3, P.2.2.2.2⟩
theorem q_pr12 {k : Nat} (hk : k = 1 ∨ k = 2) (hl : q_lP (q_o M) kx = some k) (hp : p_pop 2 st = some (as, rest)) (hx : p_prim X k as μ = some (v, μ1)) (hd : decode (q_cc M) pc = .ok (.invokestatic kx, 3)) (hRm : q_Rm R c0 s0 μ μ1) (hdR : q_dR 0 R) (C : q_Ctx p s m args meth c M D A) (P : q_Pt s A D xa (q_ml M) ad0 H locs ad μ lo st ls sa)
    (K : q_Nx p l e R s m args below meth c Q D A xa (q_ml M) c0 s0 ad0 (pc + 3, lo, v.toList ++ rest, μ1)) : W p l e R s m args below meth c H locs (mC μ - c0) (mS μ - s0) Q (F0 m pc ls sa) := by
  obtain ⟨aA, rA, g1, g2, g3, g4, g5, g6⟩ := q_pop hp P.2.2.2.1
  have hw : ∀ w, w ∈ lw_tbl → goodWord w = true → w.before args s = true := fun w h1 h2 => C.2.2.2.2.2.2.1 _ (q_tbl_in h1 h2)
  have hf : 1 ≤ R.frames := by have := hdR.1; omega
  have hlo : (rA.map fun v => v.category).sum + 13 ≤ R.locals := by have := hdR.2; omega
  have hml : c.maxLocals = ls.size := by rw [C.2.2.1]; exact (q_size P).symm
  obtain ⟨x, y, rfl⟩ := pr_ii (by omega) g4 hx
  obtain ⟨v1, r1, e1, h1, v2, r2, e2, h2, h3⟩ := g2
  have h1 : v1 = .int x := h1
  have h2 : v2 = .int y := h2
  have h3 : r2 = [] := h3
  subst e1 h1 e2 h2 h3 g1
  rcases hk with h | h
  · subst h
    rw [show p_prim X 1 [.int x, .int y] μ = some (some (.int (if x < y then y else x)), μ) from rfl] at hx
    cases hx
    exact va_mmax C.1 C.2.1 hml C.2.2.2.2.2.1 (hw _ (kP _ _ _ hl) rfl) (hw _ kMx1 rfl) (hw _ kMi rfl) (hw _ kMx2 rfl) hf hlo (by have := hRm.2.2.1; omega) (by have := hRm.2.2.2.1; omega) hd (K H locs ad ls _ ⟨P.1, P.2.1, P.2.2.1, ⟨_, _, rfl, rfl, g3⟩, P.2.2.2.2⟩)
  · subst h
    rw [show p_prim X 2 [.int x, .int y] μ = some (some (.int (if y < x then y else x)), μ) from rfl] at hx
    cases hx
    exact va_mmin C.1 C.2.1 hml C.2.2.2.2.2.1 (hw _ (kP _ _ _ hl) rfl) (hw _ kMn1 rfl) (hw _ kMi rfl) (hw _ kMn2 rfl) hf hlo (by have := hRm.2.2.1; omega) (by have := hRm.2.2.2.1; omega) hd (K H locs ad ls _ ⟨P.1, P.2.1, P.2.2.1, ⟨_, _, rfl, rfl, g3⟩, P.2.2.2.2⟩)
end QPR
