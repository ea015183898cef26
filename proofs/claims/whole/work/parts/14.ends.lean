/-! what is counted; ends of a body -/
set_option maxHeartbeats 4000000 in
theorem q_exec_C {X : p_X} {M : q_M} {i : Instr} {len pc : Nat} {lo st : List Value} {μ : p_M} {q : p_S} (hx : p_exec X M i len pc lo st μ = some q) : mC q.2.2.2 = mC μ ∧ mS q.2.2.2 = mS μ := by
  unfold p_exec at hx
  split at hx
  all_goals try unfold p_nx at hx
  all_goals try unfold p_ild at hx
  all_goals try unfold p_ald at hx
  all_goals try unfold p_ist at hx
  all_goals try unfold p_ast at hx
  all_goals try unfold p_iinc at hx
  all_goals try unfold p_i2 at hx
  all_goals try unfold p_l2 at hx
  all_goals try unfold p_if at hx
  all_goals try unfold p_icmp at hx
  all_goals try unfold p_tsw at hx
  all_goals try unfold p_lsw at hx
  all_goals try unfold p_jmp at hx
  all_goals try unfold p_go at hx
  all_goals try unfold p_iald at hx
  all_goals try unfold p_iast at hx
  all_goals try unfold p_lald at hx
  all_goals try unfold p_last at hx
  all_goals try unfold p_aald at hx
  all_goals try unfold p_aast at hx
  all_goals try unfold p_alen at hx
  all_goals try unfold p_getf at hx
  all_goals try unfold p_putf at hx
  all_goals repeat' (split at hx)
  all_goals first | (cases hx; exact ⟨rfl, rfl⟩) | cases hx
set_option maxHeartbeats 4000000 in
theorem q_pool_C {M : q_M} {i : Instr} {len pc : Nat} {lo st : List Value} {μ : p_M} {q : p_S} (hx : p_pool M i len pc lo st μ = some q) : mC μ ≤ mC q.2.2.2 ∧ mS μ ≤ mS q.2.2.2 := by
  unfold p_pool at hx
  split at hx
  all_goals repeat' (split at hx)
  all_goals first | (cases hx; exact ⟨Nat.le_refl _, Nat.le_refl _⟩) | (cases hx; exact ⟨Nat.le_add_right _ _, Nat.le_add_right _ _⟩) | (cases hx; exact ⟨Nat.le_add_right _ 3, by show mS μ ≤ mS μ + 2 + 96 + 96; omega⟩) | cases hx
set_option maxHeartbeats 4000000 in
theorem q_prim_C {X : p_X} {k : Nat} {as : List Value} {μ μ1 : p_M} {v : Option Value} (hx : p_prim X k as μ = some (v, μ1)) : mC μ ≤ mC μ1 ∧ mS μ ≤ mS μ1 := by
  unfold p_prim at hx
  split at hx
  all_goals repeat' (split at hx)
  all_goals first | (cases hx; exact ⟨Nat.le_refl _, Nat.le_refl _⟩) | (cases hx; exact ⟨Nat.le_add_right _ _, Nat.le_add_right _ _⟩) | cases hx
/-- what came back -/
def q_ov (xa : Nat → Nat) (ad : List Nat) (pv v : Option Value) : Prop := match pv with
  | none => v = none
  | some x => ∃ w, v = some w ∧ q_v xa ad x w
def q_Po (D : va_G) (A : Nat → Prop) (xa : Nat → Nat) (ad0 : List Nat) (r : p_R) : Array Value → State → Outcome → State → Prop := fun _ st oc t =>
  r.1.1 = 0 ∧ (∃ ad', ad0 <+: ad' ∧ q_W t t.heap A D xa ad' r.2 ∧ ∃ v, oc = .returned v ∧ q_ov xa ad' r.1.2 v) ∧ va_F A st t
def q_Px (D : va_G) (A : Nat → Prop) (xa : Nat → Nat) (ad0 : List Nat) (r : p_R) : String → State → State → Prop := fun E st t =>
  (∃ k, r.1.1 = k + 1 ∧ k < 5 ∧ E = q_xn (k + 1)) ∧ (∃ ad', ad0 <+: ad' ∧ q_W t t.heap A D xa ad' r.2) ∧ va_F A st t
/-- the room for calls d deep -/
def q_dR (d : Nat) (R : Room) : Prop := d + 16 ≤ R.frames ∧ 100 * d + 400 ≤ R.locals
section QN
variable {p : Program} {l : Launch} {e : Env} {R : Room} {s : State} {m : MethodId} {args : Array Value} {below : List Frame} {meth : Method} {c : Code} {H : Heap} {locs : List Loc}
variable {X : p_X} {M : q_M} {D : va_G} {A : Nat → Prop} {xa : Nat → Nat} {nL c0 s0 : Nat} {ad0 ad : List Nat} {μ : p_M} {lo st : List Value} {ls : Array Slot} {sa : List Value} {pc : Nat}
theorem q_F {t : State} (hS : va_S A s.heap H locs) (ht : t.heap = H) : va_F A s t := ⟨by rw [ht]; exact hS.1, fun q h1 h2 => by rw [ht]; exact hS.2.1 q h1 h2⟩
theorem q_ret {i : Instr} {len : Nat} {v : Option Value} (hx : p_ret M i len st = some v) (hd : decode (q_cc M) pc = .ok (i, len)) (C : q_Ctx p s m args meth c M D A) (P : q_Pt s A D xa nL ad0 H locs ad μ lo st ls sa) :
    W p l e R s m args below meth c H locs (mC μ - c0) (mS μ - s0) (vx_MQ below (q_Po D A xa ad0 ((0, v), μ)) (q_Px D A xa ad0 ((0, v), μ)) args s (mC μ - c0) (mS μ - s0) A) (F0 m pc ls sa) := by
  have hX := C.1
  have hb := C.2.1
  have hr := C.2.2.2.1
  have hlocks := C.2.2.2.2.1
  have fin : ∀ (w : Option Value) (t : State), q_ov xa ad v w → t.heap = H → s.WarmedH t.vm → q_Po D A xa ad0 ((0, v), μ) args s (.returned w) t := fun w t hw ht hW => ⟨rfl, ⟨ad, P.2.2.2.2, by rw [ht]; exact q_W_moved hW.alike P.1, w, rfl, hw⟩, q_F P.2.1 ht⟩
  unfold p_ret at hx
  split at hx
  · split at hx
    · rename_i hz
      obtain ⟨z1, z2, z3⟩ := hz
      cases hx
      subst z1 z2
      have hsa : sa = [] := P.2.2.2.1
      subst hsa
      rw [z3] at hr
      exact vx_ret (W.vret hX hb hr (fun t ht hW => fin none t rfl ht hW) P.2.1.2.2 hd hlocks)
    · cases hx
  · split at hx
    · rename_i hlen; subst hlen
      split at hx
      · rename_i x
        obtain ⟨v1, r1, e1, h1, h3⟩ := P.2.2.2.1
        have h1 : v1 = .int x := h1
        have h3 : r1 = [] := h3
        subst e1 h1 h3
        split at hx
        · rename_i hrt
          cases hx
          rw [hrt] at hr
          exact vx_ret (W.iret hX hb hr (fun t ht hW => fin (some (.int x)) t ⟨_, rfl, rfl⟩ ht hW) P.2.1.2.2 hd hlocks)
        · rename_i hrt
          split at hx
          · rename_i hz
            cases hx
            rw [hrt] at hr
            exact vx_ret (W.zret hX hb hr (by rcases hz with h | h <;> subst h <;> decide) (fun t ht hW => fin (some (.int x)) t ⟨_, rfl, rfl⟩ ht hW) P.2.1.2.2 hd hlocks)
          · cases hx
        · cases hx
      · cases hx
    · cases hx
  · split at hx
    · rename_i hlen; subst hlen
      split at hx
      · rename_i a
        obtain ⟨v1, r1, e1, ⟨b, h1, h1'⟩, h3⟩ := P.2.2.2.1
        have h3 : r1 = [] := h3
        subst e1 h1' h3
        split at hx
        · rename_i nm hrt
          cases hx
          rw [hrt] at hr
          exact vx_ret (W.aret hX hb hr (Or.inl ⟨nm, rfl⟩) (Or.inr ⟨b, rfl⟩) (fun t ht hW => fin (some (.ref b)) t ⟨_, rfl, b, h1, rfl⟩ ht hW) P.2.1.2.2 hd hlocks)
        · cases hx
      · cases hx
    · cases hx
  · cases hx
theorem q_lX_4 {o i : Nat} {v : Nat × Nat × Nat} (h : q_lX o i = some v) (h4 : v.1 = 4) : o = 13 ∧ i = 434 ∧ v = (4, 436, 438) := by
  unfold q_lX at h
  split at h
  · cases h; cases h4
  · cases h; cases h4
  · cases h; cases h4
  · rename_i g; cases h; exact ⟨rfl, rfl, rfl⟩
  · cases h; cases h4
  · cases h
theorem q_lX_ok {o i : Nat} {v : Nat × Nat × Nat} (h : q_lX o i = some v) (hn4 : v.1 ≠ 4) : (∀ w ∈ Cond.classLink (q_on o) i (q_xn v.1) :: Cond.initialized (q_xn v.1) :: vx_atS (q_on o) v.2.2 (q_xn v.1) ["java/lang/RuntimeException", "java/lang/Exception"], w ∈ lw_tbl ∧ (goodWord w = true ∨ (q_nw w = true ∧ w.onTables = true)) ∧ vx_ot w = true) ∧ (∃ t, q_lStr o v.2.1 = some t) ∧ (1 ≤ v.1 ∧ v.1 ≤ 5) ∧ Bundle.fit (q_xn v.1) = true := by
  unfold q_lX at h
  split at h
  · cases h; exact ⟨kX1, ⟨_, rfl⟩, by decide, by decide +kernel⟩
  · cases h; exact ⟨kX2, ⟨_, rfl⟩, by decide, by decide +kernel⟩
  · cases h; exact ⟨kX3, ⟨_, rfl⟩, by decide, by decide +kernel⟩
  · cases h; exact absurd rfl hn4
  · cases h; exact ⟨kX5, ⟨_, rfl⟩, by decide, by decide +kernel⟩
  · cases h
theorem q_word {w : Cond} (h : w ∈ lw_tbl ∧ (goodWord w = true ∨ (q_nw w = true ∧ w.onTables = true)) ∧ vx_ot w = true) (C : q_Ctx p s m args meth c M D A) (G : q_G X xa A s) : w.before args s = true := by
  obtain ⟨h1, h2, -⟩ := h
  rcases h2 with h2 | ⟨h2, h3⟩
  · exact C.2.2.2.2.2.2.1 _ (q_tbl_in h1 h2)
  · exact va_Nw.use h3 (G.1 w h1 h2)
/-- the throw of NoSuchElementException, whose constructor is of another form than the kit's row takes: a part of its own -/
def q_T4 (X : p_X) (l : Launch) : Prop := ∀ (p : Program) (e : Env) (R : Room) (s : State) (m : MethodId) (args : Array Value) (below : List Frame) (meth : Method) (c : Code) (H : Heap) (locs : List Loc) (M : q_M) (D : va_G) (A : Nat → Prop) (xa : Nat → Nat) (c0 s0 : Nat) (ad0 ad : List Nat) (μ : p_M) (lo : List Value) (ls : Array Slot) (pc : Nat),
  l.stackTraces = false → q_o M = 13 → q_hh M = [] → decode (q_cc M) pc = .ok (.new 434, 3) → decode (q_cc M) (pc + 3) = .ok (.dup, 1) → decode (q_cc M) (pc + 4) = .ok (.ldc_w 436, 3) → decode (q_cc M) (pc + 7) = .ok (.invokespecial 438, 3) → decode (q_cc M) (pc + 10) = .ok (.athrow, 1) →
  q_Rm R c0 s0 μ (sG μ 1 6) → q_dR 0 R → q_Ctx p s m args meth c M D A → q_G X xa A s → q_Pt s A D xa (q_ml M) ad0 H locs ad μ lo [] ls [] →
  W p l e R s m args below meth c H locs (mC μ - c0) (mS μ - s0) (vx_MQ below (q_Po D A xa ad0 ((4, none), sG μ 1 6)) (q_Px D A xa ad0 ((4, none), sG μ 1 6)) args s (mC (sG μ 1 6) - c0) (mS (sG μ 1 6) - s0) A) (F0 m pc ls [])
theorem q_thr (h4 : q_T4 X l) {i : Instr} {E : Nat} (hl : l.stackTraces = false) (hx : p_thr M i pc st = some E) (hd : decode (q_cc M) pc = .ok (i, 3)) (hRm : q_Rm R c0 s0 μ (sG μ 1 6)) (hdR : q_dR 0 R) (C : q_Ctx p s m args meth c M D A) (G : q_G X xa A s) (P : q_Pt s A D xa (q_ml M) ad0 H locs ad μ lo st ls sa) :
    W p l e R s m args below meth c H locs (mC μ - c0) (mS μ - s0) (vx_MQ below (q_Po D A xa ad0 ((E, none), sG μ 1 6)) (q_Px D A xa ad0 ((E, none), sG μ 1 6)) args s (mC (sG μ 1 6) - c0) (mS (sG μ 1 6) - s0) A) (F0 m pc ls sa) := by
  unfold p_thr at hx
  split at hx
  · rename_i k
    split at hx
    · rename_i v hv
      split at hx
      · rename_i hz
        obtain ⟨z1, z2, z3, z4, z5, z6⟩ := hz
        cases hx
        subst z6
        have hsa : sa = [] := P.2.2.2.1
        subst hsa
        by_cases hn4 : v.1 = 4
        · obtain ⟨g1, g2, g3⟩ := q_lX_4 hv hn4
          subst g2 g3
          exact h4 p e R s m args below meth c H locs M D A xa c0 s0 ad0 ad μ lo ls pc hl g1 z5 hd z1 z2 z3 z4 hRm hdR C G P
        obtain ⟨k1, ⟨t, k2⟩, k3, k4⟩ := q_lX_ok hv hn4
        obtain ⟨r1, r2, r3, r4, r5⟩ := hRm
        have hC : mC (sG μ 1 6) = mC μ + 1 := rfl
        have hSl : mS (sG μ 1 6) = mS μ + 6 := rfl
        obtain ⟨lv, l1, -, -⟩ := P.2.2.1
        refine vx_throwSW (names := ["java/lang/RuntimeException", "java/lang/Exception"]) C.1 C.2.1 hl C.2.2.2.2.2.1 k4 (by intro n hn; simp only [List.mem_cons, List.not_mem_nil, or_false] at hn; rcases hn with h | h <;> subst h <;> decide +kernel) (q_word (k1 _ List.mem_cons_self) C G) (q_word (k1 _ (List.mem_cons_of_mem _ List.mem_cons_self)) C G) (G.2.2.2.1 _ _ _ k2) (fun w hw => q_word (k1 w (List.mem_cons_of_mem _ (List.mem_cons_of_mem _ hw))) C G) (fun w hw => (k1 w hw).2.2) G.2.2.2.2.2.1.1 G.2.2.2.2.2.1.2 P.2.1 (by rw [l1.1, C.2.2.1]) hd z1 z2 z3 z4 ?_ ?_ ?_ (by omega) (by omega) C.2.2.2.2.1 ?_ P.2.1.2.2 (by omega) (by omega)
        · intro x hx
          rw [C.2.2.2.2.2.2.2.1, z5] at hx
          cases hx
        · have := hdR.1
          show 2 + 3 < R.frames
          omega
        · have := hdR.2
          show 0 + (13 * (2 + 1) + 43) ≤ R.locals
          omega
        · intro t hvm hsz hk
          refine ⟨⟨v.1 - 1, by show v.1 = v.1 - 1 + 1; omega, by omega, by rw [show v.1 - 1 + 1 = v.1 by omega]⟩, ⟨ad, P.2.2.2.2, ?_⟩, ⟨Nat.le_trans P.2.1.1 hsz, fun q h1 h2 => (hk q (Nat.lt_of_lt_of_le h1 P.2.1.1)).trans (P.2.1.2.1 q h1 h2)⟩⟩
          obtain ⟨ws, w1, w2, w3, w4, w5, w6, w7⟩ := P.1
          refine ⟨ws, w1.kept (fun j q hj => hk q.1 (w1 j q hj).lt), w2, w3, w4, by show mN μ ≤ mC μ + 1; omega, w6, fun j a en hj => ⟨(w7 j a en hj).1, q_cell_moved hvm (q_cell_same rfl rfl rfl rfl rfl (w7 j a en hj).2)⟩⟩
      · cases hx
    · cases hx
  · cases hx
end QN
