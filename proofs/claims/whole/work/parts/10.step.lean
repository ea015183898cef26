/-! any instruction that calls nothing -/
section QE
variable {p : Program} {l : Launch} {e : Env} {R : Room} {s : State} {m : MethodId} {args : Array Value} {below : List Frame} {meth : Method} {c : Code} {H : Heap} {locs : List Loc} {Q : State → Prop}
variable {X : p_X} {M : q_M} {D : va_G} {A : Nat → Prop} {xa : Nat → Nat} {nL c0 s0 : Nat} {ad0 ad : List Nat} {μ : p_M} {lo st : List Value} {ls : Array Slot} {sa : List Value} {pc : Nat}
set_option maxHeartbeats 4000000 in
set_option maxRecDepth 100000 in
theorem q_exec {i : Instr} {len : Nat} {q : p_S} (hx : p_exec X M i len pc lo st μ = some q) (hd : decode (q_cc M) pc = .ok (i, len)) (C : q_Ctx p s m args meth c M D A) (G : q_G X xa A s) (P : q_Pt s A D xa nL ad0 H locs ad μ lo st ls sa) (K : q_Nx p l e R s m args below meth c Q D A xa nL c0 s0 ad0 q) : W p l e R s m args below meth c H locs (mC μ - c0) (mS μ - s0) Q (F0 m pc ls sa) := by
  have hX := C.1
  have hb := C.2.1
  unfold p_exec at hx
  split at hx
  · split at hx
    · rename_i hlen; subst hlen
      unfold p_nx at hx; cases hx
      exact lv_iconst hX hb hd rfl (q_push (v := .int _) P rfl K)
    · cases hx
  · split at hx
    · rename_i hlen; subst hlen
      unfold p_nx at hx; cases hx
      exact lv_bipush hX hb hd rfl (q_push (v := .int _) P rfl K)
    · cases hx
  · split at hx
    · rename_i hlen; subst hlen
      unfold p_nx at hx; cases hx
      exact lv_sipush hX hb hd rfl (q_push (v := .int _) P rfl K)
    · cases hx
  · split at hx
    · rename_i hlen; subst hlen
      unfold p_nx at hx; cases hx
      exact lv_lconst hX hb hd rfl (q_push (v := .long _) P rfl K)
    · cases hx
  · split at hx
    · rename_i hlen; subst hlen
      exact q_x_ild hx (fun x h k => lv_iload_n hX hb hd rfl h k) P K
    · cases hx
  · split at hx
    · rename_i hlen; subst hlen
      exact q_x_ild hx (fun x h k => lv_iload hX hb hd h k) P K
    · cases hx
  · split at hx
    · rename_i hlen; subst hlen
      exact q_x_ald hx (fun x h k => lv_aload_n hX hb hd rfl h k) P K
    · cases hx
  · split at hx
    · rename_i hlen; subst hlen
      exact q_x_ald hx (fun x h k => lv_aload hX hb hd h k) P K
    · cases hx
  · split at hx
    · rename_i hlen; subst hlen
      exact q_x_ist hx (fun x rest lv h hk k => lv_istore_n hX hb hd rfl h hk rfl k) P K
    · cases hx
  · split at hx
    · rename_i hlen; subst hlen
      exact q_x_ist hx (fun x rest lv h hk k => lv_istore hX hb hd h hk rfl k) P K
    · cases hx
  · split at hx
    · rename_i hlen; subst hlen
      exact q_x_ast hx (fun x rest lv h hk k => lv_astore_n hX hb hd rfl h hk rfl k) P K
    · cases hx
  · split at hx
    · rename_i hlen; subst hlen
      exact q_x_ast hx (fun x rest lv h hk k => lv_astore hX hb hd h hk rfl k) P K
    · cases hx
  · split at hx
    · rename_i hlen; subst hlen
      exact q_x_iinc hx hd C P K
    · cases hx
  · split at hx
    · rename_i hlen; subst hlen
      exact q_x_i2 (fun x y rest k => lv_iadd hX hb hd k) hx P K
    · cases hx
  · split at hx
    · rename_i hlen; subst hlen
      exact q_x_i2 (fun x y rest k => lv_isub hX hb hd k) hx P K
    · cases hx
  · split at hx
    · rename_i hlen; subst hlen
      exact q_x_i2 (fun x y rest k => lv_imul hX hb hd k) hx P K
    · cases hx
  · split at hx
    · rename_i hlen; subst hlen
      exact q_x_i2 (fun x y rest k => lv_iand hX hb hd k) hx P K
    · cases hx
  · split at hx
    · rename_i hlen; subst hlen
      exact q_x_i2 (fun x y rest k => lv_ior hX hb hd k) hx P K
    · cases hx
  · split at hx
    · rename_i hlen; subst hlen
      exact q_x_i2 (fun x y rest k => lv_ixor hX hb hd k) hx P K
    · cases hx
  · split at hx
    · rename_i hlen; subst hlen
      exact q_x_i2 (fun x y rest k => lv_ishl hX hb hd k) hx P K
    · cases hx
  · split at hx
    · rename_i hlen; subst hlen
      exact q_x_i2 (fun x y rest k => lv_ishr hX hb hd k) hx P K
    · cases hx
  · split at hx
    · rename_i hlen; subst hlen
      exact q_x_i2 (fun x y rest k => lv_iushr hX hb hd rfl k) hx P K
    · cases hx
  · split at hx
    · rename_i hlen; subst hlen
      split at hx
      · rename_i y x r
        split at hx
        · cases hx
        · rename_i hy
          cases hx
          obtain ⟨v1, r1, e1, h1, v2, r2, e2, h2, h3⟩ := P.2.2.2.1
          have h1 : v1 = .int y := h1
          have h2 : v2 = .int x := h2
          subst e1 h1 e2 h2
          exact lv_idiv hX hb hd hy (q_stk (st' := .int (x / y) :: r) P ⟨_, _, rfl, rfl, h3⟩ K)
      · cases hx
    · cases hx
  · split at hx
    · rename_i hlen; subst hlen
      split at hx
      · rename_i y x r
        split at hx
        · cases hx
        · rename_i hy
          cases hx
          obtain ⟨v1, r1, e1, h1, v2, r2, e2, h2, h3⟩ := P.2.2.2.1
          have h1 : v1 = .int y := h1
          have h2 : v2 = .int x := h2
          subst e1 h1 e2 h2
          exact lv_irem hX hb hd hy (q_stk (st' := .int (x - x / y * y) :: r) P ⟨_, _, rfl, rfl, h3⟩ K)
      · cases hx
    · cases hx
  · split at hx
    · rename_i hlen; subst hlen
      exact q_x_l2 (fun x y rest k => lv_ladd hX hb hd k) hx P K
    · cases hx
  · split at hx
    · rename_i hlen; subst hlen
      exact q_x_l2 (fun x y rest k => lv_lsub hX hb hd k) hx P K
    · cases hx
  · split at hx
    · rename_i hlen; subst hlen
      exact q_x_l2 (fun x y rest k => lv_lmul hX hb hd k) hx P K
    · cases hx
  · split at hx
    · rename_i hlen; subst hlen
      split at hx
      · rename_i y x r
        split at hx
        · cases hx
        · rename_i hy
          cases hx
          obtain ⟨v1, r1, e1, h1, v2, r2, e2, h2, h3⟩ := P.2.2.2.1
          have h1 : v1 = .long y := h1
          have h2 : v2 = .long x := h2
          subst e1 h1 e2 h2
          exact lv_ldiv hX hb hd hy (q_stk (st' := .long (x / y) :: r) P ⟨_, _, rfl, rfl, h3⟩ K)
      · cases hx
    · cases hx
  · split at hx
    · rename_i hlen; subst hlen
      split at hx
      · rename_i y x r
        cases hx
        obtain ⟨v1, r1, e1, h1, v2, r2, e2, h2, h3⟩ := P.2.2.2.1
        have h1 : v1 = .long y := h1
        have h2 : v2 = .long x := h2
        subst e1 h1 e2 h2
        exact W.lcmp hX hb hd (q_stk (st' := .int (lg_cmp x y) :: r) P ⟨_, _, rfl, rfl, h3⟩ K)
      · cases hx
    · cases hx
  · split at hx
    · rename_i hlen; subst hlen
      split at hx
      · rename_i x r
        cases hx
        obtain ⟨v1, r1, e1, h1, h3⟩ := P.2.2.2.1
        have h1 : v1 = .int x := h1
        subst e1 h1
        exact lv_i2l hX hb hd rfl (q_stk (st' := .long (x.toInt64) :: r) P ⟨_, _, rfl, rfl, h3⟩ K)
      · cases hx
    · cases hx
  · split at hx
    · rename_i hlen; subst hlen
      split at hx
      · rename_i x r
        cases hx
        obtain ⟨v1, r1, e1, h1, h3⟩ := P.2.2.2.1
        have h1 : v1 = .long x := h1
        subst e1 h1
        exact lv_l2i hX hb hd rfl (q_stk (st' := .int (x.toInt32) :: r) P ⟨_, _, rfl, rfl, h3⟩ K)
      · cases hx
    · cases hx
  · split at hx
    · rename_i hlen; subst hlen
      split at hx
      · rename_i x r
        cases hx
        obtain ⟨v1, r1, e1, h1, h3⟩ := P.2.2.2.1
        have h1 : v1 = .int x := h1
        subst e1 h1
        exact lv_i2b hX hb hd rfl (q_stk (st' := .int (x.toInt8.toInt32) :: r) P ⟨_, _, rfl, rfl, h3⟩ K)
      · cases hx
    · cases hx
  · split at hx
    · rename_i hlen; subst hlen
      split at hx
      · rename_i x r
        cases hx
        obtain ⟨v1, r1, e1, h1, h3⟩ := P.2.2.2.1
        have h1 : v1 = .int x := h1
        subst e1 h1
        exact lv_dup hX hb hd rfl (q_stk (st' := .int x :: .int x :: r) P ⟨_, _, rfl, rfl, _, _, rfl, rfl, h3⟩ K)
      · rename_i x r
        cases hx
        obtain ⟨v1, r1, e1, ⟨b, h1, h1'⟩, h3⟩ := P.2.2.2.1
        subst e1 h1'
        exact lv_dup hX hb hd rfl (q_stk (st' := .ref x :: .ref x :: r) P ⟨_, _, rfl, ⟨b, h1, rfl⟩, _, _, rfl, ⟨b, h1, rfl⟩, h3⟩ K)
      · cases hx
    · cases hx
  · split at hx
    · rename_i hlen; subst hlen
      split at hx
      · rename_i x y r
        cases hx
        obtain ⟨v1, r1, e1, h1, v2, r2, e2, ⟨b, h2, h2'⟩, h3⟩ := P.2.2.2.1
        have h1 : v1 = .int x := h1
        subst e1 h1 e2 h2'
        exact lv_dup_x1 hX hb hd rfl rfl (q_stk (st' := .int x :: .ref y :: .int x :: r) P ⟨_, _, rfl, rfl, _, _, rfl, ⟨b, h2, rfl⟩, _, _, rfl, rfl, h3⟩ K)
      · cases hx
    · cases hx
  · split at hx
    · rename_i hlen; subst hlen
      split at hx
      · rename_i x y r
        cases hx
        obtain ⟨v1, r1, e1, h1, v2, r2, e2, ⟨b, h2, h2'⟩, h3⟩ := P.2.2.2.1
        have h1 : v1 = .int x := h1
        subst e1 h1 e2 h2'
        exact lv_dup2_11 hX hb hd rfl rfl (q_stk (st' := .int x :: .ref y :: .int x :: .ref y :: r) P ⟨_, _, rfl, rfl, _, _, rfl, ⟨b, h2, rfl⟩, _, _, rfl, rfl, _, _, rfl, ⟨b, h2, rfl⟩, h3⟩ K)
      · cases hx
    · cases hx
  · split at hx
    · rename_i hlen; subst hlen
      split at hx
      · rename_i x r
        cases hx
        obtain ⟨v1, r1, e1, h1, h3⟩ := P.2.2.2.1
        have h1 : v1 = .int x := h1
        subst e1 h1
        exact lv_pop hX hb hd rfl (q_stk P h3 K)
      · rename_i x r
        cases hx
        obtain ⟨v1, r1, e1, ⟨b, h1, h1'⟩, h3⟩ := P.2.2.2.1
        subst e1 h1'
        exact lv_pop hX hb hd rfl (q_stk P h3 K)
      · cases hx
    · cases hx
  · split at hx
    · rename_i hlen; subst hlen
      exact q_x_if hx hd C P K
    · cases hx
  · split at hx
    · rename_i hlen; subst hlen
      exact q_x_icmp hx hd C P K
    · cases hx
  · split at hx
    · rename_i hlen; subst hlen
      exact q_x_go hx (fun tgt ht k => lv_goto hX hb hd ht k) P P.2.2.2.1 K
    · cases hx
  · exact q_x_tsw hx hd C P K
  · exact q_x_lsw hx hd C P K
  · split at hx
    · rename_i hlen; subst hlen
      exact q_x_iald (Or.inl ⟨rfl, rfl⟩) hx hd C G P K
    · cases hx
  · split at hx
    · rename_i hlen; subst hlen
      exact q_x_iald (Or.inr ⟨rfl, rfl⟩) hx hd C G P K
    · cases hx
  · split at hx
    · rename_i hlen; subst hlen
      exact q_x_iast (Or.inl ⟨rfl, rfl⟩) hx hd C P K
    · cases hx
  · split at hx
    · rename_i hlen; subst hlen
      exact q_x_iast (Or.inr ⟨rfl, rfl⟩) hx hd C P K
    · cases hx
  · split at hx
    · rename_i hlen; subst hlen
      exact q_x_lald hx hd C P K
    · cases hx
  · split at hx
    · rename_i hlen; subst hlen
      exact q_x_last hx hd C P K
    · cases hx
  · split at hx
    · rename_i hlen; subst hlen
      exact q_x_aald hx hd C P K
    · cases hx
  · split at hx
    · rename_i hlen; subst hlen
      exact q_x_aast hx hd C P K
    · cases hx
  · split at hx
    · rename_i hlen; subst hlen
      exact q_x_alen hx hd C G P K
    · cases hx
  · split at hx
    · rename_i hlen; subst hlen
      exact q_x_getf hx hd C G P K
    · cases hx
  · split at hx
    · rename_i hlen; subst hlen
      exact q_x_putf hx hd C G P K
    · cases hx
  · cases hx
end QE
