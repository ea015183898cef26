/-! a call of a method of ours -/
def q_rm (d mc ms : Nat) : Room := { frames := d + 16, cells := mc, slots := ms, locals := 100 * d + 400 }
def q_Pc (X : p_X) (D : va_G) (A : Nat → Prop) (xa : Nat → Nat) (ad : List Nat) (μ : p_M) (aA : List Value) : Array Value → State → Prop := va_Pc aA (fun U => q_W U U.heap A D xa ad μ ∧ q_G X xa A U ∧ va_K D vwCl [] U ∧ ∀ q, U.heap.size ≤ q → A q)
theorem q_Pc_blind {X : p_X} {D : va_G} {A : Nat → Prop} {xa : Nat → Nat} {ad : List Nat} {μ : p_M} {aA : List Value} : FrameBlind (q_Pc X D A xa ad μ aA) := fun a U g mk h =>
  ⟨h.1, q_W_moved (u := U) (U := U.calling g mk a) (Vm.Alike.refl U.vm) h.2.1, q_G_moved (s := U) (U := U.calling g mk a) (State.WarmedH.refl U) (fun _ _ _ => rfl) h.2.2.1, va_K.moved (u := U) (U := U.calling g mk a) (Vm.Alike.refl U.vm) h.2.2.2.1, h.2.2.2.2⟩
/-- THE PURE MACHINE IS SOUND for n steps -/
def q_Snd (X : p_X) (l : Launch) (n : Nat) : Prop := ∀ (d : Nat) (M : q_M) (pc : Nat) (lo st : List Value) (μ : p_M) (r : p_R), p_run X n d M pc lo st μ = some r → (mC μ ≤ mC r.2 ∧ mS μ ≤ mS r.2) ∧
  ∀ (p : Program) (e : Env) (R : Room) (s : State) (m : MethodId) (args : Array Value) (below : List Frame) (meth : Method) (c : Code) (D : va_G) (A : Nat → Prop) (xa : Nat → Nat) (c0 s0 : Nat) (ad0 : List Nat) (H : Heap) (locs : List Loc) (ad : List Nat) (ls : Array Slot) (sa : List Value),
  q_Ctx p s m args meth c M D A → q_G X xa A s → q_Pt s A D xa (q_ml M) ad0 H locs ad μ lo st ls sa → c0 ≤ mC μ → s0 ≤ mS μ → mC r.2 ≤ c0 + R.cells → mS r.2 ≤ s0 + R.slots → mC r.2 < p_E → q_dR d R →
  W p l e R s m args below meth c H locs (mC μ - c0) (mS μ - s0) (vx_MQ below (q_Po D A xa ad0 r) (q_Px D A xa ad0 r) args s (mC r.2 - c0) (mS r.2 - s0) A) (F0 m pc ls sa)
section QC
variable {X : p_X} {l : Launch} {D : va_G} {A : Nat → Prop} {xa : Nat → Nat} {ad : List Nat} {μ : p_M} {n d : Nat} {M' : q_M} {as aA : List Value} {r1 : p_R}
theorem q_vmet (ih : q_Snd X l n) (hrun : p_run X n d M' 0 (p_loc M' as) [] μ = some r1) {k : Nat} (ok : q_okY k M') (hst : q_st xa ad as aA) (hc : ∀ v ∈ as, v.category = 1) (hlen : as.length = q_na M') (hE : mC r1.2 < p_E) :
    vx_Met l (q_y M') (q_cw M' :: q_tbl) (q_rm d (mC r1.2 - mC μ) (mS r1.2 - mS μ)) (q_Pc X D A xa ad μ aA) (q_Po D A xa ad r1) (q_Px D A xa ad r1) (mC r1.2 - mC μ) (mS r1.2 - mS μ) A := by
  obtain ⟨-, -, -, -, -, -, o7, -, -, o10, -, -, o13, -⟩ := ok
  obtain ⟨⟨m1, m2⟩, ih⟩ := ih d M' 0 (p_loc M' as) [] μ r1 hrun
  have body : ∀ (p : Program) (e : Env) (s : State) (m : MethodId) (args : Array Value) (below : List Frame) (meth : Method) (c : Code), p.tables.exec = Jvm.exec → c.code = q_cc M' → c.maxLocals = q_ml M' → meth.sig.returnType = q_rt M' → meth.locks = false → s.vm.findClass (q_y M').cls = some m.cls → (∀ w ∈ q_tbl, w.before args s = true) → c.exceptionTable.toList = tableOf (q_hh M') → meth.name = (q_y M').name → q_Pc X D A xa ad μ aA args s →
      W p l e (q_rm d (mC r1.2 - mC μ) (mS r1.2 - mS μ)) s m args below meth c s.heap [] 0 0 (vx_MQ below (q_Po D A xa ad r1) (q_Px D A xa ad r1) args s (mC r1.2 - mC μ) (mS r1.2 - mS μ) A) (entryFrame m args (q_ml M')) := by
    intro p e s m args below meth c b1 b2 b3 b4 b5 b6 b7 b8 b9 hv
    obtain ⟨e0, hW, hG, hK, hA⟩ := hv
    subst e0
    rw [lg_entry_eq]
    have := ih p e (q_rm d (mC r1.2 - mC μ) (mS r1.2 - mS μ)) s m aA.toArray below meth c D A xa (mC μ) (mS μ) ad s.heap [] ad _ [] ⟨b1, b2, b3, b4, b5, by rw [← o7]; exact b6, b7, b8, b9, hK, hA⟩ hG ⟨hW, va_S.rf, q_lo_entry hst hc (by rw [hlen]; exact o13), rfl, List.prefix_refl _⟩ (Nat.le_refl _) (Nat.le_refl _) (by show mC r1.2 ≤ mC μ + (mC r1.2 - mC μ); omega) (by show mS r1.2 ≤ mS μ + (mS r1.2 - mS μ); omega) hE ⟨Nat.le_refl _, Nat.le_refl _⟩
    rw [Nat.sub_self, Nat.sub_self] at this
    exact this
  by_cases hh : q_hh M' = []
  · have hcw : q_cw M' = .code (q_y M') (q_cc M') (q_ml M') (q_rt M') := by unfold q_cw; rw [if_pos hh]
    rw [hcw]
    refine vx_ofW (cc := q_cc M') (maxL := q_ml M') (ret := q_rt M') o10 rfl (fun p e s m args below meth c s₁ B hml ht hv => ?_)
    have hts := atoms_spec (ws := Cond.code (q_y M') (q_cc M') (q_ml M') (q_rt M') :: q_tbl) B.pre
    refine body p e s m args below meth c B.exec B.bytes hml B.returns B.notSynchronized (findClass_of_methodNamed B.named) (fun w hw => hts w (List.mem_cons_of_mem _ hw)) ?_ (name_of_methodNamed B.named B.method).1 hv
    rw [hh]
    exact List.eq_nil_iff_forall_not_mem.mpr (fun x hx => ht x hx)
  · have hcw : q_cw M' = .codeWith (q_y M') (q_cc M') (q_ml M') (q_rt M') (q_hh M') := by unfold q_cw; rw [if_neg hh]
    rw [hcw]
    refine vx_ofWH (cc := q_cc M') (maxL := q_ml M') (ret := q_rt M') (hh := q_hh M') o10 rfl (fun p e s m args below meth c s₁ B hml hv => ?_)
    have hts := atoms_spec (ws := Cond.codeWith (q_y M') (q_cc M') (q_ml M') (q_rt M') (q_hh M') :: q_tbl) B.pre
    exact body p e s m args below meth c B.exec B.bytes hml B.returns B.notSynchronized (findClass_of_methodNamed B.named) (fun w hw => hts w (List.mem_cons_of_mem _ hw)) (vx_table (x := q_y M') B (hts _ List.mem_cons_self)) (name_of_methodNamed B.named B.method).1 hv
theorem q_met0 {y : MethodName} {ws : List Cond} {rm : Room} {Pc : Array Value → State → Prop} {mc ms : Nat} (h : vx_Met l y ws rm Pc (q_Po D A xa ad r1) (q_Px D A xa ad r1) mc ms A) (h0 : r1.1.1 = 0) : Met l y ws rm Pc (q_Po D A xa ad r1) mc ms A := by
  intro p e ha hc hk s m args below hf hs hP hK
  obtain ⟨k, o, h1, h2, h3, hQ⟩ := h p e ha hc hk s m args below hf hs hP hK
  rcases hQ with hQ | ⟨q, ho, E, ce, L, hx, -⟩
  · exact ⟨k, o, h1, h2, h3, hQ⟩
  · obtain ⟨⟨k, hk, -⟩, -⟩ := hx
    omega
theorem q_GI {w : Cond} (h : w ∈ lw_tbl) (g : goodWord w = true) : GoodIn q_tbl (w :: q_tbl) := by
  intro x hx
  rcases List.mem_cons.mp hx with e | e
  · subst e; exact ⟨q_tbl_in h g, good_of_word g⟩
  · exact ⟨e, good_of_word (List.mem_filter.mp e).2⟩
theorem q_cw_good (M : q_M) : goodWord (q_cw M) = true := by
  unfold q_cw
  split <;> rfl
end QC
section QA
variable {p : Program} {l : Launch} {e : Env} {R : Room} {s : State} {m : MethodId} {args : Array Value} {below : List Frame} {meth : Method} {c : Code} {H : Heap} {locs : List Loc} {Q : State → Prop}
variable {X : p_X} {M : q_M} {D : va_G} {A : Nat → Prop} {xa : Nat → Nat} {nL c0 s0 : Nat} {ad0 ad : List Nat} {μ : p_M} {lo st : List Value} {ls : Array Slot} {sa : List Value} {pc : Nat}
variable {cells slots mc ms : Nat} {st0 rest : List Value} {r1 : p_R} {a : Array Value}
theorem q_Sapp {st₀ t T' : State} {L : List Loc} (hS : va_S A s.heap H locs) (h0 : st₀.heap = H) (e1 : T'.heap = t.heap) (hF : va_F A st₀ t) (hL : ∀ q ∈ L, A q.base) : va_S A s.heap T'.heap (locs ++ L) := by
  obtain ⟨f1, f2⟩ := hF
  rw [h0] at f1 f2
  refine ⟨Nat.le_trans hS.1 (by rw [e1]; exact f1), fun q h1 h2 => ?_, fun q hq => ?_⟩
  · rw [e1, f2 q (Nat.lt_of_lt_of_le h1 hS.1) h2]
    exact hS.2.1 q h1 h2
  · rcases List.mem_append.mp hq with h | h
    · exact hS.2.2 q h
    · exact hL q h
/-- behind a call that returned -/
theorem q_after (hr : va_Run p l e R s m args below meth c H locs cells slots mc ms (F0 m pc ls st0) rest (q_Po D A xa ad r1 a) A) (hS : va_S A s.heap H locs)
    (kk : ∀ (v : Option Value) (H1 : Heap) (locs1 : List Loc) (ad' : List Nat), ad <+: ad' → q_W s H1 A D xa ad' r1.2 → q_ov xa ad' r1.1.2 v → va_S A s.heap H1 locs1 → W p l e R s m args below meth c H1 locs1 (cells + mc) (slots + ms) Q (F0 m (pc + 3) ls (v.toList ++ rest))) : W p l e R s m args below meth c H locs cells slots Q (F0 m pc ls st0) := by
  intro T hT Y
  obtain ⟨v, st₀, t, T', L, h0, Y', hL, e1, e2, ⟨-, ⟨ad', g1, g2, v', g3, g4⟩, hF⟩, sg⟩ := hr T hT Y
  cases g3
  have hvm : t.vm.Alike s.vm := by rw [← e2]; exact Y'.warmed.alike.symm
  have g2' : q_W s T'.heap A D xa ad' r1.2 := by rw [e1]; exact q_W_moved hvm g2
  obtain ⟨t2, a1, b1⟩ := kk v T'.heap (locs ++ L) ad' g1 g2' g4 (q_Sapp hS h0 e1 hF hL) T' rfl Y'
  exact ⟨t2, sg t2 a1, b1⟩
/-- behind a call that threw -/
theorem q_afterX (hr : vx_Run p l e R s m args below meth c H locs cells slots mc ms (F0 m pc ls st0) rest (q_Po D A xa ad r1 a) (q_Px D A xa ad r1) A) (hS : va_S A s.heap H locs) (hne : r1.1.1 ≠ 0)
    (kx : ∀ (k : Nat) (ce : Cell) (q : Addr) (H1 : Heap) (locs1 : List Loc) (ad' : List Nat), r1.1.1 = k + 1 → k < 5 → ad <+: ad' → q_W s H1 A D xa ad' r1.2 → va_S A s.heap H1 locs1 → H1[q]? = some ce → ce.vm = .none → s.vm.findClass (q_xn (k + 1)) = some ce.cls → vx_W p l e R s m args below meth c H1 locs1 (cells + mc) (slots + ms) Q (F0 m pc ls rest) q) : W p l e R s m args below meth c H locs cells slots Q (F0 m pc ls st0) := by
  intro T hT Y
  rcases hr T hT Y with ⟨v, st₀, t, T', L, h0, Y', hL, e1, e2, ⟨g0, -⟩, sg⟩ | ⟨q, st₀, t, T', L, E, ce, h0, Y', hL, e1, e2, ⟨⟨k, g1, g2, g3⟩, ⟨ad', g4, g5⟩, hF⟩, hce, hcv, hcl, sg⟩
  · exact absurd g0 hne
  · subst g3
    have hvm : t.vm.Alike s.vm := by rw [← e2]; exact Y'.warmed.alike.symm
    have g5' : q_W s T'.heap A D xa ad' r1.2 := by rw [e1]; exact q_W_moved hvm g5
    obtain ⟨t2, a1, b1⟩ := kx k ce q T'.heap (locs ++ L) ad' g1 g2 g4 g5' (q_Sapp hS h0 e1 hF hL) (by rw [e1]; exact hce) hcv hcl T' rfl Y'
    exact ⟨t2, sg.trans a1, b1⟩
end QA
