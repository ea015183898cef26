/-! the pure machine is sound -/
/-- what is owed for the primitives: a part of its own -/
def q_Pr (X : p_X) (l : Launch) : Prop := ∀ (p : Program) (e : Env) (R : Room) (s : State) (m : MethodId) (args : Array Value) (below : List Frame) (meth : Method) (c : Code) (Q : State → Prop) (H : Heap) (locs : List Loc) (M : q_M) (D : va_G) (A : Nat → Prop) (xa : Nat → Nat) (c0 s0 : Nat) (ad0 ad : List Nat) (μ μ1 : p_M) (lo st : List Value) (ls : Array Slot) (sa : List Value) (pc k : Nat) (i : Instr) (as rest : List Value) (v : Option Value),
  p_callP M i 3 st = some (k, as, rest) → p_prim X k as μ = some (v, μ1) → decode (q_cc M) pc = .ok (i, 3) → q_Rm R c0 s0 μ μ1 → q_dR 0 R → q_Ctx p s m args meth c M D A → q_G X xa A s → q_Pt s A D xa (q_ml M) ad0 H locs ad μ lo st ls sa →
  q_Nx p l e R s m args below meth c Q D A xa (q_ml M) c0 s0 ad0 (pc + 3, lo, v.toList ++ rest, μ1) → W p l e R s m args below meth c H locs (mC μ - c0) (mS μ - s0) Q (F0 m pc ls sa)
set_option maxRecDepth 20000 in
theorem q_room {d ml : Nat} {R : Room} (h : q_dR (d + 1) R) (hm : ml ≤ 40) : d + 16 + 1 ≤ R.frames ∧ 8 + (ml + 11) + (100 * d + 400) ≤ R.locals := by
  obtain ⟨h1, h2⟩ := h
  rw [Nat.mul_add] at h2
  exact ⟨by omega, by omega⟩
theorem q_lM_in {o i : Nat} {f : q_L} (h : q_lM o i = some f) : q_okM f ∧ f.1 = o ∧ f.2.1 = i := by
  unfold q_lM at h
  have h1 := List.find?_some h
  have h2 := List.mem_of_find?_eq_some h
  simp only [Bool.and_eq_true, beq_iff_eq] at h1
  exact ⟨kMo o f h2, h1.1, h1.2⟩
/-- the three forms of a call -/
theorem q_call_in {M : q_M} {i : Instr} {st : List Value} {μ : p_M} {f : q_L} {as rest : List Value} (h : p_call M i 3 st μ = some (f, as, rest)) :
    ∃ k, q_lM (q_o M) k = some f ∧ p_pop (q_na f.2.2.2.2) st = some (as, rest) ∧ ((i = .invokestatic k ∧ f.2.2.1 = 1) ∨ (i = .invokespecial k ∧ f.2.2.1 = 2 ∧ ∃ a t, as = .ref a :: t ∧ a < mN μ ∧ mK μ a = q_o f.2.2.2.2) ∨ (i = .invokevirtual k ∧ f.2.2.1 = 0 ∧ ∃ a t, as = .ref a :: t ∧ a < mN μ ∧ mK μ a = q_o f.2.2.2.2 ∧ q_o f.2.2.2.2 < 15)) := by
  unfold p_call at h
  rw [if_pos rfl] at h
  split at h
  · rename_i k
    split at h
    · rename_i g hg
      split at h
      · rename_i hk
        cases hp : p_pop (q_na g.2.2.2.2) st with
        | none => rw [hp] at h; cases h
        | some r =>
          rw [hp] at h
          cases h
          exact ⟨k, hg, hp, Or.inl ⟨rfl, hk⟩⟩
      · cases h
    · cases h
  · rename_i k
    split at h
    · rename_i g hg
      split at h
      · rename_i hk
        split at h
        · rename_i a t r hp
          split at h
          · rename_i hz
            cases h
            exact ⟨k, hg, hp, Or.inr (Or.inl ⟨rfl, hk, a, t, rfl, hz⟩)⟩
          · cases h
        · cases h
      · cases h
    · cases h
  · rename_i k
    split at h
    · rename_i g hg
      split at h
      · rename_i hk
        split at h
        · rename_i a t r hp
          split at h
          · rename_i hz
            cases h
            exact ⟨k, hg, hp, Or.inr (Or.inr ⟨rfl, hk, a, t, rfl, hz⟩)⟩
          · cases h
        · cases h
      · cases h
    · cases h
  · cases h
section QS
variable {p : Program} {l : Launch} {e : Env} {R : Room} {s : State} {m : MethodId} {args : Array Value} {below : List Frame} {meth : Method} {c : Code} {H : Heap} {locs : List Loc} {Q : State → Prop}
variable {X : p_X} {M : q_M} {D : va_G} {A : Nat → Prop} {xa : Nat → Nat} {nL c0 s0 : Nat} {ad0 ad : List Nat} {μ : p_M} {lo st : List Value} {ls : Array Slot} {sa : List Value} {pc n d : Nat}
theorem q_Pc_at (C : q_Ctx p s m args meth c M D A) (G : q_G X xa A s) (P : q_Pt s A D xa nL ad0 H locs ad μ lo st ls sa) {aA : List Value} (U : State) (hU : U.heap = H) (hW : s.WarmedH U.vm) : q_Pc X D A xa ad μ aA aA.toArray U := by
  refine ⟨rfl, by rw [hU]; exact q_W_moved hW.alike P.1, q_G_moved hW (fun a h1 h2 => by rw [hU]; exact P.2.1.2.1 a h1 h2) G, va_K.moved hW.alike C.2.2.2.2.2.2.2.2.2.1, fun q hq => ?_⟩
  rw [hU] at hq
  exact C.2.2.2.2.2.2.2.2.2.2 q (Nat.le_trans P.2.1.1 hq)
theorem q_callB {f : q_L} {k : Nat} {mc ms na : Nat} (ok : q_okM f) (e1 : f.1 = q_o M) (e2 : f.2.1 = k) (hnest : f.2.2.2.1 = false) (hh : q_hh f.2.2.2.2 = []) (hdR : q_dR (d + 1) R) (C : q_Ctx p s m args meth c M D A) (hna : (parseMethodDescriptor (q_y f.2.2.2.2).desc).map (fun d => d.parameters.length) = some na) :
    CallB R s args (q_on (q_o M)) k (q_y f.2.2.2.2) (q_cc f.2.2.2.2) (q_ml f.2.2.2.2) (q_rt f.2.2.2.2) (q_cw f.2.2.2.2 :: q_tbl) (q_rm d mc ms) mc ms na := by
  obtain ⟨k1, k2, ok⟩ := ok
  rw [e1, e2] at k1
  obtain ⟨o1, o2, o3, o4, o5, o6, o7, o8, o9, o10, o11, o12, o13, o14⟩ := ok
  have hcw : q_cw f.2.2.2.2 = .code (q_y f.2.2.2.2) (q_cc f.2.2.2.2) (q_ml f.2.2.2.2) (q_rt f.2.2.2.2) := by unfold q_cw; rw [if_pos hh]
  refine callB_of (ws' := q_tbl) na C.2.2.2.2.2.2.1 (q_GI o1 (q_cw_good _)) (by rw [hcw]) rfl rfl (C.2.2.2.2.2.2.1 _ (q_tbl_in o2 rfl)) (C.2.2.2.2.2.2.1 _ (q_tbl_in (k1 hnest) rfl)) ⟨o8, o9, hna⟩ (q_room hdR o14)
/-- the run of a call that returns -/
theorem q_runR (ih : q_Snd X l n) {i : Instr} {f : q_L} {as rest : List Value} {r1 : p_R} (hx : p_call M i 3 st μ = some (f, as, rest)) (hcond : f.2.2.1 = 1 ∨ q_hh f.2.2.2.2 = []) (hrun : p_run X n d f.2.2.2.2 0 (p_loc f.2.2.2.2 as) [] μ = some r1) (h0 : r1.1.1 = 0) (hd : decode (q_cc M) pc = .ok (i, 3)) (hE : mC r1.2 < p_E) (hdR : q_dR (d + 1) R)
    (hf : mC μ - c0 + (mC r1.2 - mC μ) ≤ R.cells ∧ mS μ - s0 + (mS r1.2 - mS μ) ≤ R.slots) (C : q_Ctx p s m args meth c M D A) (G : q_G X xa A s) (P : q_Pt s A D xa (q_ml M) ad0 H locs ad μ lo st ls sa) :
    ∃ (aA rA : List Value), q_st xa ad rest rA ∧ va_Run p l e R s m args below meth c H locs (mC μ - c0) (mS μ - s0) (mC r1.2 - mC μ) (mS r1.2 - mS μ) (F0 m pc ls sa) rA (q_Po D A xa ad r1 aA.toArray) A := by
  obtain ⟨k, hl, hp, hkind⟩ := q_call_in hx
  obtain ⟨ok, e1, e2⟩ := q_lM_in hl
  obtain ⟨aA, rA, g1, g2, g3, g4, g5, g6⟩ := q_pop hp P.2.2.2.1
  have okY := ok.2.2
  have hM := q_met0 (q_vmet (D := D) (A := A) ih hrun okY g2 g6 g4 hE) h0
  have hsize : ls.size = q_ml M := by obtain ⟨lv, l1, -⟩ := P.2.2.1; exact l1.1
  have S : CallFix p m c (q_cc M) (q_ml M) s args q_tbl (q_on (q_o M)) := ⟨C.1, C.2.1, C.2.2.1, C.2.2.2.2.2.1, C.2.2.2.2.2.2.1⟩
  obtain ⟨o1, o2, o3, o4, o5, o6, o7, o8, o9, o10, o11, o12, o13, o14⟩ := okY
  have hgood : ∀ w, w ∈ lw_tbl → goodWord w = true → w.before args s = true := fun w h1 h2 => C.2.2.2.2.2.2.1 _ (q_tbl_in h1 h2)
  refine ⟨aA, rA, g3, ?_⟩
  rcases hkind with ⟨hi, hk⟩ | ⟨hi, hk, a, t, hat, ha, hak⟩ | ⟨hi, hk, a, t, hat, ha, hak, hlt⟩
  · subst hi
    have hnest : f.2.2.2.1 = false := by
      cases hb : f.2.2.2.1 with
      | false => rfl
      | true => have := (ok.2.1 hb).1; omega
    rw [hk, if_pos rfl] at o11
    by_cases hh : q_hh f.2.2.2.2 = []
    · exact va_runS S hM ⟨q_callB ok e1 e2 hnest hh hdR C o11, hgood _ (o3 hk) rfl⟩ ⟨q_Pc_blind, fun U hU hW => q_Pc_at C G P U hU hW⟩ rfl (by rw [q_st_len g2, g4]; rfl) hsize g1 (lv_room g5) hd hf
    · have hcw : q_cw f.2.2.2.2 = .codeWith (q_y f.2.2.2.2) (q_cc f.2.2.2.2) (q_ml f.2.2.2.2) (q_rt f.2.2.2.2) (q_hh f.2.2.2.2) := by unfold q_cw; rw [if_neg hh]
      have hGI := q_GI o1 (q_cw_good f.2.2.2.2)
      rw [hcw] at hM hGI
      have hlk := ok.1 hnest
      rw [e1, e2] at hlk
      refine vx_runSW S hM (vx_cwSW (n := q_na f.2.2.2.2 - 0) C.2.2.2.2.2.2.1 (fun w hw => ?_) rfl rfl rfl ⟨o8, o9, o11⟩ (q_room hdR o14)) ⟨q_Pc_blind, fun U hU hW => q_Pc_at C G P U hU hW⟩ rfl (by rw [q_st_len g2, g4]; rfl) hsize g1 (lv_room g5) hd hf
      · unfold va_wsS at hw
        rcases List.mem_append.mp hw with h | h
        · simp only [List.mem_cons, List.not_mem_nil, or_false] at h
          rcases h with h | h | h <;> subst h
          · exact ⟨q_tbl_in hlk rfl, good_of_word rfl⟩
          · exact ⟨q_tbl_in (o3 hk) rfl, good_of_word rfl⟩
          · exact ⟨q_tbl_in o2 rfl, good_of_word rfl⟩
        · exact hGI w h
  · subst hi hat
    have hh : q_hh f.2.2.2.2 = [] := by rcases hcond with h | h; · omega
                                        · exact h
    obtain ⟨v1, aT, e3, ⟨b, h2, h2'⟩, g2'⟩ := g2
    subst e3 h2'
    rw [hk, if_neg (by decide)] at o11
    have hst : sa = aT.reverse ++ .ref b :: rA := by rw [g1, List.reverse_cons, List.append_assoc]; rfl
    have hn : aT.length = q_na f.2.2.2.2 - 1 := by
      have := q_st_len g2'
      rw [List.length_cons] at g4
      omega
    cases hb : f.2.2.2.1 with
    | false =>
      have cb := q_callB (mc := mC r1.2 - mC μ) (ms := mS r1.2 - mS μ) ok e1 e2 hb hh hdR C o11
      rw [(o6 hk).2] at cb
      exact va_runI S hM ⟨cb, (o6 hk).1, hgood _ (o4 (by omega)) rfl⟩ ⟨q_Pc_blind, fun U hU hW => q_Pc_at C G P U hU hW⟩ rfl hn hsize hst (lv_room g5) hd hf
    | true =>
      have hcw : q_cw f.2.2.2.2 = .code (q_y f.2.2.2.2) (q_cc f.2.2.2.2) (q_ml f.2.2.2.2) (q_rt f.2.2.2.2) := by unfold q_cw; rw [if_pos hh]
      have hlk := (ok.2.1 hb).2
      rw [e1, e2] at hlk
      have hnw : va_Nw (.methodLinkNest (q_on (q_o M)) k (q_y f.2.2.2.2) "TrouserWash") s := G.1 _ hlk rfl
      have cn := va_cnB (bytes := q_cc f.2.2.2.2) (maxL := q_ml f.2.2.2.2) (ret := q_rt f.2.2.2.2) (rm := q_rm d (mC r1.2 - mC μ) (mS r1.2 - mS μ)) (R := R) (ws' := q_tbl) (q_na f.2.2.2.2 - 1) C.2.2.2.2.2.2.1 (q_GI o1 (q_cw_good f.2.2.2.2)) (by rw [hcw]) rfl rfl hnw (hgood _ o2 rfl) ⟨o8, o9, o11⟩ (q_room hdR o14)
      rw [(o6 hk).2] at cn
      exact va_runIN S hM ⟨cn, (o6 hk).1, hgood _ (o4 (by omega)) rfl⟩ ⟨q_Pc_blind, fun U hU hW => q_Pc_at C G P U hU hW⟩ rfl hn hsize hst (lv_room g5) hd hf
  · subst hi hat
    have hh : q_hh f.2.2.2.2 = [] := by rcases hcond with h | h; · omega
                                        · exact h
    have hnest : f.2.2.2.1 = false := by
      cases hb : f.2.2.2.1 with
      | false => rfl
      | true => have := (ok.2.1 hb).1; omega
    obtain ⟨v1, aT, e3, ⟨b, h2, h2'⟩, g2'⟩ := g2
    subst e3 h2'
    rw [hk, if_neg (by decide)] at o11
    have hst : sa = aT.reverse ++ .ref b :: rA := by rw [g1, List.reverse_cons, List.append_assoc]; rfl
    have hn : aT.length = q_na f.2.2.2.2 - 1 := by
      have := q_st_len g2'
      rw [List.length_cons] at g4
      omega
    obtain ⟨ws, w⟩ := P.1
    obtain ⟨en, he, hc⟩ := q_Ws_at w ha h2
    obtain ⟨fs, f1, -⟩ := q_cO hc hak hlt
    subst f1
    have hrec := va_recv C.2.2.2.2.2.2.2.2.2.1 w.1 (kN _ hlt).2.2 he
    rw [← o7] at hrec
    exact va_runV S hM ⟨q_callB ok e1 e2 hnest hh hdR C o11, hgood _ (o4 (by omega)) rfl, hgood _ (o5 hk) rfl⟩ ⟨q_Pc_blind, hrec, fun U hU hW => q_Pc_at C G P U hU hW⟩ rfl hn hsize hst (lv_room g5) hd hf
end QS
