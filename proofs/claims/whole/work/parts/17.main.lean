/-! throwing calls, handlers, and the whole -/
theorem q_lH_ok {o i F : Nat} (h : q_lH o i = some F) : i ≠ 0 ∧ 1 ≤ F ∧ F ≤ 5 := by
  unfold q_lH at h
  split at h
  all_goals first | (cases h; exact ⟨by decide, by decide, by decide⟩) | cases h
theorem q_hnd {M : q_M} {pc E tgt : Nat} : ∀ {hh : List (Nat × Nat × Nat × Nat)}, p_hnd M pc E hh = some tgt → ∃ pre x suf, hh = pre ++ x :: suf ∧ (x.1 ≤ pc ∧ pc < x.2.1) ∧ q_lH (q_o M) x.2.2.2 = some E ∧ x.2.2.1 = tgt ∧ ∀ z ∈ pre, ¬ (z.1 ≤ pc ∧ pc < z.2.1) ∨ ∃ F, q_lH (q_o M) z.2.2.2 = some F ∧ F ≠ E
  | [], h => by cases h
  | y :: t, h => by
    unfold p_hnd at h
    split at h
    · rename_i hc
      split at h
      · rename_i F hF
        split at h
        · rename_i hFE
          subst hFE
          cases h
          exact ⟨[], y, t, rfl, hc, hF, rfl, fun z hz => nomatch hz⟩
        · rename_i hFE
          obtain ⟨pre, x, suf, e1, e2, e3, e4, e5⟩ := q_hnd h
          subst e1
          refine ⟨y :: pre, x, suf, rfl, e2, e3, e4, fun z hz => ?_⟩
          rcases List.mem_cons.mp hz with q | q
          · subst q; exact Or.inr ⟨F, hF, hFE⟩
          · exact e5 z q
      · cases h
    · rename_i hc
      obtain ⟨pre, x, suf, e1, e2, e3, e4, e5⟩ := q_hnd h
      subst e1
      refine ⟨y :: pre, x, suf, rfl, e2, e3, e4, fun z hz => ?_⟩
      rcases List.mem_cons.mp hz with q | q
      · subst q; exact Or.inl hc
      · exact e5 z q
theorem kCast : ∀ E : Nat, 1 ≤ E → E ≤ 5 → Cond.castable (q_xn E) (q_xn E) ∈ lw_tbl := by
  intro E h1 h2
  match E, h1, h2 with
  | 1, _, _ => exact List.mem_of_getElem? (i := 632) (by decide +kernel)
  | 2, _, _ => exact List.mem_of_getElem? (i := 704) (by decide +kernel)
  | 3, _, _ => exact List.mem_of_getElem? (i := 838) (by decide +kernel)
  | 4, _, _ => exact List.mem_of_getElem? (i := 857) (by decide +kernel)
  | 5, _, _ => exact List.mem_of_getElem? (i := 1394) (by decide +kernel)
  | 0, h1, _ => exact absurd h1 (by decide)
  | n + 6, _, h2 => exact absurd h2 (by omega)
section QT
variable {p : Program} {l : Launch} {e : Env} {R : Room} {s : State} {m : MethodId} {args : Array Value} {below : List Frame} {meth : Method} {c : Code} {H : Heap} {locs : List Loc} {Q : State → Prop}
variable {X : p_X} {M : q_M} {D : va_G} {A : Nat → Prop} {xa : Nat → Nat} {nL c0 s0 : Nat} {ad0 ad : List Nat} {μ : p_M} {lo st : List Value} {ls : Array Slot} {sa : List Value} {pc n d : Nat}
theorem q_runT (ih : q_Snd X l n) {i : Instr} {f : q_L} {as rest : List Value} {r1 : p_R} (hx : p_call M i 3 st μ = some (f, as, rest)) (hcond : ¬ (f.2.2.1 = 2 ∨ ¬ q_hh f.2.2.2.2 = [])) (hrun : p_run X n d f.2.2.2.2 0 (p_loc f.2.2.2.2 as) [] μ = some r1) (hd : decode (q_cc M) pc = .ok (i, 3)) (hE : mC r1.2 < p_E) (hdR : q_dR (d + 1) R)
    (hf : mC μ - c0 + (mC r1.2 - mC μ) ≤ R.cells ∧ mS μ - s0 + (mS r1.2 - mS μ) ≤ R.slots) (C : q_Ctx p s m args meth c M D A) (G : q_G X xa A s) (P : q_Pt s A D xa (q_ml M) ad0 H locs ad μ lo st ls sa) :
    ∃ (aA rA : List Value), q_st xa ad rest rA ∧ vx_Run p l e R s m args below meth c H locs (mC μ - c0) (mS μ - s0) (mC r1.2 - mC μ) (mS r1.2 - mS μ) (F0 m pc ls sa) rA (q_Po D A xa ad r1 aA.toArray) (q_Px D A xa ad r1) A := by
  obtain ⟨k, hl, hp, hkind⟩ := q_call_in hx
  obtain ⟨ok, e1, e2⟩ := q_lM_in hl
  obtain ⟨aA, rA, g1, g2, g3, g4, g5, g6⟩ := q_pop hp P.2.2.2.1
  have okY := ok.2.2
  have hM := q_vmet (D := D) (A := A) ih hrun okY g2 g6 g4 hE
  have hsize : ls.size = q_ml M := by obtain ⟨lv, l1, -⟩ := P.2.2.1; exact l1.1
  have S : CallFix p m c (q_cc M) (q_ml M) s args q_tbl (q_on (q_o M)) := ⟨C.1, C.2.1, C.2.2.1, C.2.2.2.2.2.1, C.2.2.2.2.2.2.1⟩
  obtain ⟨o1, o2, o3, o4, o5, o6, o7, o8, o9, o10, o11, o12, o13, o14⟩ := okY
  have hgood : ∀ w, w ∈ lw_tbl → goodWord w = true → w.before args s = true := fun w h1 h2 => C.2.2.2.2.2.2.1 _ (q_tbl_in h1 h2)
  have hh : q_hh f.2.2.2.2 = [] := Classical.byContradiction fun z => hcond (Or.inr z)
  have hk2 : ¬ f.2.2.1 = 2 := fun z => hcond (Or.inl z)
  have hnest : f.2.2.2.1 = false := by
    cases hb : f.2.2.2.1 with
    | false => rfl
    | true => exact absurd (ok.2.1 hb).1 hk2
  refine ⟨aA, rA, g3, ?_⟩
  rcases hkind with ⟨hi, hk⟩ | ⟨hi, hk, -⟩ | ⟨hi, hk, a, t, hat, ha, hak, hlt⟩
  · subst hi
    rw [hk, if_pos rfl] at o11
    exact vx_runS S hM ⟨q_callB ok e1 e2 hnest hh hdR C o11, hgood _ (o3 hk) rfl⟩ ⟨q_Pc_blind, fun U hU hW => q_Pc_at C G P U hU hW⟩ rfl (by rw [q_st_len g2, g4]; rfl) hsize g1 (lv_room g5) hd hf
  · exact absurd hk hk2
  · subst hi hat
    obtain ⟨v1, aT, e3, ⟨b, h2, h2'⟩, g2'⟩ := g2
    subst e3 h2'
    rw [hk, if_neg (by decide)] at o11
    have hst : sa = aT.reverse ++ .ref b :: rA := by rw [g1, List.reverse_cons, List.append_assoc]; rfl
    have hn : aT.length = q_na f.2.2.2.2 - 1 := by
      have := q_st_len g2'
      rw [List.length_cons] at g4
      omega
    obtain ⟨ws, w⟩ := P.1
    obtain ⟨en, he, hc⟩ := q_Ws_at w ha h2
    obtain ⟨fs, f1, -⟩ := q_cO hc hak hlt
    subst f1
    have hrec := va_recv C.2.2.2.2.2.2.2.2.2.1 w.1 (kN _ hlt).2.2 he
    rw [← o7] at hrec
    exact vx_runV S hM ⟨q_callB ok e1 e2 hnest hh hdR C o11, hgood _ (o4 (by omega)) rfl, hgood _ (o5 hk) rfl⟩ ⟨q_Pc_blind, hrec, fun U hU hW => q_Pc_at C G P U hU hW⟩ rfl hn hsize hst (lv_room g5) hd hf
end QT
theorem q_dR0 {d : Nat} {R : Room} (h : q_dR d R) : q_dR 0 R := ⟨Nat.le_trans (by omega) h.1, Nat.le_trans (by omega) h.2⟩
set_option maxHeartbeats 4000000 in
theorem q_sound {X : p_X} {l : Launch} (hl : l.stackTraces = false) (h4 : q_T4 X l) (hPr : q_Pr X l) : ∀ n, q_Snd X l n
  | 0 => fun d M pc lo st μ r h => by cases h
  | n + 1 => by
    have ih := q_sound hl h4 hPr n
    intro d M pc lo st μ r h
    unfold p_run at h
    split at h
    · cases h
    · rename_i i len hdec
      split at h
      · rename_i q hx
        obtain ⟨⟨m1, m2⟩, ihW⟩ := ih d M q.1 q.2.1 q.2.2.1 q.2.2.2 r h
        have hc := q_exec_C hx
        refine ⟨⟨by omega, by omega⟩, fun p e R s m args below meth c D A xa c0 s0 ad0 H locs ad ls sa C G P g1 g2 g3 g4 g5 g6 => ?_⟩
        exact q_exec hx hdec C G P (fun H1 locs1 ad1 ls1 sa1 P1 => ihW p e R s m args below meth c D A xa c0 s0 ad0 H1 locs1 ad1 ls1 sa1 C G P1 (by omega) (by omega) g3 g4 g5 g6)
      · split at h
        · rename_i q hx
          obtain ⟨⟨m1, m2⟩, ihW⟩ := ih d M q.1 q.2.1 q.2.2.1 q.2.2.2 r h
          have hc := q_pool_C hx
          refine ⟨⟨by omega, by omega⟩, fun p e R s m args below meth c D A xa c0 s0 ad0 H locs ad ls sa C G P g1 g2 g3 g4 g5 g6 => ?_⟩
          exact q_pool hx hdec ⟨g1, g2, by omega, by omega, by omega⟩ C G P (fun H1 locs1 ad1 ls1 sa1 P1 => ihW p e R s m args below meth c D A xa c0 s0 ad0 H1 locs1 ad1 ls1 sa1 C G P1 (by omega) (by omega) g3 g4 g5 g6)
        · split at h
          · rename_i v hx
            cases h
            refine ⟨⟨Nat.le_refl _, Nat.le_refl _⟩, fun p e R s m args below meth c D A xa c0 s0 ad0 H locs ad ls sa C G P g1 g2 g3 g4 g5 g6 => ?_⟩
            exact q_ret hx hdec C P
          · split at h
            · rename_i E hx
              split at h
              · rename_i hlen
                subst hlen
                cases h
                refine ⟨⟨Nat.le_add_right _ _, Nat.le_add_right _ _⟩, fun p e R s m args below meth c D A xa c0 s0 ad0 H locs ad ls sa C G P g1 g2 g3 g4 g5 g6 => ?_⟩
                exact q_thr h4 hl hx hdec ⟨g1, g2, g3, g4, g5⟩ (q_dR0 g6) C G P
              · cases h
            · split at h
              · rename_i k as rest hx
                split at h
                · rename_i v μ1 hp
                  obtain ⟨⟨m1, m2⟩, ihW⟩ := ih d M (pc + 3) lo (v.toList ++ rest) μ1 r h
                  have hc := q_prim_C hp
                  have hlen : len = 3 := by
                    unfold p_callP at hx
                    split at hx
                    · assumption
                    · cases hx
                  subst hlen
                  refine ⟨⟨by omega, by omega⟩, fun p e R s m args below meth c D A xa c0 s0 ad0 H locs ad ls sa C G P g1 g2 g3 g4 g5 g6 => ?_⟩
                  exact hPr p e R s m args below meth c _ H locs M D A xa c0 s0 ad0 ad μ μ1 lo st ls sa pc k i as rest v hx hp hdec ⟨g1, g2, by omega, by omega, by omega⟩ (q_dR0 g6) C G P (fun H1 locs1 ad1 ls1 sa1 P1 => ihW p e R s m args below meth c D A xa c0 s0 ad0 H1 locs1 ad1 ls1 sa1 C G P1 (by omega) (by omega) g3 g4 g5 g6)
                · cases h
              · split at h
                · rename_i f as rest hx
                  have hlen : len = 3 := by
                    unfold p_call at hx
                    split at hx
                    · assumption
                    · cases hx
                  subst hlen
                  split at h
                  · cases h
                  · rename_i d1
                    split at h
                    · rename_i hcond
                      split at h
                      · rename_i v μ1 hrun
                        obtain ⟨⟨m1, m2⟩, ihW⟩ := ih (d1 + 1) M (pc + 3) lo (v.toList ++ rest) μ1 r h
                        obtain ⟨⟨n1, n2⟩, -⟩ := ih d1 f.2.2.2.2 0 _ [] μ ((0, v), μ1) hrun
                        have n1 : mC μ ≤ mC μ1 := n1
                        have n2 : mS μ ≤ mS μ1 := n2
                        refine ⟨⟨by omega, by omega⟩, fun p e R s m args below meth c D A xa c0 s0 ad0 H locs ad ls sa C G P g1 g2 g3 g4 g5 g6 => ?_⟩
                        obtain ⟨aA, rA, t1, t2⟩ := q_runR (p := p) (e := e) (R := R) (below := below) (c0 := c0) (s0 := s0) ih hx hcond hrun rfl hdec (by show mC μ1 < p_E; omega) g6 (by show mC μ - c0 + (mC μ1 - mC μ) ≤ R.cells ∧ mS μ - s0 + (mS μ1 - mS μ) ≤ R.slots; omega) C G P
                        refine q_after t2 P.2.1 (fun w H1 locs1 ad1 k1 k2 k3 k4 => ?_)
                        refine q_cs (a' := mC μ1 - c0) (b' := mS μ1 - s0) (by show mC μ - c0 + (mC μ1 - mC μ) = _; omega) (by show mS μ - s0 + (mS μ1 - mS μ) = _; omega) ?_
                        refine ihW p e R s m args below meth c D A xa c0 s0 ad0 H1 locs1 ad1 ls (w.toList ++ rA) C G ⟨k2, k4, q_lo_mono k1 P.2.2.1, ?_, P.2.2.2.2.trans k1⟩ (by omega) (by omega) g3 g4 g5 g6
                        have t1' := q_st_mono k1 t1
                        cases v with
                        | none => have k3 : w = none := k3; subst k3; exact t1'
                        | some x => obtain ⟨y, k5, k6⟩ := k3; subst k5; exact ⟨y, rA, rfl, k6, t1'⟩
                      · rename_i E z μ1 hrun
                        obtain ⟨⟨n1, n2⟩, -⟩ := ih d1 f.2.2.2.2 0 _ [] μ _ hrun
                        have n1 : mC μ ≤ mC μ1 := n1
                        have n2 : mS μ ≤ mS μ1 := n2
                        split at h
                        · cases h
                        · rename_i hnx
                          split at h
                          · rename_i tgt hh
                            obtain ⟨⟨m1, m2⟩, ihW⟩ := ih (d1 + 1) M tgt lo [.retAddr 0] μ1 r h
                            refine ⟨⟨by omega, by omega⟩, fun p e R s m args below meth c D A xa c0 s0 ad0 H locs ad ls sa C G P g1 g2 g3 g4 g5 g6 => ?_⟩
                            obtain ⟨aA, rA, t1, t2⟩ := q_runT (p := p) (e := e) (R := R) (below := below) (c0 := c0) (s0 := s0) ih hx hnx hrun hdec (by show mC μ1 < p_E; omega) g6 (by show mC μ - c0 + (mC μ1 - mC μ) ≤ R.cells ∧ mS μ - s0 + (mS μ1 - mS μ) ≤ R.slots; omega) C G P
                            refine q_afterX t2 P.2.1 (by show E + 1 ≠ 0; omega) (fun k ce q H1 locs1 ad1 j1 j2 k1 k2 k4 hce hcv hcl => ?_)
                            have j1 : E + 1 = k + 1 := j1
                            have ek : k = E := by omega
                            subst ek
                            obtain ⟨pre, x, suf, y1, y2, y3, y4, y5⟩ := q_hnd hh
                            have htab : c.exceptionTable.toList = tableOf pre ++ (⟨x.1, x.2.1, x.2.2.1, x.2.2.2⟩ : ExceptionTableEntry) :: tableOf suf := by
                              rw [C.2.2.2.2.2.2.2.1, y1]
                              simp [tableOf]
                            refine vx_catch (name := q_xn (k + 1)) (E := q_xn (k + 1)) C.2.2.2.2.2.1 (tableOf pre) _ (tableOf suf) htab ?_ ?_ (q_lH_ok y3).1 (C.2.2.2.2.2.2.1 _ (q_tbl_in (kH _ _ _ y3) rfl)) (va_Nw.use rfl (G.1 _ (kCast (k + 1) (by omega) (by omega)) rfl)) hce hcv hcl ?_
                            · intro z hz
                              obtain ⟨z0, hz0, rfl⟩ := List.mem_map.mp hz
                              rcases y5 z0 hz0 with q | ⟨F, q1, q2⟩
                              · left
                                unfold covers
                                simp only [Bool.and_eq_false_iff, decide_eq_false_iff_not]
                                show ¬ z0.1 ≤ pc ∨ ¬ pc < z0.2.1
                                omega
                              · right
                                obtain ⟨w1, w2, w3⟩ := q_lH_ok q1
                                exact ⟨w1, q_xn F, C.2.2.2.2.2.2.1 _ (q_tbl_in (kH _ _ _ q1) rfl), G.2.2.2.2.2.2.1 (k + 1) F (by omega) (by omega) w2 w3 (fun q => q2 q.symm)⟩
                            · unfold covers
                              simp only [Bool.and_eq_true, decide_eq_true_eq]
                              exact y2
                            · refine q_cs (a' := mC μ1 - c0) (b' := mS μ1 - s0) (by show mC μ - c0 + (mC μ1 - mC μ) = _; omega) (by show mS μ - s0 + (mS μ1 - mS μ) = _; omega) ?_
                              show W p l e R s m args below meth c H1 locs1 _ _ _ (F0 m x.2.2.1 ls [.ref q])
                              rw [y4]
                              exact ihW p e R s m args below meth c D A xa c0 s0 ad0 H1 locs1 ad1 ls [.ref q] C G ⟨k2, k4, q_lo_mono k1 P.2.2.1, ⟨_, _, rfl, ⟨q, rfl⟩, rfl⟩, P.2.2.2.2.trans k1⟩ (by omega) (by omega) g3 g4 g5 g6
                          · split at h
                            · rename_i hnil
                              cases h
                              refine ⟨⟨n1, n2⟩, fun p e R s m args below meth c D A xa c0 s0 ad0 H locs ad ls sa C G P g1 g2 g3 g4 g5 g6 => ?_⟩
                              have g3 : mC μ1 ≤ c0 + R.cells := g3
                              have g4 : mS μ1 ≤ s0 + R.slots := g4
                              obtain ⟨aA, rA, t1, t2⟩ := q_runT (p := p) (e := e) (R := R) (below := below) (c0 := c0) (s0 := s0) ih hx hnx hrun hdec g5 g6 (by show mC μ - c0 + (mC μ1 - mC μ) ≤ R.cells ∧ mS μ - s0 + (mS μ1 - mS μ) ≤ R.slots; omega) C G P
                              refine q_afterX t2 P.2.1 (by show E + 1 ≠ 0; omega) (fun k ce q H1 locs1 ad1 j1 j2 k1 k2 k4 hce hcv hcl => ?_)
                              refine vx_out ?_ C.2.2.2.2.1 hce hcv hcl (fun t ht hvm => ?_) k4.2.2 (by show mC μ - c0 + (mC μ1 - mC μ) ≤ mC μ1 - c0; omega) (by show mS μ - s0 + (mS μ1 - mS μ) ≤ mS μ1 - s0; omega)
                              · intro x hx
                                rw [C.2.2.2.2.2.2.2.1, hnil] at hx
                                cases hx
                              · exact ⟨⟨k, j1, j2, rfl⟩, ⟨ad1, P.2.2.2.2.trans k1, by rw [ht]; exact q_W_moved hvm k2⟩, q_F k4 ht⟩
                            · cases h
                      · cases h
                    · cases h
                · cases h
