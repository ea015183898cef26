/-! fields, and one instruction of any kind -/
theorem q_lF_in {o i : Nat} {f : Nat × Nat × Nat × Nat × Bool} (h : q_lF o i = some f) : q_okF f ∧ f.1 = o ∧ f.2.1 = i := by
  unfold q_lF at h
  have h1 := List.find?_some h
  have h2 := List.mem_of_find?_eq_some h
  simp only [Bool.and_eq_true, beq_iff_eq] at h1
  exact ⟨kFo o f h2, h1.1, h1.2⟩
theorem q_gl (C : String) (T : u_T) (k : Nat) : goodWord (u_lay C T k) = true := by
  unfold u_lay
  split <;> rfl
theorem q_uws {v : Nat} (h : v < 15) : ∀ w ∈ u_ws (q_on v) (q_T v) (q_N v), w ∈ q_tbl := by
  intro w hw
  obtain ⟨k, hk, rfl⟩ := List.mem_map.mp hw
  exact q_tbl_in (kW v k h (List.mem_range.mp hk)) (q_gl _ _ _)
theorem q_tyc : ∀ v : Nat, v < 15 → ∀ k : Nat, k < q_N v → (q_Ty v k = .int ∨ q_Ty v k = .boolean ∨ p_isR v k = true) := by decide +kernel
theorem q_ref_fit {ty : FieldType} (h : (match ty with | .object _ => true | .array _ => true | _ => false) = true) (a : Nat) : narrow ty (.ref a) = .ref a ∧ fits ty (.ref a) = true := by
  cases ty <;> first | exact ⟨rfl, rfl⟩ | cases h
section QF
variable {p : Program} {l : Launch} {e : Env} {R : Room} {s : State} {m : MethodId} {args : Array Value} {below : List Frame} {meth : Method} {c : Code} {H : Heap} {locs : List Loc} {Q : State → Prop}
variable {X : p_X} {M : q_M} {D : va_G} {A : Nat → Prop} {xa : Nat → Nat} {nL c0 s0 : Nat} {ad0 ad : List Nat} {μ : p_M} {lo st : List Value} {ls : Array Slot} {sa : List Value} {pc : Nat}
theorem q_x_getf {i : Nat} {q : p_S} (hx : p_getf M i pc lo st μ = some q) (hd : decode (q_cc M) pc = .ok (.getfield i, 3)) (C : q_Ctx p s m args meth c M D A) (G : q_G X xa A s) (P : q_Pt s A D xa nL ad0 H locs ad μ lo st ls sa) (K : q_Nx p l e R s m args below meth c Q D A xa nL c0 s0 ad0 q) : W p l e R s m args below meth c H locs (mC μ - c0) (mS μ - s0) Q (F0 m pc ls sa) := by
  unfold p_getf at hx
  split at hx
  · rename_i a r
    obtain ⟨v2, r2, e2, ⟨b, h2, h2'⟩, h3⟩ := P.2.2.2.1
    subst e2 h2'
    split at hx
    · rename_i f hf
      split at hx
      · rename_i hz
        cases hx
        obtain ⟨ok, e1, e2⟩ := q_lF_in hf
        obtain ⟨o', i', ci, k, nest⟩ := f
        have e1 : o' = q_o M := e1
        have e2 : i' = i := e2
        subst e1 e2
        obtain ⟨k1, k2, k3, k4⟩ := ok
        have k3 : ci < 15 := k3
        have k4 : k < q_N ci := k4
        obtain ⟨z1, z2⟩ := hz
        obtain ⟨ws, w⟩ := P.1
        obtain ⟨e, he, hc⟩ := q_Ws_at w z2 h2
        obtain ⟨fs, f1, f2, f3⟩ := q_cO hc z1 k3
        subst f1
        obtain ⟨v, v1, v3⟩ := f3 k k4
        have hv : q_v xa ad (if p_isR ci k = true then va_rf (mR μ a k) else .int (mI μ a k)) v := by
          unfold q_fld at v3
          by_cases hr : p_isR ci k = true
          · rw [if_pos hr] at v3 ⊢
            obtain ⟨g, g1, g2⟩ := v3
            subst g2
            exact q_v_rf g1
          · rw [if_neg hr] at v3 ⊢
            exact v3
        have K' := q_stk (pc' := pc + 3) (st' := (if p_isR ci k = true then va_rf (mR μ a k) else .int (mI μ a k)) :: r) P ⟨v, _, rfl, hv, h3⟩ K
        cases nest with
        | false =>
          have hl := C.2.2.2.2.2.2.1 _ (q_tbl_in (k1 rfl) rfl)
          exact va_get C.1 C.2.1 C.2.2.2.2.2.2.1 (q_uws k3) C.2.2.2.2.2.1 C.2.2.2.2.2.2.2.2.2.1 w.1 a he (kN ci k3).2.2 k k4 hl (fun _ h => h) v1 hd K'
        | true =>
          have hl := va_Nw.use (A := args) rfl (G.1 _ (k2 rfl) rfl)
          exact va_getN C.1 C.2.1 C.2.2.2.2.2.2.1 (q_uws k3) C.2.2.2.2.2.1 C.2.2.2.2.2.2.2.2.2.1 w.1 a he (kN ci k3).2.2 k k4 hl (fun _ h => h) v1 hd K'
      · cases hx
    · cases hx
  · cases hx
/-- the row of a putfield, final or not, by the nest or not -/
theorem q_putrow {i : Nat} {f : Nat × Nat × Nat × Nat × Bool} (hf : q_lF (q_o M) i = some f) (hd : decode (q_cc M) pc = .ok (.putfield i, 3)) (C : q_Ctx p s m args meth c M D A) (G : q_G X xa A s) {ws : va_W} (w : q_Ws s H A D xa ad μ ws) (hS : va_S A s.heap H locs) {a b : Nat} {fs : List Value} (he : ws[a]? = some (b, .inr (f.2.2.1, fs))) (hfs : fs.length = q_N f.2.2.1)
    (hmay : p_may M f.2.2.1 f.2.2.2.1 = true) (hnf : f.2.2.2.2 = true → (q_T f.2.2.1 f.2.2.2.1).2.2.2 = false) {v : Value} (hn : narrow (q_Ty f.2.2.1 f.2.2.2.1) v = v) (hfit : fits (q_Ty f.2.2.1 f.2.2.2.1) v = true) {cells slots : Nat} {rest : List Value}
    (kk : ∀ (H1 : Heap) (locs1 : List Loc), va_P D vwCl (ws.set a (b, .inr (f.2.2.1, fs.set f.2.2.2.1 v))) H1 → va_D A (ws.set a (b, .inr (f.2.2.1, fs.set f.2.2.2.1 v))) → va_S A s.heap H1 locs1 → W p l e R s m args below meth c H1 locs1 cells slots Q (F0 m (pc + 3) ls rest)) : W p l e R s m args below meth c H locs cells slots Q (F0 m pc ls (v :: .ref b :: rest)) := by
  obtain ⟨ok, e1, e2⟩ := q_lF_in hf
  obtain ⟨o', i', ci, k, nest⟩ := f
  have e1 : o' = q_o M := e1
  have e2 : i' = i := e2
  subst e1 e2
  obtain ⟨k1, k2, k3, k4⟩ := ok
  have k3 : ci < 15 := k3
  have k4 : k < q_N ci := k4
  have hl : k < fs.length := by have hfs : fs.length = q_N ci := hfs; omega
  cases nest with
  | true =>
    have hlk := va_Nw.use (A := args) rfl (G.1 _ (k2 rfl) rfl)
    exact va_putN C.1 C.2.1 C.2.2.2.2.2.2.1 (q_uws k3) (q_Ty ci) (fun k hk => kTy ci k k3 hk) (kNm ci k3) C.2.2.2.2.2.1 C.2.2.2.2.2.2.2.2.2.1 w.1 w.2.1 hS a he (kN ci k3).2.2 k k4 hlk (fun _ h => h) (hnf rfl) (kTy ci k k3 k4) hn hfit hl hd kk
  | false =>
    have hlk := C.2.2.2.2.2.2.1 _ (q_tbl_in (k1 rfl) rfl)
    unfold p_may at hmay
    by_cases hfin : (q_T ci k).2.2.2 = true
    · have hmay : (if (q_T ci k).2.2.2 = true then q_o M == ci && (q_y M).name == "<init>" && (q_T ci k).1 == q_on (q_o M) else true) = true := hmay
      rw [if_pos hfin] at hmay
      simp only [Bool.and_eq_true, beq_iff_eq] at hmay
      exact va_putF C.1 C.2.1 C.2.2.2.2.2.2.1 (q_uws k3) (q_Ty ci) (fun k hk => kTy ci k k3 hk) (kNm ci k3) C.2.2.2.2.2.1 C.2.2.2.2.2.2.2.2.2.1 w.1 w.2.1 hS a he (kN ci k3).2.2 k k4 hlk (fun _ h => h) hfin (C.2.2.2.2.2.2.2.2.1.trans hmay.1.2) hmay.2 (kTy ci k k3 k4) hn hfit hl hd kk
    · exact va_put C.1 C.2.1 C.2.2.2.2.2.2.1 (q_uws k3) (q_Ty ci) (fun k hk => kTy ci k k3 hk) (kNm ci k3) C.2.2.2.2.2.1 C.2.2.2.2.2.2.2.2.2.1 w.1 w.2.1 hS a he (kN ci k3).2.2 k k4 hlk (fun _ h => h) (Bool.eq_false_iff.mpr hfin) (kTy ci k k3 k4) hn hfit hl hd kk
theorem q_x_putf {i : Nat} {q : p_S} (hx : p_putf M i pc lo st μ = some q) (hd : decode (q_cc M) pc = .ok (.putfield i, 3)) (C : q_Ctx p s m args meth c M D A) (G : q_G X xa A s) (P : q_Pt s A D xa nL ad0 H locs ad μ lo st ls sa) (K : q_Nx p l e R s m args below meth c Q D A xa nL c0 s0 ad0 q) : W p l e R s m args below meth c H locs (mC μ - c0) (mS μ - s0) Q (F0 m pc ls sa) := by
  unfold p_putf at hx
  split at hx
  · rename_i x a r
    obtain ⟨v1, r1, e1, h1, v2, r2, e2, ⟨b, h2, h2'⟩, h3⟩ := P.2.2.2.1
    have h1 : v1 = .int x := h1
    subst e1 h1 e2 h2'
    split at hx
    · rename_i f hf
      split at hx
      · rename_i hz
        cases hx
        obtain ⟨z1, z2, z3, z4, z5, z6⟩ := hz
        obtain ⟨ok, -, -⟩ := q_lF_in hf
        obtain ⟨-, -, k3, k4⟩ := ok
        obtain ⟨ws, w⟩ := P.1
        obtain ⟨e, he, hc⟩ := q_Ws_at w z2 h2
        obtain ⟨fs, f1, f2, f3⟩ := q_cO hc z1 k3
        subst f1
        have hty : narrow (q_Ty f.2.2.1 f.2.2.2.1) (.int x) = .int x ∧ fits (q_Ty f.2.2.1 f.2.2.2.1) (.int x) = true := by
          rcases q_tyc f.2.2.1 k3 f.2.2.2.1 k4 with t | t | t
          · rw [t]; exact ⟨rfl, rfl⟩
          · have hzz : p_isZ f.2.2.1 f.2.2.2.1 = true := by unfold p_isZ; rw [t]
            rw [t]
            rcases z4 hzz with y | y <;> subst y <;> exact ⟨by decide, by decide⟩
          · rw [t] at z3; cases z3
        refine q_putrow hf hd C G w P.2.1 he f2 z5 z6 hty.1 hty.2 (fun H1 locs1 hP hD hS => K H1 locs1 ad ls r2 ?_)
        refine ⟨q_Ws_set (μ' := sI μ a f.2.2.2.1 x) w he hP hD rfl rfl (fun j hj => ⟨q_up_ne hj, rfl, rfl, rfl, rfl⟩) ?_, hS, P.2.2.1, h3, P.2.2.2.2⟩
        refine ⟨z1, k3, by rw [List.length_set]; exact f2, fun j hj => ?_⟩
        by_cases ej : j = f.2.2.2.1
        · subst ej
          refine ⟨.int x, by rw [List.getElem?_set_self (by rw [f2]; exact k4)], ?_⟩
          unfold q_fld
          rw [if_neg (by rw [z3]; decide)]
          show Value.int x = .int (p_up (mI μ) a f.2.2.2.1 x a f.2.2.2.1)
          rw [q_up_eq]
          simp [va_up]
        · obtain ⟨v, v1, v3⟩ := f3 j hj
          refine ⟨v, by rw [List.getElem?_set_ne (Ne.symm ej)]; exact v1, ?_⟩
          unfold q_fld at v3 ⊢
          split at v3
          · rename_i hr
            rw [if_pos hr]
            exact v3
          · rename_i hr
            rw [if_neg hr]
            show v = .int (p_up (mI μ) a f.2.2.2.1 x a j)
            rw [q_up_eq]
            simp only [va_up, if_neg ej]
            exact v3
      · cases hx
    · cases hx
  · rename_i x a r
    obtain ⟨v1, r1, e1, ⟨bx, h1, h1'⟩, v2, r2, e2, ⟨b, h2, h2'⟩, h3⟩ := P.2.2.2.1
    subst e1 h1' e2 h2'
    split at hx
    · rename_i f hf
      split at hx
      · rename_i hz
        cases hx
        obtain ⟨z1, z2, z3, z5, z6⟩ := hz
        obtain ⟨ok, -, -⟩ := q_lF_in hf
        obtain ⟨-, -, k3, k4⟩ := ok
        obtain ⟨ws, w⟩ := P.1
        obtain ⟨e, he, hc⟩ := q_Ws_at w z2 h2
        obtain ⟨fs, f1, f2, f3⟩ := q_cO hc z1 k3
        subst f1
        have hty : narrow (q_Ty f.2.2.1 f.2.2.2.1) (.ref bx) = .ref bx ∧ fits (q_Ty f.2.2.1 f.2.2.2.1) (.ref bx) = true := q_ref_fit z3 bx
        refine q_putrow hf hd C G w P.2.1 he f2 z5 z6 hty.1 hty.2 (fun H1 locs1 hP hD hS => K H1 locs1 ad ls r2 ?_)
        refine ⟨q_Ws_set (μ' := sR μ a f.2.2.2.1 (some x)) w he hP hD rfl rfl (fun j hj => ⟨rfl, q_up_ne hj, rfl, rfl, rfl⟩) ?_, hS, P.2.2.1, h3, P.2.2.2.2⟩
        refine ⟨z1, k3, by rw [List.length_set]; exact f2, fun j hj => ?_⟩
        by_cases ej : j = f.2.2.2.1
        · subst ej
          refine ⟨.ref bx, by rw [List.getElem?_set_self (by rw [f2]; exact k4)], ?_⟩
          unfold q_fld
          rw [if_pos z3]
          refine ⟨some bx, ?_, rfl⟩
          show q_ref xa ad (p_up (mR μ) a f.2.2.2.1 (some x) a f.2.2.2.1) _
          rw [q_up_eq]
          simp only [va_up, if_pos]
          exact ⟨bx, h1, rfl⟩
        · obtain ⟨v, v1, v3⟩ := f3 j hj
          refine ⟨v, by rw [List.getElem?_set_ne (Ne.symm ej)]; exact v1, ?_⟩
          unfold q_fld at v3 ⊢
          split at v3
          · rename_i hr
            rw [if_pos hr]
            obtain ⟨g, g1, g2⟩ := v3
            refine ⟨g, ?_, g2⟩
            show q_ref xa ad (p_up (mR μ) a f.2.2.2.1 (some x) a j) _
            rw [q_up_eq]
            simp only [va_up, if_neg ej]
            exact g1
          · rename_i hr
            rw [if_neg hr]
            exact v3
      · cases hx
    · cases hx
  · cases hx
end QF
