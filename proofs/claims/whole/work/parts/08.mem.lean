/-! instructions that read and write cells -/
theorem q_cI {U : State} {xa : Nat → Nat} {ad : List Nat} {μ : p_M} {a : Nat} {e : va_E} (h : q_cell U xa ad μ a e) (hk : mK μ a = 20 ∨ mK μ a = 21) : ∃ cA, e = .inl (cA, mL μ a, .inl (mI μ a)) ∧ ArrOfT U cA (q_ty (mK μ a)) ∧ va_RA U cA (q_ty (mK μ a)) := by
  cases e with
  | inr o => obtain ⟨h1, h2, -⟩ := h; omega
  | inl x =>
    obtain ⟨cA, n, x⟩ := x
    obtain ⟨h1, h2, h3, h4⟩ := h
    match x, h4 with
    | .inl f, h4 => exact ⟨cA, by have h3 : n = mL μ a := h3; rw [h3, h4.2], h2⟩
    | .inr (.inl f), h4 => have := h4.1; omega
    | .inr (.inr (.inr (.inr g))), h4 => have := h4.1; omega
theorem q_cJ {U : State} {xa : Nat → Nat} {ad : List Nat} {μ : p_M} {a : Nat} {e : va_E} (h : q_cell U xa ad μ a e) (hk : mK μ a = 22) : ∃ cA, e = .inl (cA, mL μ a, .inr (.inl (mJ μ a))) ∧ ArrOfT U cA (q_ty (mK μ a)) ∧ va_RA U cA (q_ty (mK μ a)) := by
  cases e with
  | inr o => obtain ⟨h1, h2, -⟩ := h; omega
  | inl x =>
    obtain ⟨cA, n, x⟩ := x
    obtain ⟨h1, h2, h3, h4⟩ := h
    match x, h4 with
    | .inl f, h4 => have := h4.1; omega
    | .inr (.inl f), h4 => exact ⟨cA, by have h3 : n = mL μ a := h3; rw [h3, h4.2], h2⟩
    | .inr (.inr (.inr (.inr g))), h4 => have := h4.1; omega
theorem q_cR {U : State} {xa : Nat → Nat} {ad : List Nat} {μ : p_M} {a : Nat} {e : va_E} (h : q_cell U xa ad μ a e) (hk : 23 ≤ mK μ a) : ∃ cA g, e = .inl (cA, mL μ a, .inr (.inr (.inr (.inr g)))) ∧ (ArrOfT U cA (q_ty (mK μ a)) ∧ va_RA U cA (q_ty (mK μ a))) ∧ ∀ j, q_ref xa ad (mR μ a j) (g j) := by
  cases e with
  | inr o => obtain ⟨h1, h2, -⟩ := h; omega
  | inl x =>
    obtain ⟨cA, n, x⟩ := x
    obtain ⟨h1, h2, h3, h4⟩ := h
    match x, h4 with
    | .inl f, h4 => have := h4.1; omega
    | .inr (.inl f), h4 => have := h4.1; omega
    | .inr (.inr (.inr (.inr g))), h4 => exact ⟨cA, g, by have h3 : n = mL μ a := h3; rw [h3], h2, h4.2⟩
theorem q_cO {U : State} {xa : Nat → Nat} {ad : List Nat} {μ : p_M} {a ci : Nat} {e : va_E} (h : q_cell U xa ad μ a e) (hk : mK μ a = ci) (hc : ci < 15) : ∃ fs, e = .inr (ci, fs) ∧ fs.length = q_N ci ∧ ∀ k, k < q_N ci → ∃ v, fs[k]? = some v ∧ q_fld xa ad μ a ci k v := by
  cases e with
  | inr o =>
    obtain ⟨ci', fs⟩ := o
    obtain ⟨h1, h2, h3, h4⟩ := h
    have h1 : mK μ a = ci' := h1
    have e1 : ci' = ci := h1.symm.trans hk
    subst e1
    exact ⟨fs, rfl, h3, h4⟩
  | inl x => obtain ⟨h1, -⟩ := h; omega
theorem q_up_ne {α : Type} {f : Nat → Nat → α} {a k i : Nat} {v : α} (h : i ≠ a) : p_up f a k v i = f i := by unfold p_up va_up; rw [if_neg h]
theorem q_up_eq {α : Type} {f : Nat → Nat → α} {a k : Nat} {v : α} : p_up f a k v a = va_up (f a) k v := by unfold p_up; simp [va_up]
theorem q_E (a : Nat) (h : ¬ p_E ≤ a) : a < p_E := by omega
section QM
variable {p : Program} {l : Launch} {e : Env} {R : Room} {s : State} {m : MethodId} {args : Array Value} {below : List Frame} {meth : Method} {c : Code} {H : Heap} {locs : List Loc} {Q : State → Prop}
variable {X : p_X} {M : q_M} {D : va_G} {A : Nat → Prop} {xa : Nat → Nat} {nL c0 s0 : Nat} {ad0 ad : List Nat} {μ : p_M} {lo st : List Value} {ls : Array Slot} {sa : List Value} {pc : Nat}
theorem q_K1 {cA : ClassId} {ty : FieldType} (hK : va_K D vwCl [] s) (h : ArrOfT s cA ty ∧ va_RA s cA ty) : va_K D vwCl [(cA, ty)] s := ⟨hK.1, fun k q hk => by
  match k, hk with
  | 0, hk => cases hk; exact h
  | k + 1, hk => simp at hk⟩
/-- an outer array's cell stands in the heap -/
theorem q_xat {k : Nat} (G : q_G X xa A s) (hk : k < 3) (hS : va_S A s.heap H locs) : ∃ cell : Cell, H[xa k]? = some cell ∧ s.isArrayOf cell .int ∧ cell.vm ≠ .unknown ∧ cell.slots.size = (X k).1 ∧ (X k).1 < 2 ^ 31 ∧ ∀ j : Nat, j < (X k).1 → cell.slots[j]? = some (.int ((X k).2 j)) := by
  obtain ⟨cell, h1, h2, h3, h4, h5, h6, h7⟩ := G.2.1 k hk
  refine ⟨cell, ?_, h2, h3, h4, h5, h6⟩
  rw [hS.2.1 (xa k) (Array.getElem?_eq_some_iff.mp h1).1 h7]
  exact h1
theorem q_aX {a b : Nat} (ha : p_E ≤ a) (hb : q_a xa ad a = some b) : b = xa (a - p_E) := by
  unfold q_a at hb
  rw [if_neg (by omega)] at hb
  exact (Option.some.inj hb).symm
theorem q_x_iald {ty : Nat} {q : p_S} {ii : Instr} (hi : (ty = 20 ∧ ii = .iaload) ∨ (ty = 21 ∧ ii = .baload)) (hx : p_iald X ty pc lo st μ = some q) (hd : decode (q_cc M) pc = .ok (ii, 1)) (C : q_Ctx p s m args meth c M D A) (G : q_G X xa A s) (P : q_Pt s A D xa nL ad0 H locs ad μ lo st ls sa) (K : q_Nx p l e R s m args below meth c Q D A xa nL c0 s0 ad0 q) : W p l e R s m args below meth c H locs (mC μ - c0) (mS μ - s0) Q (F0 m pc ls sa) := by
  unfold p_iald at hx
  split at hx
  · rename_i i a r
    obtain ⟨v1, r1, e1, h1, v2, r2, e2, ⟨b, h2, h2'⟩, h3⟩ := P.2.2.2.1
    have h1 : v1 = .int i := h1
    subst e1 h1 e2 h2'
    split at hx
    · rename_i hE
      split at hx
      · rename_i hz
        obtain ⟨z1, z2, z3, z4⟩ := hz
        cases hx
        have hi : ii = Instr.iaload := by
          rcases hi with ⟨-, h⟩ | ⟨h, -⟩
          · exact h
          · omega
        subst hi
        have hb := q_aX hE h2
        subst hb
        obtain ⟨cell, g1, g2, g3, g4, g5, g6⟩ := q_xat G z4 P.2.1
        exact W.iald (v := .int ((X (a - p_E)).2 i.toNatClampNeg)) C.1 C.2.1 g1 g2 g3 (by rw [g4]; exact fun q => q.elim z2 (fun w => by omega)) (g6 _ z3) rfl rfl hd (q_stk (st' := .int ((X (a - p_E)).2 i.toNatClampNeg) :: r) P ⟨_, _, rfl, rfl, h3⟩ K)
      · cases hx
    · rename_i hE
      split at hx
      · rename_i hz
        obtain ⟨z1, z2, z3, z4⟩ := hz
        cases hx
        obtain ⟨ws, w⟩ := P.1
        obtain ⟨e, he, hc⟩ := q_Ws_at w z4 h2
        obtain ⟨cA, e1, e2⟩ := q_cI hc (by rcases hi with ⟨h, -⟩ | ⟨h, -⟩ <;> omega)
        subst e1
        rw [z1] at e2
        have K' := q_stk (pc' := pc + 1) (st' := .int (mI μ a i.toNatClampNeg) :: r) P ⟨_, _, rfl, rfl, h3⟩ K
        rcases hi with ⟨h, h'⟩ | ⟨h, h'⟩
        · subst h h'
          exact va_iald C.1 C.2.1 (q_K1 C.2.2.2.2.2.2.2.2.2.1 e2) w.1 a 0 he rfl (fun q => q.elim z2 (fun w => by omega)) hd K'
        · subst h h'
          exact va_bald C.1 C.2.1 (q_K1 C.2.2.2.2.2.2.2.2.2.1 e2) w.1 a 0 he rfl (fun q => q.elim z2 (fun w => by omega)) hd K'
      · cases hx
  · cases hx
theorem q_x_iast {ty : Nat} {q : p_S} {i : Instr} (hi : (ty = 20 ∧ i = .iastore) ∨ (ty = 21 ∧ i = .bastore)) (hx : p_iast ty pc lo st μ = some q) (hd : decode (q_cc M) pc = .ok (i, 1)) (C : q_Ctx p s m args meth c M D A) (P : q_Pt s A D xa nL ad0 H locs ad μ lo st ls sa) (K : q_Nx p l e R s m args below meth c Q D A xa nL c0 s0 ad0 q) : W p l e R s m args below meth c H locs (mC μ - c0) (mS μ - s0) Q (F0 m pc ls sa) := by
  unfold p_iast at hx
  split at hx
  · rename_i x i a r
    obtain ⟨v0, r0, e0, h0, v1, r1, e1, h1, v2, r2, e2, ⟨b, h2, h2'⟩, h3⟩ := P.2.2.2.1
    have h0 : v0 = .int x := h0
    have h1 : v1 = .int i := h1
    subst e0 h0 e1 h1 e2 h2'
    split at hx
    · rename_i hz
      obtain ⟨z1, z2, z3, z4⟩ := hz
      cases hx
      obtain ⟨ws, w⟩ := P.1
      obtain ⟨e, he, hc⟩ := q_Ws_at w z4 h2
      obtain ⟨cA, e1, e2⟩ := q_cI hc (by rcases hi with ⟨h, -⟩ | ⟨h, -⟩ <;> omega)
      subst e1
      rw [z1] at e2
      have hin : vp_in i (mL μ a) := fun q => q.elim z2 (fun w => by omega)
      have fin : ∀ y : Int32, ∀ (H1 : Heap) (locs1 : List Loc), va_P D vwCl (ws.set a (b, .inl (cA, mL μ a, .inl (upd (mI μ a) i.toNatClampNeg y)))) H1 → va_D A (ws.set a (b, .inl (cA, mL μ a, .inl (upd (mI μ a) i.toNatClampNeg y)))) → va_S A s.heap H1 locs1 → q_Pt s A D xa nL ad0 H1 locs1 ad (sI μ a i.toNatClampNeg y) lo r ls r2 := by
        intro y H1 locs1 hP hD hS
        refine ⟨q_Ws_set (μ' := sI μ a i.toNatClampNeg y) w he hP hD rfl rfl (fun j hj => ⟨q_up_ne hj, rfl, rfl, rfl, rfl⟩) ?_, hS, P.2.2.1, h3, P.2.2.2.2⟩
        refine ⟨by show 20 ≤ mK μ a ∧ mK μ a ≤ 26; rcases hi with ⟨h, -⟩ | ⟨h, -⟩ <;> omega, by show ArrOfT s cA (q_ty (mK μ a)) ∧ va_RA s cA (q_ty (mK μ a)); rw [z1]; exact e2, rfl, ?_⟩
        refine ⟨by show mK μ a = 20 ∨ mK μ a = 21; rcases hi with ⟨h, -⟩ | ⟨h, -⟩ <;> omega, ?_⟩
        show upd (mI μ a) i.toNatClampNeg y = p_up (mI μ) a i.toNatClampNeg y a
        rw [q_up_eq]
        rfl
      rcases hi with ⟨h, h'⟩ | ⟨h, h'⟩
      · subst h h'
        exact va_iast C.1 C.2.1 (q_K1 C.2.2.2.2.2.2.2.2.2.1 e2) w.1 w.2.1 P.2.1 a 0 he rfl hin hd (fun H1 locs1 hP hD hS => K H1 locs1 ad ls r2 (fin x H1 locs1 hP hD hS))
      · subst h h'
        exact va_bast C.1 C.2.1 (q_K1 C.2.2.2.2.2.2.2.2.2.1 e2) w.1 w.2.1 P.2.1 a 0 he rfl hin hd (fun H1 locs1 hP hD hS => K H1 locs1 ad ls r2 (fin _ H1 locs1 hP hD hS))
    · cases hx
  · cases hx
theorem q_x_lald {q : p_S} (hx : p_lald pc lo st μ = some q) (hd : decode (q_cc M) pc = .ok (.laload, 1)) (C : q_Ctx p s m args meth c M D A) (P : q_Pt s A D xa nL ad0 H locs ad μ lo st ls sa) (K : q_Nx p l e R s m args below meth c Q D A xa nL c0 s0 ad0 q) : W p l e R s m args below meth c H locs (mC μ - c0) (mS μ - s0) Q (F0 m pc ls sa) := by
  unfold p_lald at hx
  split at hx
  · rename_i i a r
    obtain ⟨v1, r1, e1, h1, v2, r2, e2, ⟨b, h2, h2'⟩, h3⟩ := P.2.2.2.1
    have h1 : v1 = .int i := h1
    subst e1 h1 e2 h2'
    split at hx
    · rename_i hz
      obtain ⟨z1, z2, z3, z4⟩ := hz
      cases hx
      obtain ⟨ws, w⟩ := P.1
      obtain ⟨e, he, hc⟩ := q_Ws_at w z4 h2
      obtain ⟨cA, e1, e2⟩ := q_cJ hc z1
      subst e1
      rw [z1] at e2
      exact va_lald C.1 C.2.1 (q_K1 C.2.2.2.2.2.2.2.2.2.1 e2) w.1 a 0 he rfl (fun q => q.elim z2 (fun w => by omega)) hd (q_stk (st' := .long (mJ μ a i.toNatClampNeg) :: r) P ⟨_, _, rfl, rfl, h3⟩ K)
    · cases hx
  · cases hx
theorem q_x_last {q : p_S} (hx : p_last pc lo st μ = some q) (hd : decode (q_cc M) pc = .ok (.lastore, 1)) (C : q_Ctx p s m args meth c M D A) (P : q_Pt s A D xa nL ad0 H locs ad μ lo st ls sa) (K : q_Nx p l e R s m args below meth c Q D A xa nL c0 s0 ad0 q) : W p l e R s m args below meth c H locs (mC μ - c0) (mS μ - s0) Q (F0 m pc ls sa) := by
  unfold p_last at hx
  split at hx
  · rename_i x i a r
    obtain ⟨v0, r0, e0, h0, v1, r1, e1, h1, v2, r2, e2, ⟨b, h2, h2'⟩, h3⟩ := P.2.2.2.1
    have h0 : v0 = .long x := h0
    have h1 : v1 = .int i := h1
    subst e0 h0 e1 h1 e2 h2'
    split at hx
    · rename_i hz
      obtain ⟨z1, z2, z3, z4⟩ := hz
      cases hx
      obtain ⟨ws, w⟩ := P.1
      obtain ⟨e, he, hc⟩ := q_Ws_at w z4 h2
      obtain ⟨cA, e1, e2⟩ := q_cJ hc z1
      subst e1
      rw [z1] at e2
      refine va_last C.1 C.2.1 (q_K1 C.2.2.2.2.2.2.2.2.2.1 e2) w.1 w.2.1 P.2.1 a 0 he rfl (fun q => q.elim z2 (fun w => by omega)) hd (fun H1 locs1 hP hD hS => K H1 locs1 ad ls r2 ?_)
      refine ⟨q_Ws_set (μ' := sJ μ a i.toNatClampNeg x) w he hP hD rfl rfl (fun j hj => ⟨rfl, rfl, q_up_ne hj, rfl, rfl⟩) ?_, hS, P.2.2.1, h3, P.2.2.2.2⟩
      refine ⟨by show 20 ≤ mK μ a ∧ mK μ a ≤ 26; omega, by show ArrOfT s cA (q_ty (mK μ a)) ∧ va_RA s cA (q_ty (mK μ a)); rw [z1]; exact e2, rfl, z1, ?_⟩
      show vp_updL (mJ μ a) i.toNatClampNeg x = p_up (mJ μ) a i.toNatClampNeg x a
      rw [q_up_eq]
      rfl
    · cases hx
  · cases hx
theorem q_isR {k : Nat} (h : 23 ≤ k) (h2 : k ≤ 26) : (q_ty k).isReference = true := by
  have : k = 23 ∨ k = 24 ∨ k = 25 ∨ k = 26 := by omega
  rcases this with h | h | h | h <;> subst h <;> rfl
theorem q_x_aald {q : p_S} (hx : p_aald pc lo st μ = some q) (hd : decode (q_cc M) pc = .ok (.aaload, 1)) (C : q_Ctx p s m args meth c M D A) (P : q_Pt s A D xa nL ad0 H locs ad μ lo st ls sa) (K : q_Nx p l e R s m args below meth c Q D A xa nL c0 s0 ad0 q) : W p l e R s m args below meth c H locs (mC μ - c0) (mS μ - s0) Q (F0 m pc ls sa) := by
  unfold p_aald at hx
  split at hx
  · rename_i i a r
    obtain ⟨v1, r1, e1, h1, v2, r2, e2, ⟨b, h2, h2'⟩, h3⟩ := P.2.2.2.1
    have h1 : v1 = .int i := h1
    subst e1 h1 e2 h2'
    split at hx
    · rename_i hz
      obtain ⟨z0, z1, z2, z3, z4⟩ := hz
      cases hx
      obtain ⟨ws, w⟩ := P.1
      obtain ⟨e, he, hc⟩ := q_Ws_at w z4 h2
      obtain ⟨cA, g, e1, e2, e3⟩ := q_cR hc z0
      subst e1
      exact W.aald (v := va_rf (g i.toNatClampNeg)) (ty := q_ty (mK μ a)) C.1 C.2.1 (w.1 a _ he) (e2.1 (mL μ a) (fun j => va_rf (g j))) (q_isR z0 z1) (fun q => by cases q) (by show ¬ (i < 0 ∨ (arrV _ _ _).slots.size ≤ _); rw [arrV_size]; exact fun q => q.elim z2 (fun w => absurd w (Nat.not_le.mpr z3))) (by show (arrV _ _ _).slots[_]? = _; rw [arrV_read _ _ z3]) rfl rfl hd (q_stk (st' := va_rf (mR μ a i.toNatClampNeg) :: r) P ⟨_, _, rfl, q_v_rf (e3 _), h3⟩ K)
    · cases hx
  · cases hx
theorem q_x_aast {q : p_S} (hx : p_aast pc lo st μ = some q) (hd : decode (q_cc M) pc = .ok (.aastore, 1)) (C : q_Ctx p s m args meth c M D A) (P : q_Pt s A D xa nL ad0 H locs ad μ lo st ls sa) (K : q_Nx p l e R s m args below meth c Q D A xa nL c0 s0 ad0 q) : W p l e R s m args below meth c H locs (mC μ - c0) (mS μ - s0) Q (F0 m pc ls sa) := by
  unfold p_aast at hx
  split at hx
  · rename_i x i a r
    obtain ⟨v0, r0, e0, ⟨bx, h0, h0'⟩, v1, r1, e1, h1, v2, r2, e2, ⟨b, h2, h2'⟩, h3⟩ := P.2.2.2.1
    have h1 : v1 = .int i := h1
    subst e0 h0' e1 h1 e2 h2'
    split at hx
    · rename_i hz
      obtain ⟨z0, z1, z2, z3, z4⟩ := hz
      cases hx
      obtain ⟨ws, w⟩ := P.1
      obtain ⟨e, he, hc⟩ := q_Ws_at w z4 h2
      obtain ⟨cA, g, e1, e2, e3⟩ := q_cR hc (by rcases z0 with z | z <;> omega)
      subst e1
      obtain ⟨ex, hex, hcx⟩ := q_Ws_at w z1 h0
      have key : ∀ (cix : Nat), cix < 15 → mK μ x = cix → q_ty (mK μ a) = .object (q_on cix) → W p l e R s m args below meth c H locs (mC μ - c0) (mS μ - s0) Q (F0 m pc ls (.ref bx :: .int i :: .ref b :: r2)) := by
        intro cix hlt hkx hty
        obtain ⟨fs, f1, -⟩ := q_cO hcx hkx hlt
        subst f1
        rw [hty] at e2
        refine va_astq (r := (q_on cix, q_T cix, q_N cix)) C.1 C.2.1 (q_K1 C.2.2.2.2.2.2.2.2.2.1 e2) w.1 w.2.1 P.2.1 a 0 x cix he rfl hex (kN cix hlt).2.2 (fun q => q.elim z2 (fun w => by omega)) hd (fun H1 locs1 hP hD hS => K H1 locs1 ad ls r2 ?_)
        refine ⟨q_Ws_set (μ' := sR μ a i.toNatClampNeg (some x)) w he hP hD rfl rfl (fun j hj => ⟨rfl, q_up_ne hj, rfl, rfl, rfl⟩) ?_, hS, P.2.2.1, h3, P.2.2.2.2⟩
        refine ⟨by show 20 ≤ mK μ a ∧ mK μ a ≤ 26; rcases z0 with z | z <;> omega, by show ArrOfT s cA (q_ty (mK μ a)) ∧ va_RA s cA (q_ty (mK μ a)); rw [hty]; exact e2, rfl, ?_⟩
        refine ⟨by show 23 ≤ mK μ a; rcases z0 with z | z <;> omega, fun j => ?_⟩
        show q_ref xa ad (p_up (mR μ) a i.toNatClampNeg (some x) a j) _
        rw [q_up_eq]
        by_cases hj : j = i.toNatClampNeg
        · subst hj
          simp only [va_up, if_pos]
          exact ⟨bx, h0, rfl⟩
        · simp only [va_up, if_neg hj]
          exact e3 j
      rcases z0 with ⟨k1, k2⟩ | ⟨k1, k2⟩
      · exact key 4 (by decide) k2 (by rw [k1]; rfl)
      · exact key 6 (by decide) k2 (by rw [k1]; rfl)
    · cases hx
  · cases hx
theorem q_x_alen {q : p_S} (hx : p_alen X pc lo st μ = some q) (hd : decode (q_cc M) pc = .ok (.arraylength, 1)) (C : q_Ctx p s m args meth c M D A) (G : q_G X xa A s) (P : q_Pt s A D xa nL ad0 H locs ad μ lo st ls sa) (K : q_Nx p l e R s m args below meth c Q D A xa nL c0 s0 ad0 q) : W p l e R s m args below meth c H locs (mC μ - c0) (mS μ - s0) Q (F0 m pc ls sa) := by
  unfold p_alen at hx
  split at hx
  · rename_i a r
    obtain ⟨v2, r2, e2, ⟨b, h2, h2'⟩, h3⟩ := P.2.2.2.1
    subst e2 h2'
    split at hx
    · rename_i hE
      split at hx
      · rename_i hz
        cases hx
        have hb := q_aX hE h2
        subst hb
        obtain ⟨cell, g1, g2, g3, g4, g5, g6⟩ := q_xat G hz P.2.1
        exact W.alen (n := nI (X (a - p_E)).1) C.1 C.2.1 g1 g2 (by rw [g4] <;> rfl) rfl rfl hd (q_stk (st' := .int (nI (X (a - p_E)).1) :: r) P ⟨_, _, rfl, rfl, h3⟩ K)
      · cases hx
    · split at hx
      · rename_i hz
        obtain ⟨z0, z1, z4⟩ := hz
        cases hx
        obtain ⟨ws, w⟩ := P.1
        obtain ⟨e, he, hc⟩ := q_Ws_at w z4 h2
        cases e with
        | inr o => obtain ⟨h1, h2, -⟩ := hc; omega
        | inl x =>
          obtain ⟨cA, x⟩ := x
          obtain ⟨-, y2, y3, -⟩ := hc
          have y3 : x.1 = mL μ a := y3
          exact va_alen C.1 C.2.1 (q_K1 C.2.2.2.2.2.2.2.2.2.1 y2) w.1 a 0 he rfl (v := nI (mL μ a)) (by rw [y3]; rfl) hd (q_stk (st' := .int (nI (mL μ a)) :: r) P ⟨_, _, rfl, rfl, h3⟩ K)
      · cases hx
  · cases hx
end QM
