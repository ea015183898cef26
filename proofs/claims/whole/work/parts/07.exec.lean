/-! one instruction of the pure machine is one of the machine -/
def q_nw (w : Cond) : Bool := match w with
  | .fieldLinkNest .. => true
  | .methodLinkNest .. => true
  | .castable .. => true
  | .declares _ => true
  | _ => false
/-- an outer array of ints -/
def q_xr (A : Nat → Prop) (U : State) (a L : Nat) (f : Nat → Int32) : Prop := ∃ cell : Cell, U.heap[a]? = some cell ∧ U.isArrayOf cell .int ∧ cell.vm ≠ .unknown ∧ cell.slots.size = L ∧ L < 2 ^ 31 ∧ (∀ j : Nat, j < L → cell.slots[j]? = some (.int (f j))) ∧ ¬ A a
/-- what holds of the tables and of the outer things, beside the words -/
def q_G (X : p_X) (xa : Nat → Nat) (A : Nat → Prop) (U : State) : Prop :=
  (∀ w ∈ lw_tbl, q_nw w = true → va_Nw w U) ∧ (∀ k, k < 3 → q_xr A U (xa k) (X k).1 (X k).2) ∧
  (va_Z "TrouserWash$House" "AT_FIRST" "[I" (.ref (xa 1)) A U U.heap ∧ va_Z "TrouserWash$Search" "AMOUNTS" "[I" (.ref (xa 2)) A U U.heap) ∧
  (∀ (o i : Nat) (v : Nat × String), q_lStr o i = some v → vk_R (q_on o) i v.2 (xa (10 + v.1)) U) ∧
  (va_AO (q_on 4) U ∧ va_AO (q_on 6) U ∧ va_AO "java/lang/Object" U ∧ va_AOA .int U) ∧
  (vx_Zq Bundle.tN "UNASSIGNED_STACK" Bundle.steD A U U.heap ∧ vx_Zq Bundle.tN "SUPPRESSED_SENTINEL" Bundle.listD A U U.heap) ∧ (∀ E F : Nat, 1 ≤ E → E ≤ 5 → 1 ≤ F → F ≤ 5 → E ≠ F → va_Nc (q_xn E) (q_xn F) U) ∧ True
/-- the fixed things of a body -/
def q_Ctx (p : Program) (s : State) (m : MethodId) (args : Array Value) (meth : Method) (c : Code) (M : q_M) (D : va_G) (A : Nat → Prop) : Prop :=
  p.tables.exec = Jvm.exec ∧ c.code = q_cc M ∧ c.maxLocals = q_ml M ∧ meth.sig.returnType = q_rt M ∧ meth.locks = false ∧ s.vm.findClass (q_on (q_o M)) = some m.cls ∧ (∀ w ∈ q_tbl, w.before args s = true) ∧ c.exceptionTable.toList = tableOf (q_hh M) ∧ meth.name = (q_y M).name ∧ va_K D vwCl [] s ∧ (∀ q, s.heap.size ≤ q → A q)
/-- where a body stands -/
def q_Pt (s : State) (A : Nat → Prop) (D : va_G) (xa : Nat → Nat) (nL : Nat) (ad0 : List Nat) (H : Heap) (locs : List Loc) (ad : List Nat) (μ : p_M) (lo st : List Value) (ls : Array Slot) (sa : List Value) : Prop :=
  q_W s H A D xa ad μ ∧ va_S A s.heap H locs ∧ q_lo xa ad nL lo ls ∧ q_st xa ad st sa ∧ ad0 <+: ad
section QX
variable {p : Program} {l : Launch} {e : Env} {R : Room} {s : State} {m : MethodId} {args : Array Value} {below : List Frame} {meth : Method} {c : Code} {H : Heap} {locs : List Loc} {Q : State → Prop}
variable {X : p_X} {M : q_M} {D : va_G} {A : Nat → Prop} {xa : Nat → Nat} {nL c0 s0 : Nat} {ad0 ad : List Nat} {μ : p_M} {lo st : List Value} {ls : Array Slot} {sa : List Value} {pc : Nat}
/-- it goes on from q -/
def q_Nx (p : Program) (l : Launch) (e : Env) (R : Room) (s : State) (m : MethodId) (args : Array Value) (below : List Frame) (meth : Method) (c : Code) (Q : State → Prop) (D : va_G) (A : Nat → Prop) (xa : Nat → Nat) (nL c0 s0 : Nat) (ad0 : List Nat) (q : p_S) : Prop :=
  ∀ (H : Heap) (locs : List Loc) (ad : List Nat) (ls : Array Slot) (sa : List Value), q_Pt s A D xa nL ad0 H locs ad q.2.2.2 q.2.1 q.2.2.1 ls sa → W p l e R s m args below meth c H locs (mC q.2.2.2 - c0) (mS q.2.2.2 - s0) Q (F0 m q.1 ls sa)
/-- a push of a number -/
theorem q_push {pc' : Nat} {v : Value} (P : q_Pt s A D xa nL ad0 H locs ad μ lo st ls sa) {w : Value} (hv : q_v xa ad v w) (K : q_Nx p l e R s m args below meth c Q D A xa nL c0 s0 ad0 (pc', lo, v :: st, μ)) : W p l e R s m args below meth c H locs (mC μ - c0) (mS μ - s0) Q (F0 m pc' ls (w :: sa)) :=
  K H locs ad ls (w :: sa) ⟨P.1, P.2.1, P.2.2.1, ⟨w, sa, rfl, hv, P.2.2.2.1⟩, P.2.2.2.2⟩
/-- another stack -/
theorem q_stk {pc' : Nat} {st' sa' : List Value} (P : q_Pt s A D xa nL ad0 H locs ad μ lo st ls sa) (hs : q_st xa ad st' sa') (K : q_Nx p l e R s m args below meth c Q D A xa nL c0 s0 ad0 (pc', lo, st', μ)) : W p l e R s m args below meth c H locs (mC μ - c0) (mS μ - s0) Q (F0 m pc' ls sa') :=
  K H locs ad ls sa' ⟨P.1, P.2.1, P.2.2.1, hs, P.2.2.2.2⟩
theorem q_x_i2 {f : Int32 → Int32 → Int32} {q : p_S} (row : ∀ (x y : Int32) (rest : List Value), W p l e R s m args below meth c H locs (mC μ - c0) (mS μ - s0) Q (F0 m (pc + 1) ls (.int (f x y) :: rest)) → W p l e R s m args below meth c H locs (mC μ - c0) (mS μ - s0) Q (F0 m pc ls (.int y :: .int x :: rest)))
    (hx : p_i2 f pc lo st μ = some q) (P : q_Pt s A D xa nL ad0 H locs ad μ lo st ls sa) (K : q_Nx p l e R s m args below meth c Q D A xa nL c0 s0 ad0 q) : W p l e R s m args below meth c H locs (mC μ - c0) (mS μ - s0) Q (F0 m pc ls sa) := by
  unfold p_i2 at hx
  split at hx
  · rename_i y x r
    cases hx
    obtain ⟨v1, r1, e1, h1, v2, r2, e2, h2, h3⟩ := P.2.2.2.1
    have h1 : v1 = .int y := h1
    have h2 : v2 = .int x := h2
    subst e1 h1 e2 h2
    exact row x y r2 (q_stk (st' := .int (f x y) :: r) P ⟨_, _, rfl, rfl, h3⟩ K)
  · cases hx
theorem q_x_l2 {f : Int64 → Int64 → Int64} {q : p_S} (row : ∀ (x y : Int64) (rest : List Value), W p l e R s m args below meth c H locs (mC μ - c0) (mS μ - s0) Q (F0 m (pc + 1) ls (.long (f x y) :: rest)) → W p l e R s m args below meth c H locs (mC μ - c0) (mS μ - s0) Q (F0 m pc ls (.long y :: .long x :: rest)))
    (hx : p_l2 f pc lo st μ = some q) (P : q_Pt s A D xa nL ad0 H locs ad μ lo st ls sa) (K : q_Nx p l e R s m args below meth c Q D A xa nL c0 s0 ad0 q) : W p l e R s m args below meth c H locs (mC μ - c0) (mS μ - s0) Q (F0 m pc ls sa) := by
  unfold p_l2 at hx
  split at hx
  · rename_i y x r
    cases hx
    obtain ⟨v1, r1, e1, h1, v2, r2, e2, h2, h3⟩ := P.2.2.2.1
    have h1 : v1 = .long y := h1
    have h2 : v2 = .long x := h2
    subst e1 h1 e2 h2
    exact row x y r2 (q_stk (st' := .long (f x y) :: r) P ⟨_, _, rfl, rfl, h3⟩ K)
  · cases hx
/-- a jump -/
theorem q_x_jmp {C : Prop} [Decidable C] {off : Int} {q : p_S} {st' sa' : List Value} (hx : p_jmp C pc off lo st' μ = some q)
    (row : ∀ tgt : Nat, (pc : Int) + off = (tgt : Int) → (C → W p l e R s m args below meth c H locs (mC μ - c0) (mS μ - s0) Q (F0 m tgt ls sa')) → (¬ C → W p l e R s m args below meth c H locs (mC μ - c0) (mS μ - s0) Q (F0 m (pc + 3) ls sa')) → W p l e R s m args below meth c H locs (mC μ - c0) (mS μ - s0) Q (F0 m pc ls sa))
    (P : q_Pt s A D xa nL ad0 H locs ad μ lo st ls sa) (hs : q_st xa ad st' sa') (K : q_Nx p l e R s m args below meth c Q D A xa nL c0 s0 ad0 q) : W p l e R s m args below meth c H locs (mC μ - c0) (mS μ - s0) Q (F0 m pc ls sa) := by
  unfold p_jmp at hx
  split at hx
  · cases hx
  · rename_i h0
    refine row ((pc : Int) + off).toNat (by omega) (fun hc => ?_) (fun hc => ?_)
    · rw [if_pos hc] at hx
      cases hx
      exact q_stk P hs K
    · rw [if_neg hc] at hx
      cases hx
      exact q_stk P hs K
theorem q_x_go {off : Int} {q : p_S} {st' sa' : List Value} (hx : p_go pc off lo st' μ = some q)
    (row : ∀ tgt : Nat, (pc : Int) + off = (tgt : Int) → W p l e R s m args below meth c H locs (mC μ - c0) (mS μ - s0) Q (F0 m tgt ls sa') → W p l e R s m args below meth c H locs (mC μ - c0) (mS μ - s0) Q (F0 m pc ls sa))
    (P : q_Pt s A D xa nL ad0 H locs ad μ lo st ls sa) (hs : q_st xa ad st' sa') (K : q_Nx p l e R s m args below meth c Q D A xa nL c0 s0 ad0 q) : W p l e R s m args below meth c H locs (mC μ - c0) (mS μ - s0) Q (F0 m pc ls sa) := by
  unfold p_go at hx
  split at hx
  · cases hx
  · rename_i h0
    cases hx
    exact row ((pc : Int) + off).toNat (by omega) (q_stk P hs K)
/-- a compare with 0 -/
theorem q_x_if {cd : ClassFile.Cond} {off : Int} {q : p_S} (hx : p_if cd off pc lo st μ = some q) (hd : decode (q_cc M) pc = .ok (.ifCond cd off, 3)) (C : q_Ctx p s m args meth c M D A) (P : q_Pt s A D xa nL ad0 H locs ad μ lo st ls sa) (K : q_Nx p l e R s m args below meth c Q D A xa nL c0 s0 ad0 q) : W p l e R s m args below meth c H locs (mC μ - c0) (mS μ - s0) Q (F0 m pc ls sa) := by
  unfold p_if at hx
  split at hx
  · rename_i x r
    obtain ⟨v1, r1, e1, h1, h3⟩ := P.2.2.2.1
    have h1 : v1 = .int x := h1
    subst e1 h1
    cases cd
    · exact q_x_jmp hx (fun tgt ht k1 k2 => lv_if_eq C.1 C.2.1 hd ht k1 k2) P h3 K
    · exact q_x_jmp hx (fun tgt ht k1 k2 => lv_if_ne C.1 C.2.1 hd ht k1 (fun z => k2 (fun w => w z))) P h3 K
    · exact q_x_jmp hx (fun tgt ht k1 k2 => lv_if_lt C.1 C.2.1 hd ht k1 k2) P h3 K
    · exact q_x_jmp hx (fun tgt ht k1 k2 => lv_if_ge C.1 C.2.1 hd ht k1 k2) P h3 K
    · exact q_x_jmp hx (fun tgt ht k1 k2 => lv_if_gt C.1 C.2.1 hd ht k1 k2) P h3 K
    · exact q_x_jmp hx (fun tgt ht k1 k2 => lv_if_le C.1 C.2.1 hd ht k1 k2) P h3 K
  · cases hx
theorem q_x_icmp {cd : ClassFile.Cond} {off : Int} {q : p_S} (hx : p_icmp cd off pc lo st μ = some q) (hd : decode (q_cc M) pc = .ok (.if_icmp cd off, 3)) (C : q_Ctx p s m args meth c M D A) (P : q_Pt s A D xa nL ad0 H locs ad μ lo st ls sa) (K : q_Nx p l e R s m args below meth c Q D A xa nL c0 s0 ad0 q) : W p l e R s m args below meth c H locs (mC μ - c0) (mS μ - s0) Q (F0 m pc ls sa) := by
  unfold p_icmp at hx
  split at hx
  · rename_i y x r
    obtain ⟨v1, r1, e1, h1, v2, r2, e2, h2, h3⟩ := P.2.2.2.1
    have h1 : v1 = .int y := h1
    have h2 : v2 = .int x := h2
    subst e1 h1 e2 h2
    cases cd
    · exact q_x_jmp hx (fun tgt ht k1 k2 => lv_icmp_eq C.1 C.2.1 hd ht k1 k2) P h3 K
    · exact q_x_jmp hx (fun tgt ht k1 k2 => lv_icmp_ne C.1 C.2.1 hd ht k1 (fun z => k2 (fun w => w z))) P h3 K
    · exact q_x_jmp hx (fun tgt ht k1 k2 => lv_icmp_lt C.1 C.2.1 hd ht k1 k2) P h3 K
    · exact q_x_jmp hx (fun tgt ht k1 k2 => lv_icmp_ge C.1 C.2.1 hd ht k1 k2) P h3 K
    · exact q_x_jmp hx (fun tgt ht k1 k2 => lv_icmp_gt C.1 C.2.1 hd ht k1 k2) P h3 K
    · exact q_x_jmp hx (fun tgt ht k1 k2 => lv_icmp_le C.1 C.2.1 hd ht k1 k2) P h3 K
  · cases hx
/-- locals -/
theorem q_x_ild {k len : Nat} {q : p_S} (hx : p_ild k len pc lo st μ = some q) (row : ∀ (x : Int32), ls[k]? = some (.val (.int x)) → W p l e R s m args below meth c H locs (mC μ - c0) (mS μ - s0) Q (F0 m (pc + len) ls (.int x :: sa)) → W p l e R s m args below meth c H locs (mC μ - c0) (mS μ - s0) Q (F0 m pc ls sa))
    (P : q_Pt s A D xa nL ad0 H locs ad μ lo st ls sa) (K : q_Nx p l e R s m args below meth c Q D A xa nL c0 s0 ad0 q) : W p l e R s m args below meth c H locs (mC μ - c0) (mS μ - s0) Q (F0 m pc ls sa) := by
  unfold p_ild at hx
  split at hx
  · rename_i x hl
    cases hx
    obtain ⟨v, h1, h2⟩ := q_lo_at P.2.2.1 hl (by intro z; cases z)
    have h1 : v = .int x := h1
    subst h1
    exact row x h2 (q_push (v := .int x) P rfl K)
  · cases hx
theorem q_x_ald {k len : Nat} {q : p_S} (hx : p_ald k len pc lo st μ = some q) (row : ∀ (x : Nat), ls[k]? = some (.val (.ref x)) → W p l e R s m args below meth c H locs (mC μ - c0) (mS μ - s0) Q (F0 m (pc + len) ls (.ref x :: sa)) → W p l e R s m args below meth c H locs (mC μ - c0) (mS μ - s0) Q (F0 m pc ls sa))
    (P : q_Pt s A D xa nL ad0 H locs ad μ lo st ls sa) (K : q_Nx p l e R s m args below meth c Q D A xa nL c0 s0 ad0 q) : W p l e R s m args below meth c H locs (mC μ - c0) (mS μ - s0) Q (F0 m pc ls sa) := by
  unfold p_ald at hx
  split at hx
  · rename_i x hl
    cases hx
    obtain ⟨v, ⟨a, h1, h3⟩, h2⟩ := q_lo_at P.2.2.1 hl (by intro z; cases z)
    subst h3
    exact row a h2 (q_push (v := .ref x) P ⟨a, h1, rfl⟩ K)
  · cases hx
/-- a store into a local: the row for any list of the locals -/
theorem q_x_sto {k pc' : Nat} {pv v : Value} {st' sa' : List Value} (hk : k < lo.length) (hv : q_v xa ad pv v) (hc : v.category = 1) (hs : q_st xa ad st' sa')
    (row : ∀ (lv : List (Nat × Value)), lv_has ls nL lv → k < nL → (∀ ls' : Array Slot, lv_has ls' nL ((k, v) :: lv.filter (fun q => !(q.1 == k) && !(q.1 + 1 == k && q.2.category == 2))) → W p l e R s m args below meth c H locs (mC μ - c0) (mS μ - s0) Q (F0 m pc' ls' sa')) → W p l e R s m args below meth c H locs (mC μ - c0) (mS μ - s0) Q (F0 m pc ls sa))
    (P : q_Pt s A D xa nL ad0 H locs ad μ lo st ls sa) (K : q_Nx p l e R s m args below meth c Q D A xa nL c0 s0 ad0 (pc', lo.set k pv, st', μ)) : W p l e R s m args below meth c H locs (mC μ - c0) (mS μ - s0) Q (F0 m pc ls sa) := by
  obtain ⟨lv, h1, h2, h3⟩ := P.2.2.1
  refine row lv h1 (by omega) (fun ls' hl => ?_)
  exact K H locs ad ls' sa' ⟨P.1, P.2.1, q_lo_set h2 h3 hv hc hl, hs, P.2.2.2.2⟩
theorem q_x_ist {k len : Nat} {q : p_S} (hx : p_ist k len pc lo st μ = some q)
    (row : ∀ (x : Int32) (rest : List Value) (lv : List (Nat × Value)), lv_has ls nL lv → k < nL → (∀ ls' : Array Slot, lv_has ls' nL ((k, .int x) :: lv.filter (fun q => !(q.1 == k) && !(q.1 + 1 == k && q.2.category == 2))) → W p l e R s m args below meth c H locs (mC μ - c0) (mS μ - s0) Q (F0 m (pc + len) ls' rest)) → W p l e R s m args below meth c H locs (mC μ - c0) (mS μ - s0) Q (F0 m pc ls (.int x :: rest)))
    (P : q_Pt s A D xa nL ad0 H locs ad μ lo st ls sa) (K : q_Nx p l e R s m args below meth c Q D A xa nL c0 s0 ad0 q) : W p l e R s m args below meth c H locs (mC μ - c0) (mS μ - s0) Q (F0 m pc ls sa) := by
  unfold p_ist at hx
  split at hx
  · rename_i x r
    split at hx
    · rename_i hk
      cases hx
      obtain ⟨v1, r1, e1, h1, h3⟩ := P.2.2.2.1
      have h1 : v1 = .int x := h1
      subst e1 h1
      exact q_x_sto (pv := .int x) (v := .int x) hk rfl rfl h3 (row x r1) P K
    · cases hx
  · cases hx
theorem q_x_ast {k len : Nat} {q : p_S} (hx : p_ast k len pc lo st μ = some q)
    (row : ∀ (x : Nat) (rest : List Value) (lv : List (Nat × Value)), lv_has ls nL lv → k < nL → (∀ ls' : Array Slot, lv_has ls' nL ((k, .ref x) :: lv.filter (fun q => !(q.1 == k) && !(q.1 + 1 == k && q.2.category == 2))) → W p l e R s m args below meth c H locs (mC μ - c0) (mS μ - s0) Q (F0 m (pc + len) ls' rest)) → W p l e R s m args below meth c H locs (mC μ - c0) (mS μ - s0) Q (F0 m pc ls (.ref x :: rest)))
    (P : q_Pt s A D xa nL ad0 H locs ad μ lo st ls sa) (K : q_Nx p l e R s m args below meth c Q D A xa nL c0 s0 ad0 q) : W p l e R s m args below meth c H locs (mC μ - c0) (mS μ - s0) Q (F0 m pc ls sa) := by
  unfold p_ast at hx
  split at hx
  · rename_i x r
    split at hx
    · rename_i hk
      cases hx
      obtain ⟨v1, r1, e1, ⟨a, h1, h2⟩, h3⟩ := P.2.2.2.1
      subst e1 h2
      exact q_x_sto (pv := .ref x) hk ⟨a, h1, rfl⟩ rfl h3 (row a r1) P K
    · cases hx
  · rename_i x r
    split at hx
    · rename_i hk
      cases hx
      obtain ⟨v1, r1, e1, ⟨a, h2⟩, h3⟩ := P.2.2.2.1
      subst e1 h2
      exact q_x_sto (pv := .retAddr x) hk ⟨a, rfl⟩ rfl h3 (row a r1) P K
    · cases hx
  · cases hx
theorem q_x_iinc {k : Nat} {n : Int} {q : p_S} (hx : p_iinc k n pc lo st μ = some q) (hd : decode (q_cc M) pc = .ok (.iinc k n, 3)) (C : q_Ctx p s m args meth c M D A) (P : q_Pt s A D xa nL ad0 H locs ad μ lo st ls sa) (K : q_Nx p l e R s m args below meth c Q D A xa nL c0 s0 ad0 q) : W p l e R s m args below meth c H locs (mC μ - c0) (mS μ - s0) Q (F0 m pc ls sa) := by
  unfold p_iinc at hx
  split at hx
  · rename_i x hl
    cases hx
    obtain ⟨lv, h1, h2, h3⟩ := P.2.2.1
    rcases h3 k _ hl with z | ⟨v, g1, g2, g3⟩
    · cases z
    · have g1 : v = .int x := g1
      subst g1
      obtain ⟨kk, hkk⟩ := List.getElem?_of_mem g3
      have hk : k < lo.length := (List.getElem?_eq_some_iff.mp hl).1
      refine lv_iinc C.1 C.2.1 hd h1 hkk rfl (by omega) rfl (fun ls' hl' => ?_)
      exact K H locs ad ls' sa ⟨P.1, P.2.1, q_lo_set (p := .int (x + Int32.ofInt n)) (v := .int (x + Int32.ofInt n)) h2 h3 rfl rfl hl', P.2.2.2.1, P.2.2.2.2⟩
  · cases hx
theorem q_x_tsw {d lo' hi : Int} {offs : Array Int} {len : Nat} {q : p_S} (hx : p_tsw d lo' hi offs pc lo st μ = some q) (hd : decode (q_cc M) pc = .ok (.tableswitch d lo' hi offs, len)) (C : q_Ctx p s m args meth c M D A) (P : q_Pt s A D xa nL ad0 H locs ad μ lo st ls sa) (K : q_Nx p l e R s m args below meth c Q D A xa nL c0 s0 ad0 q) : W p l e R s m args below meth c H locs (mC μ - c0) (mS μ - s0) Q (F0 m pc ls sa) := by
  unfold p_tsw at hx
  split at hx
  · rename_i x r
    obtain ⟨v1, r1, e1, h1, h3⟩ := P.2.2.2.1
    have h1 : v1 = .int x := h1
    subst e1 h1
    split at hx
    · rename_i hz
      exact q_x_go hx (fun tgt ht k => lv_tableOut C.1 C.2.1 hd hz ht k) P h3 K
    · rename_i hz
      split at hx
      · rename_i off ho
        exact q_x_go hx (fun tgt ht k => lv_tableIn C.1 C.2.1 hd (fun z => hz (Or.inl z)) (fun z => hz (Or.inr z)) ho ht k) P h3 K
      · cases hx
  · cases hx
theorem q_x_lsw {d : Int} {ps : Array (Int × Int)} {len : Nat} {q : p_S} (hx : p_lsw d ps pc lo st μ = some q) (hd : decode (q_cc M) pc = .ok (.lookupswitch d ps, len)) (C : q_Ctx p s m args meth c M D A) (P : q_Pt s A D xa nL ad0 H locs ad μ lo st ls sa) (K : q_Nx p l e R s m args below meth c Q D A xa nL c0 s0 ad0 q) : W p l e R s m args below meth c H locs (mC μ - c0) (mS μ - s0) Q (F0 m pc ls sa) := by
  unfold p_lsw at hx
  split at hx
  · rename_i x r
    obtain ⟨v1, r1, e1, h1, h3⟩ := P.2.2.2.1
    have h1 : v1 = .int x := h1
    subst e1 h1
    split at hx
    · rename_i hz
      exact q_x_go hx (fun tgt ht k => lv_lookup C.1 C.2.1 hd hz rfl ht k) P h3 K
    · cases hx
  · cases hx
end QX
