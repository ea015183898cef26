section
/-! a start that the Statement allows, with one more class of kind array over int: the cell behind AT_FIRST is of that class -/
def bd_code : Code := ⟨0, 1, ByteArray.empty, #[], #[]⟩
def bd_m : Method := { name := "clone", desc := "()Ljava/lang/Object;", sig := { parameters := [], returnType := some (.object "java/lang/Object") }, accessFlags := 0x1, code := some bd_code }
def bd_c : Class := { start1.cArr "[I" 43 .int with methods := #[bd_m] }
def bd_cell (c : Cell) : Cell := { c with cls := 53 }
def bd_of (t : State) : State := { t with vm := { t.vm with classes := t.vm.classes.push bd_c }, heap := t.heap.modify 8 bd_cell }
def bd_s : State := bd_of (start1.aboutOf #[])
def bd_ok (b : Nat) (s : State) : Bool := match s.frames with
  | .throwing _ :: _ => false
  | fs => decide (b < fs.length)
def bd_halts (tb : Tables) (e : Env) (b : Nat) : Nat → State → Bool
  | 0, _ => false
  | n + 1, s => match s.status with
    | .running => match s.curStatus? with
      | some .runnable => match s.alone, bd_ok b s with
        | true, true => bd_halts tb e b n (stepThread tb e s).1
        | _, _ => false
      | _ => false
    | _ => true
theorem bd_t0 : (bd_s.vm.classes.size == 54 && (bd_s.heap[8]?).any (fun c => c.cls == 53)) = true := by decide +kernel
/-- the run stops before it ends -/
theorem bd_halt : bd_halts start1.p0.tables start1.e0 Lib.HandBits.below0.length 160 bd_s = true := by decide +kernel
end
section
/-! what holds of tables holds of the tables with one more class behind them: bytecodes, and links of methods that the named class declares -/
theorem bd_find {s t : State} {k : Class} (ht : t.vm = { s.vm with classes := s.vm.classes.push k }) {n : String} {c : ClassId} (h : s.vm.findClass n = some c) : t.vm.findClass n = some c := by
  unfold Vm.findClass at h ⊢
  rw [ht]
  show (s.vm.classes.push k).findIdx? _ = some c
  rw [Array.push_eq_append, Array.findIdx?_append, h]; rfl
theorem bd_cls {s t : State} {k q : Class} (ht : t.vm = { s.vm with classes := s.vm.classes.push k }) {c : ClassId} (h : s.vm.classes[c]? = some q) : t.vm.classes[c]? = some q := by
  have hc : c < s.vm.classes.size := by
    rcases Array.getElem?_eq_some_iff.mp h with ⟨hc, _⟩; exact hc
  rw [ht]
  show (s.vm.classes.push k)[c]? = some q
  rw [Array.getElem?_push]
  rw [if_neg (Nat.ne_of_lt hc)]; exact h
theorem bd_named {s t : State} {k : Class} (ht : t.vm = { s.vm with classes := s.vm.classes.push k }) {y : MethodName} {m : MethodId} (h : s.methodNamed? y = some m) : t.methodNamed? y = some m := by
  unfold State.methodNamed? at h ⊢
  cases hc : s.vm.findClass y.cls with
  | none => rw [hc] at h; cases h
  | some c =>
    rw [hc] at h; rw [bd_find ht hc]
    simp only [Option.bind_eq_bind, Option.bind_some] at h ⊢
    cases hk : s.vm.classes[c]? with
    | none => rw [hk] at h; cases h
    | some q => rw [hk] at h; rw [bd_cls ht hk]; exact h
theorem bd_meth {s t : State} {k : Class} (ht : t.vm = { s.vm with classes := s.vm.classes.push k }) {m : MethodId} {f : Method} (h : s.vm.method? m = some f) : t.vm.method? m = some f := by
  unfold Vm.method? at h ⊢
  cases hk : s.vm.classes[m.cls]? with
  | none => rw [hk] at h; cases h
  | some q => rw [hk] at h; rw [bd_cls ht hk]; exact h
theorem bd_code_tr {s t : State} {k : Class} (ht : t.vm = { s.vm with classes := s.vm.classes.push k }) {a : Array Value} : ∀ c : Jvm.Cond, su_isCode c = true → c.before a s = true → c.before a t = true := by
  intro c hq h
  unfold su_isCode at hq
  split at hq
  · rename_i y bytes ml rt
    simp only [Cond.before, Cond.holds, Cond.value] at h ⊢
    cases hn : s.methodNamed? y with
    | none => rw [hn] at h; simp at h
    | some m =>
      cases hm : s.vm.method? m with
      | none => rw [hn] at h; simp [hm] at h
      | some f =>
        rw [hn] at h; rw [bd_named ht hn]
        simp only [Option.bind_some, hm, bd_meth ht hm] at h ⊢
        exact h
  · cases hq
theorem bd_sub {s t : State} {k : Class} (ht : t.vm = { s.vm with classes := s.vm.classes.push k }) : ∀ (n : Nat) (a b : ClassId), s.vm.isSubclassAux n a b = true → t.vm.isSubclassAux (n + 1) a b = true
  | 0, a, b, h => by cases h
  | n + 1, a, b, h => by
    unfold Vm.isSubclassAux at h ⊢
    rcases Bool.or_eq_true _ _ ▸ h with h | h
    · rw [h]; rfl
    · cases hk : s.vm.classes[a]? with
      | none => rw [hk] at h; cases h
      | some q =>
        rw [hk] at h; rw [bd_cls ht hk]
        cases hp : q.super with
        | none => simp only [hp] at h; cases h
        | some p =>
          simp only [hp] at h ⊢
          rw [bd_sub ht n p b h, Bool.or_true]
theorem bd_size {s t : State} {k : Class} (ht : t.vm = { s.vm with classes := s.vm.classes.push k }) : t.vm.classes.size = s.vm.classes.size + 1 := by
  rw [ht]; show (s.vm.classes.push k).size = _; rw [Array.size_push]
theorem bd_subc {s t : State} {k : Class} (ht : t.vm = { s.vm with classes := s.vm.classes.push k }) (a b : ClassId) (h : s.vm.isSubclass a b = true) : t.vm.isSubclass a b = true := by
  unfold Vm.isSubclass at h ⊢
  rw [bd_size ht]; exact bd_sub ht _ a b h
theorem bd_plain {s t : State} {k : Class} (ht : t.vm = { s.vm with classes := s.vm.classes.push k }) {fl : Nat} {c d u : ClassId} {ck dk : Class} (h : plainAccess s.vm fl c ck u d dk = true) : plainAccess t.vm fl c ck u d dk = true := by
  unfold plainAccess at h ⊢
  simp only [Bool.or_eq_true, Bool.and_eq_true] at h ⊢
  rcases h with h | h
  · exact .inl h
  · refine .inr ⟨⟨h.1.1, bd_subc ht _ _ h.1.2⟩, ?_⟩
    rcases h.2 with (h | h) | h
    · exact .inl (.inl h)
    · exact .inl (.inr (bd_subc ht _ _ h))
    · exact .inr (bd_subc ht _ _ h)
theorem bd_bm {s t : State} {k : Class} (ht : t.vm = { s.vm with classes := s.vm.classes.push k }) : ∀ (n : Nat) (c : Option ClassId), s.vm.belowMagic n c = true → t.vm.belowMagic (n + 1) c = true
  | 0, c, h => by unfold Vm.belowMagic at h; cases h
  | n + 1, none, h => by unfold Vm.belowMagic at h; cases h
  | n + 1, some c, h => by
    unfold Vm.belowMagic at h ⊢
    cases hk : s.vm.classes[c]? with
    | none => rw [hk] at h; cases h
    | some q =>
      rw [hk] at h; rw [bd_cls ht hk]
      simp only [Option.any_some, Bool.or_eq_true] at h ⊢
      rcases h with h | h
      · exact .inl h
      · exact .inr (bd_bm ht n _ h)
theorem bd_acc {s t : State} {k : Class} (ht : t.vm = { s.vm with classes := s.vm.classes.push k }) {p : Platform} {c d : Class} (h : s.vm.classAccessible p c d = true) : t.vm.classAccessible p c d = true := by
  unfold Vm.classAccessible at h ⊢
  have hm : t.vm.moduleBar c d = s.vm.moduleBar c d := by rw [ht]; rfl
  rw [hm]
  simp only [Bool.or_eq_true, Bool.and_eq_true] at h ⊢
  rcases h with h | h
  · exact .inl h
  · refine .inr ⟨h.1, ?_⟩
    have h2 := h.2
    unfold Vm.magic at h2 ⊢
    simp only [Bool.or_eq_true] at h2 ⊢
    rcases h2 with h2 | h2
    · exact .inl h2
    · refine .inr ?_
      rw [bd_size ht]; exact bd_bm ht _ _ h2
theorem bd_pool {s t : State} {k dk : Class} (ht : t.vm = { s.vm with classes := s.vm.classes.push k }) {cls : String} {d : ClassId} (hd : s.vm.findClass cls = some d) (hk : s.vm.classes[d]? = some dk) : t.poolOf? cls = s.poolOf? cls := by
  unfold State.poolOf?
  rw [bd_find ht hd, hd]
  simp only [Option.bind_eq_bind, Option.bind_some, bd_cls ht hk, hk]
theorem bd_names {s t : State} {k dk : Class} (ht : t.vm = { s.vm with classes := s.vm.classes.push k }) {cls : String} {d : ClassId} (hd : s.vm.findClass cls = some d) (hk : s.vm.classes[d]? = some dk) (i : Nat) (w : Names) : t.names cls i w = s.names cls i w := by
  unfold State.names; rw [bd_pool ht hd hk]
theorem bd_open {s t : State} {k dk : Class} (ht : t.vm = { s.vm with classes := s.vm.classes.push k }) {cls : String} {d : ClassId} (hd : s.vm.findClass cls = some d) (hk : s.vm.classes[d]? = some dk) (i : Nat) (w : Resolved) : t.openOr cls i w = s.openOr cls i w := by
  unfold State.openOr
  rw [bd_find ht hd, hd]
  simp only [Option.bind_some, bd_cls ht hk, hk]
theorem bd_entry {s t : State} {k dk : Class} (ht : t.vm = { s.vm with classes := s.vm.classes.push k }) {cls : String} {d : ClassId} (hd : s.vm.findClass cls = some d) (hk : s.vm.classes[d]? = some dk) (i : Nat) : t.memberEntry? cls i = s.memberEntry? cls i := by
  unfold State.memberEntry?; rw [bd_pool ht hd hk]
theorem bd_clinks {s t : State} {k : Class} (ht : t.vm = { s.vm with classes := s.vm.classes.push k }) {cls n : String} {i : Nat} (h : s.classLinks cls i n = some true) : t.classLinks cls i n = some true := by
  unfold State.classLinks at h ⊢
  cases hd : s.vm.findClass cls with
  | none => rw [hd] at h; cases h
  | some d =>
    cases hc : s.vm.findClass n with
    | none => rw [hd, hc] at h; cases h
    | some c =>
      rw [hd, hc] at h; rw [bd_find ht hd, bd_find ht hc]
      simp only [Option.bind_eq_bind] at h ⊢
      cases hdk : s.vm.classes[d]? with
      | none => rw [hdk] at h; cases h
      | some dk =>
        cases hck : s.vm.classes[c]? with
        | none => rw [hdk, hck] at h; cases h
        | some ck =>
          rw [hdk, hck] at h; rw [bd_cls ht hdk, bd_cls ht hck]
          simp only [Option.bind_some, Option.pure_def, Option.some.injEq, Bool.and_eq_true] at h ⊢
          rw [bd_names ht hd hdk, bd_open ht hd hdk]
          exact ⟨h.1, bd_acc ht h.2⟩
theorem bd_link_tr {s t : State} {k : Class} (ht : t.vm = { s.vm with classes := s.vm.classes.push k }) {a : Array Value} {cls : String} {i : Nat} {y : MethodName} {m : MethodId} (hn : s.methodNamed? y = some m)
    (hx : y.cls ≠ "java/lang/invoke/MethodHandle" ∧ y.cls ≠ "java/lang/invoke/VarHandle") (h : (Cond.methodLink cls i y).before a s = true) : (Cond.methodLink cls i y).before a t = true := by
  simp only [Cond.before, Cond.holds, Cond.value] at h ⊢
  rw [State.methodFound?_of_named hn hx] at h
  rw [State.methodFound?_of_named (bd_named ht hn) hx]
  cases hd : s.vm.findClass cls with
  | none => rw [hd] at h; cases he : s.memberEntry? cls i <;> rw [he] at h <;> cases h
  | some d =>
    cases hc : s.vm.findClass y.cls with
    | none => rw [hd, hc] at h; cases he : s.memberEntry? cls i <;> rw [he] at h <;> cases h
    | some c =>
      cases hdk : s.vm.classes[d]? with
      | none =>
        have : s.memberEntry? cls i = none := by
          unfold State.memberEntry? State.poolOf?; rw [hd]; simp only [Option.bind_eq_bind, Option.bind_some, hdk]; rfl
        rw [this] at h; cases h
      | some dk =>
        rw [bd_entry ht hd hdk, bd_find ht hd, bd_find ht hc]
        rw [hd, hc] at h
        cases he : s.memberEntry? cls i with
        | none => rw [he] at h; cases h
        | some p =>
          obtain ⟨ci, via⟩ := p
          rw [he] at h
          simp only [Option.bind_eq_bind] at h ⊢
          cases hl : s.classLinks cls ci y.cls with
          | none => rw [hl] at h; cases h
          | some b =>
            cases hck : s.vm.classes[c]? with
            | none => rw [hl] at h; simp only [Option.bind_some, hdk, hck, Option.bind_none] at h; cases h
            | some ck =>
              cases hmk : s.vm.classes[m.cls]? with
              | none => rw [hl] at h; simp only [Option.bind_some, hdk, hck, hmk, Option.bind_none] at h; cases h
              | some mk =>
                cases hme : s.vm.method? m with
                | none => rw [hl] at h; simp only [Option.bind_some, hdk, hck, hmk, hme, Option.bind_none] at h; cases h
                | some meth =>
                  rw [hl] at h
                  simp only [Option.bind_some, hdk, hck, hmk, hme, Option.pure_def, beq_iff_eq, Option.some.injEq, Bool.and_eq_true] at h
                  have hb : b = true := h.1.1.1.1.1.1.1
                  subst hb
                  rw [bd_clinks ht hl]
                  simp only [Option.bind_some, bd_cls ht hdk, bd_cls ht hck, bd_cls ht hmk, bd_meth ht hme, Option.pure_def, beq_iff_eq, Option.some.injEq, Bool.and_eq_true]
                  rw [bd_names ht hd hdk, bd_open ht hd hdk]
                  refine ⟨⟨⟨⟨⟨⟨⟨trivial, h.1.1.1.1.1.1.2⟩, h.1.1.1.1.1.2⟩, h.1.1.1.1.2⟩, h.1.1.1.2⟩, h.1.1.2⟩, h.1.2⟩, ?_⟩
                  rcases Bool.or_eq_true _ _ ▸ h.2 with h2 | h2
                  · rw [bd_plain ht h2]; rfl
                  · rw [h2, Bool.or_true]
def bd_own (s : State) (ref name desc : String) : Bool := match parseFieldDescriptor desc, s.vm.findClass ref with
  | some ty, some c => match s.vm.classes[c]? with
    | some k => (k.findField name ty).isSome
    | none => false
  | _, _ => false
theorem bd_look {vm : Vm} {c i : Nat} {k : Class} {name : String} {ty : FieldType} (hk : vm.classes[c]? = some k) (hi : k.findField name ty = some i) (n : Nat) : lookupField vm name ty (n + 1) c = some (c, i) := by
  unfold lookupField lookupFieldAux
  rw [hk]
  simp only [hi]
  rfl
theorem bd_ff {s t : State} {k : Class} (ht : t.vm = { s.vm with classes := s.vm.classes.push k }) {ref name desc : String} (h : bd_own s ref name desc = true) : t.fieldFound? ref name desc = s.fieldFound? ref name desc := by
  unfold bd_own at h
  unfold State.fieldFound?
  cases hp : parseFieldDescriptor desc with
  | none => rw [hp] at h; cases h
  | some ty =>
    cases hc : s.vm.findClass ref with
    | none => rw [hp, hc] at h; cases h
    | some c =>
      rw [hp, hc] at h
      cases hk : s.vm.classes[c]? with
      | none => simp only [hk] at h; cases h
      | some q =>
        simp only [hk] at h
        cases hi : q.findField name ty with
        | none => rw [hi] at h; cases h
        | some i =>
          rw [bd_find ht hc]
          simp only [Option.bind_eq_bind, Option.bind_some, bd_look hk hi, bd_look (bd_cls ht hk) hi, hk, bd_cls ht hk]
theorem bd_host {s t : State} {k : Class} (ht : t.vm = { s.vm with classes := s.vm.classes.push k }) {m h : ClassId} (hh : s.vm.hostNow? m = some h) : t.vm.hostNow? m = some h := by
  unfold Vm.hostNow? at hh ⊢
  simp only [Option.bind_eq_bind] at hh ⊢
  cases hk : s.vm.classes[m]? with
  | none => rw [hk] at hh; cases hh
  | some q =>
    rw [hk] at hh; rw [bd_cls ht hk]
    simp only [Option.bind_some] at hh ⊢
    split at hh
    · cases hh
    · rename_i hl
      rw [if_neg hl]
      cases hq : q.nestHost with
      | some u => simp only [hq] at hh ⊢; exact hh
      | none =>
        simp only [hq] at hh ⊢
        cases hcf : q.cf with
        | none => rw [hcf] at hh; cases hh
        | some cf =>
          rw [hcf] at hh
          simp only [Option.bind_some] at hh ⊢
          split at hh
          · exact hh
          · rename_i hi he
            split at hh
            · cases hh
            · cases hh
            · cases hcn : cf.constantPool.className? hi with
              | none => rw [hcn] at hh; cases hh
              | some nm =>
                rw [hcn] at hh
                simp only [Option.bind_some] at hh ⊢
                cases hf : s.vm.findClass nm with
                | none => rw [hf] at hh; cases hh
                | some u =>
                  rw [hf] at hh; rw [bd_find ht hf]
                  simp only [Option.bind_some] at hh ⊢
                  cases hu : s.vm.classes[u]? with
                  | none => rw [hu] at hh; cases hh
                  | some uk =>
                    rw [hu] at hh; rw [bd_cls ht hu]
                    exact hh
theorem bd_flink_tr {s t : State} {k : Class} (ht : t.vm = { s.vm with classes := s.vm.classes.push k }) {a : Array Value} {cls ref name desc : String} {i : Nat} (ho : bd_own s ref name desc = true)
    (h : (Cond.fieldLink cls i ref name desc).before a s = true) : (Cond.fieldLink cls i ref name desc).before a t = true := by
  simp only [Cond.before, Cond.holds, Cond.value] at h ⊢
  rw [bd_ff ht ho]
  cases hd : s.vm.findClass cls with
  | none => rw [hd] at h; cases he : s.memberEntry? cls i <;> rw [he] at h <;> cases h
  | some d =>
    cases hc : s.vm.findClass ref with
    | none =>
      rw [hd, hc] at h
      cases he : s.memberEntry? cls i <;> cases hf : s.fieldFound? ref name desc <;> rw [he, hf] at h <;> cases h
    | some u =>
      cases hdk : s.vm.classes[d]? with
      | none =>
        have : s.memberEntry? cls i = none := by
          unfold State.memberEntry? State.poolOf?; rw [hd]; simp only [Option.bind_eq_bind, Option.bind_some, hdk]; rfl
        rw [this] at h; cases h
      | some dk =>
        rw [bd_entry ht hd hdk, bd_find ht hd, bd_find ht hc]
        rw [hd, hc] at h
        cases he : s.memberEntry? cls i with
        | none => rw [he] at h; cases h
        | some p =>
          obtain ⟨ci, via⟩ := p
          cases hf : s.fieldFound? ref name desc with
          | none => rw [he, hf] at h; cases h
          | some g =>
            obtain ⟨c, kk, j, f⟩ := g
            rw [he, hf] at h
            simp only [Option.bind_eq_bind] at h ⊢
            cases hl : s.classLinks cls ci ref with
            | none => rw [hl] at h; cases h
            | some b =>
              rw [hl] at h
              simp only [Option.bind_some, hdk, Option.pure_def, beq_iff_eq, Option.some.injEq, Bool.and_eq_true] at h
              have hb : b = true := h.1.1.1.1
              subst hb
              rw [bd_clinks ht hl]
              simp only [Option.bind_some, bd_cls ht hdk, Option.pure_def, beq_iff_eq, Option.some.injEq, Bool.and_eq_true]
              rw [bd_names ht hd hdk, bd_open ht hd hdk]
              exact ⟨⟨⟨⟨trivial, h.1.1.1.2⟩, h.1.1.2⟩, h.1.2⟩, bd_plain ht h.2⟩
theorem bd_fnest_tr {s t : State} {k : Class} (ht : t.vm = { s.vm with classes := s.vm.classes.push k }) {a : Array Value} {cls ref name desc host : String} {i : Nat} (ho : bd_own s ref name desc = true)
    (h : (Cond.fieldLinkNest cls i ref name desc host).before a s = true) : (Cond.fieldLinkNest cls i ref name desc host).before a t = true := by
  simp only [Cond.before, Cond.holds, Cond.value] at h ⊢
  rw [bd_ff ht ho]
  cases hd : s.vm.findClass cls with
  | none => rw [hd] at h; cases he : s.memberEntry? cls i <;> rw [he] at h <;> cases h
  | some d =>
    cases hc : s.vm.findClass ref with
    | none =>
      rw [hd, hc] at h
      cases he : s.memberEntry? cls i <;> cases hf : s.fieldFound? ref name desc <;> rw [he, hf] at h <;> cases h
    | some u =>
      cases hho : s.vm.findClass host with
      | none =>
        rw [hd, hc, hho] at h
        cases he : s.memberEntry? cls i <;> cases hf : s.fieldFound? ref name desc <;> rw [he, hf] at h <;> cases h
      | some hh =>
        cases hdk : s.vm.classes[d]? with
        | none =>
          have : s.memberEntry? cls i = none := by
            unfold State.memberEntry? State.poolOf?; rw [hd]; simp only [Option.bind_eq_bind, Option.bind_some, hdk]; rfl
          rw [this] at h; cases h
        | some dk =>
          rw [bd_entry ht hd hdk, bd_find ht hd, bd_find ht hc, bd_find ht hho]
          rw [hd, hc, hho] at h
          cases he : s.memberEntry? cls i with
          | none => rw [he] at h; cases h
          | some p =>
            obtain ⟨ci, via⟩ := p
            cases hf : s.fieldFound? ref name desc with
            | none => rw [he, hf] at h; cases h
            | some g =>
              obtain ⟨c, kk, j, f⟩ := g
              rw [he, hf] at h
              simp only [Option.bind_eq_bind] at h ⊢
              cases hl : s.classLinks cls ci ref with
              | none => rw [hl] at h; cases h
              | some b =>
                rw [hl] at h
                simp only [Option.bind_some] at h
                split at h
                · rename_i hcond
                  have hb : b = true := by
                    simp only [Bool.and_eq_true] at hcond; exact hcond.1.1.1.1.1.1.1
                  subst hb
                  rw [bd_clinks ht hl]
                  simp only [Option.bind_some]
                  rw [bd_names ht hd hdk, bd_open ht hd hdk, if_pos hcond]
                  split at h
                  · rename_i h2
                    simp only [Bool.and_eq_true, beq_iff_eq] at h2
                    rw [bd_host ht h2.1, bd_host ht h2.2]
                    simp
                  · cases h
                · cases h
def bd_easy (s : State) : Jvm.Cond → Bool
  | .code .. => true
  | .methodLink _ _ y => (s.methodNamed? y).isSome && decide (y.cls ≠ "java/lang/invoke/MethodHandle") && decide (y.cls ≠ "java/lang/invoke/VarHandle")
  | .classLink .. => true
  | .fieldLink _ _ ref name desc => bd_own s ref name desc
  | .fieldLinkNest _ _ ref name desc _ => bd_own s ref name desc
  | _ => false
theorem bd_tr {s t : State} {k : Class} (ht : t.vm = { s.vm with classes := s.vm.classes.push k }) {a : Array Value} (c : Jvm.Cond) (he : bd_easy s c = true) (h : c.before a s = true) : c.before a t = true := by
  unfold bd_easy at he
  split at he
  · exact bd_code_tr ht _ rfl h
  · rename_i cls i y
    simp only [Bool.and_eq_true, decide_eq_true_eq] at he
    cases hn : s.methodNamed? y with
    | none => rw [hn] at he; cases he.1.1
    | some m => exact bd_link_tr ht hn ⟨he.1.2, he.2⟩ h
  · simp only [Cond.before, Cond.holds, Cond.value, beq_iff_eq] at h ⊢
    exact bd_clinks ht h
  · exact bd_flink_tr ht he h
  · exact bd_fnest_tr ht he h
  · cases he
end
section
/-! the words of tables_1 at that start: those that part 00b takes over, or by evaluation -/
def bd_p (c : Jvm.Cond) : Bool := bd_easy start1.about c || c.before start1.args0 bd_s
theorem bd_split {α : Type} (p : α → Bool) (k n : Nat) (l : List α) (h1 : ((l.drop k).take n).all p = true) (h2 : (l.drop (k + n)).all p = true) : (l.drop k).all p = true := by
  have h : (l.drop k).take n ++ (l.drop k).drop n = l.drop k := List.take_append_drop n (l.drop k)
  rw [← h, List.all_append, h1, List.drop_drop, h2]; rfl
set_option maxRecDepth 16384 in
theorem bd_w_1_0 : ((tables_1_1.drop 0).take 40).all bd_p = true := by decide +kernel
set_option maxRecDepth 16384 in
theorem bd_w_1_1 : ((tables_1_1.drop 40).take 40).all bd_p = true := by decide +kernel
set_option maxRecDepth 16384 in
theorem bd_w_1_2 : ((tables_1_1.drop 80).take 40).all bd_p = true := by decide +kernel
set_option maxRecDepth 16384 in
theorem bd_w_1_3 : ((tables_1_1.drop 120).take 40).all bd_p = true := by decide +kernel
set_option maxRecDepth 16384 in
theorem bd_w_1_4 : ((tables_1_1.drop 160).take 40).all bd_p = true := by decide +kernel
set_option maxRecDepth 16384 in
theorem bd_w_1_5 : ((tables_1_1.drop 200).take 40).all bd_p = true := by decide +kernel
set_option maxRecDepth 16384 in
theorem bd_e_1 : tables_1_1.drop 240 = [] := by rfl
theorem bd_a_1 : tables_1_1.all bd_p = true := (bd_split _ 0 40 tables_1_1 bd_w_1_0 (bd_split _ 40 40 tables_1_1 bd_w_1_1 (bd_split _ 80 40 tables_1_1 bd_w_1_2 (bd_split _ 120 40 tables_1_1 bd_w_1_3 (bd_split _ 160 40 tables_1_1 bd_w_1_4 (bd_split _ 200 40 tables_1_1 bd_w_1_5 (by rw [bd_e_1]; rfl)))))))
set_option maxRecDepth 16384 in
theorem bd_w_2_0 : ((tables_1_2.drop 0).take 40).all bd_p = true := by decide +kernel
set_option maxRecDepth 16384 in
theorem bd_w_2_1 : ((tables_1_2.drop 40).take 40).all bd_p = true := by decide +kernel
set_option maxRecDepth 16384 in
theorem bd_w_2_2 : ((tables_1_2.drop 80).take 40).all bd_p = true := by decide +kernel
set_option maxRecDepth 16384 in
theorem bd_w_2_3 : ((tables_1_2.drop 120).take 40).all bd_p = true := by decide +kernel
set_option maxRecDepth 16384 in
theorem bd_w_2_4 : ((tables_1_2.drop 160).take 40).all bd_p = true := by decide +kernel
set_option maxRecDepth 16384 in
theorem bd_w_2_5 : ((tables_1_2.drop 200).take 40).all bd_p = true := by decide +kernel
set_option maxRecDepth 16384 in
theorem bd_e_2 : tables_1_2.drop 240 = [] := by rfl
theorem bd_a_2 : tables_1_2.all bd_p = true := (bd_split _ 0 40 tables_1_2 bd_w_2_0 (bd_split _ 40 40 tables_1_2 bd_w_2_1 (bd_split _ 80 40 tables_1_2 bd_w_2_2 (bd_split _ 120 40 tables_1_2 bd_w_2_3 (bd_split _ 160 40 tables_1_2 bd_w_2_4 (bd_split _ 200 40 tables_1_2 bd_w_2_5 (by rw [bd_e_2]; rfl)))))))
set_option maxRecDepth 16384 in
theorem bd_w_3_0 : ((tables_1_3.drop 0).take 40).all bd_p = true := by decide +kernel
set_option maxRecDepth 16384 in
theorem bd_w_3_1 : ((tables_1_3.drop 40).take 40).all bd_p = true := by decide +kernel
set_option maxRecDepth 16384 in
theorem bd_w_3_2 : ((tables_1_3.drop 80).take 40).all bd_p = true := by decide +kernel
set_option maxRecDepth 16384 in
theorem bd_w_3_3 : ((tables_1_3.drop 120).take 40).all bd_p = true := by decide +kernel
set_option maxRecDepth 16384 in
theorem bd_w_3_4 : ((tables_1_3.drop 160).take 40).all bd_p = true := by decide +kernel
set_option maxRecDepth 16384 in
theorem bd_w_3_5 : ((tables_1_3.drop 200).take 40).all bd_p = true := by decide +kernel
set_option maxRecDepth 16384 in
theorem bd_e_3 : tables_1_3.drop 240 = [] := by rfl
theorem bd_a_3 : tables_1_3.all bd_p = true := (bd_split _ 0 40 tables_1_3 bd_w_3_0 (bd_split _ 40 40 tables_1_3 bd_w_3_1 (bd_split _ 80 40 tables_1_3 bd_w_3_2 (bd_split _ 120 40 tables_1_3 bd_w_3_3 (bd_split _ 160 40 tables_1_3 bd_w_3_4 (bd_split _ 200 40 tables_1_3 bd_w_3_5 (by rw [bd_e_3]; rfl)))))))
set_option maxRecDepth 16384 in
theorem bd_w_4_0 : ((tables_1_4.drop 0).take 40).all bd_p = true := by decide +kernel
set_option maxRecDepth 16384 in
theorem bd_w_4_1 : ((tables_1_4.drop 40).take 40).all bd_p = true := by decide +kernel
set_option maxRecDepth 16384 in
theorem bd_w_4_2 : ((tables_1_4.drop 80).take 40).all bd_p = true := by decide +kernel
set_option maxRecDepth 16384 in
theorem bd_w_4_3 : ((tables_1_4.drop 120).take 40).all bd_p = true := by decide +kernel
set_option maxRecDepth 16384 in
theorem bd_w_4_4 : ((tables_1_4.drop 160).take 40).all bd_p = true := by decide +kernel
set_option maxRecDepth 16384 in
theorem bd_w_4_5 : ((tables_1_4.drop 200).take 40).all bd_p = true := by decide +kernel
set_option maxRecDepth 16384 in
theorem bd_e_4 : tables_1_4.drop 240 = [] := by rfl
theorem bd_a_4 : tables_1_4.all bd_p = true := (bd_split _ 0 40 tables_1_4 bd_w_4_0 (bd_split _ 40 40 tables_1_4 bd_w_4_1 (bd_split _ 80 40 tables_1_4 bd_w_4_2 (bd_split _ 120 40 tables_1_4 bd_w_4_3 (bd_split _ 160 40 tables_1_4 bd_w_4_4 (bd_split _ 200 40 tables_1_4 bd_w_4_5 (by rw [bd_e_4]; rfl)))))))
set_option maxRecDepth 16384 in
theorem bd_w_5_0 : ((tables_1_5.drop 0).take 40).all bd_p = true := by decide +kernel
set_option maxRecDepth 16384 in
theorem bd_w_5_1 : ((tables_1_5.drop 40).take 40).all bd_p = true := by decide +kernel
set_option maxRecDepth 16384 in
theorem bd_w_5_2 : ((tables_1_5.drop 80).take 40).all bd_p = true := by decide +kernel
set_option maxRecDepth 16384 in
theorem bd_w_5_3 : ((tables_1_5.drop 120).take 40).all bd_p = true := by decide +kernel
set_option maxRecDepth 16384 in
theorem bd_w_5_4 : ((tables_1_5.drop 160).take 40).all bd_p = true := by decide +kernel
set_option maxRecDepth 16384 in
theorem bd_w_5_5 : ((tables_1_5.drop 200).take 40).all bd_p = true := by decide +kernel
set_option maxRecDepth 16384 in
theorem bd_e_5 : tables_1_5.drop 240 = [] := by rfl
theorem bd_a_5 : tables_1_5.all bd_p = true := (bd_split _ 0 40 tables_1_5 bd_w_5_0 (bd_split _ 40 40 tables_1_5 bd_w_5_1 (bd_split _ 80 40 tables_1_5 bd_w_5_2 (bd_split _ 120 40 tables_1_5 bd_w_5_3 (bd_split _ 160 40 tables_1_5 bd_w_5_4 (bd_split _ 200 40 tables_1_5 bd_w_5_5 (by rw [bd_e_5]; rfl)))))))
set_option maxRecDepth 16384 in
theorem bd_w_6_0 : ((tables_1_6.drop 0).take 40).all bd_p = true := by decide +kernel
set_option maxRecDepth 16384 in
theorem bd_w_6_1 : ((tables_1_6.drop 40).take 40).all bd_p = true := by decide +kernel
set_option maxRecDepth 16384 in
theorem bd_w_6_2 : ((tables_1_6.drop 80).take 40).all bd_p = true := by decide +kernel
set_option maxRecDepth 16384 in
theorem bd_w_6_3 : ((tables_1_6.drop 120).take 40).all bd_p = true := by decide +kernel
set_option maxRecDepth 16384 in
theorem bd_w_6_4 : ((tables_1_6.drop 160).take 40).all bd_p = true := by decide +kernel
set_option maxRecDepth 16384 in
theorem bd_w_6_5 : ((tables_1_6.drop 200).take 40).all bd_p = true := by decide +kernel
set_option maxRecDepth 16384 in
theorem bd_e_6 : tables_1_6.drop 240 = [] := by rfl
theorem bd_a_6 : tables_1_6.all bd_p = true := (bd_split _ 0 40 tables_1_6 bd_w_6_0 (bd_split _ 40 40 tables_1_6 bd_w_6_1 (bd_split _ 80 40 tables_1_6 bd_w_6_2 (bd_split _ 120 40 tables_1_6 bd_w_6_3 (bd_split _ 160 40 tables_1_6 bd_w_6_4 (bd_split _ 200 40 tables_1_6 bd_w_6_5 (by rw [bd_e_6]; rfl)))))))
set_option maxRecDepth 16384 in
theorem bd_w_7_0 : ((tables_1_7.drop 0).take 40).all bd_p = true := by decide +kernel
set_option maxRecDepth 16384 in
theorem bd_w_7_1 : ((tables_1_7.drop 40).take 40).all bd_p = true := by decide +kernel
set_option maxRecDepth 16384 in
theorem bd_w_7_2 : ((tables_1_7.drop 80).take 40).all bd_p = true := by decide +kernel
set_option maxRecDepth 16384 in
theorem bd_w_7_3 : ((tables_1_7.drop 120).take 40).all bd_p = true := by decide +kernel
set_option maxRecDepth 16384 in
theorem bd_w_7_4 : ((tables_1_7.drop 160).take 40).all bd_p = true := by decide +kernel
set_option maxRecDepth 16384 in
theorem bd_w_7_5 : ((tables_1_7.drop 200).take 40).all bd_p = true := by decide +kernel
set_option maxRecDepth 16384 in
theorem bd_e_7 : tables_1_7.drop 240 = [] := by rfl
theorem bd_a_7 : tables_1_7.all bd_p = true := (bd_split _ 0 40 tables_1_7 bd_w_7_0 (bd_split _ 40 40 tables_1_7 bd_w_7_1 (bd_split _ 80 40 tables_1_7 bd_w_7_2 (bd_split _ 120 40 tables_1_7 bd_w_7_3 (bd_split _ 160 40 tables_1_7 bd_w_7_4 (bd_split _ 200 40 tables_1_7 bd_w_7_5 (by rw [bd_e_7]; rfl)))))))
set_option maxRecDepth 16384 in
theorem bd_w_8_0 : ((tables_1_8.drop 0).take 40).all bd_p = true := by decide +kernel
set_option maxRecDepth 16384 in
theorem bd_w_8_1 : ((tables_1_8.drop 40).take 40).all bd_p = true := by decide +kernel
set_option maxRecDepth 16384 in
theorem bd_w_8_2 : ((tables_1_8.drop 80).take 40).all bd_p = true := by decide +kernel
set_option maxRecDepth 16384 in
theorem bd_w_8_3 : ((tables_1_8.drop 120).take 40).all bd_p = true := by decide +kernel
set_option maxRecDepth 16384 in
theorem bd_w_8_4 : ((tables_1_8.drop 160).take 40).all bd_p = true := by decide +kernel
set_option maxRecDepth 16384 in
theorem bd_w_8_5 : ((tables_1_8.drop 200).take 40).all bd_p = true := by decide +kernel
set_option maxRecDepth 16384 in
theorem bd_e_8 : tables_1_8.drop 240 = [] := by rfl
theorem bd_a_8 : tables_1_8.all bd_p = true := (bd_split _ 0 40 tables_1_8 bd_w_8_0 (bd_split _ 40 40 tables_1_8 bd_w_8_1 (bd_split _ 80 40 tables_1_8 bd_w_8_2 (bd_split _ 120 40 tables_1_8 bd_w_8_3 (bd_split _ 160 40 tables_1_8 bd_w_8_4 (bd_split _ 200 40 tables_1_8 bd_w_8_5 (by rw [bd_e_8]; rfl)))))))
set_option maxRecDepth 16384 in
theorem bd_w_9_0 : ((tables_1_9.drop 0).take 40).all bd_p = true := by decide +kernel
set_option maxRecDepth 16384 in
theorem bd_w_9_1 : ((tables_1_9.drop 40).take 40).all bd_p = true := by decide +kernel
set_option maxRecDepth 16384 in
theorem bd_w_9_2 : ((tables_1_9.drop 80).take 40).all bd_p = true := by decide +kernel
set_option maxRecDepth 16384 in
theorem bd_w_9_3 : ((tables_1_9.drop 120).take 40).all bd_p = true := by decide +kernel
set_option maxRecDepth 16384 in
theorem bd_w_9_4 : ((tables_1_9.drop 160).take 40).all bd_p = true := by decide +kernel
set_option maxRecDepth 16384 in
theorem bd_w_9_5 : ((tables_1_9.drop 200).take 40).all bd_p = true := by decide +kernel
set_option maxRecDepth 16384 in
theorem bd_e_9 : tables_1_9.drop 240 = [] := by rfl
theorem bd_a_9 : tables_1_9.all bd_p = true := (bd_split _ 0 40 tables_1_9 bd_w_9_0 (bd_split _ 40 40 tables_1_9 bd_w_9_1 (bd_split _ 80 40 tables_1_9 bd_w_9_2 (bd_split _ 120 40 tables_1_9 bd_w_9_3 (bd_split _ 160 40 tables_1_9 bd_w_9_4 (bd_split _ 200 40 tables_1_9 bd_w_9_5 (by rw [bd_e_9]; rfl)))))))
set_option maxRecDepth 16384 in
theorem bd_w_10_0 : ((tables_1_10.drop 0).take 40).all bd_p = true := by decide +kernel
set_option maxRecDepth 16384 in
theorem bd_e_10 : tables_1_10.drop 40 = [] := by rfl
theorem bd_a_10 : tables_1_10.all bd_p = true := (bd_split _ 0 40 tables_1_10 bd_w_10_0 (by rw [bd_e_10]; rfl))
theorem bd_tab (c : Jvm.Cond) (h : c ∈ tables_1) : bd_p c = true := by
  have h1 : c ∈ tables_1_1 ++ (tables_1_2 ++ (tables_1_3 ++ (tables_1_4 ++ (tables_1_5 ++ (tables_1_6 ++ (tables_1_7 ++ (tables_1_8 ++ (tables_1_9 ++ (tables_1_10))))))))) := h
  simp only [List.mem_append] at h1
  rcases h1 with h | h | h | h | h | h | h | h | h | h
  · exact List.all_eq_true.mp bd_a_1 c h
  · exact List.all_eq_true.mp bd_a_2 c h
  · exact List.all_eq_true.mp bd_a_3 c h
  · exact List.all_eq_true.mp bd_a_4 c h
  · exact List.all_eq_true.mp bd_a_5 c h
  · exact List.all_eq_true.mp bd_a_6 c h
  · exact List.all_eq_true.mp bd_a_7 c h
  · exact List.all_eq_true.mp bd_a_8 c h
  · exact List.all_eq_true.mp bd_a_9 c h
  · exact List.all_eq_true.mp bd_a_10 c h
end
section
/-! the start meets every premise; the run comes to no end: the claim is false as written -/
theorem bd_push : bd_s.vm = { start1.about.vm with classes := start1.about.vm.classes.push bd_c } := rfl
theorem bd_words : ∀ c ∈ (Cond.code x code maxLocals ret :: tables_1), c.before start1.args0 bd_s = true := by
  intro c hc
  cases hq : bd_easy start1.about c with
  | true => exact bd_tr bd_push c hq (start1.words c hc)
  | false =>
    rcases List.mem_cons.mp hc with h | h
    · rw [h] at hq; cases hq
    · have h2 := bd_tab c h
      unfold bd_p at h2; rw [hq] at h2; exact h2
theorem bd_okEnd {below : List Frame} {s : State} (h : bd_ok below.length s = true) (o : Outcome) : ¬ Ended s below o := by
  intro he
  cases o with
  | threw a =>
    have he' : s.frames = .throwing a :: below := he
    unfold bd_ok at h; rw [he'] at h; cases h
  | returned v =>
    have hl : s.frames.length = below.length := by
      unfold Ended at he
      split at he
      · rename_i hh; cases hh
      · split at he
        · obtain ⟨_, _, _, _, _, hf⟩ := he
          rw [hf]; rfl
        · rw [he]; rfl
        · rw [he]; rfl
        · rw [he.2]
    unfold bd_ok at h
    split at h
    · cases h
    · rw [hl] at h; simp at h
theorem bd_never {tb : Tables} {e : Env} {below : List Frame} : ∀ (n : Nat) (s : State), bd_halts tb e below.length n s = true → ∀ (k : Nat) (o : Outcome), (stepsAlone tb e k s).status = Status.running → ¬ Ended (stepsAlone tb e k s) below o
  | 0, s, h => by unfold bd_halts at h; cases h
  | n + 1, s, h => by
    intro k o hr he
    unfold bd_halts at h
    by_cases hrun : s.status = Status.running
    · rw [hrun] at h
      simp only at h
      split at h
      · rename_i hcs
        split at h
        · rename_i ha hb
          cases k with
          | zero => exact bd_okEnd hb o he
          | succ k =>
            have hst : stepsAlone tb e (k + 1) s = stepsAlone tb e k (stepThread tb e s).1 := by
              simp only [stepsAlone, hrun, hcs, ha]
            rw [hst] at hr he
            exact bd_never n _ h k o hr he
        · cases h
      · cases h
    · have hst : stepsAlone tb e k s = s := by
        cases k with
        | zero => rfl
        | succ k =>
          unfold stepsAlone
          split
          · rename_i h1 _ _; exact absurd h1 hrun
          · rfl
      rw [hst] at hr; exact hrun hr
theorem bd_applies : (headSpec (Cond.code x code maxLocals ret :: tables_1) room_1).applies x start1.e0.platform bd_s = true :=
  (Spec.applies_iff rfl).mpr ⟨rfl, rfl, rfl, by decide +kernel, by decide +kernel, by decide +kernel, launch0.hasRoom_least _ room_1 (by decide +kernel) (by decide +kernel) (by decide +kernel) (by decide +kernel) (by decide +kernel) (by decide +kernel), atoms_intro bd_words⟩
theorem bd_pre : Calls_1 start1.p0.tables start1.e0 start1.args0 bd_s ∧ rest_1 start1.p0.tables start1.e0 start1.args0 bd_s ∧ Pre_1 start1.p0.tables start1.e0 start1.args0 bd_s :=
  ⟨trivial, (show rest_1_c.before start1.args0 bd_s = true by decide +kernel), (show (Cond.and given_1 narrow_1).before start1.args0 bd_s = true by decide +kernel)⟩
theorem bd_flags : launch0.flags = flags0 := rfl
theorem bd_no {Post : Tables → Env → Array Value → State → Outcome → State → Prop} (h : ArmFor flags0 classFile x code maxLocals ret World_1 tables_1 room_1 Calls_1 rest_1 Pre_1 Post) : False := by
  obtain ⟨n, o, _, hr, he, _⟩ := h launch0 bd_flags lists_1 trivial start1.p0 start1.e0 (launch0.admits_env _ _ _) fairChoices_fair.cas fairChoices_fair.clock bd_s ⟨0, 0⟩ start1.args0 Lib.HandBits.below0 rfl (by decide +kernel) (by decide +kernel) bd_applies bd_pre
  exact bd_never 160 bd_s bd_halt n o hr he
/-- the claim, both halves, is false as it is printed -/
theorem refuted_1_1 : ¬ Claimed_1_1 := fun h => bd_no h
theorem refuted_1_2 : ¬ Claimed_1_2 := fun h => bd_no h
end
