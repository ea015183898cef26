/-! what holds of tables holds of the tables with one more class behind them: bytecodes, and links of methods that the named class declares -/
theorem bd_find {s t : State} {k : Class} (ht : t.vm = { s.vm with classes := s.vm.classes.push k }) {n : String} {c : ClassId} (h : s.vm.findClass n = some c) : t.vm.findClass n = some c := by
  unfold Vm.findClass at h ⊢
  rw [ht]
  show (s.vm.classes.push k).findIdx? _ = some c
  rw [Array.push_eq_append, Array.findIdx?_append, h]; rfl
theorem bd_cls {s t : State} {k q : Class} (ht : t.vm = { s.vm with classes := s.vm.classes.push k }) {c : ClassId} (h : s.vm.classes[c]? = some q) : t.vm.classes[c]? = some q := by
  have hc : c < s.vm.classes.size := by
    rcases Array.getElem?_eq_some_iff.mp h with ⟨hc, _⟩; exact hc
  rw [ht]
  show (s.vm.classes.push k)[c]? = some q
  rw [Array.getElem?_push]
  rw [if_neg (Nat.ne_of_lt hc)]; exact h
theorem bd_named {s t : State} {k : Class} (ht : t.vm = { s.vm with classes := s.vm.classes.push k }) {y : MethodName} {m : MethodId} (h : s.methodNamed? y = some m) : t.methodNamed? y = some m := by
  unfold State.methodNamed? at h ⊢
  cases hc : s.vm.findClass y.cls with
  | none => rw [hc] at h; cases h
  | some c =>
    rw [hc] at h; rw [bd_find ht hc]
    simp only [Option.bind_eq_bind, Option.bind_some] at h ⊢
    cases hk : s.vm.classes[c]? with
    | none => rw [hk] at h; cases h
    | some q => rw [hk] at h; rw [bd_cls ht hk]; exact h
theorem bd_meth {s t : State} {k : Class} (ht : t.vm = { s.vm with classes := s.vm.classes.push k }) {m : MethodId} {f : Method} (h : s.vm.method? m = some f) : t.vm.method? m = some f := by
  unfold Vm.method? at h ⊢
  cases hk : s.vm.classes[m.cls]? with
  | none => rw [hk] at h; cases h
  | some q => rw [hk] at h; rw [bd_cls ht hk]; exact h
theorem bd_code_tr {s t : State} {k : Class} (ht : t.vm = { s.vm with classes := s.vm.classes.push k }) {a : Array Value} : ∀ c : Jvm.Cond, su_isCode c = true → c.before a s = true → c.before a t = true := by
  intro c hq h
  unfold su_isCode at hq
  split at hq
  · rename_i y bytes ml rt
    simp only [Cond.before, Cond.holds, Cond.value] at h ⊢
    cases hn : s.methodNamed? y with
    | none => rw [hn] at h; simp at h
    | some m =>
      cases hm : s.vm.method? m with
      | none => rw [hn] at h; simp [hm] at h
      | some f =>
        rw [hn] at h; rw [bd_named ht hn]
        simp only [Option.bind_some, hm, bd_meth ht hm] at h ⊢
        exact h
  · cases hq
theorem bd_sub {s t : State} {k : Class} (ht : t.vm = { s.vm with classes := s.vm.classes.push k }) : ∀ (n : Nat) (a b : ClassId), s.vm.isSubclassAux n a b = true → t.vm.isSubclassAux (n + 1) a b = true
  | 0, a, b, h => by cases h
  | n + 1, a, b, h => by
    unfold Vm.isSubclassAux at h ⊢
    rcases Bool.or_eq_true _ _ ▸ h with h | h
    · rw [h]; rfl
    · cases hk : s.vm.classes[a]? with
      | none => rw [hk] at h; cases h
      | some q =>
        rw [hk] at h; rw [bd_cls ht hk]
        cases hp : q.super with
        | none => simp only [hp] at h; cases h
        | some p =>
          simp only [hp] at h ⊢
          rw [bd_sub ht n p b h, Bool.or_true]
theorem bd_size {s t : State} {k : Class} (ht : t.vm = { s.vm with classes := s.vm.classes.push k }) : t.vm.classes.size = s.vm.classes.size + 1 := by
  rw [ht]; show (s.vm.classes.push k).size = _; rw [Array.size_push]
theorem bd_subc {s t : State} {k : Class} (ht : t.vm = { s.vm with classes := s.vm.classes.push k }) (a b : ClassId) (h : s.vm.isSubclass a b = true) : t.vm.isSubclass a b = true := by
  unfold Vm.isSubclass at h ⊢
  rw [bd_size ht]; exact bd_sub ht _ a b h
theorem bd_plain {s t : State} {k : Class} (ht : t.vm = { s.vm with classes := s.vm.classes.push k }) {fl : Nat} {c d u : ClassId} {ck dk : Class} (h : plainAccess s.vm fl c ck u d dk = true) : plainAccess t.vm fl c ck u d dk = true := by
  unfold plainAccess at h ⊢
  simp only [Bool.or_eq_true, Bool.and_eq_true] at h ⊢
  rcases h with h | h
  · exact .inl h
  · refine .inr ⟨⟨h.1.1, bd_subc ht _ _ h.1.2⟩, ?_⟩
    rcases h.2 with (h | h) | h
    · exact .inl (.inl h)
    · exact .inl (.inr (bd_subc ht _ _ h))
    · exact .inr (bd_subc ht _ _ h)
theorem bd_bm {s t : State} {k : Class} (ht : t.vm = { s.vm with classes := s.vm.classes.push k }) : ∀ (n : Nat) (c : Option ClassId), s.vm.belowMagic n c = true → t.vm.belowMagic (n + 1) c = true
  | 0, c, h => by unfold Vm.belowMagic at h; cases h
  | n + 1, none, h => by unfold Vm.belowMagic at h; cases h
  | n + 1, some c, h => by
    unfold Vm.belowMagic at h ⊢
    cases hk : s.vm.classes[c]? with
    | none => rw [hk] at h; cases h
    | some q =>
      rw [hk] at h; rw [bd_cls ht hk]
      simp only [Option.any_some, Bool.or_eq_true] at h ⊢
      rcases h with h | h
      · exact .inl h
      · exact .inr (bd_bm ht n _ h)
theorem bd_acc {s t : State} {k : Class} (ht : t.vm = { s.vm with classes := s.vm.classes.push k }) {p : Platform} {c d : Class} (h : s.vm.classAccessible p c d = true) : t.vm.classAccessible p c d = true := by
  unfold Vm.classAccessible at h ⊢
  have hm : t.vm.moduleBar c d = s.vm.moduleBar c d := by rw [ht]; rfl
  rw [hm]
  simp only [Bool.or_eq_true, Bool.and_eq_true] at h ⊢
  rcases h with h | h
  · exact .inl h
  · refine .inr ⟨h.1, ?_⟩
    have h2 := h.2
    unfold Vm.magic at h2 ⊢
    simp only [Bool.or_eq_true] at h2 ⊢
    rcases h2 with h2 | h2
    · exact .inl h2
    · refine .inr ?_
      rw [bd_size ht]; exact bd_bm ht _ _ h2
theorem bd_pool {s t : State} {k dk : Class} (ht : t.vm = { s.vm with classes := s.vm.classes.push k }) {cls : String} {d : ClassId} (hd : s.vm.findClass cls = some d) (hk : s.vm.classes[d]? = some dk) : t.poolOf? cls = s.poolOf? cls := by
  unfold State.poolOf?
  rw [bd_find ht hd, hd]
  simp only [Option.bind_eq_bind, Option.bind_some, bd_cls ht hk, hk]
theorem bd_names {s t : State} {k dk : Class} (ht : t.vm = { s.vm with classes := s.vm.classes.push k }) {cls : String} {d : ClassId} (hd : s.vm.findClass cls = some d) (hk : s.vm.classes[d]? = some dk) (i : Nat) (w : Names) : t.names cls i w = s.names cls i w := by
  unfold State.names; rw [bd_pool ht hd hk]
theorem bd_open {s t : State} {k dk : Class} (ht : t.vm = { s.vm with classes := s.vm.classes.push k }) {cls : String} {d : ClassId} (hd : s.vm.findClass cls = some d) (hk : s.vm.classes[d]? = some dk) (i : Nat) (w : Resolved) : t.openOr cls i w = s.openOr cls i w := by
  unfold State.openOr
  rw [bd_find ht hd, hd]
  simp only [Option.bind_some, bd_cls ht hk, hk]
theorem bd_entry {s t : State} {k dk : Class} (ht : t.vm = { s.vm with classes := s.vm.classes.push k }) {cls : String} {d : ClassId} (hd : s.vm.findClass cls = some d) (hk : s.vm.classes[d]? = some dk) (i : Nat) : t.memberEntry? cls i = s.memberEntry? cls i := by
  unfold State.memberEntry?; rw [bd_pool ht hd hk]
theorem bd_clinks {s t : State} {k : Class} (ht : t.vm = { s.vm with classes := s.vm.classes.push k }) {cls n : String} {i : Nat} (h : s.classLinks cls i n = some true) : t.classLinks cls i n = some true := by
  unfold State.classLinks at h ⊢
  cases hd : s.vm.findClass cls with
  | none => rw [hd] at h; cases h
  | some d =>
    cases hc : s.vm.findClass n with
    | none => rw [hd, hc] at h; cases h
    | some c =>
      rw [hd, hc] at h; rw [bd_find ht hd, bd_find ht hc]
      simp only [Option.bind_eq_bind] at h ⊢
      cases hdk : s.vm.classes[d]? with
      | none => rw [hdk] at h; cases h
      | some dk =>
        cases hck : s.vm.classes[c]? with
        | none => rw [hdk, hck] at h; cases h
        | some ck =>
          rw [hdk, hck] at h; rw [bd_cls ht hdk, bd_cls ht hck]
          simp only [Option.bind_some, Option.pure_def, Option.some.injEq, Bool.and_eq_true] at h ⊢
          rw [bd_names ht hd hdk, bd_open ht hd hdk]
          exact ⟨h.1, bd_acc ht h.2⟩
theorem bd_link_tr {s t : State} {k : Class} (ht : t.vm = { s.vm with classes := s.vm.classes.push k }) {a : Array Value} {cls : String} {i : Nat} {y : MethodName} {m : MethodId} (hn : s.methodNamed? y = some m)
    (hx : y.cls ≠ "java/lang/invoke/MethodHandle" ∧ y.cls ≠ "java/lang/invoke/VarHandle") (h : (Cond.methodLink cls i y).before a s = true) : (Cond.methodLink cls i y).before a t = true := by
  simp only [Cond.before, Cond.holds, Cond.value] at h ⊢
  rw [State.methodFound?_of_named hn hx] at h
  rw [State.methodFound?_of_named (bd_named ht hn) hx]
  cases hd : s.vm.findClass cls with
  | none => rw [hd] at h; cases he : s.memberEntry? cls i <;> rw [he] at h <;> cases h
  | some d =>
    cases hc : s.vm.findClass y.cls with
    | none => rw [hd, hc] at h; cases he : s.memberEntry? cls i <;> rw [he] at h <;> cases h
    | some c =>
      cases hdk : s.vm.classes[d]? with
      | none =>
        have : s.memberEntry? cls i = none := by
          unfold State.memberEntry? State.poolOf?; rw [hd]; simp only [Option.bind_eq_bind, Option.bind_some, hdk]; rfl
        rw [this] at h; cases h
      | some dk =>
        rw [bd_entry ht hd hdk, bd_find ht hd, bd_find ht hc]
        rw [hd, hc] at h
        cases he : s.memberEntry? cls i with
        | none => rw [he] at h; cases h
        | some p =>
          obtain ⟨ci, via⟩ := p
          rw [he] at h
          simp only [Option.bind_eq_bind] at h ⊢
          cases hl : s.classLinks cls ci y.cls with
          | none => rw [hl] at h; cases h
          | some b =>
            cases hck : s.vm.classes[c]? with
            | none => rw [hl] at h; simp only [Option.bind_some, hdk, hck, Option.bind_none] at h; cases h
            | some ck =>
              cases hmk : s.vm.classes[m.cls]? with
              | none => rw [hl] at h; simp only [Option.bind_some, hdk, hck, hmk, Option.bind_none] at h; cases h
              | some mk =>
                cases hme : s.vm.method? m with
                | none => rw [hl] at h; simp only [Option.bind_some, hdk, hck, hmk, hme, Option.bind_none] at h; cases h
                | some meth =>
                  rw [hl] at h
                  simp only [Option.bind_some, hdk, hck, hmk, hme, Option.pure_def, beq_iff_eq, Option.some.injEq, Bool.and_eq_true] at h
                  have hb : b = true := h.1.1.1.1.1.1.1
                  subst hb
                  rw [bd_clinks ht hl]
                  simp only [Option.bind_some, bd_cls ht hdk, bd_cls ht hck, bd_cls ht hmk, bd_meth ht hme, Option.pure_def, beq_iff_eq, Option.some.injEq, Bool.and_eq_true]
                  rw [bd_names ht hd hdk, bd_open ht hd hdk]
                  refine ⟨⟨⟨⟨⟨⟨⟨trivial, h.1.1.1.1.1.1.2⟩, h.1.1.1.1.1.2⟩, h.1.1.1.1.2⟩, h.1.1.1.2⟩, h.1.1.2⟩, h.1.2⟩, ?_⟩
                  rcases Bool.or_eq_true _ _ ▸ h.2 with h2 | h2
                  · rw [bd_plain ht h2]; rfl
                  · rw [h2, Bool.or_true]
def bd_own (s : State) (ref name desc : String) : Bool := match parseFieldDescriptor desc, s.vm.findClass ref with
  | some ty, some c => match s.vm.classes[c]? with
    | some k => (k.findField name ty).isSome
    | none => false
  | _, _ => false
theorem bd_look {vm : Vm} {c i : Nat} {k : Class} {name : String} {ty : FieldType} (hk : vm.classes[c]? = some k) (hi : k.findField name ty = some i) (n : Nat) : lookupField vm name ty (n + 1) c = some (c, i) := by
  unfold lookupField lookupFieldAux
  rw [hk]
  simp only [hi]
  rfl
theorem bd_ff {s t : State} {k : Class} (ht : t.vm = { s.vm with classes := s.vm.classes.push k }) {ref name desc : String} (h : bd_own s ref name desc = true) : t.fieldFound? ref name desc = s.fieldFound? ref name desc := by
  unfold bd_own at h
  unfold State.fieldFound?
  cases hp : parseFieldDescriptor desc with
  | none => rw [hp] at h; cases h
  | some ty =>
    cases hc : s.vm.findClass ref with
    | none => rw [hp, hc] at h; cases h
    | some c =>
      rw [hp, hc] at h
      cases hk : s.vm.classes[c]? with
      | none => simp only [hk] at h; cases h
      | some q =>
        simp only [hk] at h
        cases hi : q.findField name ty with
        | none => rw [hi] at h; cases h
        | some i =>
          rw [bd_find ht hc]
          simp only [Option.bind_eq_bind, Option.bind_some, bd_look hk hi, bd_look (bd_cls ht hk) hi, hk, bd_cls ht hk]
theorem bd_host {s t : State} {k : Class} (ht : t.vm = { s.vm with classes := s.vm.classes.push k }) {m h : ClassId} (hh : s.vm.hostNow? m = some h) : t.vm.hostNow? m = some h := by
  unfold Vm.hostNow? at hh ⊢
  simp only [Option.bind_eq_bind] at hh ⊢
  cases hk : s.vm.classes[m]? with
  | none => rw [hk] at hh; cases hh
  | some q =>
    rw [hk] at hh; rw [bd_cls ht hk]
    simp only [Option.bind_some] at hh ⊢
    split at hh
    · cases hh
    · rename_i hl
      rw [if_neg hl]
      cases hq : q.nestHost with
      | some u => simp only [hq] at hh ⊢; exact hh
      | none =>
        simp only [hq] at hh ⊢
        cases hcf : q.cf with
        | none => rw [hcf] at hh; cases hh
        | some cf =>
          rw [hcf] at hh
          simp only [Option.bind_some] at hh ⊢
          split at hh
          · exact hh
          · rename_i hi he
            split at hh
            · cases hh
            · cases hh
            · cases hcn : cf.constantPool.className? hi with
              | none => rw [hcn] at hh; cases hh
              | some nm =>
                rw [hcn] at hh
                simp only [Option.bind_some] at hh ⊢
                cases hf : s.vm.findClass nm with
                | none => rw [hf] at hh; cases hh
                | some u =>
                  rw [hf] at hh; rw [bd_find ht hf]
                  simp only [Option.bind_some] at hh ⊢
                  cases hu : s.vm.classes[u]? with
                  | none => rw [hu] at hh; cases hh
                  | some uk =>
                    rw [hu] at hh; rw [bd_cls ht hu]
                    exact hh
theorem bd_flink_tr {s t : State} {k : Class} (ht : t.vm = { s.vm with classes := s.vm.classes.push k }) {a : Array Value} {cls ref name desc : String} {i : Nat} (ho : bd_own s ref name desc = true)
    (h : (Cond.fieldLink cls i ref name desc).before a s = true) : (Cond.fieldLink cls i ref name desc).before a t = true := by
  simp only [Cond.before, Cond.holds, Cond.value] at h ⊢
  rw [bd_ff ht ho]
  cases hd : s.vm.findClass cls with
  | none => rw [hd] at h; cases he : s.memberEntry? cls i <;> rw [he] at h <;> cases h
  | some d =>
    cases hc : s.vm.findClass ref with
    | none =>
      rw [hd, hc] at h
      cases he : s.memberEntry? cls i <;> cases hf : s.fieldFound? ref name desc <;> rw [he, hf] at h <;> cases h
    | some u =>
      cases hdk : s.vm.classes[d]? with
      | none =>
        have : s.memberEntry? cls i = none := by
          unfold State.memberEntry? State.poolOf?; rw [hd]; simp only [Option.bind_eq_bind, Option.bind_some, hdk]; rfl
        rw [this] at h; cases h
      | some dk =>
        rw [bd_entry ht hd hdk, bd_find ht hd, bd_find ht hc]
        rw [hd, hc] at h
        cases he : s.memberEntry? cls i with
        | none => rw [he] at h; cases h
        | some p =>
          obtain ⟨ci, via⟩ := p
          cases hf : s.fieldFound? ref name desc with
          | none => rw [he, hf] at h; cases h
          | some g =>
            obtain ⟨c, kk, j, f⟩ := g
            rw [he, hf] at h
            simp only [Option.bind_eq_bind] at h ⊢
            cases hl : s.classLinks cls ci ref with
            | none => rw [hl] at h; cases h
            | some b =>
              rw [hl] at h
              simp only [Option.bind_some, hdk, Option.pure_def, beq_iff_eq, Option.some.injEq, Bool.and_eq_true] at h
              have hb : b = true := h.1.1.1.1
              subst hb
              rw [bd_clinks ht hl]
              simp only [Option.bind_some, bd_cls ht hdk, Option.pure_def, beq_iff_eq, Option.some.injEq, Bool.and_eq_true]
              rw [bd_names ht hd hdk, bd_open ht hd hdk]
              exact ⟨⟨⟨⟨trivial, h.1.1.1.2⟩, h.1.1.2⟩, h.1.2⟩, bd_plain ht h.2⟩
theorem bd_fnest_tr {s t : State} {k : Class} (ht : t.vm = { s.vm with classes := s.vm.classes.push k }) {a : Array Value} {cls ref name desc host : String} {i : Nat} (ho : bd_own s ref name desc = true)
    (h : (Cond.fieldLinkNest cls i ref name desc host).before a s = true) : (Cond.fieldLinkNest cls i ref name desc host).before a t = true := by
  simp only [Cond.before, Cond.holds, Cond.value] at h ⊢
  rw [bd_ff ht ho]
  cases hd : s.vm.findClass cls with
  | none => rw [hd] at h; cases he : s.memberEntry? cls i <;> rw [he] at h <;> cases h
  | some d =>
    cases hc : s.vm.findClass ref with
    | none =>
      rw [hd, hc] at h
      cases he : s.memberEntry? cls i <;> cases hf : s.fieldFound? ref name desc <;> rw [he, hf] at h <;> cases h
    | some u =>
      cases hho : s.vm.findClass host with
      | none =>
        rw [hd, hc, hho] at h
        cases he : s.memberEntry? cls i <;> cases hf : s.fieldFound? ref name desc <;> rw [he, hf] at h <;> cases h
      | some hh =>
        cases hdk : s.vm.classes[d]? with
        | none =>
          have : s.memberEntry? cls i = none := by
            unfold State.memberEntry? State.poolOf?; rw [hd]; simp only [Option.bind_eq_bind, Option.bind_some, hdk]; rfl
          rw [this] at h; cases h
        | some dk =>
          rw [bd_entry ht hd hdk, bd_find ht hd, bd_find ht hc, bd_find ht hho]
          rw [hd, hc, hho] at h
          cases he : s.memberEntry? cls i with
          | none => rw [he] at h; cases h
          | some p =>
            obtain ⟨ci, via⟩ := p
            cases hf : s.fieldFound? ref name desc with
            | none => rw [he, hf] at h; cases h
            | some g =>
              obtain ⟨c, kk, j, f⟩ := g
              rw [he, hf] at h
              simp only [Option.bind_eq_bind] at h ⊢
              cases hl : s.classLinks cls ci ref with
              | none => rw [hl] at h; cases h
              | some b =>
                rw [hl] at h
                simp only [Option.bind_some] at h
                split at h
                · rename_i hcond
                  have hb : b = true := by
                    simp only [Bool.and_eq_true] at hcond; exact hcond.1.1.1.1.1.1.1
                  subst hb
                  rw [bd_clinks ht hl]
                  simp only [Option.bind_some]
                  rw [bd_names ht hd hdk, bd_open ht hd hdk, if_pos hcond]
                  split at h
                  · rename_i h2
                    simp only [Bool.and_eq_true, beq_iff_eq] at h2
                    rw [bd_host ht h2.1, bd_host ht h2.2]
                    simp
                  · cases h
                · cases h
def bd_easy (s : State) : Jvm.Cond → Bool
  | .code .. => true
  | .methodLink _ _ y => (s.methodNamed? y).isSome && decide (y.cls ≠ "java/lang/invoke/MethodHandle") && decide (y.cls ≠ "java/lang/invoke/VarHandle")
  | .classLink .. => true
  | .fieldLink _ _ ref name desc => bd_own s ref name desc
  | .fieldLinkNest _ _ ref name desc _ => bd_own s ref name desc
  | _ => false
theorem bd_tr {s t : State} {k : Class} (ht : t.vm = { s.vm with classes := s.vm.classes.push k }) {a : Array Value} (c : Jvm.Cond) (he : bd_easy s c = true) (h : c.before a s = true) : c.before a t = true := by
  unfold bd_easy at he
  split at he
  · exact bd_code_tr ht _ rfl h
  · rename_i cls i y
    simp only [Bool.and_eq_true, decide_eq_true_eq] at he
    cases hn : s.methodNamed? y with
    | none => rw [hn] at he; cases he.1.1
    | some m => exact bd_link_tr ht hn ⟨he.1.2, he.2⟩ h
  · simp only [Cond.before, Cond.holds, Cond.value, beq_iff_eq] at h ⊢
    exact bd_clinks ht h
  · exact bd_flink_tr ht he h
  · exact bd_fnest_tr ht he h
  · cases he
