/-! evidence for REPORT, STATEMENT 1: a class of kind array with nothing above it and nothing in it: no method is selected there -/
theorem gap_select {vm : Vm} {c : ClassId} {k : Class} {r : MethodId} {meth : Method} (hk : vm.classes[c]? = some k) (h1 : k.super = none) (h2 : k.interfaces = #[]) (h3 : k.methods = #[]) (hm : vm.method? r = some meth) (hp : meth.isPrivate = false) : selectMethod {} vm c r = .none := by
  have hf : ∀ n d, k.findMethod n d = none := fun n d => by simp [Class.findMethod, h3]
  have hs : vm.superclasses c = [] := by simp [Vm.superclasses, Vm.superclassesAux, hk, h1]
  have hi : vm.superinterfaces c = [] := by simp [Vm.superinterfaces, Vm.superinterfacesAux, hk, h1, h2]
  have hr : refusedOverriding {} vm c meth.name meth.desc = false := by simp [refusedOverriding, superclassMethods, hk, hf, hs]
  have hq : selectInSuperclasses vm r meth.name meth.desc (vm.classes.size + 1) c = none := by simp [selectInSuperclasses, hk, hf, h1]
  have hx : maximallySpecific vm c meth.name meth.desc = [] := by simp [maximallySpecific, superinterfaceMethods, hi]
  simp [selectMethod, hm, hp, hr, hq, hx]
