/-! the Model is made -/
def F_X13_init_c558 (s0 : Nat) (μ : p_M) : Option (Int32 × p_M) :=
  p_ok (¬ ((192 : Int32) < 0 ∨ 100000 < (192 : Int32).toNatClampNeg))
  (p_let (sN μ 20 (192 : Int32).toNatClampNeg (192 : Int32).toNatClampNeg) fun m267 =>
  p_ok (mK m267 s0 = 14 ∧ s0 < mN m267)
  (p_let (sR m267 s0 79 (some (mN μ))) fun m269 =>
  some (0, m269)))
theorem E_X13_init_c558 {X : p_X} {d : Nat} {Q : p_R → Prop} {s0 : Nat} {w0 : Value} {μ : p_M} {r : Int32 × p_M} (h : F_X13_init_c558 s0 μ = some r) (hQ : Q ((0, none), r.2)) : p_Ev X (d + 0) M_X13_init 558 [w0] [.ref s0] μ Q := by
  unfold F_X13_init_c558 at h
  refine e_sipush (v := (192 : Int32)) dX13_init_558 rfl ?_
  obtain ⟨h266, h⟩ := p_ok_some h
  replace h := p_lt h
  refine e_newI dX13_init_561 h266 ?_
  obtain ⟨h268, h⟩ := p_ok_some h
  replace h := p_lt h
  refine e_putR dX13_init_563 rfl ⟨rfl, (by decide +kernel), (fun h => by cases h)⟩ h268 ?_
  cases h
  exact e_vret dX13_init_566 rfl hQ
def F_X13_init_c527 (v0 : Nat) (s0 : Nat) (s1 : Nat) (μ : p_M) : Option (Int32 × p_M) :=
  p_ok (mK μ s1 = 14 ∧ s1 < mN μ)
  (p_let (sR μ s1 71 (some s0)) fun m255 =>
  p_ok (¬ ((2400 : Int32) < 0 ∨ 100000 < (2400 : Int32).toNatClampNeg))
  (p_let (sN m255 20 (2400 : Int32).toNatClampNeg (2400 : Int32).toNatClampNeg) fun m257 =>
  p_ok (mK m257 v0 = 14 ∧ v0 < mN m257)
  (p_let (sR m257 v0 72 (some (mN m255))) fun m259 =>
  p_let (sI m259 v0 76 (1 : Int32)) fun m260 =>
  p_let (sI m260 v0 77 (1 : Int32)) fun m261 =>
  p_ok (¬ ((24 : Int32) < 0 ∨ 100000 < (24 : Int32).toNatClampNeg))
  (p_let (sN m261 20 (24 : Int32).toNatClampNeg (24 : Int32).toNatClampNeg) fun m263 =>
  p_ok (mK m263 v0 = 14 ∧ v0 < mN m263)
  (p_let (sR m263 v0 78 (some (mN m261))) fun m265 =>
  F_X13_init_c558 v0 m265)))))
theorem E_X13_init_c527 {X : p_X} {d : Nat} {Q : p_R → Prop} {v0 : Nat} {s0 : Nat} {s1 : Nat} {μ : p_M} {r : Int32 × p_M} (h : F_X13_init_c527 v0 s0 s1 μ = some r) (hQ : Q ((0, none), r.2)) : p_Ev X (d + 0) M_X13_init 527 [.ref v0] [.ref s0, .ref s1] μ Q := by
  unfold F_X13_init_c527 at h
  obtain ⟨h254, h⟩ := p_ok_some h
  replace h := p_lt h
  refine e_putR dX13_init_527 rfl ⟨rfl, (by decide +kernel), (fun h => by cases h)⟩ h254 ?_
  refine e_aload_n dX13_init_530 rfl ?_
  refine e_sipush (v := (2400 : Int32)) dX13_init_531 rfl ?_
  obtain ⟨h256, h⟩ := p_ok_some h
  replace h := p_lt h
  refine e_newI dX13_init_534 h256 ?_
  obtain ⟨h258, h⟩ := p_ok_some h
  replace h := p_lt h
  refine e_putR dX13_init_536 rfl ⟨rfl, (by decide +kernel), (fun h => by cases h)⟩ h258 ?_
  refine e_aload_n dX13_init_539 rfl ?_
  refine e_iconst (v := (1 : Int32)) dX13_init_540 rfl ?_
  replace h := p_lt h
  refine e_putI dX13_init_541 rfl ⟨rfl, (by decide +kernel), (fun h => by cases h)⟩ (fun h => by cases h) h258.1 h258.2 ?_
  refine e_aload_n dX13_init_544 rfl ?_
  refine e_iconst (v := (1 : Int32)) dX13_init_545 rfl ?_
  replace h := p_lt h
  refine e_putI dX13_init_546 rfl ⟨rfl, (by decide +kernel), (fun h => by cases h)⟩ (fun h => by cases h) h258.1 h258.2 ?_
  refine e_aload_n dX13_init_549 rfl ?_
  refine e_bipush (v := (24 : Int32)) dX13_init_550 rfl ?_
  obtain ⟨h262, h⟩ := p_ok_some h
  replace h := p_lt h
  refine e_newI dX13_init_552 h262 ?_
  obtain ⟨h264, h⟩ := p_ok_some h
  replace h := p_lt h
  refine e_putR dX13_init_554 rfl ⟨rfl, (by decide +kernel), (fun h => by cases h)⟩ h264 ?_
  refine e_aload_n dX13_init_557 rfl ?_
  exact E_X13_init_c558 h hQ
def F_X13_init_c491 (v0 : Nat) (s0 : Nat) (s1 : Nat) (μ : p_M) : Option (Int32 × p_M) :=
  p_ok (mK μ s1 = 14 ∧ s1 < mN μ)
  (p_let (sR μ s1 65 (some s0)) fun m239 =>
  p_ok (¬ ((250 : Int32) < 0 ∨ 100000 < (250 : Int32).toNatClampNeg))
  (p_let (sN m239 20 (250 : Int32).toNatClampNeg (250 : Int32).toNatClampNeg) fun m241 =>
  p_ok (mK m241 v0 = 14 ∧ v0 < mN m241)
  (p_let (sR m241 v0 66 (some (mN m239))) fun m243 =>
  p_ok (¬ ((250 : Int32) < 0 ∨ 100000 < (250 : Int32).toNatClampNeg))
  (p_let (sN m243 20 (250 : Int32).toNatClampNeg (250 : Int32).toNatClampNeg) fun m245 =>
  p_ok (mK m245 v0 = 14 ∧ v0 < mN m245)
  (p_let (sR m245 v0 67 (some (mN m243))) fun m247 =>
  p_ok (¬ ((250 : Int32) < 0 ∨ 100000 < (250 : Int32).toNatClampNeg))
  (p_let (sN m247 20 (250 : Int32).toNatClampNeg (250 : Int32).toNatClampNeg) fun m249 =>
  p_ok (mK m249 v0 = 14 ∧ v0 < mN m249)
  (p_let (sR m249 v0 68 (some (mN m247))) fun m251 =>
  p_ok (¬ ((2400 : Int32) < 0 ∨ 100000 < (2400 : Int32).toNatClampNeg))
  (p_let (sN m251 20 (2400 : Int32).toNatClampNeg (2400 : Int32).toNatClampNeg) fun m253 =>
  F_X13_init_c527 v0 (mN m251) v0 m253))))))))
theorem E_X13_init_c491 {X : p_X} {d : Nat} {Q : p_R → Prop} {v0 : Nat} {s0 : Nat} {s1 : Nat} {μ : p_M} {r : Int32 × p_M} (h : F_X13_init_c491 v0 s0 s1 μ = some r) (hQ : Q ((0, none), r.2)) : p_Ev X (d + 0) M_X13_init 491 [.ref v0] [.ref s0, .ref s1] μ Q := by
  unfold F_X13_init_c491 at h
  obtain ⟨h238, h⟩ := p_ok_some h
  replace h := p_lt h
  refine e_putR dX13_init_491 rfl ⟨rfl, (by decide +kernel), (fun h => by cases h)⟩ h238 ?_
  refine e_aload_n dX13_init_494 rfl ?_
  refine e_sipush (v := (250 : Int32)) dX13_init_495 rfl ?_
  obtain ⟨h240, h⟩ := p_ok_some h
  replace h := p_lt h
  refine e_newI dX13_init_498 h240 ?_
  obtain ⟨h242, h⟩ := p_ok_some h
  replace h := p_lt h
  refine e_putR dX13_init_500 rfl ⟨rfl, (by decide +kernel), (fun h => by cases h)⟩ h242 ?_
  refine e_aload_n dX13_init_503 rfl ?_
  refine e_sipush (v := (250 : Int32)) dX13_init_504 rfl ?_
  obtain ⟨h244, h⟩ := p_ok_some h
  replace h := p_lt h
  refine e_newI dX13_init_507 h244 ?_
  obtain ⟨h246, h⟩ := p_ok_some h
  replace h := p_lt h
  refine e_putR dX13_init_509 rfl ⟨rfl, (by decide +kernel), (fun h => by cases h)⟩ h246 ?_
  refine e_aload_n dX13_init_512 rfl ?_
  refine e_sipush (v := (250 : Int32)) dX13_init_513 rfl ?_
  obtain ⟨h248, h⟩ := p_ok_some h
  replace h := p_lt h
  refine e_newI dX13_init_516 h248 ?_
  obtain ⟨h250, h⟩ := p_ok_some h
  replace h := p_lt h
  refine e_putR dX13_init_518 rfl ⟨rfl, (by decide +kernel), (fun h => by cases h)⟩ h250 ?_
  refine e_aload_n dX13_init_521 rfl ?_
  refine e_sipush (v := (2400 : Int32)) dX13_init_522 rfl ?_
  obtain ⟨h252, h⟩ := p_ok_some h
  replace h := p_lt h
  refine e_newI dX13_init_525 h252 ?_
  exact E_X13_init_c527 h hQ
def F_X13_init_c457 (v0 : Nat) (s0 : Nat) (s1 : Nat) (μ : p_M) : Option (Int32 × p_M) :=
  p_ok (mK μ s1 = 14 ∧ s1 < mN μ)
  (p_let (sR μ s1 59 (some s0)) fun m223 =>
  p_ok (¬ ((40 : Int32) < 0 ∨ 100000 < (40 : Int32).toNatClampNeg))
  (p_let (sN m223 20 (40 : Int32).toNatClampNeg (40 : Int32).toNatClampNeg) fun m225 =>
  p_ok (mK m225 v0 = 14 ∧ v0 < mN m225)
  (p_let (sR m225 v0 60 (some (mN m223))) fun m227 =>
  p_ok (¬ ((40 : Int32) < 0 ∨ 100000 < (40 : Int32).toNatClampNeg))
  (p_let (sN m227 20 (40 : Int32).toNatClampNeg (40 : Int32).toNatClampNeg) fun m229 =>
  p_ok (mK m229 v0 = 14 ∧ v0 < mN m229)
  (p_let (sR m229 v0 61 (some (mN m227))) fun m231 =>
  p_ok (¬ ((2400 : Int32) < 0 ∨ 100000 < (2400 : Int32).toNatClampNeg))
  (p_let (sN m231 20 (2400 : Int32).toNatClampNeg (2400 : Int32).toNatClampNeg) fun m233 =>
  p_ok (mK m233 v0 = 14 ∧ v0 < mN m233)
  (p_let (sR m233 v0 64 (some (mN m231))) fun m235 =>
  p_ok (¬ ((250 : Int32) < 0 ∨ 100000 < (250 : Int32).toNatClampNeg))
  (p_let (sN m235 20 (250 : Int32).toNatClampNeg (250 : Int32).toNatClampNeg) fun m237 =>
  F_X13_init_c491 v0 (mN m235) v0 m237))))))))
theorem E_X13_init_c457 {X : p_X} {d : Nat} {Q : p_R → Prop} {v0 : Nat} {s0 : Nat} {s1 : Nat} {μ : p_M} {r : Int32 × p_M} (h : F_X13_init_c457 v0 s0 s1 μ = some r) (hQ : Q ((0, none), r.2)) : p_Ev X (d + 0) M_X13_init 457 [.ref v0] [.ref s0, .ref s1] μ Q := by
  unfold F_X13_init_c457 at h
  obtain ⟨h222, h⟩ := p_ok_some h
  replace h := p_lt h
  refine e_putR dX13_init_457 rfl ⟨rfl, (by decide +kernel), (fun h => by cases h)⟩ h222 ?_
  refine e_aload_n dX13_init_460 rfl ?_
  refine e_bipush (v := (40 : Int32)) dX13_init_461 rfl ?_
  obtain ⟨h224, h⟩ := p_ok_some h
  replace h := p_lt h
  refine e_newI dX13_init_463 h224 ?_
  obtain ⟨h226, h⟩ := p_ok_some h
  replace h := p_lt h
  refine e_putR dX13_init_465 rfl ⟨rfl, (by decide +kernel), (fun h => by cases h)⟩ h226 ?_
  refine e_aload_n dX13_init_468 rfl ?_
  refine e_bipush (v := (40 : Int32)) dX13_init_469 rfl ?_
  obtain ⟨h228, h⟩ := p_ok_some h
  replace h := p_lt h
  refine e_newI dX13_init_471 h228 ?_
  obtain ⟨h230, h⟩ := p_ok_some h
  replace h := p_lt h
  refine e_putR dX13_init_473 rfl ⟨rfl, (by decide +kernel), (fun h => by cases h)⟩ h230 ?_
  refine e_aload_n dX13_init_476 rfl ?_
  refine e_sipush (v := (2400 : Int32)) dX13_init_477 rfl ?_
  obtain ⟨h232, h⟩ := p_ok_some h
  replace h := p_lt h
  refine e_newI dX13_init_480 h232 ?_
  obtain ⟨h234, h⟩ := p_ok_some h
  replace h := p_lt h
  refine e_putR dX13_init_482 rfl ⟨rfl, (by decide +kernel), (fun h => by cases h)⟩ h234 ?_
  refine e_aload_n dX13_init_485 rfl ?_
  refine e_sipush (v := (250 : Int32)) dX13_init_486 rfl ?_
  obtain ⟨h236, h⟩ := p_ok_some h
  replace h := p_lt h
  refine e_newI dX13_init_489 h236 ?_
  exact E_X13_init_c491 h hQ
def F_X13_init_c425 (v0 : Nat) (s0 : Nat) (s1 : Nat) (μ : p_M) : Option (Int32 × p_M) :=
  p_ok (mK μ s1 = 14 ∧ s1 < mN μ)
  (p_let (sR μ s1 55 (some s0)) fun m207 =>
  p_ok (¬ ((40 : Int32) < 0 ∨ 100000 < (40 : Int32).toNatClampNeg))
  (p_let (sN m207 20 (40 : Int32).toNatClampNeg (40 : Int32).toNatClampNeg) fun m209 =>
  p_ok (mK m209 v0 = 14 ∧ v0 < mN m209)
  (p_let (sR m209 v0 56 (some (mN m207))) fun m211 =>
  p_ok (¬ ((40 : Int32) < 0 ∨ 100000 < (40 : Int32).toNatClampNeg))
  (p_let (sN m211 20 (40 : Int32).toNatClampNeg (40 : Int32).toNatClampNeg) fun m213 =>
  p_ok (mK m213 v0 = 14 ∧ v0 < mN m213)
  (p_let (sR m213 v0 57 (some (mN m211))) fun m215 =>
  p_ok (¬ ((40 : Int32) < 0 ∨ 100000 < (40 : Int32).toNatClampNeg))
  (p_let (sN m215 20 (40 : Int32).toNatClampNeg (40 : Int32).toNatClampNeg) fun m217 =>
  p_ok (mK m217 v0 = 14 ∧ v0 < mN m217)
  (p_let (sR m217 v0 58 (some (mN m215))) fun m219 =>
  p_ok (¬ ((40 : Int32) < 0 ∨ 100000 < (40 : Int32).toNatClampNeg))
  (p_let (sN m219 20 (40 : Int32).toNatClampNeg (40 : Int32).toNatClampNeg) fun m221 =>
  F_X13_init_c457 v0 (mN m219) v0 m221))))))))
theorem E_X13_init_c425 {X : p_X} {d : Nat} {Q : p_R → Prop} {v0 : Nat} {s0 : Nat} {s1 : Nat} {μ : p_M} {r : Int32 × p_M} (h : F_X13_init_c425 v0 s0 s1 μ = some r) (hQ : Q ((0, none), r.2)) : p_Ev X (d + 0) M_X13_init 425 [.ref v0] [.ref s0, .ref s1] μ Q := by
  unfold F_X13_init_c425 at h
  obtain ⟨h206, h⟩ := p_ok_some h
  replace h := p_lt h
  refine e_putR dX13_init_425 rfl ⟨rfl, (by decide +kernel), (fun h => by cases h)⟩ h206 ?_
  refine e_aload_n dX13_init_428 rfl ?_
  refine e_bipush (v := (40 : Int32)) dX13_init_429 rfl ?_
  obtain ⟨h208, h⟩ := p_ok_some h
  replace h := p_lt h
  refine e_newI dX13_init_431 h208 ?_
  obtain ⟨h210, h⟩ := p_ok_some h
  replace h := p_lt h
  refine e_putR dX13_init_433 rfl ⟨rfl, (by decide +kernel), (fun h => by cases h)⟩ h210 ?_
  refine e_aload_n dX13_init_436 rfl ?_
  refine e_bipush (v := (40 : Int32)) dX13_init_437 rfl ?_
  obtain ⟨h212, h⟩ := p_ok_some h
  replace h := p_lt h
  refine e_newI dX13_init_439 h212 ?_
  obtain ⟨h214, h⟩ := p_ok_some h
  replace h := p_lt h
  refine e_putR dX13_init_441 rfl ⟨rfl, (by decide +kernel), (fun h => by cases h)⟩ h214 ?_
  refine e_aload_n dX13_init_444 rfl ?_
  refine e_bipush (v := (40 : Int32)) dX13_init_445 rfl ?_
  obtain ⟨h216, h⟩ := p_ok_some h
  replace h := p_lt h
  refine e_newI dX13_init_447 h216 ?_
  obtain ⟨h218, h⟩ := p_ok_some h
  replace h := p_lt h
  refine e_putR dX13_init_449 rfl ⟨rfl, (by decide +kernel), (fun h => by cases h)⟩ h218 ?_
  refine e_aload_n dX13_init_452 rfl ?_
  refine e_bipush (v := (40 : Int32)) dX13_init_453 rfl ?_
  obtain ⟨h220, h⟩ := p_ok_some h
  replace h := p_lt h
  refine e_newI dX13_init_455 h220 ?_
  exact E_X13_init_c457 h hQ
def F_X13_init_c393 (v0 : Nat) (s0 : Nat) (s1 : Nat) (μ : p_M) : Option (Int32 × p_M) :=
  p_ok (mK μ s1 = 14 ∧ s1 < mN μ)
  (p_let (sR μ s1 51 (some s0)) fun m191 =>
  p_ok (¬ ((40 : Int32) < 0 ∨ 100000 < (40 : Int32).toNatClampNeg))
  (p_let (sN m191 20 (40 : Int32).toNatClampNeg (40 : Int32).toNatClampNeg) fun m193 =>
  p_ok (mK m193 v0 = 14 ∧ v0 < mN m193)
  (p_let (sR m193 v0 52 (some (mN m191))) fun m195 =>
  p_ok (¬ ((40 : Int32) < 0 ∨ 100000 < (40 : Int32).toNatClampNeg))
  (p_let (sN m195 20 (40 : Int32).toNatClampNeg (40 : Int32).toNatClampNeg) fun m197 =>
  p_ok (mK m197 v0 = 14 ∧ v0 < mN m197)
  (p_let (sR m197 v0 53 (some (mN m195))) fun m199 =>
  p_ok (¬ ((40 : Int32) < 0 ∨ 100000 < (40 : Int32).toNatClampNeg))
  (p_let (sN m199 20 (40 : Int32).toNatClampNeg (40 : Int32).toNatClampNeg) fun m201 =>
  p_ok (mK m201 v0 = 14 ∧ v0 < mN m201)
  (p_let (sR m201 v0 54 (some (mN m199))) fun m203 =>
  p_ok (¬ ((40 : Int32) < 0 ∨ 100000 < (40 : Int32).toNatClampNeg))
  (p_let (sN m203 20 (40 : Int32).toNatClampNeg (40 : Int32).toNatClampNeg) fun m205 =>
  F_X13_init_c425 v0 (mN m203) v0 m205))))))))
theorem E_X13_init_c393 {X : p_X} {d : Nat} {Q : p_R → Prop} {v0 : Nat} {s0 : Nat} {s1 : Nat} {μ : p_M} {r : Int32 × p_M} (h : F_X13_init_c393 v0 s0 s1 μ = some r) (hQ : Q ((0, none), r.2)) : p_Ev X (d + 0) M_X13_init 393 [.ref v0] [.ref s0, .ref s1] μ Q := by
  unfold F_X13_init_c393 at h
  obtain ⟨h190, h⟩ := p_ok_some h
  replace h := p_lt h
  refine e_putR dX13_init_393 rfl ⟨rfl, (by decide +kernel), (fun h => by cases h)⟩ h190 ?_
  refine e_aload_n dX13_init_396 rfl ?_
  refine e_bipush (v := (40 : Int32)) dX13_init_397 rfl ?_
  obtain ⟨h192, h⟩ := p_ok_some h
  replace h := p_lt h
  refine e_newI dX13_init_399 h192 ?_
  obtain ⟨h194, h⟩ := p_ok_some h
  replace h := p_lt h
  refine e_putR dX13_init_401 rfl ⟨rfl, (by decide +kernel), (fun h => by cases h)⟩ h194 ?_
  refine e_aload_n dX13_init_404 rfl ?_
  refine e_bipush (v := (40 : Int32)) dX13_init_405 rfl ?_
  obtain ⟨h196, h⟩ := p_ok_some h
  replace h := p_lt h
  refine e_newI dX13_init_407 h196 ?_
  obtain ⟨h198, h⟩ := p_ok_some h
  replace h := p_lt h
  refine e_putR dX13_init_409 rfl ⟨rfl, (by decide +kernel), (fun h => by cases h)⟩ h198 ?_
  refine e_aload_n dX13_init_412 rfl ?_
  refine e_bipush (v := (40 : Int32)) dX13_init_413 rfl ?_
  obtain ⟨h200, h⟩ := p_ok_some h
  replace h := p_lt h
  refine e_newI dX13_init_415 h200 ?_
  obtain ⟨h202, h⟩ := p_ok_some h
  replace h := p_lt h
  refine e_putR dX13_init_417 rfl ⟨rfl, (by decide +kernel), (fun h => by cases h)⟩ h202 ?_
  refine e_aload_n dX13_init_420 rfl ?_
  refine e_bipush (v := (40 : Int32)) dX13_init_421 rfl ?_
  obtain ⟨h204, h⟩ := p_ok_some h
  replace h := p_lt h
  refine e_newI dX13_init_423 h204 ?_
  exact E_X13_init_c425 h hQ
def F_X13_init_c361 (v0 : Nat) (s0 : Nat) (s1 : Nat) (μ : p_M) : Option (Int32 × p_M) :=
  p_ok (mK μ s1 = 14 ∧ s1 < mN μ)
  (p_let (sR μ s1 46 (some s0)) fun m175 =>
  p_ok (¬ ((40 : Int32) < 0 ∨ 100000 < (40 : Int32).toNatClampNeg))
  (p_let (sN m175 20 (40 : Int32).toNatClampNeg (40 : Int32).toNatClampNeg) fun m177 =>
  p_ok (mK m177 v0 = 14 ∧ v0 < mN m177)
  (p_let (sR m177 v0 48 (some (mN m175))) fun m179 =>
  p_ok (¬ ((40 : Int32) < 0 ∨ 100000 < (40 : Int32).toNatClampNeg))
  (p_let (sN m179 20 (40 : Int32).toNatClampNeg (40 : Int32).toNatClampNeg) fun m181 =>
  p_ok (mK m181 v0 = 14 ∧ v0 < mN m181)
  (p_let (sR m181 v0 49 (some (mN m179))) fun m183 =>
  p_ok (¬ ((40 : Int32) < 0 ∨ 100000 < (40 : Int32).toNatClampNeg))
  (p_let (sN m183 20 (40 : Int32).toNatClampNeg (40 : Int32).toNatClampNeg) fun m185 =>
  p_ok (mK m185 v0 = 14 ∧ v0 < mN m185)
  (p_let (sR m185 v0 50 (some (mN m183))) fun m187 =>
  p_ok (¬ ((40 : Int32) < 0 ∨ 100000 < (40 : Int32).toNatClampNeg))
  (p_let (sN m187 20 (40 : Int32).toNatClampNeg (40 : Int32).toNatClampNeg) fun m189 =>
  F_X13_init_c393 v0 (mN m187) v0 m189))))))))
theorem E_X13_init_c361 {X : p_X} {d : Nat} {Q : p_R → Prop} {v0 : Nat} {s0 : Nat} {s1 : Nat} {μ : p_M} {r : Int32 × p_M} (h : F_X13_init_c361 v0 s0 s1 μ = some r) (hQ : Q ((0, none), r.2)) : p_Ev X (d + 0) M_X13_init 361 [.ref v0] [.ref s0, .ref s1] μ Q := by
  unfold F_X13_init_c361 at h
  obtain ⟨h174, h⟩ := p_ok_some h
  replace h := p_lt h
  refine e_putR dX13_init_361 rfl ⟨rfl, (by decide +kernel), (fun h => by cases h)⟩ h174 ?_
  refine e_aload_n dX13_init_364 rfl ?_
  refine e_bipush (v := (40 : Int32)) dX13_init_365 rfl ?_
  obtain ⟨h176, h⟩ := p_ok_some h
  replace h := p_lt h
  refine e_newI dX13_init_367 h176 ?_
  obtain ⟨h178, h⟩ := p_ok_some h
  replace h := p_lt h
  refine e_putR dX13_init_369 rfl ⟨rfl, (by decide +kernel), (fun h => by cases h)⟩ h178 ?_
  refine e_aload_n dX13_init_372 rfl ?_
  refine e_bipush (v := (40 : Int32)) dX13_init_373 rfl ?_
  obtain ⟨h180, h⟩ := p_ok_some h
  replace h := p_lt h
  refine e_newI dX13_init_375 h180 ?_
  obtain ⟨h182, h⟩ := p_ok_some h
  replace h := p_lt h
  refine e_putR dX13_init_377 rfl ⟨rfl, (by decide +kernel), (fun h => by cases h)⟩ h182 ?_
  refine e_aload_n dX13_init_380 rfl ?_
  refine e_bipush (v := (40 : Int32)) dX13_init_381 rfl ?_
  obtain ⟨h184, h⟩ := p_ok_some h
  replace h := p_lt h
  refine e_newI dX13_init_383 h184 ?_
  obtain ⟨h186, h⟩ := p_ok_some h
  replace h := p_lt h
  refine e_putR dX13_init_385 rfl ⟨rfl, (by decide +kernel), (fun h => by cases h)⟩ h186 ?_
  refine e_aload_n dX13_init_388 rfl ?_
  refine e_bipush (v := (40 : Int32)) dX13_init_389 rfl ?_
  obtain ⟨h188, h⟩ := p_ok_some h
  replace h := p_lt h
  refine e_newI dX13_init_391 h188 ?_
  exact E_X13_init_c393 h hQ
def F_X13_init_c333 (v0 : Nat) (s0 : Nat) (s1 : Nat) (μ : p_M) : Option (Int32 × p_M) :=
  p_ok (mK μ s1 = 14 ∧ s1 < mN μ)
  (p_let (sR μ s1 40 (some s0)) fun m159 =>
  p_ok (¬ ((4 : Int32) < 0 ∨ 100000 < (4 : Int32).toNatClampNeg))
  (p_let (sN m159 20 (4 : Int32).toNatClampNeg (4 : Int32).toNatClampNeg) fun m161 =>
  p_ok (mK m161 v0 = 14 ∧ v0 < mN m161)
  (p_let (sR m161 v0 43 (some (mN m159))) fun m163 =>
  p_ok (¬ ((4 : Int32) < 0 ∨ 100000 < (4 : Int32).toNatClampNeg))
  (p_let (sN m163 20 (4 : Int32).toNatClampNeg (4 : Int32).toNatClampNeg) fun m165 =>
  p_ok (mK m165 v0 = 14 ∧ v0 < mN m165)
  (p_let (sR m165 v0 44 (some (mN m163))) fun m167 =>
  p_ok (¬ ((4 : Int32) < 0 ∨ 100000 < (4 : Int32).toNatClampNeg))
  (p_let (sN m167 20 (4 : Int32).toNatClampNeg (4 : Int32).toNatClampNeg) fun m169 =>
  p_ok (mK m169 v0 = 14 ∧ v0 < mN m169)
  (p_let (sR m169 v0 45 (some (mN m167))) fun m171 =>
  p_ok (¬ ((4 : Int32) < 0 ∨ 100000 < (4 : Int32).toNatClampNeg))
  (p_let (sN m171 20 (4 : Int32).toNatClampNeg (4 : Int32).toNatClampNeg) fun m173 =>
  F_X13_init_c361 v0 (mN m171) v0 m173))))))))
theorem E_X13_init_c333 {X : p_X} {d : Nat} {Q : p_R → Prop} {v0 : Nat} {s0 : Nat} {s1 : Nat} {μ : p_M} {r : Int32 × p_M} (h : F_X13_init_c333 v0 s0 s1 μ = some r) (hQ : Q ((0, none), r.2)) : p_Ev X (d + 0) M_X13_init 333 [.ref v0] [.ref s0, .ref s1] μ Q := by
  unfold F_X13_init_c333 at h
  obtain ⟨h158, h⟩ := p_ok_some h
  replace h := p_lt h
  refine e_putR dX13_init_333 rfl ⟨rfl, (by decide +kernel), (fun h => by cases h)⟩ h158 ?_
  refine e_aload_n dX13_init_336 rfl ?_
  refine e_iconst (v := (4 : Int32)) dX13_init_337 rfl ?_
  obtain ⟨h160, h⟩ := p_ok_some h
  replace h := p_lt h
  refine e_newI dX13_init_338 h160 ?_
  obtain ⟨h162, h⟩ := p_ok_some h
  replace h := p_lt h
  refine e_putR dX13_init_340 rfl ⟨rfl, (by decide +kernel), (fun h => by cases h)⟩ h162 ?_
  refine e_aload_n dX13_init_343 rfl ?_
  refine e_iconst (v := (4 : Int32)) dX13_init_344 rfl ?_
  obtain ⟨h164, h⟩ := p_ok_some h
  replace h := p_lt h
  refine e_newI dX13_init_345 h164 ?_
  obtain ⟨h166, h⟩ := p_ok_some h
  replace h := p_lt h
  refine e_putR dX13_init_347 rfl ⟨rfl, (by decide +kernel), (fun h => by cases h)⟩ h166 ?_
  refine e_aload_n dX13_init_350 rfl ?_
  refine e_iconst (v := (4 : Int32)) dX13_init_351 rfl ?_
  obtain ⟨h168, h⟩ := p_ok_some h
  replace h := p_lt h
  refine e_newI dX13_init_352 h168 ?_
  obtain ⟨h170, h⟩ := p_ok_some h
  replace h := p_lt h
  refine e_putR dX13_init_354 rfl ⟨rfl, (by decide +kernel), (fun h => by cases h)⟩ h170 ?_
  refine e_aload_n dX13_init_357 rfl ?_
  refine e_iconst (v := (4 : Int32)) dX13_init_358 rfl ?_
  obtain ⟨h172, h⟩ := p_ok_some h
  replace h := p_lt h
  refine e_newI dX13_init_359 h172 ?_
  exact E_X13_init_c361 h hQ
def F_X13_init_c313 (v0 : Nat) (s0 : Nat) (s1 : Nat) (μ : p_M) : Option (Int32 × p_M) :=
  p_ok (s0 < p_E ∧ mK μ s0 = 20 ∧ s0 < mN μ)
  (p_ok (¬ (32 : Int32) < 0 ∧ (32 : Int32).toNatClampNeg < mL μ s0)
  (p_let (sI μ s0 (32 : Int32).toNatClampNeg (0 : Int32)) fun m151 =>
  p_ok (¬ (33 : Int32) < 0 ∧ (33 : Int32).toNatClampNeg < mL m151 s0)
  (p_let (sI m151 s0 (33 : Int32).toNatClampNeg (0 : Int32)) fun m153 =>
  p_ok (¬ (34 : Int32) < 0 ∧ (34 : Int32).toNatClampNeg < mL m153 s0)
  (p_let (sI m153 s0 (34 : Int32).toNatClampNeg (0 : Int32)) fun m155 =>
  p_ok (¬ (35 : Int32) < 0 ∧ (35 : Int32).toNatClampNeg < mL m155 s0)
  (p_let (sI m155 s0 (35 : Int32).toNatClampNeg (0 : Int32)) fun m157 =>
  F_X13_init_c333 v0 s0 s1 m157)))))
theorem E_X13_init_c313 {X : p_X} {d : Nat} {Q : p_R → Prop} {v0 : Nat} {s0 : Nat} {s1 : Nat} {μ : p_M} {r : Int32 × p_M} (h : F_X13_init_c313 v0 s0 s1 μ = some r) (hQ : Q ((0, none), r.2)) : p_Ev X (d + 0) M_X13_init 313 [.ref v0] [.ref s0, .ref s1] μ Q := by
  unfold F_X13_init_c313 at h
  refine e_dupR dX13_init_313 ?_
  refine e_bipush (v := (32 : Int32)) dX13_init_314 rfl ?_
  refine e_iconst (v := (0 : Int32)) dX13_init_316 rfl ?_
  obtain ⟨h149, h⟩ := p_ok_some h
  obtain ⟨h150, h⟩ := p_ok_some h
  replace h := p_lt h
  refine e_iaS dX13_init_317 h149 h150 ?_
  refine e_dupR dX13_init_318 ?_
  refine e_bipush (v := (33 : Int32)) dX13_init_319 rfl ?_
  refine e_iconst (v := (0 : Int32)) dX13_init_321 rfl ?_
  obtain ⟨h152, h⟩ := p_ok_some h
  replace h := p_lt h
  refine e_iaS dX13_init_322 h149 h152 ?_
  refine e_dupR dX13_init_323 ?_
  refine e_bipush (v := (34 : Int32)) dX13_init_324 rfl ?_
  refine e_iconst (v := (0 : Int32)) dX13_init_326 rfl ?_
  obtain ⟨h154, h⟩ := p_ok_some h
  replace h := p_lt h
  refine e_iaS dX13_init_327 h149 h154 ?_
  refine e_dupR dX13_init_328 ?_
  refine e_bipush (v := (35 : Int32)) dX13_init_329 rfl ?_
  refine e_iconst (v := (0 : Int32)) dX13_init_331 rfl ?_
  obtain ⟨h156, h⟩ := p_ok_some h
  replace h := p_lt h
  refine e_iaS dX13_init_332 h149 h156 ?_
  exact E_X13_init_c333 h hQ
def F_X13_init_c293 (v0 : Nat) (s0 : Nat) (s1 : Nat) (μ : p_M) : Option (Int32 × p_M) :=
  p_ok (s0 < p_E ∧ mK μ s0 = 20 ∧ s0 < mN μ)
  (p_ok (¬ (28 : Int32) < 0 ∧ (28 : Int32).toNatClampNeg < mL μ s0)
  (p_let (sI μ s0 (28 : Int32).toNatClampNeg (0 : Int32)) fun m142 =>
  p_ok (¬ (29 : Int32) < 0 ∧ (29 : Int32).toNatClampNeg < mL m142 s0)
  (p_let (sI m142 s0 (29 : Int32).toNatClampNeg (0 : Int32)) fun m144 =>
  p_ok (¬ (30 : Int32) < 0 ∧ (30 : Int32).toNatClampNeg < mL m144 s0)
  (p_let (sI m144 s0 (30 : Int32).toNatClampNeg (0 : Int32)) fun m146 =>
  p_ok (¬ (31 : Int32) < 0 ∧ (31 : Int32).toNatClampNeg < mL m146 s0)
  (p_let (sI m146 s0 (31 : Int32).toNatClampNeg (0 : Int32)) fun m148 =>
  F_X13_init_c313 v0 s0 s1 m148)))))
theorem E_X13_init_c293 {X : p_X} {d : Nat} {Q : p_R → Prop} {v0 : Nat} {s0 : Nat} {s1 : Nat} {μ : p_M} {r : Int32 × p_M} (h : F_X13_init_c293 v0 s0 s1 μ = some r) (hQ : Q ((0, none), r.2)) : p_Ev X (d + 0) M_X13_init 293 [.ref v0] [.ref s0, .ref s1] μ Q := by
  unfold F_X13_init_c293 at h
  refine e_dupR dX13_init_293 ?_
  refine e_bipush (v := (28 : Int32)) dX13_init_294 rfl ?_
  refine e_iconst (v := (0 : Int32)) dX13_init_296 rfl ?_
  obtain ⟨h140, h⟩ := p_ok_some h
  obtain ⟨h141, h⟩ := p_ok_some h
  replace h := p_lt h
  refine e_iaS dX13_init_297 h140 h141 ?_
  refine e_dupR dX13_init_298 ?_
  refine e_bipush (v := (29 : Int32)) dX13_init_299 rfl ?_
  refine e_iconst (v := (0 : Int32)) dX13_init_301 rfl ?_
  obtain ⟨h143, h⟩ := p_ok_some h
  replace h := p_lt h
  refine e_iaS dX13_init_302 h140 h143 ?_
  refine e_dupR dX13_init_303 ?_
  refine e_bipush (v := (30 : Int32)) dX13_init_304 rfl ?_
  refine e_iconst (v := (0 : Int32)) dX13_init_306 rfl ?_
  obtain ⟨h145, h⟩ := p_ok_some h
  replace h := p_lt h
  refine e_iaS dX13_init_307 h140 h145 ?_
  refine e_dupR dX13_init_308 ?_
  refine e_bipush (v := (31 : Int32)) dX13_init_309 rfl ?_
  refine e_iconst (v := (0 : Int32)) dX13_init_311 rfl ?_
  obtain ⟨h147, h⟩ := p_ok_some h
  replace h := p_lt h
  refine e_iaS dX13_init_312 h140 h147 ?_
  exact E_X13_init_c313 h hQ
def F_X13_init_c273 (v0 : Nat) (s0 : Nat) (s1 : Nat) (μ : p_M) : Option (Int32 × p_M) :=
  p_ok (s0 < p_E ∧ mK μ s0 = 20 ∧ s0 < mN μ)
  (p_ok (¬ (24 : Int32) < 0 ∧ (24 : Int32).toNatClampNeg < mL μ s0)
  (p_let (sI μ s0 (24 : Int32).toNatClampNeg (0 : Int32)) fun m133 =>
  p_ok (¬ (25 : Int32) < 0 ∧ (25 : Int32).toNatClampNeg < mL m133 s0)
  (p_let (sI m133 s0 (25 : Int32).toNatClampNeg (0 : Int32)) fun m135 =>
  p_ok (¬ (26 : Int32) < 0 ∧ (26 : Int32).toNatClampNeg < mL m135 s0)
  (p_let (sI m135 s0 (26 : Int32).toNatClampNeg (0 : Int32)) fun m137 =>
  p_ok (¬ (27 : Int32) < 0 ∧ (27 : Int32).toNatClampNeg < mL m137 s0)
  (p_let (sI m137 s0 (27 : Int32).toNatClampNeg (0 : Int32)) fun m139 =>
  F_X13_init_c293 v0 s0 s1 m139)))))
theorem E_X13_init_c273 {X : p_X} {d : Nat} {Q : p_R → Prop} {v0 : Nat} {s0 : Nat} {s1 : Nat} {μ : p_M} {r : Int32 × p_M} (h : F_X13_init_c273 v0 s0 s1 μ = some r) (hQ : Q ((0, none), r.2)) : p_Ev X (d + 0) M_X13_init 273 [.ref v0] [.ref s0, .ref s1] μ Q := by
  unfold F_X13_init_c273 at h
  refine e_dupR dX13_init_273 ?_
  refine e_bipush (v := (24 : Int32)) dX13_init_274 rfl ?_
  refine e_iconst (v := (0 : Int32)) dX13_init_276 rfl ?_
  obtain ⟨h131, h⟩ := p_ok_some h
  obtain ⟨h132, h⟩ := p_ok_some h
  replace h := p_lt h
  refine e_iaS dX13_init_277 h131 h132 ?_
  refine e_dupR dX13_init_278 ?_
  refine e_bipush (v := (25 : Int32)) dX13_init_279 rfl ?_
  refine e_iconst (v := (0 : Int32)) dX13_init_281 rfl ?_
  obtain ⟨h134, h⟩ := p_ok_some h
  replace h := p_lt h
  refine e_iaS dX13_init_282 h131 h134 ?_
  refine e_dupR dX13_init_283 ?_
  refine e_bipush (v := (26 : Int32)) dX13_init_284 rfl ?_
  refine e_iconst (v := (0 : Int32)) dX13_init_286 rfl ?_
  obtain ⟨h136, h⟩ := p_ok_some h
  replace h := p_lt h
  refine e_iaS dX13_init_287 h131 h136 ?_
  refine e_dupR dX13_init_288 ?_
  refine e_bipush (v := (27 : Int32)) dX13_init_289 rfl ?_
  refine e_iconst (v := (0 : Int32)) dX13_init_291 rfl ?_
  obtain ⟨h138, h⟩ := p_ok_some h
  replace h := p_lt h
  refine e_iaS dX13_init_292 h131 h138 ?_
  exact E_X13_init_c293 h hQ
def F_X13_init_c253 (v0 : Nat) (s0 : Nat) (s1 : Nat) (μ : p_M) : Option (Int32 × p_M) :=
  p_ok (s0 < p_E ∧ mK μ s0 = 20 ∧ s0 < mN μ)
  (p_ok (¬ (20 : Int32) < 0 ∧ (20 : Int32).toNatClampNeg < mL μ s0)
  (p_let (sI μ s0 (20 : Int32).toNatClampNeg (0 : Int32)) fun m124 =>
  p_ok (¬ (21 : Int32) < 0 ∧ (21 : Int32).toNatClampNeg < mL m124 s0)
  (p_let (sI m124 s0 (21 : Int32).toNatClampNeg (0 : Int32)) fun m126 =>
  p_ok (¬ (22 : Int32) < 0 ∧ (22 : Int32).toNatClampNeg < mL m126 s0)
  (p_let (sI m126 s0 (22 : Int32).toNatClampNeg (0 : Int32)) fun m128 =>
  p_ok (¬ (23 : Int32) < 0 ∧ (23 : Int32).toNatClampNeg < mL m128 s0)
  (p_let (sI m128 s0 (23 : Int32).toNatClampNeg (0 : Int32)) fun m130 =>
  F_X13_init_c273 v0 s0 s1 m130)))))
theorem E_X13_init_c253 {X : p_X} {d : Nat} {Q : p_R → Prop} {v0 : Nat} {s0 : Nat} {s1 : Nat} {μ : p_M} {r : Int32 × p_M} (h : F_X13_init_c253 v0 s0 s1 μ = some r) (hQ : Q ((0, none), r.2)) : p_Ev X (d + 0) M_X13_init 253 [.ref v0] [.ref s0, .ref s1] μ Q := by
  unfold F_X13_init_c253 at h
  refine e_dupR dX13_init_253 ?_
  refine e_bipush (v := (20 : Int32)) dX13_init_254 rfl ?_
  refine e_iconst (v := (0 : Int32)) dX13_init_256 rfl ?_
  obtain ⟨h122, h⟩ := p_ok_some h
  obtain ⟨h123, h⟩ := p_ok_some h
  replace h := p_lt h
  refine e_iaS dX13_init_257 h122 h123 ?_
  refine e_dupR dX13_init_258 ?_
  refine e_bipush (v := (21 : Int32)) dX13_init_259 rfl ?_
  refine e_iconst (v := (0 : Int32)) dX13_init_261 rfl ?_
  obtain ⟨h125, h⟩ := p_ok_some h
  replace h := p_lt h
  refine e_iaS dX13_init_262 h122 h125 ?_
  refine e_dupR dX13_init_263 ?_
  refine e_bipush (v := (22 : Int32)) dX13_init_264 rfl ?_
  refine e_iconst (v := (0 : Int32)) dX13_init_266 rfl ?_
  obtain ⟨h127, h⟩ := p_ok_some h
  replace h := p_lt h
  refine e_iaS dX13_init_267 h122 h127 ?_
  refine e_dupR dX13_init_268 ?_
  refine e_bipush (v := (23 : Int32)) dX13_init_269 rfl ?_
  refine e_iconst (v := (0 : Int32)) dX13_init_271 rfl ?_
  obtain ⟨h129, h⟩ := p_ok_some h
  replace h := p_lt h
  refine e_iaS dX13_init_272 h122 h129 ?_
  exact E_X13_init_c273 h hQ
def F_X13_init_c233 (v0 : Nat) (s0 : Nat) (s1 : Nat) (μ : p_M) : Option (Int32 × p_M) :=
  p_ok (s0 < p_E ∧ mK μ s0 = 20 ∧ s0 < mN μ)
  (p_ok (¬ (16 : Int32) < 0 ∧ (16 : Int32).toNatClampNeg < mL μ s0)
  (p_let (sI μ s0 (16 : Int32).toNatClampNeg (5 : Int32)) fun m115 =>
  p_ok (¬ (17 : Int32) < 0 ∧ (17 : Int32).toNatClampNeg < mL m115 s0)
  (p_let (sI m115 s0 (17 : Int32).toNatClampNeg (4 : Int32)) fun m117 =>
  p_ok (¬ (18 : Int32) < 0 ∧ (18 : Int32).toNatClampNeg < mL m117 s0)
  (p_let (sI m117 s0 (18 : Int32).toNatClampNeg (0 : Int32)) fun m119 =>
  p_ok (¬ (19 : Int32) < 0 ∧ (19 : Int32).toNatClampNeg < mL m119 s0)
  (p_let (sI m119 s0 (19 : Int32).toNatClampNeg (0 : Int32)) fun m121 =>
  F_X13_init_c253 v0 s0 s1 m121)))))
theorem E_X13_init_c233 {X : p_X} {d : Nat} {Q : p_R → Prop} {v0 : Nat} {s0 : Nat} {s1 : Nat} {μ : p_M} {r : Int32 × p_M} (h : F_X13_init_c233 v0 s0 s1 μ = some r) (hQ : Q ((0, none), r.2)) : p_Ev X (d + 0) M_X13_init 233 [.ref v0] [.ref s0, .ref s1] μ Q := by
  unfold F_X13_init_c233 at h
  refine e_dupR dX13_init_233 ?_
  refine e_bipush (v := (16 : Int32)) dX13_init_234 rfl ?_
  refine e_iconst (v := (5 : Int32)) dX13_init_236 rfl ?_
  obtain ⟨h113, h⟩ := p_ok_some h
  obtain ⟨h114, h⟩ := p_ok_some h
  replace h := p_lt h
  refine e_iaS dX13_init_237 h113 h114 ?_
  refine e_dupR dX13_init_238 ?_
  refine e_bipush (v := (17 : Int32)) dX13_init_239 rfl ?_
  refine e_iconst (v := (4 : Int32)) dX13_init_241 rfl ?_
  obtain ⟨h116, h⟩ := p_ok_some h
  replace h := p_lt h
  refine e_iaS dX13_init_242 h113 h116 ?_
  refine e_dupR dX13_init_243 ?_
  refine e_bipush (v := (18 : Int32)) dX13_init_244 rfl ?_
  refine e_iconst (v := (0 : Int32)) dX13_init_246 rfl ?_
  obtain ⟨h118, h⟩ := p_ok_some h
  replace h := p_lt h
  refine e_iaS dX13_init_247 h113 h118 ?_
  refine e_dupR dX13_init_248 ?_
  refine e_bipush (v := (19 : Int32)) dX13_init_249 rfl ?_
  refine e_iconst (v := (0 : Int32)) dX13_init_251 rfl ?_
  obtain ⟨h120, h⟩ := p_ok_some h
  replace h := p_lt h
  refine e_iaS dX13_init_252 h113 h120 ?_
  exact E_X13_init_c253 h hQ
def F_X13_init_c213 (v0 : Nat) (s0 : Nat) (s1 : Nat) (μ : p_M) : Option (Int32 × p_M) :=
  p_ok (s0 < p_E ∧ mK μ s0 = 20 ∧ s0 < mN μ)
  (p_ok (¬ (12 : Int32) < 0 ∧ (12 : Int32).toNatClampNeg < mL μ s0)
  (p_let (sI μ s0 (12 : Int32).toNatClampNeg (4 : Int32)) fun m106 =>
  p_ok (¬ (13 : Int32) < 0 ∧ (13 : Int32).toNatClampNeg < mL m106 s0)
  (p_let (sI m106 s0 (13 : Int32).toNatClampNeg (0 : Int32)) fun m108 =>
  p_ok (¬ (14 : Int32) < 0 ∧ (14 : Int32).toNatClampNeg < mL m108 s0)
  (p_let (sI m108 s0 (14 : Int32).toNatClampNeg (0 : Int32)) fun m110 =>
  p_ok (¬ (15 : Int32) < 0 ∧ (15 : Int32).toNatClampNeg < mL m110 s0)
  (p_let (sI m110 s0 (15 : Int32).toNatClampNeg (1 : Int32)) fun m112 =>
  F_X13_init_c233 v0 s0 s1 m112)))))
theorem E_X13_init_c213 {X : p_X} {d : Nat} {Q : p_R → Prop} {v0 : Nat} {s0 : Nat} {s1 : Nat} {μ : p_M} {r : Int32 × p_M} (h : F_X13_init_c213 v0 s0 s1 μ = some r) (hQ : Q ((0, none), r.2)) : p_Ev X (d + 0) M_X13_init 213 [.ref v0] [.ref s0, .ref s1] μ Q := by
  unfold F_X13_init_c213 at h
  refine e_dupR dX13_init_213 ?_
  refine e_bipush (v := (12 : Int32)) dX13_init_214 rfl ?_
  refine e_iconst (v := (4 : Int32)) dX13_init_216 rfl ?_
  obtain ⟨h104, h⟩ := p_ok_some h
  obtain ⟨h105, h⟩ := p_ok_some h
  replace h := p_lt h
  refine e_iaS dX13_init_217 h104 h105 ?_
  refine e_dupR dX13_init_218 ?_
  refine e_bipush (v := (13 : Int32)) dX13_init_219 rfl ?_
  refine e_iconst (v := (0 : Int32)) dX13_init_221 rfl ?_
  obtain ⟨h107, h⟩ := p_ok_some h
  replace h := p_lt h
  refine e_iaS dX13_init_222 h104 h107 ?_
  refine e_dupR dX13_init_223 ?_
  refine e_bipush (v := (14 : Int32)) dX13_init_224 rfl ?_
  refine e_iconst (v := (0 : Int32)) dX13_init_226 rfl ?_
  obtain ⟨h109, h⟩ := p_ok_some h
  replace h := p_lt h
  refine e_iaS dX13_init_227 h104 h109 ?_
  refine e_dupR dX13_init_228 ?_
  refine e_bipush (v := (15 : Int32)) dX13_init_229 rfl ?_
  refine e_iconst (v := (1 : Int32)) dX13_init_231 rfl ?_
  obtain ⟨h111, h⟩ := p_ok_some h
  replace h := p_lt h
  refine e_iaS dX13_init_232 h104 h111 ?_
  exact E_X13_init_c233 h hQ
def F_X13_init_c193 (v0 : Nat) (s0 : Nat) (s1 : Nat) (μ : p_M) : Option (Int32 × p_M) :=
  p_ok (s0 < p_E ∧ mK μ s0 = 20 ∧ s0 < mN μ)
  (p_ok (¬ (8 : Int32) < 0 ∧ (8 : Int32).toNatClampNeg < mL μ s0)
  (p_let (sI μ s0 (8 : Int32).toNatClampNeg (5 : Int32)) fun m97 =>
  p_ok (¬ (9 : Int32) < 0 ∧ (9 : Int32).toNatClampNeg < mL m97 s0)
  (p_let (sI m97 s0 (9 : Int32).toNatClampNeg (3 : Int32)) fun m99 =>
  p_ok (¬ (10 : Int32) < 0 ∧ (10 : Int32).toNatClampNeg < mL m99 s0)
  (p_let (sI m99 s0 (10 : Int32).toNatClampNeg (4 : Int32)) fun m101 =>
  p_ok (¬ (11 : Int32) < 0 ∧ (11 : Int32).toNatClampNeg < mL m101 s0)
  (p_let (sI m101 s0 (11 : Int32).toNatClampNeg (5 : Int32)) fun m103 =>
  F_X13_init_c213 v0 s0 s1 m103)))))
theorem E_X13_init_c193 {X : p_X} {d : Nat} {Q : p_R → Prop} {v0 : Nat} {s0 : Nat} {s1 : Nat} {μ : p_M} {r : Int32 × p_M} (h : F_X13_init_c193 v0 s0 s1 μ = some r) (hQ : Q ((0, none), r.2)) : p_Ev X (d + 0) M_X13_init 193 [.ref v0] [.ref s0, .ref s1] μ Q := by
  unfold F_X13_init_c193 at h
  refine e_dupR dX13_init_193 ?_
  refine e_bipush (v := (8 : Int32)) dX13_init_194 rfl ?_
  refine e_iconst (v := (5 : Int32)) dX13_init_196 rfl ?_
  obtain ⟨h95, h⟩ := p_ok_some h
  obtain ⟨h96, h⟩ := p_ok_some h
  replace h := p_lt h
  refine e_iaS dX13_init_197 h95 h96 ?_
  refine e_dupR dX13_init_198 ?_
  refine e_bipush (v := (9 : Int32)) dX13_init_199 rfl ?_
  refine e_iconst (v := (3 : Int32)) dX13_init_201 rfl ?_
  obtain ⟨h98, h⟩ := p_ok_some h
  replace h := p_lt h
  refine e_iaS dX13_init_202 h95 h98 ?_
  refine e_dupR dX13_init_203 ?_
  refine e_bipush (v := (10 : Int32)) dX13_init_204 rfl ?_
  refine e_iconst (v := (4 : Int32)) dX13_init_206 rfl ?_
  obtain ⟨h100, h⟩ := p_ok_some h
  replace h := p_lt h
  refine e_iaS dX13_init_207 h95 h100 ?_
  refine e_dupR dX13_init_208 ?_
  refine e_bipush (v := (11 : Int32)) dX13_init_209 rfl ?_
  refine e_iconst (v := (5 : Int32)) dX13_init_211 rfl ?_
  obtain ⟨h102, h⟩ := p_ok_some h
  replace h := p_lt h
  refine e_iaS dX13_init_212 h95 h102 ?_
  exact E_X13_init_c213 h hQ
def F_X13_init_c175 (v0 : Nat) (s0 : Nat) (s1 : Nat) (μ : p_M) : Option (Int32 × p_M) :=
  p_ok (s0 < p_E ∧ mK μ s0 = 20 ∧ s0 < mN μ)
  (p_ok (¬ (4 : Int32) < 0 ∧ (4 : Int32).toNatClampNeg < mL μ s0)
  (p_let (sI μ s0 (4 : Int32).toNatClampNeg (-1)) fun m88 =>
  p_ok (¬ (5 : Int32) < 0 ∧ (5 : Int32).toNatClampNeg < mL m88 s0)
  (p_let (sI m88 s0 (5 : Int32).toNatClampNeg (-1)) fun m90 =>
  p_ok (¬ (6 : Int32) < 0 ∧ (6 : Int32).toNatClampNeg < mL m90 s0)
  (p_let (sI m90 s0 (6 : Int32).toNatClampNeg (-1)) fun m92 =>
  p_ok (¬ (7 : Int32) < 0 ∧ (7 : Int32).toNatClampNeg < mL m92 s0)
  (p_let (sI m92 s0 (7 : Int32).toNatClampNeg (-1)) fun m94 =>
  F_X13_init_c193 v0 s0 s1 m94)))))
theorem E_X13_init_c175 {X : p_X} {d : Nat} {Q : p_R → Prop} {v0 : Nat} {s0 : Nat} {s1 : Nat} {μ : p_M} {r : Int32 × p_M} (h : F_X13_init_c175 v0 s0 s1 μ = some r) (hQ : Q ((0, none), r.2)) : p_Ev X (d + 0) M_X13_init 175 [.ref v0] [.ref s0, .ref s1] μ Q := by
  unfold F_X13_init_c175 at h
  refine e_dupR dX13_init_175 ?_
  refine e_iconst (v := (4 : Int32)) dX13_init_176 rfl ?_
  refine e_iconst (v := (-1)) dX13_init_177 rfl ?_
  obtain ⟨h86, h⟩ := p_ok_some h
  obtain ⟨h87, h⟩ := p_ok_some h
  replace h := p_lt h
  refine e_iaS dX13_init_178 h86 h87 ?_
  refine e_dupR dX13_init_179 ?_
  refine e_iconst (v := (5 : Int32)) dX13_init_180 rfl ?_
  refine e_iconst (v := (-1)) dX13_init_181 rfl ?_
  obtain ⟨h89, h⟩ := p_ok_some h
  replace h := p_lt h
  refine e_iaS dX13_init_182 h86 h89 ?_
  refine e_dupR dX13_init_183 ?_
  refine e_bipush (v := (6 : Int32)) dX13_init_184 rfl ?_
  refine e_iconst (v := (-1)) dX13_init_186 rfl ?_
  obtain ⟨h91, h⟩ := p_ok_some h
  replace h := p_lt h
  refine e_iaS dX13_init_187 h86 h91 ?_
  refine e_dupR dX13_init_188 ?_
  refine e_bipush (v := (7 : Int32)) dX13_init_189 rfl ?_
  refine e_iconst (v := (-1)) dX13_init_191 rfl ?_
  obtain ⟨h93, h⟩ := p_ok_some h
  replace h := p_lt h
  refine e_iaS dX13_init_192 h86 h93 ?_
  exact E_X13_init_c193 h hQ
def F_X13_init_c159 (v0 : Nat) (s0 : Nat) (s1 : Nat) (μ : p_M) : Option (Int32 × p_M) :=
  p_ok (s0 < p_E ∧ mK μ s0 = 20 ∧ s0 < mN μ)
  (p_ok (¬ (0 : Int32) < 0 ∧ (0 : Int32).toNatClampNeg < mL μ s0)
  (p_let (sI μ s0 (0 : Int32).toNatClampNeg (0 : Int32)) fun m79 =>
  p_ok (¬ (1 : Int32) < 0 ∧ (1 : Int32).toNatClampNeg < mL m79 s0)
  (p_let (sI m79 s0 (1 : Int32).toNatClampNeg (0 : Int32)) fun m81 =>
  p_ok (¬ (2 : Int32) < 0 ∧ (2 : Int32).toNatClampNeg < mL m81 s0)
  (p_let (sI m81 s0 (2 : Int32).toNatClampNeg (0 : Int32)) fun m83 =>
  p_ok (¬ (3 : Int32) < 0 ∧ (3 : Int32).toNatClampNeg < mL m83 s0)
  (p_let (sI m83 s0 (3 : Int32).toNatClampNeg (0 : Int32)) fun m85 =>
  F_X13_init_c175 v0 s0 s1 m85)))))
theorem E_X13_init_c159 {X : p_X} {d : Nat} {Q : p_R → Prop} {v0 : Nat} {s0 : Nat} {s1 : Nat} {μ : p_M} {r : Int32 × p_M} (h : F_X13_init_c159 v0 s0 s1 μ = some r) (hQ : Q ((0, none), r.2)) : p_Ev X (d + 0) M_X13_init 159 [.ref v0] [.ref s0, .ref s1] μ Q := by
  unfold F_X13_init_c159 at h
  refine e_dupR dX13_init_159 ?_
  refine e_iconst (v := (0 : Int32)) dX13_init_160 rfl ?_
  refine e_iconst (v := (0 : Int32)) dX13_init_161 rfl ?_
  obtain ⟨h77, h⟩ := p_ok_some h
  obtain ⟨h78, h⟩ := p_ok_some h
  replace h := p_lt h
  refine e_iaS dX13_init_162 h77 h78 ?_
  refine e_dupR dX13_init_163 ?_
  refine e_iconst (v := (1 : Int32)) dX13_init_164 rfl ?_
  refine e_iconst (v := (0 : Int32)) dX13_init_165 rfl ?_
  obtain ⟨h80, h⟩ := p_ok_some h
  replace h := p_lt h
  refine e_iaS dX13_init_166 h77 h80 ?_
  refine e_dupR dX13_init_167 ?_
  refine e_iconst (v := (2 : Int32)) dX13_init_168 rfl ?_
  refine e_iconst (v := (0 : Int32)) dX13_init_169 rfl ?_
  obtain ⟨h82, h⟩ := p_ok_some h
  replace h := p_lt h
  refine e_iaS dX13_init_170 h77 h82 ?_
  refine e_dupR dX13_init_171 ?_
  refine e_iconst (v := (3 : Int32)) dX13_init_172 rfl ?_
  refine e_iconst (v := (0 : Int32)) dX13_init_173 rfl ?_
  obtain ⟨h84, h⟩ := p_ok_some h
  replace h := p_lt h
  refine e_iaS dX13_init_174 h77 h84 ?_
  exact E_X13_init_c175 h hQ
def F_X13_init_c129 (v0 : Nat) (s0 : Nat) (s1 : Nat) (μ : p_M) : Option (Int32 × p_M) :=
  p_ok (mK μ s1 = 14 ∧ s1 < mN μ)
  (p_let (sR μ s1 27 (some s0)) fun m62 =>
  p_ok (¬ ((5 : Int32) < 0 ∨ 100000 < (5 : Int32).toNatClampNeg))
  (p_let (sN m62 20 (5 : Int32).toNatClampNeg (5 : Int32).toNatClampNeg) fun m64 =>
  p_ok (mK m64 v0 = 14 ∧ v0 < mN m64)
  (p_let (sR m64 v0 28 (some (mN m62))) fun m66 =>
  p_ok (¬ ((5 : Int32) < 0 ∨ 100000 < (5 : Int32).toNatClampNeg))
  (p_let (sN m66 20 (5 : Int32).toNatClampNeg (5 : Int32).toNatClampNeg) fun m68 =>
  p_ok (mK m68 v0 = 14 ∧ v0 < mN m68)
  (p_let (sR m68 v0 29 (some (mN m66))) fun m70 =>
  p_ok (¬ ((40 : Int32) < 0 ∨ 100000 < (40 : Int32).toNatClampNeg))
  (p_let (sN m70 20 (40 : Int32).toNatClampNeg (40 : Int32).toNatClampNeg) fun m72 =>
  p_ok (mK m72 v0 = 14 ∧ v0 < mN m72)
  (p_let (sR m72 v0 38 (some (mN m70))) fun m74 =>
  p_ok (¬ ((36 : Int32) < 0 ∨ 100000 < (36 : Int32).toNatClampNeg))
  (p_let (sN m74 20 (36 : Int32).toNatClampNeg (36 : Int32).toNatClampNeg) fun m76 =>
  F_X13_init_c159 v0 (mN m74) v0 m76))))))))
theorem E_X13_init_c129 {X : p_X} {d : Nat} {Q : p_R → Prop} {v0 : Nat} {s0 : Nat} {s1 : Nat} {μ : p_M} {r : Int32 × p_M} (h : F_X13_init_c129 v0 s0 s1 μ = some r) (hQ : Q ((0, none), r.2)) : p_Ev X (d + 0) M_X13_init 129 [.ref v0] [.ref s0, .ref s1] μ Q := by
  unfold F_X13_init_c129 at h
  obtain ⟨h61, h⟩ := p_ok_some h
  replace h := p_lt h
  refine e_putR dX13_init_129 rfl ⟨rfl, (by decide +kernel), (fun h => by cases h)⟩ h61 ?_
  refine e_aload_n dX13_init_132 rfl ?_
  refine e_iconst (v := (5 : Int32)) dX13_init_133 rfl ?_
  obtain ⟨h63, h⟩ := p_ok_some h
  replace h := p_lt h
  refine e_newI dX13_init_134 h63 ?_
  obtain ⟨h65, h⟩ := p_ok_some h
  replace h := p_lt h
  refine e_putR dX13_init_136 rfl ⟨rfl, (by decide +kernel), (fun h => by cases h)⟩ h65 ?_
  refine e_aload_n dX13_init_139 rfl ?_
  refine e_iconst (v := (5 : Int32)) dX13_init_140 rfl ?_
  obtain ⟨h67, h⟩ := p_ok_some h
  replace h := p_lt h
  refine e_newI dX13_init_141 h67 ?_
  obtain ⟨h69, h⟩ := p_ok_some h
  replace h := p_lt h
  refine e_putR dX13_init_143 rfl ⟨rfl, (by decide +kernel), (fun h => by cases h)⟩ h69 ?_
  refine e_aload_n dX13_init_146 rfl ?_
  refine e_bipush (v := (40 : Int32)) dX13_init_147 rfl ?_
  obtain ⟨h71, h⟩ := p_ok_some h
  replace h := p_lt h
  refine e_newI dX13_init_149 h71 ?_
  obtain ⟨h73, h⟩ := p_ok_some h
  replace h := p_lt h
  refine e_putR dX13_init_151 rfl ⟨rfl, (by decide +kernel), (fun h => by cases h)⟩ h73 ?_
  refine e_aload_n dX13_init_154 rfl ?_
  refine e_bipush (v := (36 : Int32)) dX13_init_155 rfl ?_
  obtain ⟨h75, h⟩ := p_ok_some h
  replace h := p_lt h
  refine e_newI dX13_init_157 h75 ?_
  exact E_X13_init_c159 h hQ
def F_X13_init_c97 (v0 : Nat) (s0 : Nat) (s1 : Nat) (μ : p_M) : Option (Int32 × p_M) :=
  p_ok (mK μ s1 = 14 ∧ s1 < mN μ)
  (p_let (sR μ s1 17 (some s0)) fun m46 =>
  p_ok (¬ ((36 : Int32) < 0 ∨ 100000 < (36 : Int32).toNatClampNeg))
  (p_let (sN m46 20 (36 : Int32).toNatClampNeg (36 : Int32).toNatClampNeg) fun m48 =>
  p_ok (mK m48 v0 = 14 ∧ v0 < mN m48)
  (p_let (sR m48 v0 23 (some (mN m46))) fun m50 =>
  p_ok (¬ ((9 : Int32) < 0 ∨ 100000 < (9 : Int32).toNatClampNeg))
  (p_let (sN m50 20 (9 : Int32).toNatClampNeg (9 : Int32).toNatClampNeg) fun m52 =>
  p_ok (mK m52 v0 = 14 ∧ v0 < mN m52)
  (p_let (sR m52 v0 24 (some (mN m50))) fun m54 =>
  p_ok (¬ ((4608 : Int32) < 0 ∨ 100000 < (4608 : Int32).toNatClampNeg))
  (p_let (sN m54 20 (4608 : Int32).toNatClampNeg (4608 : Int32).toNatClampNeg) fun m56 =>
  p_ok (mK m56 v0 = 14 ∧ v0 < mN m56)
  (p_let (sR m56 v0 26 (some (mN m54))) fun m58 =>
  p_ok (¬ ((5 : Int32) < 0 ∨ 100000 < (5 : Int32).toNatClampNeg))
  (p_let (sN m58 20 (5 : Int32).toNatClampNeg (5 : Int32).toNatClampNeg) fun m60 =>
  F_X13_init_c129 v0 (mN m58) v0 m60))))))))
theorem E_X13_init_c97 {X : p_X} {d : Nat} {Q : p_R → Prop} {v0 : Nat} {s0 : Nat} {s1 : Nat} {μ : p_M} {r : Int32 × p_M} (h : F_X13_init_c97 v0 s0 s1 μ = some r) (hQ : Q ((0, none), r.2)) : p_Ev X (d + 0) M_X13_init 97 [.ref v0] [.ref s0, .ref s1] μ Q := by
  unfold F_X13_init_c97 at h
  obtain ⟨h45, h⟩ := p_ok_some h
  replace h := p_lt h
  refine e_putR dX13_init_97 rfl ⟨rfl, (by decide +kernel), (fun h => by cases h)⟩ h45 ?_
  refine e_aload_n dX13_init_100 rfl ?_
  refine e_bipush (v := (36 : Int32)) dX13_init_101 rfl ?_
  obtain ⟨h47, h⟩ := p_ok_some h
  replace h := p_lt h
  refine e_newI dX13_init_103 h47 ?_
  obtain ⟨h49, h⟩ := p_ok_some h
  replace h := p_lt h
  refine e_putR dX13_init_105 rfl ⟨rfl, (by decide +kernel), (fun h => by cases h)⟩ h49 ?_
  refine e_aload_n dX13_init_108 rfl ?_
  refine e_bipush (v := (9 : Int32)) dX13_init_109 rfl ?_
  obtain ⟨h51, h⟩ := p_ok_some h
  replace h := p_lt h
  refine e_newI dX13_init_111 h51 ?_
  obtain ⟨h53, h⟩ := p_ok_some h
  replace h := p_lt h
  refine e_putR dX13_init_113 rfl ⟨rfl, (by decide +kernel), (fun h => by cases h)⟩ h53 ?_
  refine e_aload_n dX13_init_116 rfl ?_
  refine e_sipush (v := (4608 : Int32)) dX13_init_117 rfl ?_
  obtain ⟨h55, h⟩ := p_ok_some h
  replace h := p_lt h
  refine e_newI dX13_init_120 h55 ?_
  obtain ⟨h57, h⟩ := p_ok_some h
  replace h := p_lt h
  refine e_putR dX13_init_122 rfl ⟨rfl, (by decide +kernel), (fun h => by cases h)⟩ h57 ?_
  refine e_aload_n dX13_init_125 rfl ?_
  refine e_iconst (v := (5 : Int32)) dX13_init_126 rfl ?_
  obtain ⟨h59, h⟩ := p_ok_some h
  replace h := p_lt h
  refine e_newI dX13_init_127 h59 ?_
  exact E_X13_init_c129 h hQ
def F_X13_init_c64 (v0 : Nat) (s0 : Nat) (s1 : Nat) (μ : p_M) : Option (Int32 × p_M) :=
  p_ok (mK μ s1 = 14 ∧ s1 < mN μ)
  (p_let (sR μ s1 12 (some s0)) fun m30 =>
  p_ok (¬ ((6 : Int32) < 0 ∨ 100000 < (6 : Int32).toNatClampNeg))
  (p_let (sN m30 20 (6 : Int32).toNatClampNeg (6 : Int32).toNatClampNeg) fun m32 =>
  p_ok (mK m32 v0 = 14 ∧ v0 < mN m32)
  (p_let (sR m32 v0 13 (some (mN m30))) fun m34 =>
  p_ok (¬ ((240 : Int32) < 0 ∨ 100000 < (240 : Int32).toNatClampNeg))
  (p_let (sN m34 20 (240 : Int32).toNatClampNeg (240 : Int32).toNatClampNeg) fun m36 =>
  p_ok (mK m36 v0 = 14 ∧ v0 < mN m36)
  (p_let (sR m36 v0 15 (some (mN m34))) fun m38 =>
  p_ok (¬ ((6 : Int32) < 0 ∨ 100000 < (6 : Int32).toNatClampNeg))
  (p_let (sN m38 20 (6 : Int32).toNatClampNeg (6 : Int32).toNatClampNeg) fun m40 =>
  p_ok (mK m40 v0 = 14 ∧ v0 < mN m40)
  (p_let (sR m40 v0 16 (some (mN m38))) fun m42 =>
  p_ok (¬ ((6 : Int32) < 0 ∨ 100000 < (6 : Int32).toNatClampNeg))
  (p_let (sN m42 20 (6 : Int32).toNatClampNeg (6 : Int32).toNatClampNeg) fun m44 =>
  F_X13_init_c97 v0 (mN m42) v0 m44))))))))
theorem E_X13_init_c64 {X : p_X} {d : Nat} {Q : p_R → Prop} {v0 : Nat} {s0 : Nat} {s1 : Nat} {μ : p_M} {r : Int32 × p_M} (h : F_X13_init_c64 v0 s0 s1 μ = some r) (hQ : Q ((0, none), r.2)) : p_Ev X (d + 0) M_X13_init 64 [.ref v0] [.ref s0, .ref s1] μ Q := by
  unfold F_X13_init_c64 at h
  obtain ⟨h29, h⟩ := p_ok_some h
  replace h := p_lt h
  refine e_putR dX13_init_64 rfl ⟨rfl, (by decide +kernel), (fun h => by cases h)⟩ h29 ?_
  refine e_aload_n dX13_init_67 rfl ?_
  refine e_bipush (v := (6 : Int32)) dX13_init_68 rfl ?_
  obtain ⟨h31, h⟩ := p_ok_some h
  replace h := p_lt h
  refine e_newI dX13_init_70 h31 ?_
  obtain ⟨h33, h⟩ := p_ok_some h
  replace h := p_lt h
  refine e_putR dX13_init_72 rfl ⟨rfl, (by decide +kernel), (fun h => by cases h)⟩ h33 ?_
  refine e_aload_n dX13_init_75 rfl ?_
  refine e_sipush (v := (240 : Int32)) dX13_init_76 rfl ?_
  obtain ⟨h35, h⟩ := p_ok_some h
  replace h := p_lt h
  refine e_newI dX13_init_79 h35 ?_
  obtain ⟨h37, h⟩ := p_ok_some h
  replace h := p_lt h
  refine e_putR dX13_init_81 rfl ⟨rfl, (by decide +kernel), (fun h => by cases h)⟩ h37 ?_
  refine e_aload_n dX13_init_84 rfl ?_
  refine e_bipush (v := (6 : Int32)) dX13_init_85 rfl ?_
  obtain ⟨h39, h⟩ := p_ok_some h
  replace h := p_lt h
  refine e_newI dX13_init_87 h39 ?_
  obtain ⟨h41, h⟩ := p_ok_some h
  replace h := p_lt h
  refine e_putR dX13_init_89 rfl ⟨rfl, (by decide +kernel), (fun h => by cases h)⟩ h41 ?_
  refine e_aload_n dX13_init_92 rfl ?_
  refine e_bipush (v := (6 : Int32)) dX13_init_93 rfl ?_
  obtain ⟨h43, h⟩ := p_ok_some h
  replace h := p_lt h
  refine e_newI dX13_init_95 h43 ?_
  exact E_X13_init_c97 h hQ
def F_X13_init_c30 (v0 : Nat) (s0 : Nat) (s1 : Nat) (μ : p_M) : Option (Int32 × p_M) :=
  p_ok (mK μ s1 = 14 ∧ s1 < mN μ)
  (p_let (sR μ s1 8 (some s0)) fun m14 =>
  p_ok (¬ ((840 : Int32) < 0 ∨ 100000 < (840 : Int32).toNatClampNeg))
  (p_let (sN m14 20 (840 : Int32).toNatClampNeg (840 : Int32).toNatClampNeg) fun m16 =>
  p_ok (mK m16 v0 = 14 ∧ v0 < mN m16)
  (p_let (sR m16 v0 9 (some (mN m14))) fun m18 =>
  p_ok (¬ ((840 : Int32) < 0 ∨ 100000 < (840 : Int32).toNatClampNeg))
  (p_let (sN m18 20 (840 : Int32).toNatClampNeg (840 : Int32).toNatClampNeg) fun m20 =>
  p_ok (mK m20 v0 = 14 ∧ v0 < mN m20)
  (p_let (sR m20 v0 10 (some (mN m18))) fun m22 =>
  p_ok (¬ ((6 : Int32) < 0 ∨ 100000 < (6 : Int32).toNatClampNeg))
  (p_let (sN m22 20 (6 : Int32).toNatClampNeg (6 : Int32).toNatClampNeg) fun m24 =>
  p_ok (mK m24 v0 = 14 ∧ v0 < mN m24)
  (p_let (sR m24 v0 11 (some (mN m22))) fun m26 =>
  p_ok (¬ ((6 : Int32) < 0 ∨ 100000 < (6 : Int32).toNatClampNeg))
  (p_let (sN m26 20 (6 : Int32).toNatClampNeg (6 : Int32).toNatClampNeg) fun m28 =>
  F_X13_init_c64 v0 (mN m26) v0 m28))))))))
theorem E_X13_init_c30 {X : p_X} {d : Nat} {Q : p_R → Prop} {v0 : Nat} {s0 : Nat} {s1 : Nat} {μ : p_M} {r : Int32 × p_M} (h : F_X13_init_c30 v0 s0 s1 μ = some r) (hQ : Q ((0, none), r.2)) : p_Ev X (d + 0) M_X13_init 30 [.ref v0] [.ref s0, .ref s1] μ Q := by
  unfold F_X13_init_c30 at h
  obtain ⟨h13, h⟩ := p_ok_some h
  replace h := p_lt h
  refine e_putR dX13_init_30 rfl ⟨rfl, (by decide +kernel), (fun h => by cases h)⟩ h13 ?_
  refine e_aload_n dX13_init_33 rfl ?_
  refine e_sipush (v := (840 : Int32)) dX13_init_34 rfl ?_
  obtain ⟨h15, h⟩ := p_ok_some h
  replace h := p_lt h
  refine e_newI dX13_init_37 h15 ?_
  obtain ⟨h17, h⟩ := p_ok_some h
  replace h := p_lt h
  refine e_putR dX13_init_39 rfl ⟨rfl, (by decide +kernel), (fun h => by cases h)⟩ h17 ?_
  refine e_aload_n dX13_init_42 rfl ?_
  refine e_sipush (v := (840 : Int32)) dX13_init_43 rfl ?_
  obtain ⟨h19, h⟩ := p_ok_some h
  replace h := p_lt h
  refine e_newI dX13_init_46 h19 ?_
  obtain ⟨h21, h⟩ := p_ok_some h
  replace h := p_lt h
  refine e_putR dX13_init_48 rfl ⟨rfl, (by decide +kernel), (fun h => by cases h)⟩ h21 ?_
  refine e_aload_n dX13_init_51 rfl ?_
  refine e_bipush (v := (6 : Int32)) dX13_init_52 rfl ?_
  obtain ⟨h23, h⟩ := p_ok_some h
  replace h := p_lt h
  refine e_newI dX13_init_54 h23 ?_
  obtain ⟨h25, h⟩ := p_ok_some h
  replace h := p_lt h
  refine e_putR dX13_init_56 rfl ⟨rfl, (by decide +kernel), (fun h => by cases h)⟩ h25 ?_
  refine e_aload_n dX13_init_59 rfl ?_
  refine e_bipush (v := (6 : Int32)) dX13_init_60 rfl ?_
  obtain ⟨h27, h⟩ := p_ok_some h
  replace h := p_lt h
  refine e_newI dX13_init_62 h27 ?_
  exact E_X13_init_c64 h hQ
def F_X13_init (v0 : Nat) (μ : p_M) : Option (Int32 × p_M) :=
  p_ok (v0 < mN μ ∧ mK μ v0 < 15)
  (p_ok (¬ ((400 : Int32) < 0 ∨ 100000 < (400 : Int32).toNatClampNeg))
  (p_let (sN μ 21 (400 : Int32).toNatClampNeg (400 : Int32).toNatClampNeg) fun m3 =>
  p_ok (mK m3 v0 = 14 ∧ v0 < mN m3)
  (p_let (sR m3 v0 1 (some (mN μ))) fun m5 =>
  p_let (sI m5 v0 6 (-1)) fun m6 =>
  p_ok (¬ ((5 : Int32) < 0 ∨ 100000 < (5 : Int32).toNatClampNeg))
  (p_let (sN m6 20 (5 : Int32).toNatClampNeg (5 : Int32).toNatClampNeg) fun m8 =>
  p_ok (mK m8 v0 = 14 ∧ v0 < mN m8)
  (p_let (sR m8 v0 7 (some (mN m6))) fun m10 =>
  p_ok (¬ ((42 : Int32) < 0 ∨ 100000 < (42 : Int32).toNatClampNeg))
  (p_let (sN m10 20 (42 : Int32).toNatClampNeg (42 : Int32).toNatClampNeg) fun m12 =>
  F_X13_init_c30 v0 (mN m10) v0 m12))))))
theorem E_X13_init {X : p_X} {d : Nat} {Q : p_R → Prop} {v0 : Nat} {μ : p_M} {r : Int32 × p_M} (h : F_X13_init v0 μ = some r) (hQ : Q ((0, none), r.2)) : p_Ev X (d + 0) M_X13_init 0 [.ref v0] [] μ Q := by
  unfold F_X13_init at h
  refine e_aload_n dX13_init_0 rfl ?_
  obtain ⟨h1, h⟩ := p_ok_some h
  refine e_oinit dX13_init_1 rfl (Nat.le_of_ble_eq_true rfl) h1 ?_
  refine e_aload_n dX13_init_4 rfl ?_
  refine e_sipush (v := (400 : Int32)) dX13_init_5 rfl ?_
  obtain ⟨h2, h⟩ := p_ok_some h
  replace h := p_lt h
  refine e_newB dX13_init_8 h2 ?_
  obtain ⟨h4, h⟩ := p_ok_some h
  replace h := p_lt h
  refine e_putR dX13_init_10 rfl ⟨rfl, (by decide +kernel), (fun h => by cases h)⟩ h4 ?_
  refine e_aload_n dX13_init_13 rfl ?_
  refine e_iconst (v := (-1)) dX13_init_14 rfl ?_
  replace h := p_lt h
  refine e_putI dX13_init_15 rfl ⟨rfl, (by decide +kernel), (fun h => by cases h)⟩ (fun h => by cases h) h4.1 h4.2 ?_
  refine e_aload_n dX13_init_18 rfl ?_
  refine e_iconst (v := (5 : Int32)) dX13_init_19 rfl ?_
  obtain ⟨h7, h⟩ := p_ok_some h
  replace h := p_lt h
  refine e_newI dX13_init_20 h7 ?_
  obtain ⟨h9, h⟩ := p_ok_some h
  replace h := p_lt h
  refine e_putR dX13_init_22 rfl ⟨rfl, (by decide +kernel), (fun h => by cases h)⟩ h9 ?_
  refine e_aload_n dX13_init_25 rfl ?_
  refine e_bipush (v := (42 : Int32)) dX13_init_26 rfl ?_
  obtain ⟨h11, h⟩ := p_ok_some h
  replace h := p_lt h
  refine e_newI dX13_init_28 h11 ?_
  exact E_X13_init_c30 h hQ
