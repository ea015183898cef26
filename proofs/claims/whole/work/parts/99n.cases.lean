/-! the law: each case of its switch -/
theorem lg_eq {x y : Int64} (h : x = y) : lg_cmp x y = 0 := by
  subst h
  unfold lg_cmp
  simp
theorem ShM_back {μ μ' : p_M} (h : Sm μ μ') (hs : ShM μ') : ShM μ := by
  obtain ⟨h1, -⟩ := h
  unfold ShM mK mR mL mN at *
  rw [h1] at hs
  exact hs
/-- places of the script -/
def Ix (X : p_X) (i : Int32) : Prop := (¬ i < 0 ∧ i.toNatClampNeg < (X 0).1) ∧ (¬ i + 1 < 0 ∧ (i + 1).toNatClampNeg < (X 0).1) ∧ (¬ i + 2 < 0 ∧ (i + 2).toNatClampNeg < (X 0).1) ∧ (¬ i + 3 < 0 ∧ (i + 3).toNatClampNeg < (X 0).1) ∧ (¬ i + 4 < 0 ∧ (i + 4).toNatClampNeg < (X 0).1) ∧ (¬ i + 5 < 0 ∧ (i + 5).toNatClampNeg < (X 0).1) ∧ (¬ i + 6 < 0 ∧ (i + 6).toNatClampNeg < (X 0).1) ∧ (¬ i + 7 < 0 ∧ (i + 7).toNatClampNeg < (X 0).1)
/-- locals of the law -/
abbrev lwL (i : Int32) (u w : Value) : List Value := [.ref (p_E + 0), .ref 0, .ref 65, .ref 112, .int i, u, w]
/-- on to the next -/
abbrev lwK (X : p_X) (d : Nat) (Q : p_R → Prop) (i : Int32) (μ : p_M) : Prop := ∀ u w μ', Nx μ μ' → p_Ev X (d + 16) M_L_law 2839 (lwL i u w) [] μ' Q
theorem W_feed {X : p_X} {d : Nat} {Q : p_R → Prop} {μ : p_M} {i : Int32} {u w : Value} (h : Core μ) (hE : mN μ + 8 < p_E) (hX1 : oX1 X) (hX2 : oX2 X) (hx : Ix X i) (K : lwK X d Q i μ) : p_Ev X (d + 16) M_L_law 224 (lwL i u w) [] μ Q := by
  obtain ⟨x0, x1, x2, x3, x4, x5, x6, x7⟩ := hx
  obtain ⟨k, μ1, e1, h1⟩ := wp_get (K_feed h ((X 0).2 (i + 1).toNatClampNeg) ((X 0).2 (i + 2).toNatClampNeg) ((X 0).2 (i + 3).toNatClampNeg) ((X 0).2 (i + 4).toNatClampNeg) ((X 0).2 (i + 5).toNatClampNeg))
  obtain ⟨b, μ2, e2, hq⟩ := wp_get h1
  obtain ⟨p1, hN⟩ := hq
  have s2 := hN.1.1
  have s1 : ShM μ1 := ShM_back (P_X13_feed e2) s2.1
  have s0 := s_o0 h.1
  refine e_aload_n dL_law_224 rfl ?_
  refine e_aload_n dL_law_225 rfl ?_
  refine e_iload dL_law_226 rfl ?_
  refine e_iconst (v := 1) dL_law_228 rfl ?_
  refine e_iadd dL_law_229 ?_
  refine e_ialX (k := 0) dL_law_230 (by decide) x1 ?_
  refine e_aload_n dL_law_231 rfl ?_
  refine e_iload dL_law_232 rfl ?_
  refine e_iconst (v := 2) dL_law_234 rfl ?_
  refine e_iadd dL_law_235 ?_
  refine e_ialX (k := 0) dL_law_236 (by decide) x2 ?_
  refine e_aload_n dL_law_237 rfl ?_
  refine e_iload dL_law_238 rfl ?_
  refine e_iconst (v := 3) dL_law_240 rfl ?_
  refine e_iadd dL_law_241 ?_
  refine e_ialX (k := 0) dL_law_242 (by decide) x3 ?_
  refine e_aload_n dL_law_243 rfl ?_
  refine e_iload dL_law_244 rfl ?_
  refine e_iconst (v := 4) dL_law_246 rfl ?_
  refine e_iadd dL_law_247 ?_
  refine e_ialX (k := 0) dL_law_248 (by decide) x4 ?_
  refine e_aload_n dL_law_249 rfl ?_
  refine e_iload dL_law_250 rfl ?_
  refine e_iconst (v := 5) dL_law_252 rfl ?_
  refine e_iadd dL_law_253 ?_
  refine e_ialX (k := 0) dL_law_254 (by decide) x5 ?_
  refine f_cVi dL_law_255 rfl rfl ⟨rfl, rfl, by decide⟩ rfl s0 (fun Q' hQ' => E_X12_feed e1 hQ') ?_
  refine e_aload_n dL_law_258 rfl ?_
  refine e_aload_n dL_law_259 rfl ?_
  refine e_iload dL_law_260 rfl ?_
  refine e_iconst (v := 1) dL_law_262 rfl ?_
  refine e_iadd dL_law_263 ?_
  refine e_ialX (k := 0) dL_law_264 (by decide) x1 ?_
  refine e_aload_n dL_law_265 rfl ?_
  refine e_iload dL_law_266 rfl ?_
  refine e_iconst (v := 2) dL_law_268 rfl ?_
  refine e_iadd dL_law_269 ?_
  refine e_ialX (k := 0) dL_law_270 (by decide) x2 ?_
  refine e_aload_n dL_law_271 rfl ?_
  refine e_iload dL_law_272 rfl ?_
  refine e_iconst (v := 3) dL_law_274 rfl ?_
  refine e_iadd dL_law_275 ?_
  refine e_ialX (k := 0) dL_law_276 (by decide) x3 ?_
  refine e_aload_n dL_law_277 rfl ?_
  refine e_iload dL_law_278 rfl ?_
  refine e_iconst (v := 4) dL_law_280 rfl ?_
  refine e_iadd dL_law_281 ?_
  refine e_ialX (k := 0) dL_law_282 (by decide) x4 ?_
  refine e_aload_n dL_law_283 rfl ?_
  refine e_iload dL_law_284 rfl ?_
  refine e_iconst (v := 5) dL_law_286 rfl ?_
  refine e_iadd dL_law_287 ?_
  refine e_ialX (k := 0) dL_law_288 (by decide) x5 ?_
  refine f_cVi dL_law_289 rfl rfl ⟨rfl, rfl, by decide⟩ rfl ⟨s1.1, s1.2.1⟩ (fun Q' hQ' => E_X13_feed s1 e2 hQ') ?_
  refine e_ic_eq dL_law_292 2839 ⟨by decide, by decide⟩ (fun _ => ?_) (fun hn => absurd p1 hn)
  exact K _ _ _ hN
theorem W_end {X : p_X} {d : Nat} {Q : p_R → Prop} {μ : p_M} {i : Int32} {u w : Value} (h : Core μ) (hE : mN μ + 8 < p_E) (hX1 : oX1 X) (hX2 : oX2 X) (hx : Ix X i) (K : lwK X d Q i μ) : p_Ev X (d + 16) M_L_law 297 (lwL i u w) [] μ Q := by
  obtain ⟨x0, x1, x2, x3, x4, x5, x6, x7⟩ := hx
  obtain ⟨k, μ1, e1, h1⟩ := wp_get (K_end h ((X 0).2 (i + 1).toNatClampNeg))
  obtain ⟨b, μ2, e2, hq⟩ := wp_get h1
  obtain ⟨p1, hN⟩ := hq
  have s2 := hN.1.1
  have s1 : ShM μ1 := ShM_back (P_X13_end e2) s2.1
  have s0 := s_o0 h.1
  refine e_aload_n dL_law_297 rfl ?_
  refine e_aload_n dL_law_298 rfl ?_
  refine e_iload dL_law_299 rfl ?_
  refine e_iconst (v := 1) dL_law_301 rfl ?_
  refine e_iadd dL_law_302 ?_
  refine e_ialX (k := 0) dL_law_303 (by decide) x1 ?_
  refine f_cVi dL_law_304 rfl rfl ⟨rfl, rfl, by decide⟩ rfl s0 (fun Q' hQ' => E_X12_end e1 hQ') ?_
  refine e_aload_n dL_law_307 rfl ?_
  refine e_aload_n dL_law_308 rfl ?_
  refine e_iload dL_law_309 rfl ?_
  refine e_iconst (v := 1) dL_law_311 rfl ?_
  refine e_iadd dL_law_312 ?_
  refine e_ialX (k := 0) dL_law_313 (by decide) x1 ?_
  refine f_cVi dL_law_314 rfl rfl ⟨rfl, rfl, by decide⟩ rfl ⟨s1.1, s1.2.1⟩ (fun Q' hQ' => E_X13_end s1 e2 hQ') ?_
  refine e_ic_eq dL_law_317 2839 ⟨by decide, by decide⟩ (fun _ => ?_) (fun hn => absurd p1 hn)
  exact K _ _ _ hN
theorem W_cloth {X : p_X} {d : Nat} {Q : p_R → Prop} {μ : p_M} {i : Int32} {u w : Value} (h : Core μ) (hE : mN μ + 8 < p_E) (hX1 : oX1 X) (hX2 : oX2 X) (hx : Ix X i) (K : lwK X d Q i μ) : p_Ev X (d + 16) M_L_law 322 (lwL i u w) [] μ Q := by
  obtain ⟨x0, x1, x2, x3, x4, x5, x6, x7⟩ := hx
  obtain ⟨k, μ1, e1, h1⟩ := wp_get (K_cloth h ((X 0).2 (i + 1).toNatClampNeg) ((X 0).2 (i + 2).toNatClampNeg) ((X 0).2 (i + 3).toNatClampNeg))
  obtain ⟨b, μ2, e2, hq⟩ := wp_get h1
  obtain ⟨p1, p2, hN⟩ := hq
  have s2 := hN.1.1
  have s1 : ShM μ1 := ShM_back (P_X13_cloth e2) s2.1
  have s0 := s_o0 h.1
  refine e_aload_n dL_law_322 rfl ?_
  refine e_aload_n dL_law_323 rfl ?_
  refine e_iload dL_law_324 rfl ?_
  refine e_iconst (v := 1) dL_law_326 rfl ?_
  refine e_iadd dL_law_327 ?_
  refine e_ialX (k := 0) dL_law_328 (by decide) x1 ?_
  refine e_aload_n dL_law_329 rfl ?_
  refine e_iload dL_law_330 rfl ?_
  refine e_iconst (v := 2) dL_law_332 rfl ?_
  refine e_iadd dL_law_333 ?_
  refine e_ialX (k := 0) dL_law_334 (by decide) x2 ?_
  refine e_aload_n dL_law_335 rfl ?_
  refine e_iload dL_law_336 rfl ?_
  refine e_iconst (v := 3) dL_law_338 rfl ?_
  refine e_iadd dL_law_339 ?_
  refine e_ialX (k := 0) dL_law_340 (by decide) x3 ?_
  refine e_aload_n dL_law_341 rfl ?_
  refine f_cSi dL_law_342 rfl rfl rfl rfl (fun Q' hQ' => E_L_cloth e1 hQ') ?_
  refine e_istore dL_law_345 (Nat.le_of_ble_eq_true rfl) rfl ?_
  refine e_aload_n dL_law_347 rfl ?_
  refine e_aload_n dL_law_348 rfl ?_
  refine e_iload dL_law_349 rfl ?_
  refine e_iconst (v := 1) dL_law_351 rfl ?_
  refine e_iadd dL_law_352 ?_
  refine e_ialX (k := 0) dL_law_353 (by decide) x1 ?_
  refine e_aload_n dL_law_354 rfl ?_
  refine e_iload dL_law_355 rfl ?_
  refine e_iconst (v := 2) dL_law_357 rfl ?_
  refine e_iadd dL_law_358 ?_
  refine e_ialX (k := 0) dL_law_359 (by decide) x2 ?_
  refine e_aload_n dL_law_360 rfl ?_
  refine e_iload dL_law_361 rfl ?_
  refine e_iconst (v := 3) dL_law_363 rfl ?_
  refine e_iadd dL_law_364 ?_
  refine e_ialX (k := 0) dL_law_365 (by decide) x3 ?_
  refine f_cVi dL_law_366 rfl rfl ⟨rfl, rfl, by decide⟩ rfl ⟨s1.1, s1.2.1⟩ (fun Q' hQ' => E_X13_cloth s1 e2 hQ') ?_
  refine e_istore dL_law_369 (Nat.le_of_ble_eq_true rfl) rfl ?_
  refine e_aload_n dL_law_371 rfl ?_
  refine f_cVi (x := mI μ2 65 0) (μ1 := μ2) dL_law_372 rfl rfl ⟨rfl, rfl, by decide⟩ rfl ⟨s2.1.1, s2.1.2.1⟩ (fun Q' hQ' => E_X13_thrown s2.1 rfl hQ') ?_
  refine e_iload dL_law_375 rfl ?_
  refine e_ic_eq dL_law_377 382 ⟨by decide, by decide⟩ (fun _ => ?_) (fun hn => absurd p1 hn)
  refine e_iload dL_law_382 rfl ?_
  refine e_if_ne dL_law_384 399 ⟨by decide, by decide⟩ (fun _ => ?_) (fun c => ?_)
  · refine e_goto dL_law_399 2839 ⟨by decide, by decide⟩ ?_
    exact K _ _ _ hN
  have p3 := p2 (Classical.not_not.mp c)
  refine e_aload_n dL_law_387 rfl ?_
  refine e_iconst (v := 0) dL_law_388 rfl ?_
  refine e_laG dL_law_389 (s_o112 s2) ?_
  refine e_iload dL_law_390 rfl ?_
  refine e_i2l dL_law_392 ?_
  refine e_lcmp dL_law_393 ?_
  refine e_if_eq dL_law_394 399 ⟨by decide, by decide⟩ (fun _ => ?_) (fun hn => absurd (lg_eq p3) hn)
  refine e_goto dL_law_399 2839 ⟨by decide, by decide⟩ ?_
  exact K _ _ _ hN
theorem W_recipe {X : p_X} {d : Nat} {Q : p_R → Prop} {μ : p_M} {i : Int32} {u w : Value} (h : Core μ) (hE : mN μ + 8 < p_E) (hX1 : oX1 X) (hX2 : oX2 X) (hx : Ix X i) (K : lwK X d Q i μ) : p_Ev X (d + 16) M_L_law 402 (lwL i u w) [] μ Q := by
  obtain ⟨x0, x1, x2, x3, x4, x5, x6, x7⟩ := hx
  obtain ⟨k, μ1, e1, h1⟩ := wp_get (K_recipe h)
  obtain ⟨b, μ2, e2, hq⟩ := wp_get h1
  obtain ⟨p1, p2, hN⟩ := hq
  have s2 := hN.1.1
  have s1 : ShM μ1 := ShM_back (P_X13_recipe e2) s2.1
  have s0 := s_o0 h.1
  refine e_aload_n dL_law_402 rfl ?_
  refine e_aload_n dL_law_403 rfl ?_
  refine f_cSi dL_law_404 rfl rfl rfl rfl (fun Q' hQ' => E_L_recipe e1 hQ') ?_
  refine e_istore dL_law_407 (Nat.le_of_ble_eq_true rfl) rfl ?_
  refine e_aload_n dL_law_409 rfl ?_
  refine f_cVi dL_law_410 rfl rfl ⟨rfl, rfl, by decide⟩ rfl ⟨s1.1, s1.2.1⟩ (fun Q' hQ' => E_X13_recipe s1 e2 hQ') ?_
  refine e_istore dL_law_413 (Nat.le_of_ble_eq_true rfl) rfl ?_
  refine e_aload_n dL_law_415 rfl ?_
  refine f_cVi (x := mI μ2 65 0) (μ1 := μ2) dL_law_416 rfl rfl ⟨rfl, rfl, by decide⟩ rfl ⟨s2.1.1, s2.1.2.1⟩ (fun Q' hQ' => E_X13_thrown s2.1 rfl hQ') ?_
  refine e_iload dL_law_419 rfl ?_
  refine e_ic_eq dL_law_421 426 ⟨by decide, by decide⟩ (fun _ => ?_) (fun hn => absurd p1 hn)
  refine e_iload dL_law_426 rfl ?_
  refine e_if_ne dL_law_428 443 ⟨by decide, by decide⟩ (fun _ => ?_) (fun c => ?_)
  · refine e_goto dL_law_443 2839 ⟨by decide, by decide⟩ ?_
    exact K _ _ _ hN
  have p3 := p2 (Classical.not_not.mp c)
  refine e_aload_n dL_law_431 rfl ?_
  refine e_iconst (v := 0) dL_law_432 rfl ?_
  refine e_laG dL_law_433 (s_o112 s2) ?_
  refine e_iload dL_law_434 rfl ?_
  refine e_i2l dL_law_436 ?_
  refine e_lcmp dL_law_437 ?_
  refine e_if_eq dL_law_438 443 ⟨by decide, by decide⟩ (fun _ => ?_) (fun hn => absurd (lg_eq p3) hn)
  refine e_goto dL_law_443 2839 ⟨by decide, by decide⟩ ?_
  exact K _ _ _ hN
theorem W_fault {X : p_X} {d : Nat} {Q : p_R → Prop} {μ : p_M} {i : Int32} {u w : Value} (h : Core μ) (hE : mN μ + 8 < p_E) (hX1 : oX1 X) (hX2 : oX2 X) (hx : Ix X i) (K : lwK X d Q i μ) : p_Ev X (d + 16) M_L_law 446 (lwL i u w) [] μ Q := by
  obtain ⟨x0, x1, x2, x3, x4, x5, x6, x7⟩ := hx
  obtain ⟨k, μ1, e1, h1⟩ := wp_get (K_fault h)
  obtain ⟨b, μ2, e2, hq⟩ := wp_get h1
  obtain ⟨p1, hN⟩ := hq
  have s2 := hN.1.1
  have s1 : ShM μ1 := ShM_back (P_X13_fault e2) s2.1
  have s0 := s_o0 h.1
  refine e_aload_n dL_law_446 rfl ?_
  refine f_cVi dL_law_447 rfl rfl ⟨rfl, rfl, by decide⟩ rfl s0 (fun Q' hQ' => E_X12_fault e1 hQ') ?_
  refine e_aload_n dL_law_450 rfl ?_
  refine f_cVi dL_law_451 rfl rfl ⟨rfl, rfl, by decide⟩ rfl ⟨s1.1, s1.2.1⟩ (fun Q' hQ' => E_X13_fault s1 e2 hQ') ?_
  refine e_ic_eq dL_law_454 2839 ⟨by decide, by decide⟩ (fun _ => ?_) (fun hn => absurd p1 hn)
  exact K _ _ _ hN
theorem W_look {X : p_X} {d : Nat} {Q : p_R → Prop} {μ : p_M} {i : Int32} {u w : Value} (h : Core μ) (hE : mN μ + 8 < p_E) (hX1 : oX1 X) (hX2 : oX2 X) (hx : Ix X i) (K : lwK X d Q i μ) : p_Ev X (d + 16) M_L_law 459 (lwL i u w) [] μ Q := by
  obtain ⟨x0, x1, x2, x3, x4, x5, x6, x7⟩ := hx
  obtain ⟨k, μ1, e1, h1⟩ := wp_get (K_look h ((X 0).2 (i + 1).toNatClampNeg) ((X 0).2 (i + 2).toNatClampNeg) ((X 0).2 (i + 3).toNatClampNeg))
  obtain ⟨b, μ2, e2, hq⟩ := wp_get h1
  obtain ⟨p1, p2, hN⟩ := hq
  have s2 := hN.1.1
  have s1 : ShM μ1 := ShM_back (P_X13_look e2) s2.1
  have s0 := s_o0 h.1
  refine e_aload_n dL_law_459 rfl ?_
  refine e_aload_n dL_law_460 rfl ?_
  refine e_iload dL_law_461 rfl ?_
  refine e_iconst (v := 1) dL_law_463 rfl ?_
  refine e_iadd dL_law_464 ?_
  refine e_ialX (k := 0) dL_law_465 (by decide) x1 ?_
  refine e_aload_n dL_law_466 rfl ?_
  refine e_iload dL_law_467 rfl ?_
  refine e_iconst (v := 2) dL_law_469 rfl ?_
  refine e_iadd dL_law_470 ?_
  refine e_ialX (k := 0) dL_law_471 (by decide) x2 ?_
  refine e_aload_n dL_law_472 rfl ?_
  refine e_iload dL_law_473 rfl ?_
  refine e_iconst (v := 3) dL_law_475 rfl ?_
  refine e_iadd dL_law_476 ?_
  refine e_ialX (k := 0) dL_law_477 (by decide) x3 ?_
  refine e_aload_n dL_law_478 rfl ?_
  refine f_cSi dL_law_479 rfl rfl rfl rfl (fun Q' hQ' => E_L_look e1 hQ') ?_
  refine e_istore dL_law_482 (Nat.le_of_ble_eq_true rfl) rfl ?_
  refine e_aload_n dL_law_484 rfl ?_
  refine e_aload_n dL_law_485 rfl ?_
  refine e_iload dL_law_486 rfl ?_
  refine e_iconst (v := 1) dL_law_488 rfl ?_
  refine e_iadd dL_law_489 ?_
  refine e_ialX (k := 0) dL_law_490 (by decide) x1 ?_
  refine e_aload_n dL_law_491 rfl ?_
  refine e_iload dL_law_492 rfl ?_
  refine e_iconst (v := 2) dL_law_494 rfl ?_
  refine e_iadd dL_law_495 ?_
  refine e_ialX (k := 0) dL_law_496 (by decide) x2 ?_
  refine e_aload_n dL_law_497 rfl ?_
  refine e_iload dL_law_498 rfl ?_
  refine e_iconst (v := 3) dL_law_500 rfl ?_
  refine e_iadd dL_law_501 ?_
  refine e_ialX (k := 0) dL_law_502 (by decide) x3 ?_
  refine f_cVi dL_law_503 rfl rfl ⟨rfl, rfl, by decide⟩ rfl ⟨s1.1, s1.2.1⟩ (fun Q' hQ' => E_X13_look s1 e2 hQ') ?_
  refine e_istore dL_law_506 (Nat.le_of_ble_eq_true rfl) rfl ?_
  refine e_aload_n dL_law_508 rfl ?_
  refine f_cVi (x := mI μ2 65 0) (μ1 := μ2) dL_law_509 rfl rfl ⟨rfl, rfl, by decide⟩ rfl ⟨s2.1.1, s2.1.2.1⟩ (fun Q' hQ' => E_X13_thrown s2.1 rfl hQ') ?_
  refine e_iload dL_law_512 rfl ?_
  refine e_ic_eq dL_law_514 519 ⟨by decide, by decide⟩ (fun _ => ?_) (fun hn => absurd p1 hn)
  refine e_iload dL_law_519 rfl ?_
  refine e_if_ne dL_law_521 536 ⟨by decide, by decide⟩ (fun _ => ?_) (fun c => ?_)
  · refine e_goto dL_law_536 2839 ⟨by decide, by decide⟩ ?_
    exact K _ _ _ hN
  have p3 := p2 (Classical.not_not.mp c)
  refine e_aload_n dL_law_524 rfl ?_
  refine e_iconst (v := 0) dL_law_525 rfl ?_
  refine e_laG dL_law_526 (s_o112 s2) ?_
  refine e_iload dL_law_527 rfl ?_
  refine e_i2l dL_law_529 ?_
  refine e_lcmp dL_law_530 ?_
  refine e_if_eq dL_law_531 536 ⟨by decide, by decide⟩ (fun _ => ?_) (fun hn => absurd (lg_eq p3) hn)
  refine e_goto dL_law_536 2839 ⟨by decide, by decide⟩ ?_
  exact K _ _ _ hN
theorem W_cost {X : p_X} {d : Nat} {Q : p_R → Prop} {μ : p_M} {i : Int32} {u w : Value} (h : Core μ) (hE : mN μ + 8 < p_E) (hX1 : oX1 X) (hX2 : oX2 X) (hx : Ix X i) (K : lwK X d Q i μ) : p_Ev X (d + 16) M_L_law 539 (lwL i u w) [] μ Q := by
  obtain ⟨x0, x1, x2, x3, x4, x5, x6, x7⟩ := hx
  obtain ⟨k, μ1, e1, h1⟩ := wp_get (K_cost h)
  obtain ⟨b, μ2, e2, hq⟩ := wp_get h1
  obtain ⟨p1, hN⟩ := hq
  have s2 := hN.1.1
  have s1 : ShM μ1 := ShM_back (P_X13_cost e2) s2.1
  have s0 := s_o0 h.1
  refine e_aload_n dL_law_539 rfl ?_
  refine f_cVi dL_law_540 rfl rfl ⟨rfl, rfl, by decide⟩ rfl s0 (fun Q' hQ' => E_X12_cost e1 hQ') ?_
  refine e_aload_n dL_law_543 rfl ?_
  refine f_cVi dL_law_544 rfl rfl ⟨rfl, rfl, by decide⟩ rfl ⟨s1.1, s1.2.1⟩ (fun Q' hQ' => E_X13_cost s1 e2 hQ') ?_
  refine e_ic_eq dL_law_547 2839 ⟨by decide, by decide⟩ (fun _ => ?_) (fun hn => absurd p1 hn)
  exact K _ _ _ hN
theorem W_meets {X : p_X} {d : Nat} {Q : p_R → Prop} {μ : p_M} {i : Int32} {u w : Value} (h : Core μ) (hE : mN μ + 8 < p_E) (hX1 : oX1 X) (hX2 : oX2 X) (hx : Ix X i) (K : lwK X d Q i μ) : p_Ev X (d + 16) M_L_law 552 (lwL i u w) [] μ Q := by
  obtain ⟨x0, x1, x2, x3, x4, x5, x6, x7⟩ := hx
  obtain ⟨k, μ1, e1, h1⟩ := wp_get (K_meets h ((X 0).2 (i + 1).toNatClampNeg) ((X 0).2 (i + 2).toNatClampNeg) ((X 0).2 (i + 3).toNatClampNeg) ((X 0).2 (i + 4).toNatClampNeg))
  obtain ⟨b, μ2, e2, hq⟩ := wp_get h1
  obtain ⟨p1, p2, hN⟩ := hq
  have s2 := hN.1.1
  have s1 : ShM μ1 := ShM_back (P_X13_meets e2) s2.1
  have s0 := s_o0 h.1
  refine e_aload_n dL_law_552 rfl ?_
  refine e_aload_n dL_law_553 rfl ?_
  refine e_iload dL_law_554 rfl ?_
  refine e_iconst (v := 1) dL_law_556 rfl ?_
  refine e_iadd dL_law_557 ?_
  refine e_ialX (k := 0) dL_law_558 (by decide) x1 ?_
  refine e_aload_n dL_law_559 rfl ?_
  refine e_iload dL_law_560 rfl ?_
  refine e_iconst (v := 2) dL_law_562 rfl ?_
  refine e_iadd dL_law_563 ?_
  refine e_ialX (k := 0) dL_law_564 (by decide) x2 ?_
  refine e_aload_n dL_law_565 rfl ?_
  refine e_iload dL_law_566 rfl ?_
  refine e_iconst (v := 3) dL_law_568 rfl ?_
  refine e_iadd dL_law_569 ?_
  refine e_ialX (k := 0) dL_law_570 (by decide) x3 ?_
  refine e_aload_n dL_law_571 rfl ?_
  refine e_iload dL_law_572 rfl ?_
  refine e_iconst (v := 4) dL_law_574 rfl ?_
  refine e_iadd dL_law_575 ?_
  refine e_ialX (k := 0) dL_law_576 (by decide) x4 ?_
  refine e_aload_n dL_law_577 rfl ?_
  refine f_cSi dL_law_578 rfl rfl rfl rfl (fun Q' hQ' => E_L_meets e1 hQ') ?_
  refine e_istore dL_law_581 (Nat.le_of_ble_eq_true rfl) rfl ?_
  refine e_aload_n dL_law_583 rfl ?_
  refine e_aload_n dL_law_584 rfl ?_
  refine e_iload dL_law_585 rfl ?_
  refine e_iconst (v := 1) dL_law_587 rfl ?_
  refine e_iadd dL_law_588 ?_
  refine e_ialX (k := 0) dL_law_589 (by decide) x1 ?_
  refine e_aload_n dL_law_590 rfl ?_
  refine e_iload dL_law_591 rfl ?_
  refine e_iconst (v := 2) dL_law_593 rfl ?_
  refine e_iadd dL_law_594 ?_
  refine e_ialX (k := 0) dL_law_595 (by decide) x2 ?_
  refine e_aload_n dL_law_596 rfl ?_
  refine e_iload dL_law_597 rfl ?_
  refine e_iconst (v := 3) dL_law_599 rfl ?_
  refine e_iadd dL_law_600 ?_
  refine e_ialX (k := 0) dL_law_601 (by decide) x3 ?_
  refine e_aload_n dL_law_602 rfl ?_
  refine e_iload dL_law_603 rfl ?_
  refine e_iconst (v := 4) dL_law_605 rfl ?_
  refine e_iadd dL_law_606 ?_
  refine e_ialX (k := 0) dL_law_607 (by decide) x4 ?_
  refine f_cVi dL_law_608 rfl rfl ⟨rfl, rfl, by decide⟩ rfl ⟨s1.1, s1.2.1⟩ (fun Q' hQ' => E_X13_meets s1 e2 hQ') ?_
  refine e_istore dL_law_611 (Nat.le_of_ble_eq_true rfl) rfl ?_
  refine e_aload_n dL_law_613 rfl ?_
  refine f_cVi (x := mI μ2 65 0) (μ1 := μ2) dL_law_614 rfl rfl ⟨rfl, rfl, by decide⟩ rfl ⟨s2.1.1, s2.1.2.1⟩ (fun Q' hQ' => E_X13_thrown s2.1 rfl hQ') ?_
  refine e_iload dL_law_617 rfl ?_
  refine e_ic_eq dL_law_619 624 ⟨by decide, by decide⟩ (fun _ => ?_) (fun hn => absurd p1 hn)
  refine e_iload dL_law_624 rfl ?_
  refine e_if_ne dL_law_626 648 ⟨by decide, by decide⟩ (fun _ => ?_) (fun c => ?_)
  · refine e_goto dL_law_648 2839 ⟨by decide, by decide⟩ ?_
    exact K _ _ _ hN
  have p3 := p2 (Classical.not_not.mp c)
  refine e_aload_n dL_law_629 rfl ?_
  refine e_iconst (v := 0) dL_law_630 rfl ?_
  refine e_laG dL_law_631 (s_o112 s2) ?_
  refine e_iload dL_law_632 rfl ?_
  refine e_if_eq dL_law_634 641 ⟨by decide, by decide⟩ (fun hb => ?_) (fun hb => ?_)
  · have p4 := p3.trans (if_pos hb)
    refine e_lconst (v := 0) dL_law_641 rfl ?_
    refine e_lcmp dL_law_642 ?_
    refine e_if_eq dL_law_643 648 ⟨by decide, by decide⟩ (fun _ => ?_) (fun hn => absurd (lg_eq p4) hn)
    refine e_goto dL_law_648 2839 ⟨by decide, by decide⟩ ?_
    exact K _ _ _ hN
  · have p4 := p3.trans (if_neg hb)
    refine e_lconst (v := 1) dL_law_637 rfl ?_
    refine e_goto dL_law_638 642 ⟨by decide, by decide⟩ ?_
    refine e_lcmp dL_law_642 ?_
    refine e_if_eq dL_law_643 648 ⟨by decide, by decide⟩ (fun _ => ?_) (fun hn => absurd (lg_eq p4) hn)
    refine e_goto dL_law_648 2839 ⟨by decide, by decide⟩ ?_
    exact K _ _ _ hN
theorem W_cheapest {X : p_X} {d : Nat} {Q : p_R → Prop} {μ : p_M} {i : Int32} {u w : Value} (h : Core μ) (hE : mN μ + 8 < p_E) (hX1 : oX1 X) (hX2 : oX2 X) (hx : Ix X i) (K : lwK X d Q i μ) : p_Ev X (d + 16) M_L_law 651 (lwL i u w) [] μ Q := by
  obtain ⟨x0, x1, x2, x3, x4, x5, x6, x7⟩ := hx
  obtain ⟨k, μ1, e1, h1⟩ := wp_get (K_cheapest hX2 h ((X 0).2 (i + 1).toNatClampNeg) ((X 0).2 (i + 2).toNatClampNeg) ((X 0).2 (i + 3).toNatClampNeg) ((X 0).2 (i + 4).toNatClampNeg) ((X 0).2 (i + 5).toNatClampNeg))
  obtain ⟨b, μ2, e2, hq⟩ := wp_get h1
  obtain ⟨p1, p2, hN⟩ := hq
  have s2 := hN.1.1
  have s1 : ShM μ1 := ShM_back (P_X13_cheapest e2) s2.1
  have s0 := s_o0 h.1
  refine e_aload_n dL_law_651 rfl ?_
  refine e_aload_n dL_law_652 rfl ?_
  refine e_iload dL_law_653 rfl ?_
  refine e_iconst (v := 1) dL_law_655 rfl ?_
  refine e_iadd dL_law_656 ?_
  refine e_ialX (k := 0) dL_law_657 (by decide) x1 ?_
  refine e_aload_n dL_law_658 rfl ?_
  refine e_iload dL_law_659 rfl ?_
  refine e_iconst (v := 2) dL_law_661 rfl ?_
  refine e_iadd dL_law_662 ?_
  refine e_ialX (k := 0) dL_law_663 (by decide) x2 ?_
  refine e_aload_n dL_law_664 rfl ?_
  refine e_iload dL_law_665 rfl ?_
  refine e_iconst (v := 3) dL_law_667 rfl ?_
  refine e_iadd dL_law_668 ?_
  refine e_ialX (k := 0) dL_law_669 (by decide) x3 ?_
  refine e_aload_n dL_law_670 rfl ?_
  refine e_iload dL_law_671 rfl ?_
  refine e_iconst (v := 4) dL_law_673 rfl ?_
  refine e_iadd dL_law_674 ?_
  refine e_ialX (k := 0) dL_law_675 (by decide) x4 ?_
  refine e_aload_n dL_law_676 rfl ?_
  refine e_iload dL_law_677 rfl ?_
  refine e_iconst (v := 5) dL_law_679 rfl ?_
  refine e_iadd dL_law_680 ?_
  refine e_ialX (k := 0) dL_law_681 (by decide) x5 ?_
  refine e_aload_n dL_law_682 rfl ?_
  refine f_cSi dL_law_683 rfl rfl rfl rfl (fun Q' hQ' => E_L_cheapest e1 hQ') ?_
  refine e_istore dL_law_686 (Nat.le_of_ble_eq_true rfl) rfl ?_
  refine e_aload_n dL_law_688 rfl ?_
  refine e_aload_n dL_law_689 rfl ?_
  refine e_iload dL_law_690 rfl ?_
  refine e_iconst (v := 1) dL_law_692 rfl ?_
  refine e_iadd dL_law_693 ?_
  refine e_ialX (k := 0) dL_law_694 (by decide) x1 ?_
  refine e_aload_n dL_law_695 rfl ?_
  refine e_iload dL_law_696 rfl ?_
  refine e_iconst (v := 2) dL_law_698 rfl ?_
  refine e_iadd dL_law_699 ?_
  refine e_ialX (k := 0) dL_law_700 (by decide) x2 ?_
  refine e_aload_n dL_law_701 rfl ?_
  refine e_iload dL_law_702 rfl ?_
  refine e_iconst (v := 3) dL_law_704 rfl ?_
  refine e_iadd dL_law_705 ?_
  refine e_ialX (k := 0) dL_law_706 (by decide) x3 ?_
  refine e_aload_n dL_law_707 rfl ?_
  refine e_iload dL_law_708 rfl ?_
  refine e_iconst (v := 4) dL_law_710 rfl ?_
  refine e_iadd dL_law_711 ?_
  refine e_ialX (k := 0) dL_law_712 (by decide) x4 ?_
  refine e_aload_n dL_law_713 rfl ?_
  refine e_iload dL_law_714 rfl ?_
  refine e_iconst (v := 5) dL_law_716 rfl ?_
  refine e_iadd dL_law_717 ?_
  refine e_ialX (k := 0) dL_law_718 (by decide) x5 ?_
  refine f_cVi dL_law_719 rfl rfl ⟨rfl, rfl, by decide⟩ rfl ⟨s1.1, s1.2.1⟩ (fun Q' hQ' => E_X13_cheapest s1 e2 hQ') ?_
  refine e_istore dL_law_722 (Nat.le_of_ble_eq_true rfl) rfl ?_
  refine e_aload_n dL_law_724 rfl ?_
  refine f_cVi (x := mI μ2 65 0) (μ1 := μ2) dL_law_725 rfl rfl ⟨rfl, rfl, by decide⟩ rfl ⟨s2.1.1, s2.1.2.1⟩ (fun Q' hQ' => E_X13_thrown s2.1 rfl hQ') ?_
  refine e_iload dL_law_728 rfl ?_
  refine e_ic_eq dL_law_730 735 ⟨by decide, by decide⟩ (fun _ => ?_) (fun hn => absurd p1 hn)
  refine e_iload dL_law_735 rfl ?_
  refine e_if_ne dL_law_737 752 ⟨by decide, by decide⟩ (fun _ => ?_) (fun c => ?_)
  · refine e_goto dL_law_752 2839 ⟨by decide, by decide⟩ ?_
    exact K _ _ _ hN
  have p3 := p2 (Classical.not_not.mp c)
  refine e_aload_n dL_law_740 rfl ?_
  refine e_iconst (v := 0) dL_law_741 rfl ?_
  refine e_laG dL_law_742 (s_o112 s2) ?_
  refine e_iload dL_law_743 rfl ?_
  refine e_i2l dL_law_745 ?_
  refine e_lcmp dL_law_746 ?_
  refine e_if_eq dL_law_747 752 ⟨by decide, by decide⟩ (fun _ => ?_) (fun hn => absurd (lg_eq p3) hn)
  refine e_goto dL_law_752 2839 ⟨by decide, by decide⟩ ?_
  exact K _ _ _ hN
theorem W_bath {X : p_X} {d : Nat} {Q : p_R → Prop} {μ : p_M} {i : Int32} {u w : Value} (h : Core μ) (hE : mN μ + 8 < p_E) (hX1 : oX1 X) (hX2 : oX2 X) (hx : Ix X i) (K : lwK X d Q i μ) : p_Ev X (d + 16) M_L_law 755 (lwL i u w) [] μ Q := by
  obtain ⟨x0, x1, x2, x3, x4, x5, x6, x7⟩ := hx
  obtain ⟨k, μ1, e1, h1⟩ := wp_get (K_bath hX2 h ((X 0).2 (i + 1).toNatClampNeg) ((X 0).2 (i + 2).toNatClampNeg) ((X 0).2 (i + 3).toNatClampNeg) ((X 0).2 (i + 4).toNatClampNeg) ((X 0).2 (i + 5).toNatClampNeg) ((X 0).2 (i + 6).toNatClampNeg))
  obtain ⟨b, μ2, e2, hq⟩ := wp_get h1
  obtain ⟨p1, p2, hN⟩ := hq
  have s2 := hN.1.1
  have s1 : ShM μ1 := ShM_back (P_X13_bath e2) s2.1
  have s0 := s_o0 h.1
  refine e_aload_n dL_law_755 rfl ?_
  refine e_aload_n dL_law_756 rfl ?_
  refine e_iload dL_law_757 rfl ?_
  refine e_iconst (v := 1) dL_law_759 rfl ?_
  refine e_iadd dL_law_760 ?_
  refine e_ialX (k := 0) dL_law_761 (by decide) x1 ?_
  refine e_aload_n dL_law_762 rfl ?_
  refine e_iload dL_law_763 rfl ?_
  refine e_iconst (v := 2) dL_law_765 rfl ?_
  refine e_iadd dL_law_766 ?_
  refine e_ialX (k := 0) dL_law_767 (by decide) x2 ?_
  refine e_aload_n dL_law_768 rfl ?_
  refine e_iload dL_law_769 rfl ?_
  refine e_iconst (v := 3) dL_law_771 rfl ?_
  refine e_iadd dL_law_772 ?_
  refine e_ialX (k := 0) dL_law_773 (by decide) x3 ?_
  refine e_aload_n dL_law_774 rfl ?_
  refine e_iload dL_law_775 rfl ?_
  refine e_iconst (v := 4) dL_law_777 rfl ?_
  refine e_iadd dL_law_778 ?_
  refine e_ialX (k := 0) dL_law_779 (by decide) x4 ?_
  refine e_aload_n dL_law_780 rfl ?_
  refine e_iload dL_law_781 rfl ?_
  refine e_iconst (v := 5) dL_law_783 rfl ?_
  refine e_iadd dL_law_784 ?_
  refine e_ialX (k := 0) dL_law_785 (by decide) x5 ?_
  refine e_aload_n dL_law_786 rfl ?_
  refine e_iload dL_law_787 rfl ?_
  refine e_bipush (v := 6) dL_law_789 rfl ?_
  refine e_iadd dL_law_791 ?_
  refine e_ialX (k := 0) dL_law_792 (by decide) x6 ?_
  refine e_aload_n dL_law_793 rfl ?_
  refine f_cSi dL_law_794 rfl rfl rfl rfl (fun Q' hQ' => E_L_bath e1 hQ') ?_
  refine e_istore dL_law_797 (Nat.le_of_ble_eq_true rfl) rfl ?_
  refine e_aload_n dL_law_799 rfl ?_
  refine e_aload_n dL_law_800 rfl ?_
  refine e_iload dL_law_801 rfl ?_
  refine e_iconst (v := 1) dL_law_803 rfl ?_
  refine e_iadd dL_law_804 ?_
  refine e_ialX (k := 0) dL_law_805 (by decide) x1 ?_
  refine e_aload_n dL_law_806 rfl ?_
  refine e_iload dL_law_807 rfl ?_
  refine e_iconst (v := 2) dL_law_809 rfl ?_
  refine e_iadd dL_law_810 ?_
  refine e_ialX (k := 0) dL_law_811 (by decide) x2 ?_
  refine e_aload_n dL_law_812 rfl ?_
  refine e_iload dL_law_813 rfl ?_
  refine e_iconst (v := 3) dL_law_815 rfl ?_
  refine e_iadd dL_law_816 ?_
  refine e_ialX (k := 0) dL_law_817 (by decide) x3 ?_
  refine e_aload_n dL_law_818 rfl ?_
  refine e_iload dL_law_819 rfl ?_
  refine e_iconst (v := 4) dL_law_821 rfl ?_
  refine e_iadd dL_law_822 ?_
  refine e_ialX (k := 0) dL_law_823 (by decide) x4 ?_
  refine e_aload_n dL_law_824 rfl ?_
  refine e_iload dL_law_825 rfl ?_
  refine e_iconst (v := 5) dL_law_827 rfl ?_
  refine e_iadd dL_law_828 ?_
  refine e_ialX (k := 0) dL_law_829 (by decide) x5 ?_
  refine e_aload_n dL_law_830 rfl ?_
  refine e_iload dL_law_831 rfl ?_
  refine e_bipush (v := 6) dL_law_833 rfl ?_
  refine e_iadd dL_law_835 ?_
  refine e_ialX (k := 0) dL_law_836 (by decide) x6 ?_
  refine f_cVi dL_law_837 rfl rfl ⟨rfl, rfl, by decide⟩ rfl ⟨s1.1, s1.2.1⟩ (fun Q' hQ' => E_X13_bath s1 e2 hQ') ?_
  refine e_istore dL_law_840 (Nat.le_of_ble_eq_true rfl) rfl ?_
  refine e_aload_n dL_law_842 rfl ?_
  refine f_cVi (x := mI μ2 65 0) (μ1 := μ2) dL_law_843 rfl rfl ⟨rfl, rfl, by decide⟩ rfl ⟨s2.1.1, s2.1.2.1⟩ (fun Q' hQ' => E_X13_thrown s2.1 rfl hQ') ?_
  refine e_iload dL_law_846 rfl ?_
  refine e_ic_eq dL_law_848 853 ⟨by decide, by decide⟩ (fun _ => ?_) (fun hn => absurd p1 hn)
  refine e_iload dL_law_853 rfl ?_
  refine e_if_ne dL_law_855 870 ⟨by decide, by decide⟩ (fun _ => ?_) (fun c => ?_)
  · refine e_goto dL_law_870 2839 ⟨by decide, by decide⟩ ?_
    exact K _ _ _ hN
  have p3 := p2 (Classical.not_not.mp c)
  refine e_aload_n dL_law_858 rfl ?_
  refine e_iconst (v := 0) dL_law_859 rfl ?_
  refine e_laG dL_law_860 (s_o112 s2) ?_
  refine e_iload dL_law_861 rfl ?_
  refine e_i2l dL_law_863 ?_
  refine e_lcmp dL_law_864 ?_
  refine e_if_eq dL_law_865 870 ⟨by decide, by decide⟩ (fun _ => ?_) (fun hn => absurd (lg_eq p3) hn)
  refine e_goto dL_law_870 2839 ⟨by decide, by decide⟩ ?_
  exact K _ _ _ hN
theorem W_carry {X : p_X} {d : Nat} {Q : p_R → Prop} {μ : p_M} {i : Int32} {u w : Value} (h : Core μ) (hE : mN μ + 8 < p_E) (hX1 : oX1 X) (hX2 : oX2 X) (hx : Ix X i) (K : lwK X d Q i μ) : p_Ev X (d + 16) M_L_law 873 (lwL i u w) [] μ Q := by
  obtain ⟨x0, x1, x2, x3, x4, x5, x6, x7⟩ := hx
  obtain ⟨k, μ1, e1, h1⟩ := wp_get (K_carry h ((X 0).2 (i + 1).toNatClampNeg) ((X 0).2 (i + 2).toNatClampNeg) ((X 0).2 (i + 3).toNatClampNeg))
  obtain ⟨b, μ2, e2, hq⟩ := wp_get h1
  obtain ⟨p1, hN⟩ := hq
  have s2 := hN.1.1
  have s1 : ShM μ1 := ShM_back (P_X13_carry e2) s2.1
  have s0 := s_o0 h.1
  refine e_aload_n dL_law_873 rfl ?_
  refine e_aload_n dL_law_874 rfl ?_
  refine e_iload dL_law_875 rfl ?_
  refine e_iconst (v := 1) dL_law_877 rfl ?_
  refine e_iadd dL_law_878 ?_
  refine e_ialX (k := 0) dL_law_879 (by decide) x1 ?_
  refine e_aload_n dL_law_880 rfl ?_
  refine e_iload dL_law_881 rfl ?_
  refine e_iconst (v := 2) dL_law_883 rfl ?_
  refine e_iadd dL_law_884 ?_
  refine e_ialX (k := 0) dL_law_885 (by decide) x2 ?_
  refine e_aload_n dL_law_886 rfl ?_
  refine e_iload dL_law_887 rfl ?_
  refine e_iconst (v := 3) dL_law_889 rfl ?_
  refine e_iadd dL_law_890 ?_
  refine e_ialX (k := 0) dL_law_891 (by decide) x3 ?_
  refine f_cSi dL_law_892 rfl rfl rfl rfl (fun Q' hQ' => E_L_carry e1 hQ') ?_
  refine e_istore dL_law_895 (Nat.le_of_ble_eq_true rfl) rfl ?_
  refine e_aload_n dL_law_897 rfl ?_
  refine e_aload_n dL_law_898 rfl ?_
  refine e_iload dL_law_899 rfl ?_
  refine e_iconst (v := 1) dL_law_901 rfl ?_
  refine e_iadd dL_law_902 ?_
  refine e_ialX (k := 0) dL_law_903 (by decide) x1 ?_
  refine e_aload_n dL_law_904 rfl ?_
  refine e_iload dL_law_905 rfl ?_
  refine e_iconst (v := 2) dL_law_907 rfl ?_
  refine e_iadd dL_law_908 ?_
  refine e_ialX (k := 0) dL_law_909 (by decide) x2 ?_
  refine e_aload_n dL_law_910 rfl ?_
  refine e_iload dL_law_911 rfl ?_
  refine e_iconst (v := 3) dL_law_913 rfl ?_
  refine e_iadd dL_law_914 ?_
  refine e_ialX (k := 0) dL_law_915 (by decide) x3 ?_
  refine f_cVv dL_law_916 rfl rfl ⟨rfl, rfl, by decide⟩ rfl ⟨s1.1, s1.2.1⟩ (fun Q' hQ' => E_X13_carry s1 e2 hQ') ?_
  refine e_aload_n dL_law_919 rfl ?_
  refine f_cVi (x := mI μ2 65 0) (μ1 := μ2) dL_law_920 rfl rfl ⟨rfl, rfl, by decide⟩ rfl ⟨s2.1.1, s2.1.2.1⟩ (fun Q' hQ' => E_X13_thrown s2.1 rfl hQ') ?_
  refine e_iload dL_law_923 rfl ?_
  refine e_ic_eq dL_law_925 930 ⟨by decide, by decide⟩ (fun _ => ?_) (fun hn => absurd p1 hn)
  refine e_goto dL_law_930 2839 ⟨by decide, by decide⟩ ?_
  exact K _ _ _ hN
theorem W_batch {X : p_X} {d : Nat} {Q : p_R → Prop} {μ : p_M} {i : Int32} {u w : Value} (h : Core μ) (hE : mN μ + 8 < p_E) (hX1 : oX1 X) (hX2 : oX2 X) (hx : Ix X i) (K : lwK X d Q i μ) : p_Ev X (d + 16) M_L_law 933 (lwL i u w) [] μ Q := by
  obtain ⟨x0, x1, x2, x3, x4, x5, x6, x7⟩ := hx
  obtain ⟨k, μ1, e1, h1⟩ := wp_get (K_batch h ((X 0).2 (i + 1).toNatClampNeg))
  obtain ⟨b, μ2, e2, hq⟩ := wp_get h1
  obtain ⟨p1, p2, hN⟩ := hq
  have s2 := hN.1.1
  have s1 : ShM μ1 := ShM_back (P_X13_batch e2) s2.1
  have s0 := s_o0 h.1
  refine e_aload_n dL_law_933 rfl ?_
  refine e_aload_n dL_law_934 rfl ?_
  refine e_iload dL_law_935 rfl ?_
  refine e_iconst (v := 1) dL_law_937 rfl ?_
  refine e_iadd dL_law_938 ?_
  refine e_ialX (k := 0) dL_law_939 (by decide) x1 ?_
  refine e_aload_n dL_law_940 rfl ?_
  refine f_cSi dL_law_941 rfl rfl rfl rfl (fun Q' hQ' => E_L_batch e1 hQ') ?_
  refine e_istore dL_law_944 (Nat.le_of_ble_eq_true rfl) rfl ?_
  refine e_aload_n dL_law_946 rfl ?_
  refine e_aload_n dL_law_947 rfl ?_
  refine e_iload dL_law_948 rfl ?_
  refine e_iconst (v := 1) dL_law_950 rfl ?_
  refine e_iadd dL_law_951 ?_
  refine e_ialX (k := 0) dL_law_952 (by decide) x1 ?_
  refine f_cVi dL_law_953 rfl rfl ⟨rfl, rfl, by decide⟩ rfl ⟨s1.1, s1.2.1⟩ (fun Q' hQ' => E_X13_batch s1 e2 hQ') ?_
  refine e_istore dL_law_956 (Nat.le_of_ble_eq_true rfl) rfl ?_
  refine e_aload_n dL_law_958 rfl ?_
  refine f_cVi (x := mI μ2 65 0) (μ1 := μ2) dL_law_959 rfl rfl ⟨rfl, rfl, by decide⟩ rfl ⟨s2.1.1, s2.1.2.1⟩ (fun Q' hQ' => E_X13_thrown s2.1 rfl hQ') ?_
  refine e_iload dL_law_962 rfl ?_
  refine e_ic_eq dL_law_964 969 ⟨by decide, by decide⟩ (fun _ => ?_) (fun hn => absurd p1 hn)
  refine e_iload dL_law_969 rfl ?_
  refine e_if_ne dL_law_971 986 ⟨by decide, by decide⟩ (fun _ => ?_) (fun c => ?_)
  · refine e_goto dL_law_986 2839 ⟨by decide, by decide⟩ ?_
    exact K _ _ _ hN
  have p3 := p2 (Classical.not_not.mp c)
  refine e_aload_n dL_law_974 rfl ?_
  refine e_iconst (v := 0) dL_law_975 rfl ?_
  refine e_laG dL_law_976 (s_o112 s2) ?_
  refine e_iload dL_law_977 rfl ?_
  refine e_i2l dL_law_979 ?_
  refine e_lcmp dL_law_980 ?_
  refine e_if_eq dL_law_981 986 ⟨by decide, by decide⟩ (fun _ => ?_) (fun hn => absurd (lg_eq p3) hn)
  refine e_goto dL_law_986 2839 ⟨by decide, by decide⟩ ?_
  exact K _ _ _ hN
theorem W_order {X : p_X} {d : Nat} {Q : p_R → Prop} {μ : p_M} {i : Int32} {u w : Value} (h : Core μ) (hE : mN μ + 8 < p_E) (hX1 : oX1 X) (hX2 : oX2 X) (hx : Ix X i) (K : lwK X d Q i μ) : p_Ev X (d + 16) M_L_law 989 (lwL i u w) [] μ Q := by
  obtain ⟨x0, x1, x2, x3, x4, x5, x6, x7⟩ := hx
  obtain ⟨k, μ1, e1, h1⟩ := wp_get (K_order h)
  obtain ⟨b, μ2, e2, hq⟩ := wp_get h1
  obtain ⟨p1, hN⟩ := hq
  have s2 := hN.1.1
  have s1 : ShM μ1 := ShM_back (P_X13_order e2) s2.1
  have s0 := s_o0 h.1
  refine e_aload_n dL_law_989 rfl ?_
  refine f_cVi dL_law_990 rfl rfl ⟨rfl, rfl, by decide⟩ rfl s0 (fun Q' hQ' => E_X12_order e1 hQ') ?_
  refine e_aload_n dL_law_993 rfl ?_
  refine f_cVi dL_law_994 rfl rfl ⟨rfl, rfl, by decide⟩ rfl ⟨s1.1, s1.2.1⟩ (fun Q' hQ' => E_X13_order s1 e2 hQ') ?_
  refine e_ic_eq dL_law_997 2839 ⟨by decide, by decide⟩ (fun _ => ?_) (fun hn => absurd p1 hn)
  exact K _ _ _ hN
theorem W_clear {X : p_X} {d : Nat} {Q : p_R → Prop} {μ : p_M} {i : Int32} {u w : Value} (h : Core μ) (hE : mN μ + 8 < p_E) (hX1 : oX1 X) (hX2 : oX2 X) (hx : Ix X i) (K : lwK X d Q i μ) : p_Ev X (d + 16) M_L_law 1002 (lwL i u w) [] μ Q := by
  obtain ⟨x0, x1, x2, x3, x4, x5, x6, x7⟩ := hx
  obtain ⟨k, μ1, e1, h1⟩ := wp_get (K_clear h)
  obtain ⟨b, μ2, e2, hq⟩ := wp_get h1
  obtain ⟨p1, hN⟩ := hq
  have s2 := hN.1.1
  have s1 : ShM μ1 := ShM_back (P_X13_clear e2) s2.1
  have s0 := s_o0 h.1
  refine e_aload_n dL_law_1002 rfl ?_
  refine f_cVi dL_law_1003 rfl rfl ⟨rfl, rfl, by decide⟩ rfl s0 (fun Q' hQ' => E_X12_clear e1 hQ') ?_
  refine e_aload_n dL_law_1006 rfl ?_
  refine f_cVi dL_law_1007 rfl rfl ⟨rfl, rfl, by decide⟩ rfl ⟨s1.1, s1.2.1⟩ (fun Q' hQ' => E_X13_clear s1 e2 hQ') ?_
  refine e_ic_eq dL_law_1010 2839 ⟨by decide, by decide⟩ (fun _ => ?_) (fun hn => absurd p1 hn)
  exact K _ _ _ hN
theorem W_tank {X : p_X} {d : Nat} {Q : p_R → Prop} {μ : p_M} {i : Int32} {u w : Value} (h : Core μ) (hE : mN μ + 8 < p_E) (hX1 : oX1 X) (hX2 : oX2 X) (hx : Ix X i) (K : lwK X d Q i μ) : p_Ev X (d + 16) M_L_law 1015 (lwL i u w) [] μ Q := by
  obtain ⟨x0, x1, x2, x3, x4, x5, x6, x7⟩ := hx
  obtain ⟨k, μ1, e1, h1⟩ := wp_get (K_tank h ((X 0).2 (i + 1).toNatClampNeg))
  obtain ⟨b, μ2, e2, hq⟩ := wp_get h1
  obtain ⟨p1, p2, hN⟩ := hq
  have s2 := hN.1.1
  have s1 : ShM μ1 := ShM_back (P_X13_tank e2) s2.1
  have s0 := s_o0 h.1
  refine e_aload_n dL_law_1015 rfl ?_
  refine e_aload_n dL_law_1016 rfl ?_
  refine e_iload dL_law_1017 rfl ?_
  refine e_iconst (v := 1) dL_law_1019 rfl ?_
  refine e_iadd dL_law_1020 ?_
  refine e_ialX (k := 0) dL_law_1021 (by decide) x1 ?_
  refine e_aload_n dL_law_1022 rfl ?_
  refine f_cSi dL_law_1023 rfl rfl rfl rfl (fun Q' hQ' => E_L_tank e1 hQ') ?_
  refine e_istore dL_law_1026 (Nat.le_of_ble_eq_true rfl) rfl ?_
  refine e_aload_n dL_law_1028 rfl ?_
  refine e_aload_n dL_law_1029 rfl ?_
  refine e_iload dL_law_1030 rfl ?_
  refine e_iconst (v := 1) dL_law_1032 rfl ?_
  refine e_iadd dL_law_1033 ?_
  refine e_ialX (k := 0) dL_law_1034 (by decide) x1 ?_
  refine f_cVi dL_law_1035 rfl rfl ⟨rfl, rfl, by decide⟩ rfl ⟨s1.1, s1.2.1⟩ (fun Q' hQ' => E_X13_tank s1 e2 hQ') ?_
  refine e_istore dL_law_1038 (Nat.le_of_ble_eq_true rfl) rfl ?_
  refine e_aload_n dL_law_1040 rfl ?_
  refine f_cVi (x := mI μ2 65 0) (μ1 := μ2) dL_law_1041 rfl rfl ⟨rfl, rfl, by decide⟩ rfl ⟨s2.1.1, s2.1.2.1⟩ (fun Q' hQ' => E_X13_thrown s2.1 rfl hQ') ?_
  refine e_iload dL_law_1044 rfl ?_
  refine e_ic_eq dL_law_1046 1051 ⟨by decide, by decide⟩ (fun _ => ?_) (fun hn => absurd p1 hn)
  refine e_iload dL_law_1051 rfl ?_
  refine e_if_ne dL_law_1053 1068 ⟨by decide, by decide⟩ (fun _ => ?_) (fun c => ?_)
  · refine e_goto dL_law_1068 2839 ⟨by decide, by decide⟩ ?_
    exact K _ _ _ hN
  have p3 := p2 (Classical.not_not.mp c)
  refine e_aload_n dL_law_1056 rfl ?_
  refine e_iconst (v := 0) dL_law_1057 rfl ?_
  refine e_laG dL_law_1058 (s_o112 s2) ?_
  refine e_iload dL_law_1059 rfl ?_
  refine e_i2l dL_law_1061 ?_
  refine e_lcmp dL_law_1062 ?_
  refine e_if_eq dL_law_1063 1068 ⟨by decide, by decide⟩ (fun _ => ?_) (fun hn => absurd (lg_eq p3) hn)
  refine e_goto dL_law_1068 2839 ⟨by decide, by decide⟩ ?_
  exact K _ _ _ hN
theorem W_draw {X : p_X} {d : Nat} {Q : p_R → Prop} {μ : p_M} {i : Int32} {u w : Value} (h : Core μ) (hE : mN μ + 8 < p_E) (hX1 : oX1 X) (hX2 : oX2 X) (hx : Ix X i) (K : lwK X d Q i μ) : p_Ev X (d + 16) M_L_law 1071 (lwL i u w) [] μ Q := by
  obtain ⟨x0, x1, x2, x3, x4, x5, x6, x7⟩ := hx
  obtain ⟨k, μ1, e1, h1⟩ := wp_get (K_draw h ((X 0).2 (i + 1).toNatClampNeg) ((X 0).2 (i + 2).toNatClampNeg))
  obtain ⟨b, μ2, e2, hq⟩ := wp_get h1
  obtain ⟨p1, p2, hN⟩ := hq
  have s2 := hN.1.1
  have s1 : ShM μ1 := ShM_back (P_X13_draw e2) s2.1
  have s0 := s_o0 h.1
  refine e_aload_n dL_law_1071 rfl ?_
  refine e_aload_n dL_law_1072 rfl ?_
  refine e_iload dL_law_1073 rfl ?_
  refine e_iconst (v := 1) dL_law_1075 rfl ?_
  refine e_iadd dL_law_1076 ?_
  refine e_ialX (k := 0) dL_law_1077 (by decide) x1 ?_
  refine e_aload_n dL_law_1078 rfl ?_
  refine e_iload dL_law_1079 rfl ?_
  refine e_iconst (v := 2) dL_law_1081 rfl ?_
  refine e_iadd dL_law_1082 ?_
  refine e_ialX (k := 0) dL_law_1083 (by decide) x2 ?_
  refine e_aload_n dL_law_1084 rfl ?_
  refine f_cSi dL_law_1085 rfl rfl rfl rfl (fun Q' hQ' => E_L_draw e1 hQ') ?_
  refine e_istore dL_law_1088 (Nat.le_of_ble_eq_true rfl) rfl ?_
  refine e_aload_n dL_law_1090 rfl ?_
  refine e_aload_n dL_law_1091 rfl ?_
  refine e_iload dL_law_1092 rfl ?_
  refine e_iconst (v := 1) dL_law_1094 rfl ?_
  refine e_iadd dL_law_1095 ?_
  refine e_ialX (k := 0) dL_law_1096 (by decide) x1 ?_
  refine e_aload_n dL_law_1097 rfl ?_
  refine e_iload dL_law_1098 rfl ?_
  refine e_iconst (v := 2) dL_law_1100 rfl ?_
  refine e_iadd dL_law_1101 ?_
  refine e_ialX (k := 0) dL_law_1102 (by decide) x2 ?_
  refine f_cVi dL_law_1103 rfl rfl ⟨rfl, rfl, by decide⟩ rfl ⟨s1.1, s1.2.1⟩ (fun Q' hQ' => E_X13_draw s1 e2 hQ') ?_
  refine e_istore dL_law_1106 (Nat.le_of_ble_eq_true rfl) rfl ?_
  refine e_aload_n dL_law_1108 rfl ?_
  refine f_cVi (x := mI μ2 65 0) (μ1 := μ2) dL_law_1109 rfl rfl ⟨rfl, rfl, by decide⟩ rfl ⟨s2.1.1, s2.1.2.1⟩ (fun Q' hQ' => E_X13_thrown s2.1 rfl hQ') ?_
  refine e_iload dL_law_1112 rfl ?_
  refine e_ic_eq dL_law_1114 1119 ⟨by decide, by decide⟩ (fun _ => ?_) (fun hn => absurd p1 hn)
  refine e_iload dL_law_1119 rfl ?_
  refine e_if_ne dL_law_1121 1136 ⟨by decide, by decide⟩ (fun _ => ?_) (fun c => ?_)
  · refine e_goto dL_law_1136 2839 ⟨by decide, by decide⟩ ?_
    exact K _ _ _ hN
  have p3 := p2 (Classical.not_not.mp c)
  refine e_aload_n dL_law_1124 rfl ?_
  refine e_iconst (v := 0) dL_law_1125 rfl ?_
  refine e_laG dL_law_1126 (s_o112 s2) ?_
  refine e_iload dL_law_1127 rfl ?_
  refine e_i2l dL_law_1129 ?_
  refine e_lcmp dL_law_1130 ?_
  refine e_if_eq dL_law_1131 1136 ⟨by decide, by decide⟩ (fun _ => ?_) (fun hn => absurd (lg_eq p3) hn)
  refine e_goto dL_law_1136 2839 ⟨by decide, by decide⟩ ?_
  exact K _ _ _ hN
theorem W_pour {X : p_X} {d : Nat} {Q : p_R → Prop} {μ : p_M} {i : Int32} {u w : Value} (h : Core μ) (hE : mN μ + 8 < p_E) (hX1 : oX1 X) (hX2 : oX2 X) (hx : Ix X i) (K : lwK X d Q i μ) : p_Ev X (d + 16) M_L_law 1139 (lwL i u w) [] μ Q := by
  obtain ⟨x0, x1, x2, x3, x4, x5, x6, x7⟩ := hx
  obtain ⟨k, μ1, e1, h1⟩ := wp_get (K_pour h ((X 0).2 (i + 1).toNatClampNeg) ((X 0).2 (i + 2).toNatClampNeg) ((X 0).2 (i + 3).toNatClampNeg))
  obtain ⟨b, μ2, e2, hq⟩ := wp_get h1
  obtain ⟨p1, p2, hN⟩ := hq
  have s2 := hN.1.1
  have s1 : ShM μ1 := ShM_back (P_X13_pour e2) s2.1
  have s0 := s_o0 h.1
  refine e_aload_n dL_law_1139 rfl ?_
  refine e_aload_n dL_law_1140 rfl ?_
  refine e_iload dL_law_1141 rfl ?_
  refine e_iconst (v := 1) dL_law_1143 rfl ?_
  refine e_iadd dL_law_1144 ?_
  refine e_ialX (k := 0) dL_law_1145 (by decide) x1 ?_
  refine e_aload_n dL_law_1146 rfl ?_
  refine e_iload dL_law_1147 rfl ?_
  refine e_iconst (v := 2) dL_law_1149 rfl ?_
  refine e_iadd dL_law_1150 ?_
  refine e_ialX (k := 0) dL_law_1151 (by decide) x2 ?_
  refine e_aload_n dL_law_1152 rfl ?_
  refine e_iload dL_law_1153 rfl ?_
  refine e_iconst (v := 3) dL_law_1155 rfl ?_
  refine e_iadd dL_law_1156 ?_
  refine e_ialX (k := 0) dL_law_1157 (by decide) x3 ?_
  refine e_aload_n dL_law_1158 rfl ?_
  refine f_cSi dL_law_1159 rfl rfl rfl rfl (fun Q' hQ' => E_L_pour e1 hQ') ?_
  refine e_istore dL_law_1162 (Nat.le_of_ble_eq_true rfl) rfl ?_
  refine e_aload_n dL_law_1164 rfl ?_
  refine e_aload_n dL_law_1165 rfl ?_
  refine e_iload dL_law_1166 rfl ?_
  refine e_iconst (v := 1) dL_law_1168 rfl ?_
  refine e_iadd dL_law_1169 ?_
  refine e_ialX (k := 0) dL_law_1170 (by decide) x1 ?_
  refine e_aload_n dL_law_1171 rfl ?_
  refine e_iload dL_law_1172 rfl ?_
  refine e_iconst (v := 2) dL_law_1174 rfl ?_
  refine e_iadd dL_law_1175 ?_
  refine e_ialX (k := 0) dL_law_1176 (by decide) x2 ?_
  refine e_aload_n dL_law_1177 rfl ?_
  refine e_iload dL_law_1178 rfl ?_
  refine e_iconst (v := 3) dL_law_1180 rfl ?_
  refine e_iadd dL_law_1181 ?_
  refine e_ialX (k := 0) dL_law_1182 (by decide) x3 ?_
  refine f_cVi dL_law_1183 rfl rfl ⟨rfl, rfl, by decide⟩ rfl ⟨s1.1, s1.2.1⟩ (fun Q' hQ' => E_X13_pour s1 e2 hQ') ?_
  refine e_istore dL_law_1186 (Nat.le_of_ble_eq_true rfl) rfl ?_
  refine e_aload_n dL_law_1188 rfl ?_
  refine f_cVi (x := mI μ2 65 0) (μ1 := μ2) dL_law_1189 rfl rfl ⟨rfl, rfl, by decide⟩ rfl ⟨s2.1.1, s2.1.2.1⟩ (fun Q' hQ' => E_X13_thrown s2.1 rfl hQ') ?_
  refine e_iload dL_law_1192 rfl ?_
  refine e_ic_eq dL_law_1194 1199 ⟨by decide, by decide⟩ (fun _ => ?_) (fun hn => absurd p1 hn)
  refine e_iload dL_law_1199 rfl ?_
  refine e_if_ne dL_law_1201 1216 ⟨by decide, by decide⟩ (fun _ => ?_) (fun c => ?_)
  · refine e_goto dL_law_1216 2839 ⟨by decide, by decide⟩ ?_
    exact K _ _ _ hN
  have p3 := p2 (Classical.not_not.mp c)
  refine e_aload_n dL_law_1204 rfl ?_
  refine e_iconst (v := 0) dL_law_1205 rfl ?_
  refine e_laG dL_law_1206 (s_o112 s2) ?_
  refine e_iload dL_law_1207 rfl ?_
  refine e_i2l dL_law_1209 ?_
  refine e_lcmp dL_law_1210 ?_
  refine e_if_eq dL_law_1211 1216 ⟨by decide, by decide⟩ (fun _ => ?_) (fun hn => absurd (lg_eq p3) hn)
  refine e_goto dL_law_1216 2839 ⟨by decide, by decide⟩ ?_
  exact K _ _ _ hN
theorem W_has {X : p_X} {d : Nat} {Q : p_R → Prop} {μ : p_M} {i : Int32} {u w : Value} (h : Core μ) (hE : mN μ + 8 < p_E) (hX1 : oX1 X) (hX2 : oX2 X) (hx : Ix X i) (K : lwK X d Q i μ) : p_Ev X (d + 16) M_L_law 1219 (lwL i u w) [] μ Q := by
  obtain ⟨x0, x1, x2, x3, x4, x5, x6, x7⟩ := hx
  obtain ⟨k, μ1, e1, h1⟩ := wp_get (K_has h ((X 0).2 (i + 1).toNatClampNeg) ((X 0).2 (i + 2).toNatClampNeg))
  obtain ⟨b, μ2, e2, hq⟩ := wp_get h1
  obtain ⟨p1, p2, hN⟩ := hq
  have s2 := hN.1.1
  have s1 : ShM μ1 := ShM_back (P_X13_has e2) s2.1
  have s0 := s_o0 h.1
  refine e_aload_n dL_law_1219 rfl ?_
  refine e_aload_n dL_law_1220 rfl ?_
  refine e_iload dL_law_1221 rfl ?_
  refine e_iconst (v := 1) dL_law_1223 rfl ?_
  refine e_iadd dL_law_1224 ?_
  refine e_ialX (k := 0) dL_law_1225 (by decide) x1 ?_
  refine e_aload_n dL_law_1226 rfl ?_
  refine e_iload dL_law_1227 rfl ?_
  refine e_iconst (v := 2) dL_law_1229 rfl ?_
  refine e_iadd dL_law_1230 ?_
  refine e_ialX (k := 0) dL_law_1231 (by decide) x2 ?_
  refine e_aload_n dL_law_1232 rfl ?_
  refine f_cSi dL_law_1233 rfl rfl rfl rfl (fun Q' hQ' => E_L_has e1 hQ') ?_
  refine e_istore dL_law_1236 (Nat.le_of_ble_eq_true rfl) rfl ?_
  refine e_aload_n dL_law_1238 rfl ?_
  refine e_aload_n dL_law_1239 rfl ?_
  refine e_iload dL_law_1240 rfl ?_
  refine e_iconst (v := 1) dL_law_1242 rfl ?_
  refine e_iadd dL_law_1243 ?_
  refine e_ialX (k := 0) dL_law_1244 (by decide) x1 ?_
  refine e_aload_n dL_law_1245 rfl ?_
  refine e_iload dL_law_1246 rfl ?_
  refine e_iconst (v := 2) dL_law_1248 rfl ?_
  refine e_iadd dL_law_1249 ?_
  refine e_ialX (k := 0) dL_law_1250 (by decide) x2 ?_
  refine f_cVi dL_law_1251 rfl rfl ⟨rfl, rfl, by decide⟩ rfl ⟨s1.1, s1.2.1⟩ (fun Q' hQ' => E_X13_has s1 e2 hQ') ?_
  refine e_istore dL_law_1254 (Nat.le_of_ble_eq_true rfl) rfl ?_
  refine e_aload_n dL_law_1256 rfl ?_
  refine f_cVi (x := mI μ2 65 0) (μ1 := μ2) dL_law_1257 rfl rfl ⟨rfl, rfl, by decide⟩ rfl ⟨s2.1.1, s2.1.2.1⟩ (fun Q' hQ' => E_X13_thrown s2.1 rfl hQ') ?_
  refine e_iload dL_law_1260 rfl ?_
  refine e_ic_eq dL_law_1262 1267 ⟨by decide, by decide⟩ (fun _ => ?_) (fun hn => absurd p1 hn)
  refine e_iload dL_law_1267 rfl ?_
  refine e_if_ne dL_law_1269 1284 ⟨by decide, by decide⟩ (fun _ => ?_) (fun c => ?_)
  · refine e_goto dL_law_1284 2839 ⟨by decide, by decide⟩ ?_
    exact K _ _ _ hN
  have p3 := p2 (Classical.not_not.mp c)
  refine e_aload_n dL_law_1272 rfl ?_
  refine e_iconst (v := 0) dL_law_1273 rfl ?_
  refine e_laG dL_law_1274 (s_o112 s2) ?_
  refine e_iload dL_law_1275 rfl ?_
  refine e_i2l dL_law_1277 ?_
  refine e_lcmp dL_law_1278 ?_
  refine e_if_eq dL_law_1279 1284 ⟨by decide, by decide⟩ (fun _ => ?_) (fun hn => absurd (lg_eq p3) hn)
  refine e_goto dL_law_1284 2839 ⟨by decide, by decide⟩ ?_
  exact K _ _ _ hN
theorem W_garment {X : p_X} {d : Nat} {Q : p_R → Prop} {μ : p_M} {i : Int32} {u w : Value} (h : Core μ) (hE : mN μ + 8 < p_E) (hX1 : oX1 X) (hX2 : oX2 X) (hx : Ix X i) (K : lwK X d Q i μ) : p_Ev X (d + 16) M_L_law 1287 (lwL i u w) [] μ Q := by
  obtain ⟨x0, x1, x2, x3, x4, x5, x6, x7⟩ := hx
  obtain ⟨k, μ1, e1, h1⟩ := wp_get (K_garment h ((X 0).2 (i + 1).toNatClampNeg))
  obtain ⟨b, μ2, e2, hq⟩ := wp_get h1
  obtain ⟨p1, p2, hN⟩ := hq
  have s2 := hN.1.1
  have s1 : ShM μ1 := ShM_back (P_X13_garment e2) s2.1
  have s0 := s_o0 h.1
  refine e_aload_n dL_law_1287 rfl ?_
  refine e_aload_n dL_law_1288 rfl ?_
  refine e_iload dL_law_1289 rfl ?_
  refine e_iconst (v := 1) dL_law_1291 rfl ?_
  refine e_iadd dL_law_1292 ?_
  refine e_ialX (k := 0) dL_law_1293 (by decide) x1 ?_
  refine e_aload_n dL_law_1294 rfl ?_
  refine f_cSi dL_law_1295 rfl rfl rfl rfl (fun Q' hQ' => E_L_garment e1 hQ') ?_
  refine e_istore dL_law_1298 (Nat.le_of_ble_eq_true rfl) rfl ?_
  refine e_aload_n dL_law_1300 rfl ?_
  refine e_aload_n dL_law_1301 rfl ?_
  refine e_iload dL_law_1302 rfl ?_
  refine e_iconst (v := 1) dL_law_1304 rfl ?_
  refine e_iadd dL_law_1305 ?_
  refine e_ialX (k := 0) dL_law_1306 (by decide) x1 ?_
  refine f_cVi dL_law_1307 rfl rfl ⟨rfl, rfl, by decide⟩ rfl ⟨s1.1, s1.2.1⟩ (fun Q' hQ' => E_X13_garment s1 e2 hQ') ?_
  refine e_istore dL_law_1310 (Nat.le_of_ble_eq_true rfl) rfl ?_
  refine e_aload_n dL_law_1312 rfl ?_
  refine f_cVi (x := mI μ2 65 0) (μ1 := μ2) dL_law_1313 rfl rfl ⟨rfl, rfl, by decide⟩ rfl ⟨s2.1.1, s2.1.2.1⟩ (fun Q' hQ' => E_X13_thrown s2.1 rfl hQ') ?_
  refine e_iload dL_law_1316 rfl ?_
  refine e_ic_eq dL_law_1318 1323 ⟨by decide, by decide⟩ (fun _ => ?_) (fun hn => absurd p1 hn)
  refine e_iload dL_law_1323 rfl ?_
  refine e_if_ne dL_law_1325 1340 ⟨by decide, by decide⟩ (fun _ => ?_) (fun c => ?_)
  · refine e_goto dL_law_1340 2839 ⟨by decide, by decide⟩ ?_
    exact K _ _ _ hN
  have p3 := p2 (Classical.not_not.mp c)
  refine e_aload_n dL_law_1328 rfl ?_
  refine e_iconst (v := 0) dL_law_1329 rfl ?_
  refine e_laG dL_law_1330 (s_o112 s2) ?_
  refine e_iload dL_law_1331 rfl ?_
  refine e_i2l dL_law_1333 ?_
  refine e_lcmp dL_law_1334 ?_
  refine e_if_eq dL_law_1335 1340 ⟨by decide, by decide⟩ (fun _ => ?_) (fun hn => absurd (lg_eq p3) hn)
  refine e_goto dL_law_1340 2839 ⟨by decide, by decide⟩ ?_
  exact K _ _ _ hN
theorem W_spread {X : p_X} {d : Nat} {Q : p_R → Prop} {μ : p_M} {i : Int32} {u w : Value} (h : Core μ) (hE : mN μ + 8 < p_E) (hX1 : oX1 X) (hX2 : oX2 X) (hx : Ix X i) (K : lwK X d Q i μ) : p_Ev X (d + 16) M_L_law 1343 (lwL i u w) [] μ Q := by
  obtain ⟨x0, x1, x2, x3, x4, x5, x6, x7⟩ := hx
  obtain ⟨k, μ1, e1, h1⟩ := wp_get (K_spread h ((X 0).2 (i + 1).toNatClampNeg))
  obtain ⟨b, μ2, e2, hq⟩ := wp_get h1
  obtain ⟨p1, p2, hN⟩ := hq
  have s2 := hN.1.1
  have s1 : ShM μ1 := ShM_back (P_X13_spread e2) s2.1
  have s0 := s_o0 h.1
  refine e_aload_n dL_law_1343 rfl ?_
  refine e_aload_n dL_law_1344 rfl ?_
  refine e_iload dL_law_1345 rfl ?_
  refine e_iconst (v := 1) dL_law_1347 rfl ?_
  refine e_iadd dL_law_1348 ?_
  refine e_ialX (k := 0) dL_law_1349 (by decide) x1 ?_
  refine e_aload_n dL_law_1350 rfl ?_
  refine f_cSi dL_law_1351 rfl rfl rfl rfl (fun Q' hQ' => E_L_spread e1 hQ') ?_
  refine e_istore dL_law_1354 (Nat.le_of_ble_eq_true rfl) rfl ?_
  refine e_aload_n dL_law_1356 rfl ?_
  refine e_aload_n dL_law_1357 rfl ?_
  refine e_iload dL_law_1358 rfl ?_
  refine e_iconst (v := 1) dL_law_1360 rfl ?_
  refine e_iadd dL_law_1361 ?_
  refine e_ialX (k := 0) dL_law_1362 (by decide) x1 ?_
  refine f_cVi dL_law_1363 rfl rfl ⟨rfl, rfl, by decide⟩ rfl ⟨s1.1, s1.2.1⟩ (fun Q' hQ' => E_X13_spread s1 e2 hQ') ?_
  refine e_istore dL_law_1366 (Nat.le_of_ble_eq_true rfl) rfl ?_
  refine e_aload_n dL_law_1368 rfl ?_
  refine f_cVi (x := mI μ2 65 0) (μ1 := μ2) dL_law_1369 rfl rfl ⟨rfl, rfl, by decide⟩ rfl ⟨s2.1.1, s2.1.2.1⟩ (fun Q' hQ' => E_X13_thrown s2.1 rfl hQ') ?_
  refine e_iload dL_law_1372 rfl ?_
  refine e_ic_eq dL_law_1374 1379 ⟨by decide, by decide⟩ (fun _ => ?_) (fun hn => absurd p1 hn)
  refine e_iload dL_law_1379 rfl ?_
  refine e_if_ne dL_law_1381 1396 ⟨by decide, by decide⟩ (fun _ => ?_) (fun c => ?_)
  · refine e_goto dL_law_1396 2839 ⟨by decide, by decide⟩ ?_
    exact K _ _ _ hN
  have p3 := p2 (Classical.not_not.mp c)
  refine e_aload_n dL_law_1384 rfl ?_
  refine e_iconst (v := 0) dL_law_1385 rfl ?_
  refine e_laG dL_law_1386 (s_o112 s2) ?_
  refine e_iload dL_law_1387 rfl ?_
  refine e_i2l dL_law_1389 ?_
  refine e_lcmp dL_law_1390 ?_
  refine e_if_eq dL_law_1391 1396 ⟨by decide, by decide⟩ (fun _ => ?_) (fun hn => absurd (lg_eq p3) hn)
  refine e_goto dL_law_1396 2839 ⟨by decide, by decide⟩ ?_
  exact K _ _ _ hN
theorem W_packs {X : p_X} {d : Nat} {Q : p_R → Prop} {μ : p_M} {i : Int32} {u w : Value} (h : Core μ) (hE : mN μ + 8 < p_E) (hX1 : oX1 X) (hX2 : oX2 X) (hx : Ix X i) (K : lwK X d Q i μ) : p_Ev X (d + 16) M_L_law 1399 (lwL i u w) [] μ Q := by
  obtain ⟨x0, x1, x2, x3, x4, x5, x6, x7⟩ := hx
  by_cases hb : ((X 0).2 (i + 3).toNatClampNeg) = 0
  · obtain ⟨k, μ1, e1, h1⟩ := wp_get (K_packs h ((X 0).2 (i + 1).toNatClampNeg) ((X 0).2 (i + 2).toNatClampNeg) 0)
    obtain ⟨b, μ2, e2, hq⟩ := wp_get h1
    obtain ⟨p1, p2, hN⟩ := hq
    have s2 := hN.1.1
    have s1 : ShM μ1 := ShM_back (P_X13_packs e2) s2.1
    have s0 := s_o0 h.1
    refine e_aload_n dL_law_1399 rfl ?_
    refine e_aload_n dL_law_1400 rfl ?_
    refine e_iload dL_law_1401 rfl ?_
    refine e_iconst (v := 1) dL_law_1403 rfl ?_
    refine e_iadd dL_law_1404 ?_
    refine e_ialX (k := 0) dL_law_1405 (by decide) x1 ?_
    refine e_aload_n dL_law_1406 rfl ?_
    refine e_iload dL_law_1407 rfl ?_
    refine e_iconst (v := 2) dL_law_1409 rfl ?_
    refine e_iadd dL_law_1410 ?_
    refine e_ialX (k := 0) dL_law_1411 (by decide) x2 ?_
    refine e_aload_n dL_law_1412 rfl ?_
    refine e_iload dL_law_1413 rfl ?_
    refine e_iconst (v := 3) dL_law_1415 rfl ?_
    refine e_iadd dL_law_1416 ?_
    refine e_ialX (k := 0) dL_law_1417 (by decide) x3 ?_
    refine e_if_eq dL_law_1418 1425 ⟨by decide, by decide⟩ (fun _ => ?_) (fun hn => absurd hb hn)
    refine e_iconst (v := 0) dL_law_1425 rfl ?_
    refine e_aload_n dL_law_1426 rfl ?_
    refine f_cSi dL_law_1427 rfl rfl rfl rfl (fun Q' hQ' => E_L_packs e1 hQ') ?_
    refine e_istore dL_law_1430 (Nat.le_of_ble_eq_true rfl) rfl ?_
    refine e_aload_n dL_law_1432 rfl ?_
    refine e_aload_n dL_law_1433 rfl ?_
    refine e_iload dL_law_1434 rfl ?_
    refine e_iconst (v := 1) dL_law_1436 rfl ?_
    refine e_iadd dL_law_1437 ?_
    refine e_ialX (k := 0) dL_law_1438 (by decide) x1 ?_
    refine e_aload_n dL_law_1439 rfl ?_
    refine e_iload dL_law_1440 rfl ?_
    refine e_iconst (v := 2) dL_law_1442 rfl ?_
    refine e_iadd dL_law_1443 ?_
    refine e_ialX (k := 0) dL_law_1444 (by decide) x2 ?_
    refine e_aload_n dL_law_1445 rfl ?_
    refine e_iload dL_law_1446 rfl ?_
    refine e_iconst (v := 3) dL_law_1448 rfl ?_
    refine e_iadd dL_law_1449 ?_
    refine e_ialX (k := 0) dL_law_1450 (by decide) x3 ?_
    refine e_if_eq dL_law_1451 1458 ⟨by decide, by decide⟩ (fun _ => ?_) (fun hn => absurd hb hn)
    refine e_iconst (v := 0) dL_law_1458 rfl ?_
    refine f_cVi dL_law_1459 rfl rfl ⟨rfl, rfl, by decide⟩ rfl ⟨s1.1, s1.2.1⟩ (fun Q' hQ' => E_X13_packs s1 e2 hQ') ?_
    refine e_istore dL_law_1462 (Nat.le_of_ble_eq_true rfl) rfl ?_
    refine e_aload_n dL_law_1464 rfl ?_
    refine f_cVi (x := mI μ2 65 0) (μ1 := μ2) dL_law_1465 rfl rfl ⟨rfl, rfl, by decide⟩ rfl ⟨s2.1.1, s2.1.2.1⟩ (fun Q' hQ' => E_X13_thrown s2.1 rfl hQ') ?_
    refine e_iload dL_law_1468 rfl ?_
    refine e_ic_eq dL_law_1470 1475 ⟨by decide, by decide⟩ (fun _ => ?_) (fun hn => absurd p1 hn)
    refine e_iload dL_law_1475 rfl ?_
    refine e_if_ne dL_law_1477 1492 ⟨by decide, by decide⟩ (fun _ => ?_) (fun c => ?_)
    · refine e_goto dL_law_1492 2839 ⟨by decide, by decide⟩ ?_
      exact K _ _ _ hN
    have p3 := p2 (Classical.not_not.mp c)
    refine e_aload_n dL_law_1480 rfl ?_
    refine e_iconst (v := 0) dL_law_1481 rfl ?_
    refine e_laG dL_law_1482 (s_o112 s2) ?_
    refine e_iload dL_law_1483 rfl ?_
    refine e_i2l dL_law_1485 ?_
    refine e_lcmp dL_law_1486 ?_
    refine e_if_eq dL_law_1487 1492 ⟨by decide, by decide⟩ (fun _ => ?_) (fun hn => absurd (lg_eq p3) hn)
    refine e_goto dL_law_1492 2839 ⟨by decide, by decide⟩ ?_
    exact K _ _ _ hN
  · obtain ⟨k, μ1, e1, h1⟩ := wp_get (K_packs h ((X 0).2 (i + 1).toNatClampNeg) ((X 0).2 (i + 2).toNatClampNeg) 1)
    obtain ⟨b, μ2, e2, hq⟩ := wp_get h1
    obtain ⟨p1, p2, hN⟩ := hq
    have s2 := hN.1.1
    have s1 : ShM μ1 := ShM_back (P_X13_packs e2) s2.1
    have s0 := s_o0 h.1
    refine e_aload_n dL_law_1399 rfl ?_
    refine e_aload_n dL_law_1400 rfl ?_
    refine e_iload dL_law_1401 rfl ?_
    refine e_iconst (v := 1) dL_law_1403 rfl ?_
    refine e_iadd dL_law_1404 ?_
    refine e_ialX (k := 0) dL_law_1405 (by decide) x1 ?_
    refine e_aload_n dL_law_1406 rfl ?_
    refine e_iload dL_law_1407 rfl ?_
    refine e_iconst (v := 2) dL_law_1409 rfl ?_
    refine e_iadd dL_law_1410 ?_
    refine e_ialX (k := 0) dL_law_1411 (by decide) x2 ?_
    refine e_aload_n dL_law_1412 rfl ?_
    refine e_iload dL_law_1413 rfl ?_
    refine e_iconst (v := 3) dL_law_1415 rfl ?_
    refine e_iadd dL_law_1416 ?_
    refine e_ialX (k := 0) dL_law_1417 (by decide) x3 ?_
    refine e_if_eq dL_law_1418 1425 ⟨by decide, by decide⟩ (fun hz => absurd hz hb) (fun _ => ?_)
    refine e_iconst (v := 1) dL_law_1421 rfl ?_
    refine e_goto dL_law_1422 1426 ⟨by decide, by decide⟩ ?_
    refine e_aload_n dL_law_1426 rfl ?_
    refine f_cSi dL_law_1427 rfl rfl rfl rfl (fun Q' hQ' => E_L_packs e1 hQ') ?_
    refine e_istore dL_law_1430 (Nat.le_of_ble_eq_true rfl) rfl ?_
    refine e_aload_n dL_law_1432 rfl ?_
    refine e_aload_n dL_law_1433 rfl ?_
    refine e_iload dL_law_1434 rfl ?_
    refine e_iconst (v := 1) dL_law_1436 rfl ?_
    refine e_iadd dL_law_1437 ?_
    refine e_ialX (k := 0) dL_law_1438 (by decide) x1 ?_
    refine e_aload_n dL_law_1439 rfl ?_
    refine e_iload dL_law_1440 rfl ?_
    refine e_iconst (v := 2) dL_law_1442 rfl ?_
    refine e_iadd dL_law_1443 ?_
    refine e_ialX (k := 0) dL_law_1444 (by decide) x2 ?_
    refine e_aload_n dL_law_1445 rfl ?_
    refine e_iload dL_law_1446 rfl ?_
    refine e_iconst (v := 3) dL_law_1448 rfl ?_
    refine e_iadd dL_law_1449 ?_
    refine e_ialX (k := 0) dL_law_1450 (by decide) x3 ?_
    refine e_if_eq dL_law_1451 1458 ⟨by decide, by decide⟩ (fun hz => absurd hz hb) (fun _ => ?_)
    refine e_iconst (v := 1) dL_law_1454 rfl ?_
    refine e_goto dL_law_1455 1459 ⟨by decide, by decide⟩ ?_
    refine f_cVi dL_law_1459 rfl rfl ⟨rfl, rfl, by decide⟩ rfl ⟨s1.1, s1.2.1⟩ (fun Q' hQ' => E_X13_packs s1 e2 hQ') ?_
    refine e_istore dL_law_1462 (Nat.le_of_ble_eq_true rfl) rfl ?_
    refine e_aload_n dL_law_1464 rfl ?_
    refine f_cVi (x := mI μ2 65 0) (μ1 := μ2) dL_law_1465 rfl rfl ⟨rfl, rfl, by decide⟩ rfl ⟨s2.1.1, s2.1.2.1⟩ (fun Q' hQ' => E_X13_thrown s2.1 rfl hQ') ?_
    refine e_iload dL_law_1468 rfl ?_
    refine e_ic_eq dL_law_1470 1475 ⟨by decide, by decide⟩ (fun _ => ?_) (fun hn => absurd p1 hn)
    refine e_iload dL_law_1475 rfl ?_
    refine e_if_ne dL_law_1477 1492 ⟨by decide, by decide⟩ (fun _ => ?_) (fun c => ?_)
    · refine e_goto dL_law_1492 2839 ⟨by decide, by decide⟩ ?_
      exact K _ _ _ hN
    have p3 := p2 (Classical.not_not.mp c)
    refine e_aload_n dL_law_1480 rfl ?_
    refine e_iconst (v := 0) dL_law_1481 rfl ?_
    refine e_laG dL_law_1482 (s_o112 s2) ?_
    refine e_iload dL_law_1483 rfl ?_
    refine e_i2l dL_law_1485 ?_
    refine e_lcmp dL_law_1486 ?_
    refine e_if_eq dL_law_1487 1492 ⟨by decide, by decide⟩ (fun _ => ?_) (fun hn => absurd (lg_eq p3) hn)
    refine e_goto dL_law_1492 2839 ⟨by decide, by decide⟩ ?_
    exact K _ _ _ hN
theorem W_house {X : p_X} {d : Nat} {Q : p_R → Prop} {μ : p_M} {i : Int32} {u w : Value} (h : Core μ) (hE : mN μ + 8 < p_E) (hX1 : oX1 X) (hX2 : oX2 X) (hx : Ix X i) (K : lwK X d Q i μ) : p_Ev X (d + 16) M_L_law 1495 (lwL i u w) [] μ Q := by
  obtain ⟨x0, x1, x2, x3, x4, x5, x6, x7⟩ := hx
  obtain ⟨k, μ1, e1, h1⟩ := wp_get (K_house hX1 h)
  obtain ⟨b, μ2, e2, hq⟩ := wp_get h1
  obtain ⟨p1, p2, hN⟩ := hq
  have s2 := hN.1.1
  have s1 : ShM μ1 := ShM_back (P_X13_house e2) s2.1
  have s0 := s_o0 h.1
  refine e_aload_n dL_law_1495 rfl ?_
  refine e_aload_n dL_law_1496 rfl ?_
  refine f_cSi dL_law_1497 rfl rfl rfl rfl (fun Q' hQ' => E_L_house e1 hQ') ?_
  refine e_istore dL_law_1500 (Nat.le_of_ble_eq_true rfl) rfl ?_
  refine e_aload_n dL_law_1502 rfl ?_
  refine f_cVi dL_law_1503 rfl rfl ⟨rfl, rfl, by decide⟩ rfl ⟨s1.1, s1.2.1⟩ (fun Q' hQ' => E_X13_house s1 e2 hQ') ?_
  refine e_istore dL_law_1506 (Nat.le_of_ble_eq_true rfl) rfl ?_
  refine e_aload_n dL_law_1508 rfl ?_
  refine f_cVi (x := mI μ2 65 0) (μ1 := μ2) dL_law_1509 rfl rfl ⟨rfl, rfl, by decide⟩ rfl ⟨s2.1.1, s2.1.2.1⟩ (fun Q' hQ' => E_X13_thrown s2.1 rfl hQ') ?_
  refine e_iload dL_law_1512 rfl ?_
  refine e_ic_eq dL_law_1514 1519 ⟨by decide, by decide⟩ (fun _ => ?_) (fun hn => absurd p1 hn)
  refine e_iload dL_law_1519 rfl ?_
  refine e_if_ne dL_law_1521 1536 ⟨by decide, by decide⟩ (fun _ => ?_) (fun c => ?_)
  · refine e_goto dL_law_1536 2839 ⟨by decide, by decide⟩ ?_
    exact K _ _ _ hN
  have p3 := p2 (Classical.not_not.mp c)
  refine e_aload_n dL_law_1524 rfl ?_
  refine e_iconst (v := 0) dL_law_1525 rfl ?_
  refine e_laG dL_law_1526 (s_o112 s2) ?_
  refine e_iload dL_law_1527 rfl ?_
  refine e_i2l dL_law_1529 ?_
  refine e_lcmp dL_law_1530 ?_
  refine e_if_eq dL_law_1531 1536 ⟨by decide, by decide⟩ (fun _ => ?_) (fun hn => absurd (lg_eq p3) hn)
  refine e_goto dL_law_1536 2839 ⟨by decide, by decide⟩ ?_
  exact K _ _ _ hN
theorem W_tells {X : p_X} {d : Nat} {Q : p_R → Prop} {μ : p_M} {i : Int32} {u w : Value} (h : Core μ) (hE : mN μ + 8 < p_E) (hX1 : oX1 X) (hX2 : oX2 X) (hx : Ix X i) (K : lwK X d Q i μ) : p_Ev X (d + 16) M_L_law 1539 (lwL i u w) [] μ Q := by
  obtain ⟨x0, x1, x2, x3, x4, x5, x6, x7⟩ := hx
  obtain ⟨k, μ1, e1, h1⟩ := wp_get (K_tells h ((X 0).2 (i + 1).toNatClampNeg))
  obtain ⟨b, μ2, e2, hq⟩ := wp_get h1
  obtain ⟨p1, p2, hN⟩ := hq
  have s2 := hN.1.1
  have s1 : ShM μ1 := ShM_back (P_X13_tells e2) s2.1
  have s0 := s_o0 h.1
  refine e_aload_n dL_law_1539 rfl ?_
  refine e_aload_n dL_law_1540 rfl ?_
  refine e_iload dL_law_1541 rfl ?_
  refine e_iconst (v := 1) dL_law_1543 rfl ?_
  refine e_iadd dL_law_1544 ?_
  refine e_ialX (k := 0) dL_law_1545 (by decide) x1 ?_
  refine e_aload_n dL_law_1546 rfl ?_
  refine f_cSi dL_law_1547 rfl rfl rfl rfl (fun Q' hQ' => E_L_tells e1 hQ') ?_
  refine e_istore dL_law_1550 (Nat.le_of_ble_eq_true rfl) rfl ?_
  refine e_aload_n dL_law_1552 rfl ?_
  refine e_aload_n dL_law_1553 rfl ?_
  refine e_iload dL_law_1554 rfl ?_
  refine e_iconst (v := 1) dL_law_1556 rfl ?_
  refine e_iadd dL_law_1557 ?_
  refine e_ialX (k := 0) dL_law_1558 (by decide) x1 ?_
  refine f_cVi dL_law_1559 rfl rfl ⟨rfl, rfl, by decide⟩ rfl ⟨s1.1, s1.2.1⟩ (fun Q' hQ' => E_X13_tells s1 e2 hQ') ?_
  refine e_istore dL_law_1562 (Nat.le_of_ble_eq_true rfl) rfl ?_
  refine e_aload_n dL_law_1564 rfl ?_
  refine f_cVi (x := mI μ2 65 0) (μ1 := μ2) dL_law_1565 rfl rfl ⟨rfl, rfl, by decide⟩ rfl ⟨s2.1.1, s2.1.2.1⟩ (fun Q' hQ' => E_X13_thrown s2.1 rfl hQ') ?_
  refine e_iload dL_law_1568 rfl ?_
  refine e_ic_eq dL_law_1570 1575 ⟨by decide, by decide⟩ (fun _ => ?_) (fun hn => absurd p1 hn)
  refine e_iload dL_law_1575 rfl ?_
  refine e_if_ne dL_law_1577 1592 ⟨by decide, by decide⟩ (fun _ => ?_) (fun c => ?_)
  · refine e_goto dL_law_1592 2839 ⟨by decide, by decide⟩ ?_
    exact K _ _ _ hN
  have p3 := p2 (Classical.not_not.mp c)
  refine e_aload_n dL_law_1580 rfl ?_
  refine e_iconst (v := 0) dL_law_1581 rfl ?_
  refine e_laG dL_law_1582 (s_o112 s2) ?_
  refine e_iload dL_law_1583 rfl ?_
  refine e_i2l dL_law_1585 ?_
  refine e_lcmp dL_law_1586 ?_
  refine e_if_eq dL_law_1587 1592 ⟨by decide, by decide⟩ (fun _ => ?_) (fun hn => absurd (lg_eq p3) hn)
  refine e_goto dL_law_1592 2839 ⟨by decide, by decide⟩ ?_
  exact K _ _ _ hN
theorem W_machine {X : p_X} {d : Nat} {Q : p_R → Prop} {μ : p_M} {i : Int32} {u w : Value} (h : Core μ) (hE : mN μ + 8 < p_E) (hX1 : oX1 X) (hX2 : oX2 X) (hx : Ix X i) (K : lwK X d Q i μ) : p_Ev X (d + 16) M_L_law 1595 (lwL i u w) [] μ Q := by
  obtain ⟨x0, x1, x2, x3, x4, x5, x6, x7⟩ := hx
  obtain ⟨k, μ1, e1, h1⟩ := wp_get (K_machine h ((X 0).2 (i + 1).toNatClampNeg))
  obtain ⟨b, μ2, e2, hq⟩ := wp_get h1
  obtain ⟨p1, p2, hN⟩ := hq
  have s2 := hN.1.1
  have s1 : ShM μ1 := ShM_back (P_X13_machine e2) s2.1
  have s0 := s_o0 h.1
  refine e_aload_n dL_law_1595 rfl ?_
  refine e_aload_n dL_law_1596 rfl ?_
  refine e_iload dL_law_1597 rfl ?_
  refine e_iconst (v := 1) dL_law_1599 rfl ?_
  refine e_iadd dL_law_1600 ?_
  refine e_ialX (k := 0) dL_law_1601 (by decide) x1 ?_
  refine e_aload_n dL_law_1602 rfl ?_
  refine f_cSi dL_law_1603 rfl rfl rfl rfl (fun Q' hQ' => E_L_machine e1 hQ') ?_
  refine e_istore dL_law_1606 (Nat.le_of_ble_eq_true rfl) rfl ?_
  refine e_aload_n dL_law_1608 rfl ?_
  refine e_aload_n dL_law_1609 rfl ?_
  refine e_iload dL_law_1610 rfl ?_
  refine e_iconst (v := 1) dL_law_1612 rfl ?_
  refine e_iadd dL_law_1613 ?_
  refine e_ialX (k := 0) dL_law_1614 (by decide) x1 ?_
  refine f_cVi dL_law_1615 rfl rfl ⟨rfl, rfl, by decide⟩ rfl ⟨s1.1, s1.2.1⟩ (fun Q' hQ' => E_X13_machine s1 e2 hQ') ?_
  refine e_istore dL_law_1618 (Nat.le_of_ble_eq_true rfl) rfl ?_
  refine e_aload_n dL_law_1620 rfl ?_
  refine f_cVi (x := mI μ2 65 0) (μ1 := μ2) dL_law_1621 rfl rfl ⟨rfl, rfl, by decide⟩ rfl ⟨s2.1.1, s2.1.2.1⟩ (fun Q' hQ' => E_X13_thrown s2.1 rfl hQ') ?_
  refine e_iload dL_law_1624 rfl ?_
  refine e_ic_eq dL_law_1626 1631 ⟨by decide, by decide⟩ (fun _ => ?_) (fun hn => absurd p1 hn)
  refine e_iload dL_law_1631 rfl ?_
  refine e_if_ne dL_law_1633 1648 ⟨by decide, by decide⟩ (fun _ => ?_) (fun c => ?_)
  · refine e_goto dL_law_1648 2839 ⟨by decide, by decide⟩ ?_
    exact K _ _ _ hN
  have p3 := p2 (Classical.not_not.mp c)
  refine e_aload_n dL_law_1636 rfl ?_
  refine e_iconst (v := 0) dL_law_1637 rfl ?_
  refine e_laG dL_law_1638 (s_o112 s2) ?_
  refine e_iload dL_law_1639 rfl ?_
  refine e_i2l dL_law_1641 ?_
  refine e_lcmp dL_law_1642 ?_
  refine e_if_eq dL_law_1643 1648 ⟨by decide, by decide⟩ (fun _ => ?_) (fun hn => absurd (lg_eq p3) hn)
  refine e_goto dL_law_1648 2839 ⟨by decide, by decide⟩ ?_
  exact K _ _ _ hN
theorem W_lot {X : p_X} {d : Nat} {Q : p_R → Prop} {μ : p_M} {i : Int32} {u w : Value} (h : Core μ) (hE : mN μ + 8 < p_E) (hX1 : oX1 X) (hX2 : oX2 X) (hx : Ix X i) (K : lwK X d Q i μ) : p_Ev X (d + 16) M_L_law 1651 (lwL i u w) [] μ Q := by
  obtain ⟨x0, x1, x2, x3, x4, x5, x6, x7⟩ := hx
  obtain ⟨k, μ1, e1, h1⟩ := wp_get (K_lot h hE ((X 0).2 (i + 1).toNatClampNeg) ((X 0).2 (i + 2).toNatClampNeg) ((X 0).2 (i + 3).toNatClampNeg) ((X 0).2 (i + 4).toNatClampNeg) ((X 0).2 (i + 5).toNatClampNeg) ((X 0).2 (i + 6).toNatClampNeg) ((X 0).2 (i + 7).toNatClampNeg))
  obtain ⟨b, μ2, e2, hq⟩ := wp_get h1
  obtain ⟨p1, p2, hN⟩ := hq
  have s2 := hN.1.1
  have s1 : ShM μ1 := ShM_back (P_X13_lot e2) s2.1
  have s0 := s_o0 h.1
  refine e_aload_n dL_law_1651 rfl ?_
  refine e_aload_n dL_law_1652 rfl ?_
  refine e_iload dL_law_1653 rfl ?_
  refine e_iconst (v := 1) dL_law_1655 rfl ?_
  refine e_iadd dL_law_1656 ?_
  refine e_ialX (k := 0) dL_law_1657 (by decide) x1 ?_
  refine e_aload_n dL_law_1658 rfl ?_
  refine e_iload dL_law_1659 rfl ?_
  refine e_iconst (v := 2) dL_law_1661 rfl ?_
  refine e_iadd dL_law_1662 ?_
  refine e_ialX (k := 0) dL_law_1663 (by decide) x2 ?_
  refine e_aload_n dL_law_1664 rfl ?_
  refine e_iload dL_law_1665 rfl ?_
  refine e_iconst (v := 3) dL_law_1667 rfl ?_
  refine e_iadd dL_law_1668 ?_
  refine e_ialX (k := 0) dL_law_1669 (by decide) x3 ?_
  refine e_aload_n dL_law_1670 rfl ?_
  refine e_iload dL_law_1671 rfl ?_
  refine e_iconst (v := 4) dL_law_1673 rfl ?_
  refine e_iadd dL_law_1674 ?_
  refine e_ialX (k := 0) dL_law_1675 (by decide) x4 ?_
  refine e_aload_n dL_law_1676 rfl ?_
  refine e_iload dL_law_1677 rfl ?_
  refine e_iconst (v := 5) dL_law_1679 rfl ?_
  refine e_iadd dL_law_1680 ?_
  refine e_ialX (k := 0) dL_law_1681 (by decide) x5 ?_
  refine e_aload_n dL_law_1682 rfl ?_
  refine e_iload dL_law_1683 rfl ?_
  refine e_bipush (v := 6) dL_law_1685 rfl ?_
  refine e_iadd dL_law_1687 ?_
  refine e_ialX (k := 0) dL_law_1688 (by decide) x6 ?_
  refine e_aload_n dL_law_1689 rfl ?_
  refine e_iload dL_law_1690 rfl ?_
  refine e_bipush (v := 7) dL_law_1692 rfl ?_
  refine e_iadd dL_law_1694 ?_
  refine e_ialX (k := 0) dL_law_1695 (by decide) x7 ?_
  refine e_aload_n dL_law_1696 rfl ?_
  refine f_cSi dL_law_1697 rfl rfl rfl rfl (fun Q' hQ' => E_L_lot e1 hQ') ?_
  refine e_istore dL_law_1700 (Nat.le_of_ble_eq_true rfl) rfl ?_
  refine e_aload_n dL_law_1702 rfl ?_
  refine e_aload_n dL_law_1703 rfl ?_
  refine e_iload dL_law_1704 rfl ?_
  refine e_iconst (v := 1) dL_law_1706 rfl ?_
  refine e_iadd dL_law_1707 ?_
  refine e_ialX (k := 0) dL_law_1708 (by decide) x1 ?_
  refine e_aload_n dL_law_1709 rfl ?_
  refine e_iload dL_law_1710 rfl ?_
  refine e_iconst (v := 2) dL_law_1712 rfl ?_
  refine e_iadd dL_law_1713 ?_
  refine e_ialX (k := 0) dL_law_1714 (by decide) x2 ?_
  refine e_aload_n dL_law_1715 rfl ?_
  refine e_iload dL_law_1716 rfl ?_
  refine e_iconst (v := 3) dL_law_1718 rfl ?_
  refine e_iadd dL_law_1719 ?_
  refine e_ialX (k := 0) dL_law_1720 (by decide) x3 ?_
  refine e_aload_n dL_law_1721 rfl ?_
  refine e_iload dL_law_1722 rfl ?_
  refine e_iconst (v := 4) dL_law_1724 rfl ?_
  refine e_iadd dL_law_1725 ?_
  refine e_ialX (k := 0) dL_law_1726 (by decide) x4 ?_
  refine e_aload_n dL_law_1727 rfl ?_
  refine e_iload dL_law_1728 rfl ?_
  refine e_iconst (v := 5) dL_law_1730 rfl ?_
  refine e_iadd dL_law_1731 ?_
  refine e_ialX (k := 0) dL_law_1732 (by decide) x5 ?_
  refine e_aload_n dL_law_1733 rfl ?_
  refine e_iload dL_law_1734 rfl ?_
  refine e_bipush (v := 6) dL_law_1736 rfl ?_
  refine e_iadd dL_law_1738 ?_
  refine e_ialX (k := 0) dL_law_1739 (by decide) x6 ?_
  refine e_aload_n dL_law_1740 rfl ?_
  refine e_iload dL_law_1741 rfl ?_
  refine e_bipush (v := 7) dL_law_1743 rfl ?_
  refine e_iadd dL_law_1745 ?_
  refine e_ialX (k := 0) dL_law_1746 (by decide) x7 ?_
  refine f_cVi dL_law_1747 rfl rfl ⟨rfl, rfl, by decide⟩ rfl ⟨s1.1, s1.2.1⟩ (fun Q' hQ' => E_X13_lot s1 e2 hQ') ?_
  refine e_istore dL_law_1750 (Nat.le_of_ble_eq_true rfl) rfl ?_
  refine e_aload_n dL_law_1752 rfl ?_
  refine f_cVi (x := mI μ2 65 0) (μ1 := μ2) dL_law_1753 rfl rfl ⟨rfl, rfl, by decide⟩ rfl ⟨s2.1.1, s2.1.2.1⟩ (fun Q' hQ' => E_X13_thrown s2.1 rfl hQ') ?_
  refine e_iload dL_law_1756 rfl ?_
  refine e_ic_eq dL_law_1758 1763 ⟨by decide, by decide⟩ (fun _ => ?_) (fun hn => absurd p1 hn)
  refine e_iload dL_law_1763 rfl ?_
  refine e_if_ne dL_law_1765 1780 ⟨by decide, by decide⟩ (fun _ => ?_) (fun c => ?_)
  · refine e_goto dL_law_1780 2839 ⟨by decide, by decide⟩ ?_
    exact K _ _ _ hN
  have p3 := p2 (Classical.not_not.mp c)
  refine e_aload_n dL_law_1768 rfl ?_
  refine e_iconst (v := 0) dL_law_1769 rfl ?_
  refine e_laG dL_law_1770 (s_o112 s2) ?_
  refine e_iload dL_law_1771 rfl ?_
  refine e_i2l dL_law_1773 ?_
  refine e_lcmp dL_law_1774 ?_
  refine e_if_eq dL_law_1775 1780 ⟨by decide, by decide⟩ (fun _ => ?_) (fun hn => absurd (lg_eq p3) hn)
  refine e_goto dL_law_1780 2839 ⟨by decide, by decide⟩ ?_
  exact K _ _ _ hN
theorem W_load {X : p_X} {d : Nat} {Q : p_R → Prop} {μ : p_M} {i : Int32} {u w : Value} (h : Core μ) (hE : mN μ + 8 < p_E) (hX1 : oX1 X) (hX2 : oX2 X) (hx : Ix X i) (K : lwK X d Q i μ) : p_Ev X (d + 16) M_L_law 1783 (lwL i u w) [] μ Q := by
  obtain ⟨x0, x1, x2, x3, x4, x5, x6, x7⟩ := hx
  obtain ⟨k, μ1, e1, h1⟩ := wp_get (K_load h ((X 0).2 (i + 1).toNatClampNeg) ((X 0).2 (i + 2).toNatClampNeg))
  obtain ⟨b, μ2, e2, hq⟩ := wp_get h1
  obtain ⟨p1, p2, hN⟩ := hq
  have s2 := hN.1.1
  have s1 : ShM μ1 := ShM_back (P_X13_load e2) s2.1
  have s0 := s_o0 h.1
  refine e_aload_n dL_law_1783 rfl ?_
  refine e_aload_n dL_law_1784 rfl ?_
  refine e_iload dL_law_1785 rfl ?_
  refine e_iconst (v := 1) dL_law_1787 rfl ?_
  refine e_iadd dL_law_1788 ?_
  refine e_ialX (k := 0) dL_law_1789 (by decide) x1 ?_
  refine e_aload_n dL_law_1790 rfl ?_
  refine e_iload dL_law_1791 rfl ?_
  refine e_iconst (v := 2) dL_law_1793 rfl ?_
  refine e_iadd dL_law_1794 ?_
  refine e_ialX (k := 0) dL_law_1795 (by decide) x2 ?_
  refine e_aload_n dL_law_1796 rfl ?_
  refine f_cSi dL_law_1797 rfl rfl rfl rfl (fun Q' hQ' => E_L_load e1 hQ') ?_
  refine e_istore dL_law_1800 (Nat.le_of_ble_eq_true rfl) rfl ?_
  refine e_aload_n dL_law_1802 rfl ?_
  refine e_aload_n dL_law_1803 rfl ?_
  refine e_iload dL_law_1804 rfl ?_
  refine e_iconst (v := 1) dL_law_1806 rfl ?_
  refine e_iadd dL_law_1807 ?_
  refine e_ialX (k := 0) dL_law_1808 (by decide) x1 ?_
  refine e_aload_n dL_law_1809 rfl ?_
  refine e_iload dL_law_1810 rfl ?_
  refine e_iconst (v := 2) dL_law_1812 rfl ?_
  refine e_iadd dL_law_1813 ?_
  refine e_ialX (k := 0) dL_law_1814 (by decide) x2 ?_
  refine f_cVi dL_law_1815 rfl rfl ⟨rfl, rfl, by decide⟩ rfl ⟨s1.1, s1.2.1⟩ (fun Q' hQ' => E_X13_load s1 e2 hQ') ?_
  refine e_istore dL_law_1818 (Nat.le_of_ble_eq_true rfl) rfl ?_
  refine e_aload_n dL_law_1820 rfl ?_
  refine f_cVi (x := mI μ2 65 0) (μ1 := μ2) dL_law_1821 rfl rfl ⟨rfl, rfl, by decide⟩ rfl ⟨s2.1.1, s2.1.2.1⟩ (fun Q' hQ' => E_X13_thrown s2.1 rfl hQ') ?_
  refine e_iload dL_law_1824 rfl ?_
  refine e_ic_eq dL_law_1826 1831 ⟨by decide, by decide⟩ (fun _ => ?_) (fun hn => absurd p1 hn)
  refine e_iload dL_law_1831 rfl ?_
  refine e_if_ne dL_law_1833 1855 ⟨by decide, by decide⟩ (fun _ => ?_) (fun c => ?_)
  · refine e_goto dL_law_1855 2839 ⟨by decide, by decide⟩ ?_
    exact K _ _ _ hN
  have p3 := p2 (Classical.not_not.mp c)
  refine e_aload_n dL_law_1836 rfl ?_
  refine e_iconst (v := 0) dL_law_1837 rfl ?_
  refine e_laG dL_law_1838 (s_o112 s2) ?_
  refine e_iload dL_law_1839 rfl ?_
  refine e_if_eq dL_law_1841 1848 ⟨by decide, by decide⟩ (fun hb => ?_) (fun hb => ?_)
  · have p4 := p3.trans (if_pos hb)
    refine e_lconst (v := 0) dL_law_1848 rfl ?_
    refine e_lcmp dL_law_1849 ?_
    refine e_if_eq dL_law_1850 1855 ⟨by decide, by decide⟩ (fun _ => ?_) (fun hn => absurd (lg_eq p4) hn)
    refine e_goto dL_law_1855 2839 ⟨by decide, by decide⟩ ?_
    exact K _ _ _ hN
  · have p4 := p3.trans (if_neg hb)
    refine e_lconst (v := 1) dL_law_1844 rfl ?_
    refine e_goto dL_law_1845 1849 ⟨by decide, by decide⟩ ?_
    refine e_lcmp dL_law_1849 ?_
    refine e_if_eq dL_law_1850 1855 ⟨by decide, by decide⟩ (fun _ => ?_) (fun hn => absurd (lg_eq p4) hn)
    refine e_goto dL_law_1855 2839 ⟨by decide, by decide⟩ ?_
    exact K _ _ _ hN
theorem W_days {X : p_X} {d : Nat} {Q : p_R → Prop} {μ : p_M} {i : Int32} {u w : Value} (h : Core μ) (hE : mN μ + 8 < p_E) (hX1 : oX1 X) (hX2 : oX2 X) (hx : Ix X i) (K : lwK X d Q i μ) : p_Ev X (d + 16) M_L_law 1858 (lwL i u w) [] μ Q := by
  obtain ⟨x0, x1, x2, x3, x4, x5, x6, x7⟩ := hx
  obtain ⟨k, μ1, e1, h1⟩ := wp_get (K_days h ((X 0).2 (i + 1).toNatClampNeg))
  obtain ⟨b, μ2, e2, hq⟩ := wp_get h1
  obtain ⟨p1, p2, hN⟩ := hq
  have s2 := hN.1.1
  have s1 : ShM μ1 := ShM_back (P_X13_days e2) s2.1
  have s0 := s_o0 h.1
  refine e_aload_n dL_law_1858 rfl ?_
  refine e_aload_n dL_law_1859 rfl ?_
  refine e_iload dL_law_1860 rfl ?_
  refine e_iconst (v := 1) dL_law_1862 rfl ?_
  refine e_iadd dL_law_1863 ?_
  refine e_ialX (k := 0) dL_law_1864 (by decide) x1 ?_
  refine e_aload_n dL_law_1865 rfl ?_
  refine f_cSi dL_law_1866 rfl rfl rfl rfl (fun Q' hQ' => E_L_days e1 hQ') ?_
  refine e_istore dL_law_1869 (Nat.le_of_ble_eq_true rfl) rfl ?_
  refine e_aload_n dL_law_1871 rfl ?_
  refine e_aload_n dL_law_1872 rfl ?_
  refine e_iload dL_law_1873 rfl ?_
  refine e_iconst (v := 1) dL_law_1875 rfl ?_
  refine e_iadd dL_law_1876 ?_
  refine e_ialX (k := 0) dL_law_1877 (by decide) x1 ?_
  refine f_cVi dL_law_1878 rfl rfl ⟨rfl, rfl, by decide⟩ rfl ⟨s1.1, s1.2.1⟩ (fun Q' hQ' => E_X13_days s1 e2 hQ') ?_
  refine e_istore dL_law_1881 (Nat.le_of_ble_eq_true rfl) rfl ?_
  refine e_aload_n dL_law_1883 rfl ?_
  refine f_cVi (x := mI μ2 65 0) (μ1 := μ2) dL_law_1884 rfl rfl ⟨rfl, rfl, by decide⟩ rfl ⟨s2.1.1, s2.1.2.1⟩ (fun Q' hQ' => E_X13_thrown s2.1 rfl hQ') ?_
  refine e_iload dL_law_1887 rfl ?_
  refine e_ic_eq dL_law_1889 1894 ⟨by decide, by decide⟩ (fun _ => ?_) (fun hn => absurd p1 hn)
  refine e_iload dL_law_1894 rfl ?_
  refine e_if_ne dL_law_1896 1911 ⟨by decide, by decide⟩ (fun _ => ?_) (fun c => ?_)
  · refine e_goto dL_law_1911 2839 ⟨by decide, by decide⟩ ?_
    exact K _ _ _ hN
  have p3 := p2 (Classical.not_not.mp c)
  refine e_aload_n dL_law_1899 rfl ?_
  refine e_iconst (v := 0) dL_law_1900 rfl ?_
  refine e_laG dL_law_1901 (s_o112 s2) ?_
  refine e_iload dL_law_1902 rfl ?_
  refine e_i2l dL_law_1904 ?_
  refine e_lcmp dL_law_1905 ?_
  refine e_if_eq dL_law_1906 1911 ⟨by decide, by decide⟩ (fun _ => ?_) (fun hn => absurd (lg_eq p3) hn)
  refine e_goto dL_law_1911 2839 ⟨by decide, by decide⟩ ?_
  exact K _ _ _ hN
theorem W_led {X : p_X} {d : Nat} {Q : p_R → Prop} {μ : p_M} {i : Int32} {u w : Value} (h : Core μ) (hE : mN μ + 8 < p_E) (hX1 : oX1 X) (hX2 : oX2 X) (hx : Ix X i) (K : lwK X d Q i μ) : p_Ev X (d + 16) M_L_law 1914 (lwL i u w) [] μ Q := by
  obtain ⟨x0, x1, x2, x3, x4, x5, x6, x7⟩ := hx
  obtain ⟨k, μ1, e1, h1⟩ := wp_get (K_led h ((X 0).2 (i + 1).toNatClampNeg) ((X 0).2 (i + 2).toNatClampNeg))
  obtain ⟨b, μ2, e2, hq⟩ := wp_get h1
  obtain ⟨p1, p2, hN⟩ := hq
  have s2 := hN.1.1
  have s1 : ShM μ1 := ShM_back (P_X13_led e2) s2.1
  have s0 := s_o0 h.1
  refine e_aload_n dL_law_1914 rfl ?_
  refine e_aload_n dL_law_1915 rfl ?_
  refine e_iload dL_law_1916 rfl ?_
  refine e_iconst (v := 1) dL_law_1918 rfl ?_
  refine e_iadd dL_law_1919 ?_
  refine e_ialX (k := 0) dL_law_1920 (by decide) x1 ?_
  refine e_aload_n dL_law_1921 rfl ?_
  refine e_iload dL_law_1922 rfl ?_
  refine e_iconst (v := 2) dL_law_1924 rfl ?_
  refine e_iadd dL_law_1925 ?_
  refine e_ialX (k := 0) dL_law_1926 (by decide) x2 ?_
  refine e_aload_n dL_law_1927 rfl ?_
  refine f_cSi dL_law_1928 rfl rfl rfl rfl (fun Q' hQ' => E_L_led e1 hQ') ?_
  refine e_istore dL_law_1931 (Nat.le_of_ble_eq_true rfl) rfl ?_
  refine e_aload_n dL_law_1933 rfl ?_
  refine e_aload_n dL_law_1934 rfl ?_
  refine e_iload dL_law_1935 rfl ?_
  refine e_iconst (v := 1) dL_law_1937 rfl ?_
  refine e_iadd dL_law_1938 ?_
  refine e_ialX (k := 0) dL_law_1939 (by decide) x1 ?_
  refine e_aload_n dL_law_1940 rfl ?_
  refine e_iload dL_law_1941 rfl ?_
  refine e_iconst (v := 2) dL_law_1943 rfl ?_
  refine e_iadd dL_law_1944 ?_
  refine e_ialX (k := 0) dL_law_1945 (by decide) x2 ?_
  refine f_cVi dL_law_1946 rfl rfl ⟨rfl, rfl, by decide⟩ rfl ⟨s1.1, s1.2.1⟩ (fun Q' hQ' => E_X13_led s1 e2 hQ') ?_
  refine e_istore dL_law_1949 (Nat.le_of_ble_eq_true rfl) rfl ?_
  refine e_aload_n dL_law_1951 rfl ?_
  refine f_cVi (x := mI μ2 65 0) (μ1 := μ2) dL_law_1952 rfl rfl ⟨rfl, rfl, by decide⟩ rfl ⟨s2.1.1, s2.1.2.1⟩ (fun Q' hQ' => E_X13_thrown s2.1 rfl hQ') ?_
  refine e_iload dL_law_1955 rfl ?_
  refine e_ic_eq dL_law_1957 1962 ⟨by decide, by decide⟩ (fun _ => ?_) (fun hn => absurd p1 hn)
  refine e_iload dL_law_1962 rfl ?_
  refine e_if_ne dL_law_1964 1979 ⟨by decide, by decide⟩ (fun _ => ?_) (fun c => ?_)
  · refine e_goto dL_law_1979 2839 ⟨by decide, by decide⟩ ?_
    exact K _ _ _ hN
  have p3 := p2 (Classical.not_not.mp c)
  refine e_aload_n dL_law_1967 rfl ?_
  refine e_iconst (v := 0) dL_law_1968 rfl ?_
  refine e_laG dL_law_1969 (s_o112 s2) ?_
  refine e_iload dL_law_1970 rfl ?_
  refine e_i2l dL_law_1972 ?_
  refine e_lcmp dL_law_1973 ?_
  refine e_if_eq dL_law_1974 1979 ⟨by decide, by decide⟩ (fun _ => ?_) (fun hn => absurd (lg_eq p3) hn)
  refine e_goto dL_law_1979 2839 ⟨by decide, by decide⟩ ?_
  exact K _ _ _ hN
theorem W_works {X : p_X} {d : Nat} {Q : p_R → Prop} {μ : p_M} {i : Int32} {u w : Value} (h : Core μ) (hE : mN μ + 8 < p_E) (hX1 : oX1 X) (hX2 : oX2 X) (hx : Ix X i) (K : lwK X d Q i μ) : p_Ev X (d + 16) M_L_law 1982 (lwL i u w) [] μ Q := by
  obtain ⟨x0, x1, x2, x3, x4, x5, x6, x7⟩ := hx
  obtain ⟨k, μ1, e1, h1⟩ := wp_get (K_works h ((X 0).2 (i + 1).toNatClampNeg) ((X 0).2 (i + 2).toNatClampNeg))
  obtain ⟨b, μ2, e2, hq⟩ := wp_get h1
  obtain ⟨p1, p2, hN⟩ := hq
  have s2 := hN.1.1
  have s1 : ShM μ1 := ShM_back (P_X13_works e2) s2.1
  have s0 := s_o0 h.1
  refine e_aload_n dL_law_1982 rfl ?_
  refine e_aload_n dL_law_1983 rfl ?_
  refine e_iload dL_law_1984 rfl ?_
  refine e_iconst (v := 1) dL_law_1986 rfl ?_
  refine e_iadd dL_law_1987 ?_
  refine e_ialX (k := 0) dL_law_1988 (by decide) x1 ?_
  refine e_aload_n dL_law_1989 rfl ?_
  refine e_iload dL_law_1990 rfl ?_
  refine e_iconst (v := 2) dL_law_1992 rfl ?_
  refine e_iadd dL_law_1993 ?_
  refine e_ialX (k := 0) dL_law_1994 (by decide) x2 ?_
  refine e_aload_n dL_law_1995 rfl ?_
  refine f_cSi dL_law_1996 rfl rfl rfl rfl (fun Q' hQ' => E_L_works e1 hQ') ?_
  refine e_istore dL_law_1999 (Nat.le_of_ble_eq_true rfl) rfl ?_
  refine e_aload_n dL_law_2001 rfl ?_
  refine e_aload_n dL_law_2002 rfl ?_
  refine e_iload dL_law_2003 rfl ?_
  refine e_iconst (v := 1) dL_law_2005 rfl ?_
  refine e_iadd dL_law_2006 ?_
  refine e_ialX (k := 0) dL_law_2007 (by decide) x1 ?_
  refine e_aload_n dL_law_2008 rfl ?_
  refine e_iload dL_law_2009 rfl ?_
  refine e_iconst (v := 2) dL_law_2011 rfl ?_
  refine e_iadd dL_law_2012 ?_
  refine e_ialX (k := 0) dL_law_2013 (by decide) x2 ?_
  refine f_cVi dL_law_2014 rfl rfl ⟨rfl, rfl, by decide⟩ rfl ⟨s1.1, s1.2.1⟩ (fun Q' hQ' => E_X13_works s1 e2 hQ') ?_
  refine e_istore dL_law_2017 (Nat.le_of_ble_eq_true rfl) rfl ?_
  refine e_aload_n dL_law_2019 rfl ?_
  refine f_cVi (x := mI μ2 65 0) (μ1 := μ2) dL_law_2020 rfl rfl ⟨rfl, rfl, by decide⟩ rfl ⟨s2.1.1, s2.1.2.1⟩ (fun Q' hQ' => E_X13_thrown s2.1 rfl hQ') ?_
  refine e_iload dL_law_2023 rfl ?_
  refine e_ic_eq dL_law_2025 2030 ⟨by decide, by decide⟩ (fun _ => ?_) (fun hn => absurd p1 hn)
  refine e_iload dL_law_2030 rfl ?_
  refine e_if_ne dL_law_2032 2047 ⟨by decide, by decide⟩ (fun _ => ?_) (fun c => ?_)
  · refine e_goto dL_law_2047 2839 ⟨by decide, by decide⟩ ?_
    exact K _ _ _ hN
  have p3 := p2 (Classical.not_not.mp c)
  refine e_aload_n dL_law_2035 rfl ?_
  refine e_iconst (v := 0) dL_law_2036 rfl ?_
  refine e_laG dL_law_2037 (s_o112 s2) ?_
  refine e_iload dL_law_2038 rfl ?_
  refine e_i2l dL_law_2040 ?_
  refine e_lcmp dL_law_2041 ?_
  refine e_if_eq dL_law_2042 2047 ⟨by decide, by decide⟩ (fun _ => ?_) (fun hn => absurd (lg_eq p3) hn)
  refine e_goto dL_law_2047 2839 ⟨by decide, by decide⟩ ?_
  exact K _ _ _ hN
theorem W_measure {X : p_X} {d : Nat} {Q : p_R → Prop} {μ : p_M} {i : Int32} {u w : Value} (h : Core μ) (hE : mN μ + 8 < p_E) (hX1 : oX1 X) (hX2 : oX2 X) (hx : Ix X i) (K : lwK X d Q i μ) : p_Ev X (d + 16) M_L_law 2050 (lwL i u w) [] μ Q := by
  obtain ⟨x0, x1, x2, x3, x4, x5, x6, x7⟩ := hx
  obtain ⟨k, μ1, e1, h1⟩ := wp_get (K_measure h ((X 0).2 (i + 1).toNatClampNeg) ((X 0).2 (i + 2).toNatClampNeg) ((X 0).2 (i + 3).toNatClampNeg))
  obtain ⟨b, μ2, e2, hq⟩ := wp_get h1
  obtain ⟨p1, p2, hN⟩ := hq
  have s2 := hN.1.1
  have s1 : ShM μ1 := ShM_back (P_X13_measure e2) s2.1
  have s0 := s_o0 h.1
  refine e_aload_n dL_law_2050 rfl ?_
  refine e_aload_n dL_law_2051 rfl ?_
  refine e_iload dL_law_2052 rfl ?_
  refine e_iconst (v := 1) dL_law_2054 rfl ?_
  refine e_iadd dL_law_2055 ?_
  refine e_ialX (k := 0) dL_law_2056 (by decide) x1 ?_
  refine e_aload_n dL_law_2057 rfl ?_
  refine e_iload dL_law_2058 rfl ?_
  refine e_iconst (v := 2) dL_law_2060 rfl ?_
  refine e_iadd dL_law_2061 ?_
  refine e_ialX (k := 0) dL_law_2062 (by decide) x2 ?_
  refine e_aload_n dL_law_2063 rfl ?_
  refine e_iload dL_law_2064 rfl ?_
  refine e_iconst (v := 3) dL_law_2066 rfl ?_
  refine e_iadd dL_law_2067 ?_
  refine e_ialX (k := 0) dL_law_2068 (by decide) x3 ?_
  refine e_aload_n dL_law_2069 rfl ?_
  refine f_cSi dL_law_2070 rfl rfl rfl rfl (fun Q' hQ' => E_L_measure e1 hQ') ?_
  refine e_istore dL_law_2073 (Nat.le_of_ble_eq_true rfl) rfl ?_
  refine e_aload_n dL_law_2075 rfl ?_
  refine e_aload_n dL_law_2076 rfl ?_
  refine e_iload dL_law_2077 rfl ?_
  refine e_iconst (v := 1) dL_law_2079 rfl ?_
  refine e_iadd dL_law_2080 ?_
  refine e_ialX (k := 0) dL_law_2081 (by decide) x1 ?_
  refine e_aload_n dL_law_2082 rfl ?_
  refine e_iload dL_law_2083 rfl ?_
  refine e_iconst (v := 2) dL_law_2085 rfl ?_
  refine e_iadd dL_law_2086 ?_
  refine e_ialX (k := 0) dL_law_2087 (by decide) x2 ?_
  refine e_aload_n dL_law_2088 rfl ?_
  refine e_iload dL_law_2089 rfl ?_
  refine e_iconst (v := 3) dL_law_2091 rfl ?_
  refine e_iadd dL_law_2092 ?_
  refine e_ialX (k := 0) dL_law_2093 (by decide) x3 ?_
  refine f_cVi dL_law_2094 rfl rfl ⟨rfl, rfl, by decide⟩ rfl ⟨s1.1, s1.2.1⟩ (fun Q' hQ' => E_X13_measure s1 e2 hQ') ?_
  refine e_istore dL_law_2097 (Nat.le_of_ble_eq_true rfl) rfl ?_
  refine e_aload_n dL_law_2099 rfl ?_
  refine f_cVi (x := mI μ2 65 0) (μ1 := μ2) dL_law_2100 rfl rfl ⟨rfl, rfl, by decide⟩ rfl ⟨s2.1.1, s2.1.2.1⟩ (fun Q' hQ' => E_X13_thrown s2.1 rfl hQ') ?_
  refine e_iload dL_law_2103 rfl ?_
  refine e_ic_eq dL_law_2105 2110 ⟨by decide, by decide⟩ (fun _ => ?_) (fun hn => absurd p1 hn)
  refine e_iload dL_law_2110 rfl ?_
  refine e_if_ne dL_law_2112 2127 ⟨by decide, by decide⟩ (fun _ => ?_) (fun c => ?_)
  · refine e_goto dL_law_2127 2839 ⟨by decide, by decide⟩ ?_
    exact K _ _ _ hN
  have p3 := p2 (Classical.not_not.mp c)
  refine e_aload_n dL_law_2115 rfl ?_
  refine e_iconst (v := 0) dL_law_2116 rfl ?_
  refine e_laG dL_law_2117 (s_o112 s2) ?_
  refine e_iload dL_law_2118 rfl ?_
  refine e_i2l dL_law_2120 ?_
  refine e_lcmp dL_law_2121 ?_
  refine e_if_eq dL_law_2122 2127 ⟨by decide, by decide⟩ (fun _ => ?_) (fun hn => absurd (lg_eq p3) hn)
  refine e_goto dL_law_2127 2839 ⟨by decide, by decide⟩ ?_
  exact K _ _ _ hN
theorem W_known {X : p_X} {d : Nat} {Q : p_R → Prop} {μ : p_M} {i : Int32} {u w : Value} (h : Core μ) (hE : mN μ + 8 < p_E) (hX1 : oX1 X) (hX2 : oX2 X) (hx : Ix X i) (K : lwK X d Q i μ) : p_Ev X (d + 16) M_L_law 2130 (lwL i u w) [] μ Q := by
  obtain ⟨x0, x1, x2, x3, x4, x5, x6, x7⟩ := hx
  obtain ⟨k, μ1, e1, h1⟩ := wp_get (K_known h ((X 0).2 (i + 1).toNatClampNeg) ((X 0).2 (i + 2).toNatClampNeg) ((X 0).2 (i + 3).toNatClampNeg))
  obtain ⟨b, μ2, e2, hq⟩ := wp_get h1
  obtain ⟨p1, p2, hN⟩ := hq
  have s2 := hN.1.1
  have s1 : ShM μ1 := ShM_back (P_X13_known e2) s2.1
  have s0 := s_o0 h.1
  refine e_aload_n dL_law_2130 rfl ?_
  refine e_aload_n dL_law_2131 rfl ?_
  refine e_iload dL_law_2132 rfl ?_
  refine e_iconst (v := 1) dL_law_2134 rfl ?_
  refine e_iadd dL_law_2135 ?_
  refine e_ialX (k := 0) dL_law_2136 (by decide) x1 ?_
  refine e_aload_n dL_law_2137 rfl ?_
  refine e_iload dL_law_2138 rfl ?_
  refine e_iconst (v := 2) dL_law_2140 rfl ?_
  refine e_iadd dL_law_2141 ?_
  refine e_ialX (k := 0) dL_law_2142 (by decide) x2 ?_
  refine e_aload_n dL_law_2143 rfl ?_
  refine e_iload dL_law_2144 rfl ?_
  refine e_iconst (v := 3) dL_law_2146 rfl ?_
  refine e_iadd dL_law_2147 ?_
  refine e_ialX (k := 0) dL_law_2148 (by decide) x3 ?_
  refine e_aload_n dL_law_2149 rfl ?_
  refine f_cSi dL_law_2150 rfl rfl rfl rfl (fun Q' hQ' => E_L_known e1 hQ') ?_
  refine e_istore dL_law_2153 (Nat.le_of_ble_eq_true rfl) rfl ?_
  refine e_aload_n dL_law_2155 rfl ?_
  refine e_aload_n dL_law_2156 rfl ?_
  refine e_iload dL_law_2157 rfl ?_
  refine e_iconst (v := 1) dL_law_2159 rfl ?_
  refine e_iadd dL_law_2160 ?_
  refine e_ialX (k := 0) dL_law_2161 (by decide) x1 ?_
  refine e_aload_n dL_law_2162 rfl ?_
  refine e_iload dL_law_2163 rfl ?_
  refine e_iconst (v := 2) dL_law_2165 rfl ?_
  refine e_iadd dL_law_2166 ?_
  refine e_ialX (k := 0) dL_law_2167 (by decide) x2 ?_
  refine e_aload_n dL_law_2168 rfl ?_
  refine e_iload dL_law_2169 rfl ?_
  refine e_iconst (v := 3) dL_law_2171 rfl ?_
  refine e_iadd dL_law_2172 ?_
  refine e_ialX (k := 0) dL_law_2173 (by decide) x3 ?_
  refine f_cVi dL_law_2174 rfl rfl ⟨rfl, rfl, by decide⟩ rfl ⟨s1.1, s1.2.1⟩ (fun Q' hQ' => E_X13_known s1 e2 hQ') ?_
  refine e_istore dL_law_2177 (Nat.le_of_ble_eq_true rfl) rfl ?_
  refine e_aload_n dL_law_2179 rfl ?_
  refine f_cVi (x := mI μ2 65 0) (μ1 := μ2) dL_law_2180 rfl rfl ⟨rfl, rfl, by decide⟩ rfl ⟨s2.1.1, s2.1.2.1⟩ (fun Q' hQ' => E_X13_thrown s2.1 rfl hQ') ?_
  refine e_iload dL_law_2183 rfl ?_
  refine e_ic_eq dL_law_2185 2190 ⟨by decide, by decide⟩ (fun _ => ?_) (fun hn => absurd p1 hn)
  refine e_iload dL_law_2190 rfl ?_
  refine e_if_ne dL_law_2192 2207 ⟨by decide, by decide⟩ (fun _ => ?_) (fun c => ?_)
  · refine e_goto dL_law_2207 2839 ⟨by decide, by decide⟩ ?_
    exact K _ _ _ hN
  have p3 := p2 (Classical.not_not.mp c)
  refine e_aload_n dL_law_2195 rfl ?_
  refine e_iconst (v := 0) dL_law_2196 rfl ?_
  refine e_laG dL_law_2197 (s_o112 s2) ?_
  refine e_iload dL_law_2198 rfl ?_
  refine e_i2l dL_law_2200 ?_
  refine e_lcmp dL_law_2201 ?_
  refine e_if_eq dL_law_2202 2207 ⟨by decide, by decide⟩ (fun _ => ?_) (fun hn => absurd (lg_eq p3) hn)
  refine e_goto dL_law_2207 2839 ⟨by decide, by decide⟩ ?_
  exact K _ _ _ hN
theorem W_sorted {X : p_X} {d : Nat} {Q : p_R → Prop} {μ : p_M} {i : Int32} {u w : Value} (h : Core μ) (hE : mN μ + 8 < p_E) (hX1 : oX1 X) (hX2 : oX2 X) (hx : Ix X i) (K : lwK X d Q i μ) : p_Ev X (d + 16) M_L_law 2210 (lwL i u w) [] μ Q := by
  obtain ⟨x0, x1, x2, x3, x4, x5, x6, x7⟩ := hx
  obtain ⟨k, μ1, e1, h1⟩ := wp_get (K_sorted h ((X 0).2 (i + 1).toNatClampNeg) ((X 0).2 (i + 2).toNatClampNeg) ((X 0).2 (i + 3).toNatClampNeg))
  obtain ⟨b, μ2, e2, hq⟩ := wp_get h1
  obtain ⟨p1, p2, hN⟩ := hq
  have s2 := hN.1.1
  have s1 : ShM μ1 := ShM_back (P_X13_sorted e2) s2.1
  have s0 := s_o0 h.1
  refine e_aload_n dL_law_2210 rfl ?_
  refine e_aload_n dL_law_2211 rfl ?_
  refine e_iload dL_law_2212 rfl ?_
  refine e_iconst (v := 1) dL_law_2214 rfl ?_
  refine e_iadd dL_law_2215 ?_
  refine e_ialX (k := 0) dL_law_2216 (by decide) x1 ?_
  refine e_aload_n dL_law_2217 rfl ?_
  refine e_iload dL_law_2218 rfl ?_
  refine e_iconst (v := 2) dL_law_2220 rfl ?_
  refine e_iadd dL_law_2221 ?_
  refine e_ialX (k := 0) dL_law_2222 (by decide) x2 ?_
  refine e_aload_n dL_law_2223 rfl ?_
  refine e_iload dL_law_2224 rfl ?_
  refine e_iconst (v := 3) dL_law_2226 rfl ?_
  refine e_iadd dL_law_2227 ?_
  refine e_ialX (k := 0) dL_law_2228 (by decide) x3 ?_
  refine e_aload_n dL_law_2229 rfl ?_
  refine f_cSi dL_law_2230 rfl rfl rfl rfl (fun Q' hQ' => E_L_sorted e1 hQ') ?_
  refine e_istore dL_law_2233 (Nat.le_of_ble_eq_true rfl) rfl ?_
  refine e_aload_n dL_law_2235 rfl ?_
  refine e_aload_n dL_law_2236 rfl ?_
  refine e_iload dL_law_2237 rfl ?_
  refine e_iconst (v := 1) dL_law_2239 rfl ?_
  refine e_iadd dL_law_2240 ?_
  refine e_ialX (k := 0) dL_law_2241 (by decide) x1 ?_
  refine e_aload_n dL_law_2242 rfl ?_
  refine e_iload dL_law_2243 rfl ?_
  refine e_iconst (v := 2) dL_law_2245 rfl ?_
  refine e_iadd dL_law_2246 ?_
  refine e_ialX (k := 0) dL_law_2247 (by decide) x2 ?_
  refine e_aload_n dL_law_2248 rfl ?_
  refine e_iload dL_law_2249 rfl ?_
  refine e_iconst (v := 3) dL_law_2251 rfl ?_
  refine e_iadd dL_law_2252 ?_
  refine e_ialX (k := 0) dL_law_2253 (by decide) x3 ?_
  refine f_cVi dL_law_2254 rfl rfl ⟨rfl, rfl, by decide⟩ rfl ⟨s1.1, s1.2.1⟩ (fun Q' hQ' => E_X13_sorted s1 e2 hQ') ?_
  refine e_istore dL_law_2257 (Nat.le_of_ble_eq_true rfl) rfl ?_
  refine e_aload_n dL_law_2259 rfl ?_
  refine f_cVi (x := mI μ2 65 0) (μ1 := μ2) dL_law_2260 rfl rfl ⟨rfl, rfl, by decide⟩ rfl ⟨s2.1.1, s2.1.2.1⟩ (fun Q' hQ' => E_X13_thrown s2.1 rfl hQ') ?_
  refine e_iload dL_law_2263 rfl ?_
  refine e_ic_eq dL_law_2265 2270 ⟨by decide, by decide⟩ (fun _ => ?_) (fun hn => absurd p1 hn)
  refine e_iload dL_law_2270 rfl ?_
  refine e_if_ne dL_law_2272 2287 ⟨by decide, by decide⟩ (fun _ => ?_) (fun c => ?_)
  · refine e_goto dL_law_2287 2839 ⟨by decide, by decide⟩ ?_
    exact K _ _ _ hN
  have p3 := p2 (Classical.not_not.mp c)
  refine e_aload_n dL_law_2275 rfl ?_
  refine e_iconst (v := 0) dL_law_2276 rfl ?_
  refine e_laG dL_law_2277 (s_o112 s2) ?_
  refine e_iload dL_law_2278 rfl ?_
  refine e_i2l dL_law_2280 ?_
  refine e_lcmp dL_law_2281 ?_
  refine e_if_eq dL_law_2282 2287 ⟨by decide, by decide⟩ (fun _ => ?_) (fun hn => absurd (lg_eq p3) hn)
  refine e_goto dL_law_2287 2839 ⟨by decide, by decide⟩ ?_
  exact K _ _ _ hN
theorem W_again {X : p_X} {d : Nat} {Q : p_R → Prop} {μ : p_M} {i : Int32} {u w : Value} (h : Core μ) (hE : mN μ + 8 < p_E) (hX1 : oX1 X) (hX2 : oX2 X) (hx : Ix X i) (K : lwK X d Q i μ) : p_Ev X (d + 16) M_L_law 2290 (lwL i u w) [] μ Q := by
  obtain ⟨x0, x1, x2, x3, x4, x5, x6, x7⟩ := hx
  obtain ⟨k, μ1, e1, h1⟩ := wp_get (K_again h hE ((X 0).2 (i + 1).toNatClampNeg))
  obtain ⟨b, μ2, e2, hq⟩ := wp_get h1
  obtain ⟨p1, p2, hN⟩ := hq
  have s2 := hN.1.1
  have s1 : ShM μ1 := ShM_back (P_X13_again e2) s2.1
  have s0 := s_o0 h.1
  refine e_aload_n dL_law_2290 rfl ?_
  refine e_aload_n dL_law_2291 rfl ?_
  refine e_iload dL_law_2292 rfl ?_
  refine e_iconst (v := 1) dL_law_2294 rfl ?_
  refine e_iadd dL_law_2295 ?_
  refine e_ialX (k := 0) dL_law_2296 (by decide) x1 ?_
  refine e_aload_n dL_law_2297 rfl ?_
  refine f_cSi dL_law_2298 rfl rfl rfl rfl (fun Q' hQ' => E_L_again e1 hQ') ?_
  refine e_istore dL_law_2301 (Nat.le_of_ble_eq_true rfl) rfl ?_
  refine e_aload_n dL_law_2303 rfl ?_
  refine e_aload_n dL_law_2304 rfl ?_
  refine e_iload dL_law_2305 rfl ?_
  refine e_iconst (v := 1) dL_law_2307 rfl ?_
  refine e_iadd dL_law_2308 ?_
  refine e_ialX (k := 0) dL_law_2309 (by decide) x1 ?_
  refine f_cVi dL_law_2310 rfl rfl ⟨rfl, rfl, by decide⟩ rfl ⟨s1.1, s1.2.1⟩ (fun Q' hQ' => E_X13_again s1 e2 hQ') ?_
  refine e_istore dL_law_2313 (Nat.le_of_ble_eq_true rfl) rfl ?_
  refine e_aload_n dL_law_2315 rfl ?_
  refine f_cVi (x := mI μ2 65 0) (μ1 := μ2) dL_law_2316 rfl rfl ⟨rfl, rfl, by decide⟩ rfl ⟨s2.1.1, s2.1.2.1⟩ (fun Q' hQ' => E_X13_thrown s2.1 rfl hQ') ?_
  refine e_iload dL_law_2319 rfl ?_
  refine e_ic_eq dL_law_2321 2326 ⟨by decide, by decide⟩ (fun _ => ?_) (fun hn => absurd p1 hn)
  refine e_iload dL_law_2326 rfl ?_
  refine e_if_ne dL_law_2328 2343 ⟨by decide, by decide⟩ (fun _ => ?_) (fun c => ?_)
  · refine e_goto dL_law_2343 2839 ⟨by decide, by decide⟩ ?_
    exact K _ _ _ hN
  have p3 := p2 (Classical.not_not.mp c)
  refine e_aload_n dL_law_2331 rfl ?_
  refine e_iconst (v := 0) dL_law_2332 rfl ?_
  refine e_laG dL_law_2333 (s_o112 s2) ?_
  refine e_iload dL_law_2334 rfl ?_
  refine e_i2l dL_law_2336 ?_
  refine e_lcmp dL_law_2337 ?_
  refine e_if_eq dL_law_2338 2343 ⟨by decide, by decide⟩ (fun _ => ?_) (fun hn => absurd (lg_eq p3) hn)
  refine e_goto dL_law_2343 2839 ⟨by decide, by decide⟩ ?_
  exact K _ _ _ hN
theorem W_deliver {X : p_X} {d : Nat} {Q : p_R → Prop} {μ : p_M} {i : Int32} {u w : Value} (h : Core μ) (hE : mN μ + 8 < p_E) (hX1 : oX1 X) (hX2 : oX2 X) (hx : Ix X i) (K : lwK X d Q i μ) : p_Ev X (d + 16) M_L_law 2346 (lwL i u w) [] μ Q := by
  obtain ⟨x0, x1, x2, x3, x4, x5, x6, x7⟩ := hx
  obtain ⟨k, μ1, e1, h1⟩ := wp_get (K_deliver h ((X 0).2 (i + 1).toNatClampNeg) ((X 0).2 (i + 2).toNatClampNeg))
  obtain ⟨b, μ2, e2, hq⟩ := wp_get h1
  obtain ⟨p1, p2, hN⟩ := hq
  have s2 := hN.1.1
  have s1 : ShM μ1 := ShM_back (P_X13_deliver e2) s2.1
  have s0 := s_o0 h.1
  refine e_aload_n dL_law_2346 rfl ?_
  refine e_aload_n dL_law_2347 rfl ?_
  refine e_iload dL_law_2348 rfl ?_
  refine e_iconst (v := 1) dL_law_2350 rfl ?_
  refine e_iadd dL_law_2351 ?_
  refine e_ialX (k := 0) dL_law_2352 (by decide) x1 ?_
  refine e_aload_n dL_law_2353 rfl ?_
  refine e_iload dL_law_2354 rfl ?_
  refine e_iconst (v := 2) dL_law_2356 rfl ?_
  refine e_iadd dL_law_2357 ?_
  refine e_ialX (k := 0) dL_law_2358 (by decide) x2 ?_
  refine e_aload_n dL_law_2359 rfl ?_
  refine f_cSi dL_law_2360 rfl rfl rfl rfl (fun Q' hQ' => E_L_deliver e1 hQ') ?_
  refine e_istore dL_law_2363 (Nat.le_of_ble_eq_true rfl) rfl ?_
  refine e_aload_n dL_law_2365 rfl ?_
  refine e_aload_n dL_law_2366 rfl ?_
  refine e_iload dL_law_2367 rfl ?_
  refine e_iconst (v := 1) dL_law_2369 rfl ?_
  refine e_iadd dL_law_2370 ?_
  refine e_ialX (k := 0) dL_law_2371 (by decide) x1 ?_
  refine e_aload_n dL_law_2372 rfl ?_
  refine e_iload dL_law_2373 rfl ?_
  refine e_iconst (v := 2) dL_law_2375 rfl ?_
  refine e_iadd dL_law_2376 ?_
  refine e_ialX (k := 0) dL_law_2377 (by decide) x2 ?_
  refine f_cVi dL_law_2378 rfl rfl ⟨rfl, rfl, by decide⟩ rfl ⟨s1.1, s1.2.1⟩ (fun Q' hQ' => E_X13_deliver s1 e2 hQ') ?_
  refine e_istore dL_law_2381 (Nat.le_of_ble_eq_true rfl) rfl ?_
  refine e_aload_n dL_law_2383 rfl ?_
  refine f_cVi (x := mI μ2 65 0) (μ1 := μ2) dL_law_2384 rfl rfl ⟨rfl, rfl, by decide⟩ rfl ⟨s2.1.1, s2.1.2.1⟩ (fun Q' hQ' => E_X13_thrown s2.1 rfl hQ') ?_
  refine e_iload dL_law_2387 rfl ?_
  refine e_ic_eq dL_law_2389 2394 ⟨by decide, by decide⟩ (fun _ => ?_) (fun hn => absurd p1 hn)
  refine e_iload dL_law_2394 rfl ?_
  refine e_if_ne dL_law_2396 2411 ⟨by decide, by decide⟩ (fun _ => ?_) (fun c => ?_)
  · refine e_goto dL_law_2411 2839 ⟨by decide, by decide⟩ ?_
    exact K _ _ _ hN
  have p3 := p2 (Classical.not_not.mp c)
  refine e_aload_n dL_law_2399 rfl ?_
  refine e_iconst (v := 0) dL_law_2400 rfl ?_
  refine e_laG dL_law_2401 (s_o112 s2) ?_
  refine e_iload dL_law_2402 rfl ?_
  refine e_i2l dL_law_2404 ?_
  refine e_lcmp dL_law_2405 ?_
  refine e_if_eq dL_law_2406 2411 ⟨by decide, by decide⟩ (fun _ => ?_) (fun hn => absurd (lg_eq p3) hn)
  refine e_goto dL_law_2411 2839 ⟨by decide, by decide⟩ ?_
  exact K _ _ _ hN
theorem W_ready {X : p_X} {d : Nat} {Q : p_R → Prop} {μ : p_M} {i : Int32} {u w : Value} (h : Core μ) (hE : mN μ + 8 < p_E) (hX1 : oX1 X) (hX2 : oX2 X) (hx : Ix X i) (K : lwK X d Q i μ) : p_Ev X (d + 16) M_L_law 2414 (lwL i u w) [] μ Q := by
  obtain ⟨x0, x1, x2, x3, x4, x5, x6, x7⟩ := hx
  obtain ⟨k, μ1, e1, h1⟩ := wp_get (K_ready h ((X 0).2 (i + 1).toNatClampNeg))
  obtain ⟨b, μ2, e2, hq⟩ := wp_get h1
  obtain ⟨p1, p2, hN⟩ := hq
  have s2 := hN.1.1
  have s1 : ShM μ1 := ShM_back (P_X13_ready e2) s2.1
  have s0 := s_o0 h.1
  refine e_aload_n dL_law_2414 rfl ?_
  refine e_aload_n dL_law_2415 rfl ?_
  refine e_iload dL_law_2416 rfl ?_
  refine e_iconst (v := 1) dL_law_2418 rfl ?_
  refine e_iadd dL_law_2419 ?_
  refine e_ialX (k := 0) dL_law_2420 (by decide) x1 ?_
  refine e_aload_n dL_law_2421 rfl ?_
  refine f_cSi dL_law_2422 rfl rfl rfl rfl (fun Q' hQ' => E_L_ready e1 hQ') ?_
  refine e_istore dL_law_2425 (Nat.le_of_ble_eq_true rfl) rfl ?_
  refine e_aload_n dL_law_2427 rfl ?_
  refine e_aload_n dL_law_2428 rfl ?_
  refine e_iload dL_law_2429 rfl ?_
  refine e_iconst (v := 1) dL_law_2431 rfl ?_
  refine e_iadd dL_law_2432 ?_
  refine e_ialX (k := 0) dL_law_2433 (by decide) x1 ?_
  refine f_cVi dL_law_2434 rfl rfl ⟨rfl, rfl, by decide⟩ rfl ⟨s1.1, s1.2.1⟩ (fun Q' hQ' => E_X13_ready s1 e2 hQ') ?_
  refine e_istore dL_law_2437 (Nat.le_of_ble_eq_true rfl) rfl ?_
  refine e_aload_n dL_law_2439 rfl ?_
  refine f_cVi (x := mI μ2 65 0) (μ1 := μ2) dL_law_2440 rfl rfl ⟨rfl, rfl, by decide⟩ rfl ⟨s2.1.1, s2.1.2.1⟩ (fun Q' hQ' => E_X13_thrown s2.1 rfl hQ') ?_
  refine e_iload dL_law_2443 rfl ?_
  refine e_ic_eq dL_law_2445 2450 ⟨by decide, by decide⟩ (fun _ => ?_) (fun hn => absurd p1 hn)
  refine e_iload dL_law_2450 rfl ?_
  refine e_if_ne dL_law_2452 2467 ⟨by decide, by decide⟩ (fun _ => ?_) (fun c => ?_)
  · refine e_goto dL_law_2467 2839 ⟨by decide, by decide⟩ ?_
    exact K _ _ _ hN
  have p3 := p2 (Classical.not_not.mp c)
  refine e_aload_n dL_law_2455 rfl ?_
  refine e_iconst (v := 0) dL_law_2456 rfl ?_
  refine e_laG dL_law_2457 (s_o112 s2) ?_
  refine e_iload dL_law_2458 rfl ?_
  refine e_i2l dL_law_2460 ?_
  refine e_lcmp dL_law_2461 ?_
  refine e_if_eq dL_law_2462 2467 ⟨by decide, by decide⟩ (fun _ => ?_) (fun hn => absurd (lg_eq p3) hn)
  refine e_goto dL_law_2467 2839 ⟨by decide, by decide⟩ ?_
  exact K _ _ _ hN
theorem W_pattern {X : p_X} {d : Nat} {Q : p_R → Prop} {μ : p_M} {i : Int32} {u w : Value} (h : Core μ) (hE : mN μ + 8 < p_E) (hX1 : oX1 X) (hX2 : oX2 X) (hx : Ix X i) (K : lwK X d Q i μ) : p_Ev X (d + 16) M_L_law 2470 (lwL i u w) [] μ Q := by
  obtain ⟨x0, x1, x2, x3, x4, x5, x6, x7⟩ := hx
  obtain ⟨k, μ1, e1, h1⟩ := wp_get (K_pattern h ((X 0).2 (i + 1).toNatClampNeg) ((X 0).2 (i + 2).toNatClampNeg))
  obtain ⟨b, μ2, e2, hq⟩ := wp_get h1
  obtain ⟨p1, hN⟩ := hq
  have s2 := hN.1.1
  have s1 : ShM μ1 := ShM_back (P_X13_pattern e2) s2.1
  have s0 := s_o0 h.1
  refine e_aload_n dL_law_2470 rfl ?_
  refine e_aload_n dL_law_2471 rfl ?_
  refine e_iload dL_law_2472 rfl ?_
  refine e_iconst (v := 1) dL_law_2474 rfl ?_
  refine e_iadd dL_law_2475 ?_
  refine e_ialX (k := 0) dL_law_2476 (by decide) x1 ?_
  refine e_aload_n dL_law_2477 rfl ?_
  refine e_iload dL_law_2478 rfl ?_
  refine e_iconst (v := 2) dL_law_2480 rfl ?_
  refine e_iadd dL_law_2481 ?_
  refine e_ialX (k := 0) dL_law_2482 (by decide) x2 ?_
  refine f_cSi dL_law_2483 rfl rfl rfl rfl (fun Q' hQ' => E_L_pattern e1 hQ') ?_
  refine e_istore dL_law_2486 (Nat.le_of_ble_eq_true rfl) rfl ?_
  refine e_aload_n dL_law_2488 rfl ?_
  refine e_aload_n dL_law_2489 rfl ?_
  refine e_iload dL_law_2490 rfl ?_
  refine e_iconst (v := 1) dL_law_2492 rfl ?_
  refine e_iadd dL_law_2493 ?_
  refine e_ialX (k := 0) dL_law_2494 (by decide) x1 ?_
  refine e_aload_n dL_law_2495 rfl ?_
  refine e_iload dL_law_2496 rfl ?_
  refine e_iconst (v := 2) dL_law_2498 rfl ?_
  refine e_iadd dL_law_2499 ?_
  refine e_ialX (k := 0) dL_law_2500 (by decide) x2 ?_
  refine f_cVv dL_law_2501 rfl rfl ⟨rfl, rfl, by decide⟩ rfl ⟨s1.1, s1.2.1⟩ (fun Q' hQ' => E_X13_pattern s1 e2 hQ') ?_
  refine e_aload_n dL_law_2504 rfl ?_
  refine f_cVi (x := mI μ2 65 0) (μ1 := μ2) dL_law_2505 rfl rfl ⟨rfl, rfl, by decide⟩ rfl ⟨s2.1.1, s2.1.2.1⟩ (fun Q' hQ' => E_X13_thrown s2.1 rfl hQ') ?_
  refine e_iload dL_law_2508 rfl ?_
  refine e_ic_eq dL_law_2510 2515 ⟨by decide, by decide⟩ (fun _ => ?_) (fun hn => absurd p1 hn)
  refine e_goto dL_law_2515 2839 ⟨by decide, by decide⟩ ?_
  exact K _ _ _ hN
theorem W_heat {X : p_X} {d : Nat} {Q : p_R → Prop} {μ : p_M} {i : Int32} {u w : Value} (h : Core μ) (hE : mN μ + 8 < p_E) (hX1 : oX1 X) (hX2 : oX2 X) (hx : Ix X i) (K : lwK X d Q i μ) : p_Ev X (d + 16) M_L_law 2518 (lwL i u w) [] μ Q := by
  obtain ⟨x0, x1, x2, x3, x4, x5, x6, x7⟩ := hx
  obtain ⟨k, μ1, e1, h1⟩ := wp_get (K_heat h ((X 0).2 (i + 1).toNatClampNeg) ((X 0).2 (i + 2).toNatClampNeg) ((X 0).2 (i + 3).toNatClampNeg))
  obtain ⟨b, μ2, e2, hq⟩ := wp_get h1
  obtain ⟨p1, p2, hN⟩ := hq
  have s2 := hN.1.1
  have s1 : ShM μ1 := ShM_back (P_X13_heat e2) s2.1
  have s0 := s_o0 h.1
  refine e_aload_n dL_law_2518 rfl ?_
  refine e_aload_n dL_law_2519 rfl ?_
  refine e_iload dL_law_2520 rfl ?_
  refine e_iconst (v := 1) dL_law_2522 rfl ?_
  refine e_iadd dL_law_2523 ?_
  refine e_ialX (k := 0) dL_law_2524 (by decide) x1 ?_
  refine e_aload_n dL_law_2525 rfl ?_
  refine e_iload dL_law_2526 rfl ?_
  refine e_iconst (v := 2) dL_law_2528 rfl ?_
  refine e_iadd dL_law_2529 ?_
  refine e_ialX (k := 0) dL_law_2530 (by decide) x2 ?_
  refine e_aload_n dL_law_2531 rfl ?_
  refine e_iload dL_law_2532 rfl ?_
  refine e_iconst (v := 3) dL_law_2534 rfl ?_
  refine e_iadd dL_law_2535 ?_
  refine e_ialX (k := 0) dL_law_2536 (by decide) x3 ?_
  refine e_aload_n dL_law_2537 rfl ?_
  refine f_cSi dL_law_2538 rfl rfl rfl rfl (fun Q' hQ' => E_L_heat e1 hQ') ?_
  refine e_istore dL_law_2541 (Nat.le_of_ble_eq_true rfl) rfl ?_
  refine e_aload_n dL_law_2543 rfl ?_
  refine e_aload_n dL_law_2544 rfl ?_
  refine e_iload dL_law_2545 rfl ?_
  refine e_iconst (v := 1) dL_law_2547 rfl ?_
  refine e_iadd dL_law_2548 ?_
  refine e_ialX (k := 0) dL_law_2549 (by decide) x1 ?_
  refine e_aload_n dL_law_2550 rfl ?_
  refine e_iload dL_law_2551 rfl ?_
  refine e_iconst (v := 2) dL_law_2553 rfl ?_
  refine e_iadd dL_law_2554 ?_
  refine e_ialX (k := 0) dL_law_2555 (by decide) x2 ?_
  refine e_aload_n dL_law_2556 rfl ?_
  refine e_iload dL_law_2557 rfl ?_
  refine e_iconst (v := 3) dL_law_2559 rfl ?_
  refine e_iadd dL_law_2560 ?_
  refine e_ialX (k := 0) dL_law_2561 (by decide) x3 ?_
  refine f_cVi dL_law_2562 rfl rfl ⟨rfl, rfl, by decide⟩ rfl ⟨s1.1, s1.2.1⟩ (fun Q' hQ' => E_X13_heat s1 e2 hQ') ?_
  refine e_istore dL_law_2565 (Nat.le_of_ble_eq_true rfl) rfl ?_
  refine e_aload_n dL_law_2567 rfl ?_
  refine f_cVi (x := mI μ2 65 0) (μ1 := μ2) dL_law_2568 rfl rfl ⟨rfl, rfl, by decide⟩ rfl ⟨s2.1.1, s2.1.2.1⟩ (fun Q' hQ' => E_X13_thrown s2.1 rfl hQ') ?_
  refine e_iload dL_law_2571 rfl ?_
  refine e_ic_eq dL_law_2573 2578 ⟨by decide, by decide⟩ (fun _ => ?_) (fun hn => absurd p1 hn)
  refine e_iload dL_law_2578 rfl ?_
  refine e_if_ne dL_law_2580 2602 ⟨by decide, by decide⟩ (fun _ => ?_) (fun c => ?_)
  · refine e_goto dL_law_2602 2839 ⟨by decide, by decide⟩ ?_
    exact K _ _ _ hN
  have p3 := p2 (Classical.not_not.mp c)
  refine e_aload_n dL_law_2583 rfl ?_
  refine e_iconst (v := 0) dL_law_2584 rfl ?_
  refine e_laG dL_law_2585 (s_o112 s2) ?_
  refine e_iload dL_law_2586 rfl ?_
  refine e_if_eq dL_law_2588 2595 ⟨by decide, by decide⟩ (fun hb => ?_) (fun hb => ?_)
  · have p4 := p3.trans (if_pos hb)
    refine e_lconst (v := 0) dL_law_2595 rfl ?_
    refine e_lcmp dL_law_2596 ?_
    refine e_if_eq dL_law_2597 2602 ⟨by decide, by decide⟩ (fun _ => ?_) (fun hn => absurd (lg_eq p4) hn)
    refine e_goto dL_law_2602 2839 ⟨by decide, by decide⟩ ?_
    exact K _ _ _ hN
  · have p4 := p3.trans (if_neg hb)
    refine e_lconst (v := 1) dL_law_2591 rfl ?_
    refine e_goto dL_law_2592 2596 ⟨by decide, by decide⟩ ?_
    refine e_lcmp dL_law_2596 ?_
    refine e_if_eq dL_law_2597 2602 ⟨by decide, by decide⟩ (fun _ => ?_) (fun hn => absurd (lg_eq p4) hn)
    refine e_goto dL_law_2602 2839 ⟨by decide, by decide⟩ ?_
    exact K _ _ _ hN
theorem W_burn {X : p_X} {d : Nat} {Q : p_R → Prop} {μ : p_M} {i : Int32} {u w : Value} (h : Core μ) (hE : mN μ + 8 < p_E) (hX1 : oX1 X) (hX2 : oX2 X) (hx : Ix X i) (K : lwK X d Q i μ) : p_Ev X (d + 16) M_L_law 2605 (lwL i u w) [] μ Q := by
  obtain ⟨x0, x1, x2, x3, x4, x5, x6, x7⟩ := hx
  obtain ⟨k, μ1, e1, h1⟩ := wp_get (K_burn h ((X 0).2 (i + 1).toNatClampNeg) ((X 0).2 (i + 2).toNatClampNeg) ((X 0).2 (i + 3).toNatClampNeg))
  obtain ⟨b, μ2, e2, hq⟩ := wp_get h1
  obtain ⟨p1, hN⟩ := hq
  have s2 := hN.1.1
  have s1 : ShM μ1 := ShM_back (P_X13_burn e2) s2.1
  have s0 := s_o0 h.1
  refine e_aload_n dL_law_2605 rfl ?_
  refine e_aload_n dL_law_2606 rfl ?_
  refine e_iload dL_law_2607 rfl ?_
  refine e_iconst (v := 1) dL_law_2609 rfl ?_
  refine e_iadd dL_law_2610 ?_
  refine e_ialX (k := 0) dL_law_2611 (by decide) x1 ?_
  refine e_aload_n dL_law_2612 rfl ?_
  refine e_iload dL_law_2613 rfl ?_
  refine e_iconst (v := 2) dL_law_2615 rfl ?_
  refine e_iadd dL_law_2616 ?_
  refine e_ialX (k := 0) dL_law_2617 (by decide) x2 ?_
  refine e_aload_n dL_law_2618 rfl ?_
  refine e_iload dL_law_2619 rfl ?_
  refine e_iconst (v := 3) dL_law_2621 rfl ?_
  refine e_iadd dL_law_2622 ?_
  refine e_ialX (k := 0) dL_law_2623 (by decide) x3 ?_
  refine f_cSi dL_law_2624 rfl rfl rfl rfl (fun Q' hQ' => E_L_burn e1 hQ') ?_
  refine e_istore dL_law_2627 (Nat.le_of_ble_eq_true rfl) rfl ?_
  refine e_aload_n dL_law_2629 rfl ?_
  refine e_aload_n dL_law_2630 rfl ?_
  refine e_iload dL_law_2631 rfl ?_
  refine e_iconst (v := 1) dL_law_2633 rfl ?_
  refine e_iadd dL_law_2634 ?_
  refine e_ialX (k := 0) dL_law_2635 (by decide) x1 ?_
  refine e_aload_n dL_law_2636 rfl ?_
  refine e_iload dL_law_2637 rfl ?_
  refine e_iconst (v := 2) dL_law_2639 rfl ?_
  refine e_iadd dL_law_2640 ?_
  refine e_ialX (k := 0) dL_law_2641 (by decide) x2 ?_
  refine e_aload_n dL_law_2642 rfl ?_
  refine e_iload dL_law_2643 rfl ?_
  refine e_iconst (v := 3) dL_law_2645 rfl ?_
  refine e_iadd dL_law_2646 ?_
  refine e_ialX (k := 0) dL_law_2647 (by decide) x3 ?_
  refine f_cVv dL_law_2648 rfl rfl ⟨rfl, rfl, by decide⟩ rfl ⟨s1.1, s1.2.1⟩ (fun Q' hQ' => E_X13_burn s1 e2 hQ') ?_
  refine e_aload_n dL_law_2651 rfl ?_
  refine f_cVi (x := mI μ2 65 0) (μ1 := μ2) dL_law_2652 rfl rfl ⟨rfl, rfl, by decide⟩ rfl ⟨s2.1.1, s2.1.2.1⟩ (fun Q' hQ' => E_X13_thrown s2.1 rfl hQ') ?_
  refine e_iload dL_law_2655 rfl ?_
  refine e_ic_eq dL_law_2657 2662 ⟨by decide, by decide⟩ (fun _ => ?_) (fun hn => absurd p1 hn)
  refine e_goto dL_law_2662 2839 ⟨by decide, by decide⟩ ?_
  exact K _ _ _ hN
theorem W_burned {X : p_X} {d : Nat} {Q : p_R → Prop} {μ : p_M} {i : Int32} {u w : Value} (h : Core μ) (hE : mN μ + 8 < p_E) (hX1 : oX1 X) (hX2 : oX2 X) (hx : Ix X i) (K : lwK X d Q i μ) : p_Ev X (d + 16) M_L_law 2665 (lwL i u w) [] μ Q := by
  obtain ⟨x0, x1, x2, x3, x4, x5, x6, x7⟩ := hx
  obtain ⟨k, μ1, e1, h1⟩ := wp_get (K_burned h ((X 0).2 (i + 1).toNatClampNeg) ((X 0).2 (i + 2).toNatClampNeg) ((X 0).2 (i + 3).toNatClampNeg))
  obtain ⟨b, μ2, e2, hq⟩ := wp_get h1
  obtain ⟨p1, p2, hN⟩ := hq
  have s2 := hN.1.1
  have s1 : ShM μ1 := ShM_back (P_X13_burned e2) s2.1
  have s0 := s_o0 h.1
  refine e_aload_n dL_law_2665 rfl ?_
  refine e_aload_n dL_law_2666 rfl ?_
  refine e_iload dL_law_2667 rfl ?_
  refine e_iconst (v := 1) dL_law_2669 rfl ?_
  refine e_iadd dL_law_2670 ?_
  refine e_ialX (k := 0) dL_law_2671 (by decide) x1 ?_
  refine e_aload_n dL_law_2672 rfl ?_
  refine e_iload dL_law_2673 rfl ?_
  refine e_iconst (v := 2) dL_law_2675 rfl ?_
  refine e_iadd dL_law_2676 ?_
  refine e_ialX (k := 0) dL_law_2677 (by decide) x2 ?_
  refine e_aload_n dL_law_2678 rfl ?_
  refine e_iload dL_law_2679 rfl ?_
  refine e_iconst (v := 3) dL_law_2681 rfl ?_
  refine e_iadd dL_law_2682 ?_
  refine e_ialX (k := 0) dL_law_2683 (by decide) x3 ?_
  refine e_aload_n dL_law_2684 rfl ?_
  refine f_cSi dL_law_2685 rfl rfl rfl rfl (fun Q' hQ' => E_L_burned e1 hQ') ?_
  refine e_istore dL_law_2688 (Nat.le_of_ble_eq_true rfl) rfl ?_
  refine e_aload_n dL_law_2690 rfl ?_
  refine e_aload_n dL_law_2691 rfl ?_
  refine e_iload dL_law_2692 rfl ?_
  refine e_iconst (v := 1) dL_law_2694 rfl ?_
  refine e_iadd dL_law_2695 ?_
  refine e_ialX (k := 0) dL_law_2696 (by decide) x1 ?_
  refine e_aload_n dL_law_2697 rfl ?_
  refine e_iload dL_law_2698 rfl ?_
  refine e_iconst (v := 2) dL_law_2700 rfl ?_
  refine e_iadd dL_law_2701 ?_
  refine e_ialX (k := 0) dL_law_2702 (by decide) x2 ?_
  refine e_aload_n dL_law_2703 rfl ?_
  refine e_iload dL_law_2704 rfl ?_
  refine e_iconst (v := 3) dL_law_2706 rfl ?_
  refine e_iadd dL_law_2707 ?_
  refine e_ialX (k := 0) dL_law_2708 (by decide) x3 ?_
  refine f_cVi dL_law_2709 rfl rfl ⟨rfl, rfl, by decide⟩ rfl ⟨s1.1, s1.2.1⟩ (fun Q' hQ' => E_X13_burned s1 e2 hQ') ?_
  refine e_istore dL_law_2712 (Nat.le_of_ble_eq_true rfl) rfl ?_
  refine e_aload_n dL_law_2714 rfl ?_
  refine f_cVi (x := mI μ2 65 0) (μ1 := μ2) dL_law_2715 rfl rfl ⟨rfl, rfl, by decide⟩ rfl ⟨s2.1.1, s2.1.2.1⟩ (fun Q' hQ' => E_X13_thrown s2.1 rfl hQ') ?_
  refine e_iload dL_law_2718 rfl ?_
  refine e_ic_eq dL_law_2720 2725 ⟨by decide, by decide⟩ (fun _ => ?_) (fun hn => absurd p1 hn)
  refine e_iload dL_law_2725 rfl ?_
  refine e_if_ne dL_law_2727 2742 ⟨by decide, by decide⟩ (fun _ => ?_) (fun c => ?_)
  · refine e_goto dL_law_2742 2839 ⟨by decide, by decide⟩ ?_
    exact K _ _ _ hN
  have p3 := p2 (Classical.not_not.mp c)
  refine e_aload_n dL_law_2730 rfl ?_
  refine e_iconst (v := 0) dL_law_2731 rfl ?_
  refine e_laG dL_law_2732 (s_o112 s2) ?_
  refine e_iload dL_law_2733 rfl ?_
  refine e_i2l dL_law_2735 ?_
  refine e_lcmp dL_law_2736 ?_
  refine e_if_eq dL_law_2737 2742 ⟨by decide, by decide⟩ (fun _ => ?_) (fun hn => absurd (lg_eq p3) hn)
  refine e_goto dL_law_2742 2839 ⟨by decide, by decide⟩ ?_
  exact K _ _ _ hN
theorem W_seam {X : p_X} {d : Nat} {Q : p_R → Prop} {μ : p_M} {i : Int32} {u w : Value} (h : Core μ) (hE : mN μ + 8 < p_E) (hX1 : oX1 X) (hX2 : oX2 X) (hx : Ix X i) (K : lwK X d Q i μ) : p_Ev X (d + 16) M_L_law 2745 (lwL i u w) [] μ Q := by
  obtain ⟨x0, x1, x2, x3, x4, x5, x6, x7⟩ := hx
  obtain ⟨k, μ1, e1, h1⟩ := wp_get (K_seam h ((X 0).2 (i + 1).toNatClampNeg))
  obtain ⟨b, μ2, e2, hq⟩ := wp_get h1
  obtain ⟨p1, p2, hN⟩ := hq
  have s2 := hN.1.1
  have s1 : ShM μ1 := ShM_back (P_X13_seam e2) s2.1
  have s0 := s_o0 h.1
  refine e_aload_n dL_law_2745 rfl ?_
  refine e_aload_n dL_law_2746 rfl ?_
  refine e_iload dL_law_2747 rfl ?_
  refine e_iconst (v := 1) dL_law_2749 rfl ?_
  refine e_iadd dL_law_2750 ?_
  refine e_ialX (k := 0) dL_law_2751 (by decide) x1 ?_
  refine e_aload_n dL_law_2752 rfl ?_
  refine f_cSi dL_law_2753 rfl rfl rfl rfl (fun Q' hQ' => E_L_seam e1 hQ') ?_
  refine e_istore dL_law_2756 (Nat.le_of_ble_eq_true rfl) rfl ?_
  refine e_aload_n dL_law_2758 rfl ?_
  refine e_aload_n dL_law_2759 rfl ?_
  refine e_iload dL_law_2760 rfl ?_
  refine e_iconst (v := 1) dL_law_2762 rfl ?_
  refine e_iadd dL_law_2763 ?_
  refine e_ialX (k := 0) dL_law_2764 (by decide) x1 ?_
  refine f_cVi dL_law_2765 rfl rfl ⟨rfl, rfl, by decide⟩ rfl ⟨s1.1, s1.2.1⟩ (fun Q' hQ' => E_X13_seam s1 e2 hQ') ?_
  refine e_istore dL_law_2768 (Nat.le_of_ble_eq_true rfl) rfl ?_
  refine e_aload_n dL_law_2770 rfl ?_
  refine f_cVi (x := mI μ2 65 0) (μ1 := μ2) dL_law_2771 rfl rfl ⟨rfl, rfl, by decide⟩ rfl ⟨s2.1.1, s2.1.2.1⟩ (fun Q' hQ' => E_X13_thrown s2.1 rfl hQ') ?_
  refine e_iload dL_law_2774 rfl ?_
  refine e_ic_eq dL_law_2776 2781 ⟨by decide, by decide⟩ (fun _ => ?_) (fun hn => absurd p1 hn)
  refine e_iload dL_law_2781 rfl ?_
  refine e_if_ne dL_law_2783 2798 ⟨by decide, by decide⟩ (fun _ => ?_) (fun c => ?_)
  · refine e_goto dL_law_2798 2839 ⟨by decide, by decide⟩ ?_
    exact K _ _ _ hN
  have p3 := p2 (Classical.not_not.mp c)
  refine e_aload_n dL_law_2786 rfl ?_
  refine e_iconst (v := 0) dL_law_2787 rfl ?_
  refine e_laG dL_law_2788 (s_o112 s2) ?_
  refine e_iload dL_law_2789 rfl ?_
  refine e_i2l dL_law_2791 ?_
  refine e_lcmp dL_law_2792 ?_
  refine e_if_eq dL_law_2793 2798 ⟨by decide, by decide⟩ (fun _ => ?_) (fun hn => absurd (lg_eq p3) hn)
  refine e_goto dL_law_2798 2839 ⟨by decide, by decide⟩ ?_
  exact K _ _ _ hN
theorem W_shift {X : p_X} {d : Nat} {Q : p_R → Prop} {μ : p_M} {i : Int32} {u w : Value} (h : Core μ) (hE : mN μ + 8 < p_E) (hX1 : oX1 X) (hX2 : oX2 X) (hx : Ix X i) (K : lwK X d Q i μ) : p_Ev X (d + 16) M_L_law 2801 (lwL i u w) [] μ Q := by
  obtain ⟨x0, x1, x2, x3, x4, x5, x6, x7⟩ := hx
  obtain ⟨k, μ1, e1, h1⟩ := wp_get (K_shift h)
  obtain ⟨b, μ2, e2, hq⟩ := wp_get h1
  obtain ⟨p1, hN⟩ := hq
  have s2 := hN.1.1
  have s1 : ShM μ1 := ShM_back (P_X13_shift e2) s2.1
  have s0 := s_o0 h.1
  refine e_aload_n dL_law_2801 rfl ?_
  refine f_cVi dL_law_2802 rfl rfl ⟨rfl, rfl, by decide⟩ rfl s0 (fun Q' hQ' => E_X12_shift e1 hQ') ?_
  refine e_aload_n dL_law_2805 rfl ?_
  refine f_cVi dL_law_2806 rfl rfl ⟨rfl, rfl, by decide⟩ rfl ⟨s1.1, s1.2.1⟩ (fun Q' hQ' => E_X13_shift s1 e2 hQ') ?_
  refine e_ic_eq dL_law_2809 2839 ⟨by decide, by decide⟩ (fun _ => ?_) (fun hn => absurd p1 hn)
  exact K _ _ _ hN
theorem W_count {X : p_X} {d : Nat} {Q : p_R → Prop} {μ : p_M} {i : Int32} {u w : Value} (h : Core μ) (hE : mN μ + 8 < p_E) (hX1 : oX1 X) (hX2 : oX2 X) (hx : Ix X i) (K : lwK X d Q i μ) : p_Ev X (d + 16) M_L_law 2814 (lwL i u w) [] μ Q := by
  obtain ⟨x0, x1, x2, x3, x4, x5, x6, x7⟩ := hx
  obtain ⟨k, μ1, e1, h1⟩ := wp_get (K_count h ((X 0).2 (i + 1).toNatClampNeg))
  obtain ⟨b, μ2, e2, hq⟩ := wp_get h1
  obtain ⟨p1, hN⟩ := hq
  have s2 := hN.1.1
  have s1 : ShM μ1 := ShM_back (P_X13_count e2) s2.1
  have s0 := s_o0 h.1
  refine e_aload_n dL_law_2814 rfl ?_
  refine e_aload_n dL_law_2815 rfl ?_
  refine e_iload dL_law_2816 rfl ?_
  refine e_iconst (v := 1) dL_law_2818 rfl ?_
  refine e_iadd dL_law_2819 ?_
  refine e_ialX (k := 0) dL_law_2820 (by decide) x1 ?_
  refine f_cVi dL_law_2821 rfl rfl ⟨rfl, rfl, by decide⟩ rfl s0 (fun Q' hQ' => E_X12_count e1 hQ') ?_
  refine e_aload_n dL_law_2824 rfl ?_
  refine e_aload_n dL_law_2825 rfl ?_
  refine e_iload dL_law_2826 rfl ?_
  refine e_iconst (v := 1) dL_law_2828 rfl ?_
  refine e_iadd dL_law_2829 ?_
  refine e_ialX (k := 0) dL_law_2830 (by decide) x1 ?_
  refine f_cVi dL_law_2831 rfl rfl ⟨rfl, rfl, by decide⟩ rfl ⟨s1.1, s1.2.1⟩ (fun Q' hQ' => E_X13_count s1 e2 hQ') ?_
  refine e_ic_eq dL_law_2834 2839 ⟨by decide, by decide⟩ (fun _ => ?_) (fun hn => absurd p1 hn)
  exact K _ _ _ hN
