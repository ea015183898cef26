/-! the start meets every premise; the run ends by an exception: the claim is false as written, in the Statement's own form of a refutation too -/
theorem bd_push : bd_s.vm = { start1.about.vm with classes := start1.about.vm.classes.push bd_c } := rfl
theorem bd_words : ∀ c ∈ (Cond.code x code maxLocals ret :: tables_1), c.before start1.args0 bd_s = true := by
  intro c hc
  cases hq : bd_easy start1.about c with
  | true => exact bd_tr bd_push c hq (start1.words c hc)
  | false =>
    rcases List.mem_cons.mp hc with h | h
    · rw [h] at hq; cases hq
    · have h2 := bd_tab c h
      unfold bd_p at h2; rw [hq] at h2; exact h2
theorem bd_okEnd {s : State} {b : List Frame} (h : bd_ok b.length s = true) (o : Outcome) : ¬ Ended s b o := by
  intro he
  cases o with
  | threw a =>
    have he' : s.frames = .throwing a :: b := he
    unfold bd_ok at h; rw [he'] at h; simp at h
  | returned v =>
    have hl : s.frames.length = b.length := by
      unfold Ended at he
      split at he
      · rename_i hh; cases hh
      · split at he
        · obtain ⟨_, _, _, _, _, hf⟩ := he
          rw [hf]; rfl
        · rw [he]; rfl
        · rw [he]; rfl
        · rw [he.2]
    unfold bd_ok at h
    split at h
    · rename_i hf
      rw [hf] at hl
      have h2 := of_decide_eq_true h
      simp only [List.length_cons] at hl
      omega
    · rw [hl] at h; simp at h
theorem bd_botEq (g : NFrame) (h : bd_bot g = true) : g = { method := ⟨0, 0⟩, args := #[] } := by
  cases g
  unfold bd_bot at h
  simp only [Bool.and_eq_true, decide_eq_true_eq, Bool.not_eq_true', Option.isNone_iff_eq_none] at h
  obtain ⟨⟨⟨⟨⟨⟨⟨h1, h2⟩, h3⟩, h4⟩, h5⟩, h6⟩, h7⟩, h8⟩ := h
  subst h1 h2 h3 h4 h5 h6 h7 h8
  rfl
theorem bd_inEq : ∀ fs : List Frame, bd_in fs = true → ∃ above, fs = above ++ Lib.HandBits.below0
  | [], h => by cases h
  | [f], h => by
    cases f with
    | native g =>
      have h2 : bd_bot g = true := h
      exact ⟨[], by rw [bd_botEq g h2]; rfl⟩
    | _ => cases (show false = true from h)
  | f :: g :: r, h => by
    have h2 : bd_in (g :: r) = true := h
    obtain ⟨ab, hab⟩ := bd_inEq (g :: r) h2
    exact ⟨f :: ab, by rw [hab]; rfl⟩
theorem bd_within {s : State} (h : bd_ok Lib.HandBits.below0.length s = true) (hi : bd_in s.frames = true) : Within s Lib.HandBits.below0 := by
  obtain ⟨above, hf⟩ := bd_inEq _ hi
  refine ⟨above, hf, ?_, ?_⟩
  · intro h0
    subst h0
    have hf2 : s.frames = Lib.HandBits.below0 := hf
    unfold bd_ok at h
    rw [hf2] at h
    cases (show false = true from h)
  · intro a ha
    subst ha
    have hf2 : s.frames = .throwing a :: Lib.HandBits.below0 := hf
    unfold bd_ok at h
    rw [hf2] at h
    cases (show false = true from h)
theorem bd_thrownEq {s : State} (h : bd_thrown s = true) : ∃ a, s.frames = .throwing a :: Lib.HandBits.below0 := by
  unfold bd_thrown at h
  split at h
  · rename_i a g hf
    exact ⟨a, by rw [hf, bd_botEq g h]; rfl⟩
  · cases h
theorem bd_step {tb : Tables} {e : Env} {s : State} (hr : s.status = Status.running) (hc : s.curStatus? = some .runnable) (ha : s.alone = true) (k : Nat) : stepsAlone tb e (k + 1) s = stepsAlone tb e k (stepThread tb e s).1 := by
  simp only [stepsAlone, hr, hc, ha]
theorem bd_ends {tb : Tables} {e : Env} : ∀ (n : Nat) (s : State), bd_throws tb e Lib.HandBits.below0.length n s = true → ∃ (k : Nat) (a : Addr), (stepsAlone tb e k s).status = Status.running ∧ (stepsAlone tb e k s).frames = .throwing a :: Lib.HandBits.below0 ∧ (∀ (j : Nat) (o : Outcome), j < k → ¬ Ended (stepsAlone tb e j s) Lib.HandBits.below0 o) ∧ ∀ j, j < k → Within (stepsAlone tb e j s) Lib.HandBits.below0
  | 0, s, h => by unfold bd_throws at h; cases h
  | n + 1, s, h => by
    unfold bd_throws at h
    by_cases hrun : s.status = Status.running
    · rw [hrun] at h
      simp only at h
      rcases Bool.or_eq_true _ _ ▸ h with h | h
      · obtain ⟨a, ha⟩ := bd_thrownEq h
        exact ⟨0, a, hrun, ha, fun j _ hj => absurd hj (Nat.not_lt_zero j), fun j hj => absurd hj (Nat.not_lt_zero j)⟩
      · split at h
        · rename_i hcs
          split at h
          · rename_i ha hb
            rw [Bool.and_eq_true] at hb
            obtain ⟨k, a, h1, h2, h3, h4⟩ := bd_ends n _ h
            refine ⟨k + 1, a, ?_, ?_, ?_, ?_⟩
            · rw [bd_step hrun hcs ha]; exact h1
            · rw [bd_step hrun hcs ha]; exact h2
            · intro j o hj
              cases j with
              | zero => exact bd_okEnd hb.1 o
              | succ j => rw [bd_step hrun hcs ha]; exact h3 j o (Nat.lt_of_succ_lt_succ hj)
            · intro j hj
              cases j with
              | zero => exact bd_within hb.1 hb.2
              | succ j => rw [bd_step hrun hcs ha]; exact h4 j (Nat.lt_of_succ_lt_succ hj)
          · cases h
        · cases h
    · split at h
      · rename_i hh; exact absurd hh hrun
      · cases h
theorem bd_applies : (headSpec (Cond.code x code maxLocals ret :: tables_1) room_1).applies x start1.e0.platform bd_s = true :=
  (Spec.applies_iff rfl).mpr ⟨rfl, rfl, rfl, by decide +kernel, by decide +kernel, by decide +kernel, launch0.hasRoom_least _ room_1 (by decide +kernel) (by decide +kernel) (by decide +kernel) (by decide +kernel) (by decide +kernel) (by decide +kernel), atoms_intro bd_words⟩
theorem bd_pre : Calls_1 start1.p0.tables start1.e0 start1.args0 bd_s ∧ rest_1 start1.p0.tables start1.e0 start1.args0 bd_s ∧ Pre_1 start1.p0.tables start1.e0 start1.args0 bd_s :=
  ⟨trivial, (show rest_1_c.before start1.args0 bd_s = true by decide +kernel), (show (Cond.and given_1 narrow_1).before start1.args0 bd_s = true by decide +kernel)⟩
theorem bd_flags : launch0.flags = flags0 := rfl
theorem bd_atStart : AtStart classFile x code maxLocals ret World_1 tables_1 room_1 Calls_1 rest_1 Pre_1 launch0 start1.p0 start1.e0 bd_s ⟨0, 0⟩ start1.args0 Lib.HandBits.below0 :=
  ⟨lists_1, trivial, launch0.admits_env _ _ _, launch0.least_env, fairChoices_fair.cas, fairChoices_fair.clock, rfl, by decide +kernel, by decide +kernel, bd_applies, bd_pre⟩
theorem bd_not1 (tb : Tables) (e : Env) (ar : Array Value) (s : State) (a : Addr) (t : State) : ¬ Post_1_1 tb e ar s (.threw a) t := by
  intro h
  have h1 : Cond.after limb_1_1 ar s (.threw a) t = true := h.1
  cases (show false = true from h1)
theorem bd_not2 (tb : Tables) (e : Env) (ar : Array Value) (s : State) (a : Addr) (t : State) : ¬ Post_1_2 tb e ar s (.threw a) t := by
  intro h
  have h1 : Cond.after limb_1_2 ar s (.threw a) t = true := h.1
  cases (show false = true from h1)
theorem bd_falls {Post : Tables → Env → Array Value → State → Outcome → State → Prop} (hp : ∀ tb e ar s a t, ¬ Post tb e ar s (.threw a) t) : FallsFor flags0 classFile x code maxLocals ret World_1 tables_1 room_1 Calls_1 rest_1 Pre_1 Post := by
  obtain ⟨k, a, h1, h2, _, h4⟩ := bd_ends _ _ bd_fall
  exact ⟨launch0, start1.p0, start1.e0, bd_s, ⟨0, 0⟩, start1.args0, Lib.HandBits.below0, bd_flags, bd_atStart, k, .threw a, h4, h1, h2, hp _ _ _ _ _ _⟩
theorem bd_no {Post : Tables → Env → Array Value → State → Outcome → State → Prop} (hp : ∀ tb e ar s a t, ¬ Post tb e ar s (.threw a) t) (h : ArmFor flags0 classFile x code maxLocals ret World_1 tables_1 room_1 Calls_1 rest_1 Pre_1 Post) : False := by
  obtain ⟨k, a, h1, h2, h3, _⟩ := bd_ends _ _ bd_fall
  obtain ⟨n, o, hw, hr, he, hq⟩ := h launch0 bd_flags lists_1 trivial start1.p0 start1.e0 (launch0.admits_env _ _ _) fairChoices_fair.cas fairChoices_fair.clock bd_s ⟨0, 0⟩ start1.args0 Lib.HandBits.below0 rfl (by decide +kernel) (by decide +kernel) bd_applies bd_pre
  rcases Nat.lt_trichotomy n k with hl | hl | hl
  · exact h3 n o hl he
  · subst hl
    cases o with
    | threw b => exact hp _ _ _ _ _ _ hq
    | returned v =>
      have he' : (stepsAlone start1.p0.tables start1.e0 n bd_s).frames = [.native { ({ method := ⟨0, 0⟩, args := #[] } : NFrame) with awaiting := false, answer := some (.returned v) }] := he
      rw [h2] at he'
      cases he'
  · obtain ⟨above, hf, h0, ha⟩ := hw k hl
    rw [h2] at hf
    have hf2 : [Frame.throwing a] ++ Lib.HandBits.below0 = above ++ Lib.HandBits.below0 := hf
    exact ha a (List.append_cancel_right hf2).symm
/-- the claim, both halves, is false as it is printed; and in the Statement's own form of a refutation -/
theorem refuted_1_1 : ¬ Claimed_1_1 := fun h => bd_no bd_not1 h
theorem refuted_1_2 : ¬ Claimed_1_2 := fun h => bd_no bd_not2 h
theorem refuted_form_1_1 : RefutedClaimed_1_1 := bd_falls bd_not1
theorem refuted_form_1_2 : RefutedClaimed_1_2 := bd_falls bd_not2
