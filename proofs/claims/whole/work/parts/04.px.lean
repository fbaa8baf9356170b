/-! THE PURE MACHINE WITHOUT FUEL -/
theorem prun_succ : ∀ (k m pc : Nat) (L S : List Value) (h : HP) (r : Option Value × HP), prun k m pc L S h = some r → prun (k + 1) m pc L S h = some r := by
  intro k
  induction k with
  | zero => intro m pc L S h r e; cases e
  | succ k ih =>
    intro m pc L S h r e
    rw [prun] at e ⊢
    cases hd : decode (mb m) pc with
    | error x => rw [hd] at e; cases e
    | ok q =>
      obtain ⟨i, len⟩ := q
      rw [hd] at e
      simp only at e ⊢
      cases hr : rets m i len S with
      | some r0 => rw [hr] at e; exact e
      | none =>
        rw [hr] at e
        simp only at e ⊢
        cases hc : call m i len S h with
        | some q =>
          obtain ⟨m', as, S'⟩ := q
          rw [hc] at e
          simp only at e ⊢
          cases h1 : prun k m' 0 (locs0 m' as) [] h with
          | none => rw [h1] at e; cases e
          | some q1 =>
            obtain ⟨r1, h1'⟩ := q1
            rw [h1] at e
            rw [ih _ _ _ _ _ _ h1]
            exact ih _ _ _ _ _ _ e
        | none =>
          rw [hc] at e
          simp only at e ⊢
          cases hs : stp m pc i len L S h with
          | none => rw [hs] at e; cases e
          | some q1 =>
            obtain ⟨pc', L', S', h'⟩ := q1
            rw [hs] at e
            exact ih _ _ _ _ _ _ e
theorem prun_le {k k' m pc : Nat} {L S : List Value} {h : HP} {r : Option Value × HP} (hk : k ≤ k') (e : prun k m pc L S h = some r) : prun k' m pc L S h = some r := by
  induction hk with
  | refl => exact e
  | step _ ih => exact prun_succ _ _ _ _ _ _ _ ih
/-- what a method answers from a place on, and the heap behind it; none: it doesn't end, or something isn't as it should be -/
noncomputable def pX (m pc : Nat) (L S : List Value) (h : HP) : Option (Option Value × HP) := @dite (Option (Option Value × HP)) (∃ k r, prun k m pc L S h = some r) (Classical.propDecidable _) (fun hx => some hx.choose_spec.choose) (fun _ => none)
theorem prun_det {k k' m pc : Nat} {L S : List Value} {h : HP} {r r' : Option Value × HP} (e : prun k m pc L S h = some r) (e' : prun k' m pc L S h = some r') : r = r' := by
  have a := prun_le (Nat.le_max_left k k') e
  have b := prun_le (Nat.le_max_right k k') e'
  rw [a] at b
  exact Option.some.inj b
theorem pX_of {k m pc : Nat} {L S : List Value} {h : HP} {r : Option Value × HP} (e : prun k m pc L S h = some r) : pX m pc L S h = some r := by
  have hx : ∃ k r, prun k m pc L S h = some r := ⟨k, r, e⟩
  unfold pX
  rw [dif_pos hx]
  exact congrArg some (prun_det hx.choose_spec.choose_spec e)
theorem pX_some {m pc : Nat} {L S : List Value} {h : HP} {r : Option Value × HP} (e : pX m pc L S h = some r) : ∃ k, prun k m pc L S h = some r := by
  unfold pX at e
  split at e
  · rename_i hx
    cases Option.some.inj e
    exact ⟨_, hx.choose_spec.choose_spec⟩
  · cases e
theorem pX_congr {m pc m' pc' : Nat} {L S L' S' : List Value} {h h' : HP} (a : ∀ k r, prun k m pc L S h = some r → ∃ k', prun k' m' pc' L' S' h' = some r) (b : ∀ k r, prun k m' pc' L' S' h' = some r → ∃ k', prun k' m pc L S h = some r) : pX m pc L S h = pX m' pc' L' S' h' := by
  cases e : pX m pc L S h with
  | some r =>
    obtain ⟨k, hk⟩ := pX_some e
    obtain ⟨k', hk'⟩ := a k r hk
    exact (pX_of hk').symm
  | none =>
    cases e' : pX m' pc' L' S' h' with
    | none => rfl
    | some r =>
      obtain ⟨k, hk⟩ := pX_some e'
      obtain ⟨k', hk'⟩ := b k r hk
      rw [pX_of hk'] at e
      cases e
theorem pX_ret {m pc len : Nat} {i : Instr} {L S : List Value} {h : HP} {r : Option Value} (hd : decode (mb m) pc = .ok (i, len)) (hr : rets m i len S = some r) : pX m pc L S h = some (r, h) := by
  refine pX_of (k := 1) ?_
  rw [prun, hd]
  simp only [hr]
theorem pX_stp {m pc len : Nat} {i : Instr} {L S : List Value} {h : HP} {pc' : Nat} {L' S' : List Value} {h' : HP} (hd : decode (mb m) pc = .ok (i, len)) (hr : rets m i len S = none) (hc : call m i len S h = none) (hs : stp m pc i len L S h = some (pc', L', S', h')) : pX m pc L S h = pX m pc' L' S' h' := by
  refine pX_congr (fun k r e => ?_) (fun k r e => ⟨k + 1, ?_⟩)
  · cases k with
    | zero => cases e
    | succ k =>
      rw [prun, hd] at e
      simp only [hr, hc, hs] at e
      exact ⟨k, e⟩
  · rw [prun, hd]
    simp only [hr, hc, hs]
    exact e
theorem pX_call {m pc len : Nat} {i : Instr} {L S : List Value} {h : HP} {m' : Nat} {as S' : List Value} {r : Option Value} {h' : HP} (hd : decode (mb m) pc = .ok (i, len)) (hr : rets m i len S = none) (hc : call m i len S h = some (m', as, S')) (hx : pX m' 0 (locs0 m' as) [] h = some (r, h')) : pX m pc L S h = pX m (pc + 3) L (r.toList ++ S') h' := by
  obtain ⟨k0, hk0⟩ := pX_some hx
  refine pX_congr (fun k r1 e => ?_) (fun k r1 e => ⟨max k k0 + 1, ?_⟩)
  · cases k with
    | zero => cases e
    | succ k =>
      rw [prun, hd] at e
      simp only [hr, hc] at e
      cases h1 : prun k m' 0 (locs0 m' as) [] h with
      | none => rw [h1] at e; cases e
      | some q =>
        rw [h1] at e
        cases prun_det h1 hk0
        exact ⟨k, e⟩
  · rw [prun, hd]
    simp only [hr, hc, prun_le (Nat.le_max_right k k0) hk0]
    exact prun_le (Nat.le_max_left k k0) e
theorem pX_callb {m pc len : Nat} {i : Instr} {L S : List Value} {h : HP} {m' : Nat} {as S' : List Value} (hd : decode (mb m) pc = .ok (i, len)) (hr : rets m i len S = none) (hc : call m i len S h = some (m', as, S')) : pX m pc L S h = (pX m' 0 (locs0 m' as) [] h).bind (fun q => pX m (pc + 3) L (q.1.toList ++ S') q.2) := by
  cases hx : pX m' 0 (locs0 m' as) [] h with
  | some q => exact pX_call hd hr hc hx
  | none =>
    show _ = none
    cases e : pX m pc L S h with
    | none => rfl
    | some r =>
      obtain ⟨k, hk⟩ := pX_some e
      cases k with
      | zero => cases hk
      | succ k =>
        rw [prun, hd] at hk
        simp only [hr, hc] at hk
        cases h1 : prun k m' 0 (locs0 m' as) [] h with
        | none => rw [h1] at hk; cases hk
        | some q => rw [pX_of h1] at hx; cases hx
