/-! THE ENGINE, 8: what holds between acts; what the class's heap does not tell -/
/-- the code of members, prices -/
def GC (σ : SM) : Prop :=
  nb (σ 244 0) 10 ∧
  (∀ i, i < 10 → nb (σ 245 i) 3 ∧ nb (σ 246 i) 40 ∧ nb (σ 248 i) 6) ∧
  (∀ i j, i < 10 → j < ix (σ 246 i) → okAct (σ 247 (160 * i + 4 * j)) (σ 247 (160 * i + 4 * j + 1)) (σ 247 (160 * i + 4 * j + 2)) (σ 247 (160 * i + 4 * j + 3))) ∧
  (∀ i j, i < 10 → j < ix (σ 248 i) → nb (σ 249 (24 * i + 4 * j)) 40 ∧ nb (σ 249 (24 * i + 4 * j + 1)) 40 ∧ nb (σ 249 (24 * i + 4 * j + 2)) 9 ∧ nb (σ 249 (24 * i + 4 * j + 3)) 40) ∧
  GP σ
/-- the frames; t: the latest one may be behind its acts -/
def GF (σ : SM) (t : Prop) : Prop :=
  nb (σ 244 29) 12 ∧
  (∀ f, f < ix (σ 244 29) → ∃ r n : Nat, σ 266 f = nI r ∧ r < ix (σ 244 0) ∧ σ 267 f = nI n ∧ n ≤ 40 ∧ (f + 1 < ix (σ 244 29) ∨ ¬ t → n < ix (σ 246 r))) ∧
  (∀ f, 0 < f → f < ix (σ 244 29) → σ 247 (160 * ix (σ 266 (f - 1)) + 4 * ix (σ 267 (f - 1))) = 23 ∧ σ 268 f = σ 247 (160 * ix (σ 266 (f - 1)) + 4 * ix (σ 267 (f - 1)) + 1)) ∧
  (0 < ix (σ 244 29) → σ 244 15 = 0) ∧
  (∀ f, f < 12 → σ 269 (96 + f) = 0 ∧ σ 270 (96 + f) = 0)
/-- holdings -/
def HH (σ : SM) (A : Nat) : Prop :=
  (∀ f k, f < 12 → k < 6000 → ∃ n : Nat, σ 272 (6000 * f + k) = nI n ∧ n ≤ A ∧ (ix (σ 244 29) ≤ f ∨ ix (σ 244 17) ≤ k → n = 0)) ∧
  (∀ f, f < 12 → σ 271 f = nI (sumN (fun k => ix (σ 272 (6000 * f + k))) 6000) ∧ sumN (fun k => ix (σ 272 (6000 * f + k))) 6000 ≤ A) ∧
  (∀ k, k < 6000 → σ 261 k = nI (sumN (fun f => ix (σ 272 (6000 * f + k))) 12) ∧ sumN (fun f => ix (σ 272 (6000 * f + k))) 12 ≤ A)
/-- how many acts can be done yet -/
def PH (σ : SM) : Nat := sumN (fun f => 40 - ix (σ 267 f)) (ix (σ 244 29)) + 82 * ix (σ 244 38)
theorem RH.hh {σ : SM} (w : RH σ) : ∃ A : Nat, A + PH σ ≤ 492000 ∧ HH σ A := by
  obtain ⟨A, a1, a2, a3, a4⟩ := w.un
  exact ⟨A, by unfold PH; omega, a2, a3, a4⟩
theorem HH.rh {σ : SM} {A : Nat} (w : HH σ A) (h : A + PH σ ≤ 492000) : RH σ := by
  have e : ∀ b j, depH b j → mH σ b j = σ b j := fun b j h => if_pos h
  show RHc (mH σ)
  unfold RHc
  have e7 : ∀ q, mH σ 267 q = σ 267 q := fun q => e _ _ (by unfold depH; omega)
  have e2 : ∀ q, mH σ 272 q = σ 272 q := fun q => e _ _ (by unfold depH; omega)
  have e1 : ∀ q, mH σ 271 q = σ 271 q := fun q => e _ _ (by unfold depH; omega)
  have e0 : ∀ q, mH σ 261 q = σ 261 q := fun q => e _ _ (by unfold depH; omega)
  simp only [e 244 29 (by unfold depH; omega), e 244 38 (by unfold depH; omega), e 244 17 (by unfold depH; omega), e7, e2, e1, e0]
  exact ⟨A, by unfold PH at h; omega, w.1, w.2.1, w.2.2⟩
theorem RG.un {σ : SM} (w : RG σ) : GC σ ∧ GB σ ∧ GF σ False ∧ σ 244 8 = (if σ 244 29 = 0 then 0 else 1) := by
  have w' : RGc (mG σ) := w
  unfold RGc at w'
  have e : ∀ b j, ¬ freeS b j → mG σ b j = σ b j := fun b j h => if_neg h
  have x0 : ∀ q, q = 0 ∨ q = 8 ∨ q = 15 ∨ q = 17 ∨ q = 23 ∨ q = 28 ∨ q = 29 ∨ q = 37 ∨ q = 38 ∨ q = 41 → mG σ 244 q = σ 244 q := fun q hq => e _ _ (by unfold freeS; omega)
  have x5 : ∀ p q, (245 ≤ p ∧ p ≤ 249) ∨ p = 251 ∨ (266 ≤ p ∧ p ≤ 270) → mG σ p q = σ p q := fun p q hq => e _ _ (by unfold freeS; omega)
  simp only [x0 0 (by omega), x0 8 (by omega), x0 15 (by omega), x0 17 (by omega), x0 23 (by omega), x0 28 (by omega), x0 29 (by omega), x0 37 (by omega), x0 38 (by omega), x0 41 (by omega), x5 245 _ (by omega), x5 246 _ (by omega), x5 247 _ (by omega), x5 248 _ (by omega), x5 249 _ (by omega), x5 251 _ (by omega), x5 266 _ (by omega), x5 267 _ (by omega), x5 268 _ (by omega), x5 269 _ (by omega), x5 270 _ (by omega)] at w'
  obtain ⟨g1, g2, g3, g4, g5, g6, g7, g8, g9, g10, g11, g12, g13, g14, g15, g16, g17, g18⟩ := w'
  refine ⟨⟨g1, g2, g3, g4, g5⟩, ⟨g6, g7, g8, g10, g11, g12, g13⟩, ⟨g9, fun f hf => ?_, g15, g16, g18⟩, g17⟩
  obtain ⟨r, n, h1, h2, h3, h4⟩ := g14 f hf
  have a40 : ix (σ 246 r) ≤ 40 := by
    obtain ⟨M, m1, m2⟩ := g1
    obtain ⟨a, a1, a2⟩ := (g2 r (by rw [m1, ix_nI (by omega)] at h2; omega)).2.1
    rw [a1, ix_nI (by omega)]; exact a2
  exact ⟨r, n, h1, h2, h3, by omega, fun _ => h4⟩
theorem RG.of {σ : SM} (c : GC σ) (b : GB σ) (f : GF σ False) (w : σ 244 8 = (if σ 244 29 = 0 then 0 else 1)) : RG σ := by
  show RGc (mG σ)
  unfold RGc
  have e : ∀ b j, ¬ freeS b j → mG σ b j = σ b j := fun b j h => if_neg h
  have x0 : ∀ q, q = 0 ∨ q = 8 ∨ q = 15 ∨ q = 17 ∨ q = 23 ∨ q = 28 ∨ q = 29 ∨ q = 37 ∨ q = 38 ∨ q = 41 → mG σ 244 q = σ 244 q := fun q hq => e _ _ (by unfold freeS; omega)
  have x5 : ∀ p q, (245 ≤ p ∧ p ≤ 249) ∨ p = 251 ∨ (266 ≤ p ∧ p ≤ 270) → mG σ p q = σ p q := fun p q hq => e _ _ (by unfold freeS; omega)
  simp only [x0 0 (by omega), x0 8 (by omega), x0 15 (by omega), x0 17 (by omega), x0 23 (by omega), x0 28 (by omega), x0 29 (by omega), x0 37 (by omega), x0 38 (by omega), x0 41 (by omega), x5 245 _ (by omega), x5 246 _ (by omega), x5 247 _ (by omega), x5 248 _ (by omega), x5 249 _ (by omega), x5 251 _ (by omega), x5 266 _ (by omega), x5 267 _ (by omega), x5 268 _ (by omega), x5 269 _ (by omega), x5 270 _ (by omega)]
  obtain ⟨g1, g2, g3, g4, g5⟩ := c
  obtain ⟨g6, g7, g8, g10, g11, g12, g13⟩ := b
  obtain ⟨g9, g14, g15, g16, g18⟩ := f
  refine ⟨g1, g2, g3, g4, g5, g6, g7, g8, g9, g10, g11, g12, g13, fun f hf => ?_, g15, g16, w, g18⟩
  obtain ⟨r, n, h1, h2, h3, h4, h5⟩ := g14 f hf
  exact ⟨r, n, h1, h2, h3, h5 (Or.inr id)⟩
/-- what the class's heap does not tell -/
def dead (F b j : Nat) : Prop := (b = 244 ∧ j ≠ 0 ∧ j ≠ 15 ∧ j ≠ 16 ∧ j ≠ 17 ∧ j ≠ 23 ∧ j ≠ 28 ∧ j ≠ 29 ∧ j ≠ 37 ∧ j ≠ 38 ∧ j ≠ 41) ∨ b = 252 ∨ b = 261 ∨ (b = 267 ∧ F ≤ j) ∨ b = 268 ∨ ((b = 269 ∨ b = 270) ∧ ((8 * F ≤ j ∧ j < 96) ∨ 96 + F ≤ j))
theorem FI.eq {h : HP} {σ σ' : SM} (w : FI h σ) (hS : ∀ b j, ¬ (b = 244 ∧ j ≠ 0 ∧ j ≠ 29 ∧ j ≠ 37 ∧ j ≠ 38 ∧ j ≠ 41) → ¬ b = 252 → ¬ (255 ≤ b ∧ b ≤ 265) → ¬ (267 ≤ b ∧ b ≤ 270) → ¬ b = 272 → σ' b j = σ b j) : FI h σ' := by
  intro a k b j e
  rw [hS b j]
  · exact w a k b j e
  all_goals
    intro q
    exact ncm_s (b := b) (j := j) (by omega) a k e
section
variable {n s : Nat} {K Ln : Nat → Nat} {P : Nat → Nat → Nat} {I S S' : SM} {ca ra : Nat → Nat} {hs : Nat → List Nat} {sp : List Nat}
theorem RXo.agree (w : RXo n s K Ln P I S ca ra hs sp) (hF : ix (S 244 29) ≤ 12) (hS : ∀ p q, 244 ≤ p → p < 276 → ¬ dead (ix (S 244 29)) p q → ¬ p = 271 → S' p q = S p q) : RXo n s K Ln P I S' ca ra hs sp := by
  have hS' : ∀ p q, ((255 ≤ p ∧ p ≤ 260) ∨ (262 ≤ p ∧ p ≤ 266) ∨ p = 272 ∨ (p = 244 ∧ (q = 15 ∨ q = 16 ∨ q = 17 ∨ q = 23 ∨ q = 28 ∨ q = 29))) → S' p q = S p q := fun p q h => hS p q (by omega) (by omega) (by unfold dead; omega) (by omega)
  have s29 : S' 244 29 = S 244 29 := hS' _ _ (by omega)
  obtain ⟨w1, w2, w3, w4, w5, w6⟩ := w
  have e : EXT S ca ra S' ca ra := EXT.same (hS' _ _ (by omega)) (hS' _ _ (by omega)) (fun q => hS' _ _ (by omega)) (fun q => hS' _ _ (by omega))
  refine ⟨⟨?_, fun k hk => ?_⟩, fun f hf => ?_, ⟨fun k hk => ?_, ?_, fun k hk => ?_⟩, ?_, ?_, ?_⟩
  · rw [hS' _ _ (by omega), hS' _ _ (by omega)]
    exact w1.1.ext e rfl rfl rfl rfl
  · rw [hS' _ _ (by omega), hS' _ _ (by omega)]
    exact (w1.2 k hk).ext e rfl rfl rfl rfl
  · rw [s29] at hf
    obtain ⟨z1, z2, z3, z4⟩ := w2 f hf
    refine ⟨?_, ?_, fun k hk => ?_, ?_⟩
    · rw [hS' _ _ (by omega)]; exact z1
    · rw [hS _ _ (by omega) (by omega) (by unfold dead; omega) (by omega)]; exact z2
    · rw [hS 269 _ (by omega) (by omega) (by unfold dead; omega) (by omega), hS 270 _ (by omega) (by omega) (by unfold dead; omega) (by omega)]
      exact (z3 k hk).ext e rfl rfl rfl rfl
    · rw [hS 269 _ (by omega) (by omega) (by unfold dead; omega) (by omega), hS 270 _ (by omega) (by omega) (by unfold dead; omega) (by omega)]
      exact z4.ext e rfl rfl rfl rfl
  · rw [hS' _ _ (by omega)] at hk
    obtain ⟨z1, z2, z3, z4, z5, z6, z7, z8, z9⟩ := w3.1 k hk
    rw [hS' 257 _ (by omega), hS' 258 _ (by omega), hS' 259 _ (by omega), hS' 260 _ (by omega)]
    exact ⟨z1, z2, z3, z4, z5, z6, z7, z8, z9.ext e rfl rfl rfl rfl⟩
  · rw [hS' _ _ (by omega)]; exact w3.2.1
  · rw [hS' _ _ (by omega)] at hk
    rw [hS' _ _ (by omega), hS' _ _ (by omega), hS' _ _ (by omega)]
    exact w3.2.2 k hk
  · exact w4.congr (Nat.le_refl _) (fun _ _ => ⟨rfl, rfl⟩) (fun _ _ _ _ => rfl) (fun _ _ _ _ => rfl) (fun p q h => hS' p q (by omega))
  · have e1 : S' 244 17 = S 244 17 := hS' _ _ (by omega)
    have e3 : ∀ q, S' 272 q = S 272 q := fun q => hS' _ _ (by omega)
    unfold RXh
    simp only [e1, s29, e3]
    exact w5
  · unfold RXn
    rw [hS' _ _ (by omega), hS' _ _ (by omega), hS' _ _ (by omega)]
    exact w6
end
section
variable {L : Nat} {h0 h : HP} {σ σ' : SM} {ca ra : Nat → Nat} {hs : Nat → List Nat} {sp : List Nat}
theorem CR.agree (w : CR L h0 h σ ca ra hs sp) (hS : ∀ p q, 244 ≤ p → p < 276 → ¬ dead (ix (σ 244 29)) p q → σ' p q = σ p q) : CR L h0 h σ' ca ra hs sp := by
  have hF := w.hF
  obtain ⟨w1, w2, w3, w4, w6, w5⟩ := w
  refine ⟨w1, w2, w3, ?_, ?_, ?_⟩
  · intro a k b j e
    have c1 := cm_b e
    rw [hS b j c1.1 c1.2.1]
    · exact w4 a k b j e
    · intro q
      refine ncm_s (b := b) (j := j) ?_ a k e
      unfold dead at q
      omega
  · rw [hS 244 29 (by omega) (by omega) (by unfold dead; omega)]; exact w6
  · refine w5.agree (by rw [mS_x (by omega)]; exact w6) (fun p q h1 h2 h3 h4 => ?_)
    rw [mS_x (by omega)] at h3
    unfold mS
    by_cases z : depS p q
    · rw [if_pos z, if_pos z]; exact hS p q h1 h2 h3
    · rw [if_neg z, if_neg z]
end
