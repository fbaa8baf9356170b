/-! THE RELATION between the class's cells and the model's -/
/-- which of the class's ints the moving part reads -/
def dynI (a k : Nat) : Prop := a = 14 ∨ (241 ≤ a ∧ a < 244) ∨ 276 ≤ a ∨ (106 ≤ a ∧ a < 238 ∧ ((a - 106) % 11 ≠ 0 ∨ k = 4))
/-- which of the model's cells the moving part reads -/
def depS (b j : Nat) : Prop := (255 ≤ b ∧ b ≤ 272) ∨ (b = 244 ∧ (j = 15 ∨ j = 16 ∨ j = 17 ∨ j = 23 ∨ j = 28 ∨ j = 29))
/-- which of the model's cells nothing is asked of -/
def freeS (b j : Nat) : Prop := b < 244 ∨ 276 ≤ b ∨ b = 250 ∨ b = 252 ∨ b = 253 ∨ b = 254 ∨ b = 273 ∨ b = 274 ∨ b = 275 ∨ (b = 244 ∧ (j = 10 ∨ j = 42 ∨ 44 ≤ j))
noncomputable def mI (f : SM) : SM := fun a k => @ite _ (dynI a k) (Classical.propDecidable _) (f a k) 0
noncomputable def mS (f : SM) : SM := fun a k => @ite _ (depS a k) (Classical.propDecidable _) (f a k) 0
noncomputable def mG (f : SM) : SM := fun a k => @ite _ (freeS a k) (Classical.propDecidable _) 0 (f a k)
theorem mI_at {f : SM} {a k : Nat} (h : dynI a k) : mI f a k = f a k := if_pos h
theorem mS_at {f : SM} {a k : Nat} (h : depS a k) : mS f a k = f a k := if_pos h
theorem mG_at {f : SM} {a k : Nat} (h : ¬ freeS a k) : mG f a k = f a k := if_neg h
theorem mI_u {f : SM} {a k : Nat} {x : Int32} (h : ¬ dynI a k) : mI (hp_u f a k x) = mI f := by
  funext b j
  unfold mI hp_u
  by_cases q : dynI b j
  · rw [if_pos q, if_pos q, if_neg]
    rintro ⟨rfl, rfl⟩
    exact h q
  · rw [if_neg q, if_neg q]
theorem mS_u {f : SM} {a k : Nat} {x : Int32} (h : ¬ depS a k) : mS (hp_u f a k x) = mS f := by
  funext b j
  unfold mS hp_u
  by_cases q : depS b j
  · rw [if_pos q, if_pos q, if_neg]
    rintro ⟨rfl, rfl⟩
    exact h q
  · rw [if_neg q, if_neg q]
theorem mG_u {f : SM} {a k : Nat} {x : Int32} (h : freeS a k) : mG (hp_u f a k x) = mG f := by
  funext b j
  unfold mG hp_u
  by_cases q : freeS b j
  · rw [if_pos q, if_pos q]
  · rw [if_neg q, if_neg q, if_neg]
    rintro ⟨rfl, rfl⟩
    exact q h
/-- an act as act() takes it: op, a, b, c -/
def okAct (op a b c : Int32) : Prop := nb op 27 ∧ ((lookT (ix op) ||| makeT (ix op)) &&& 1 ≠ 0 → nb a 7) ∧ ((lookT (ix op) ||| makeT (ix op)) &&& 2 ≠ 0 → nb b 7) ∧ ((lookT (ix op) ||| makeT (ix op)) &&& 4 ≠ 0 → nb c 7) ∧
  (op = 9 → nb a 40) ∧ (op = 10 → nb b 40) ∧ (op = 11 → nb c 4) ∧ (op = 12 → nb b 3) ∧ (op = 16 → nb c 3) ∧ (op = 17 → nb b 1) ∧ (op = 18 → nb c 11) ∧ (op = 19 → nb b 11)
/-- the model's numbers are where they should be; A: how many acts were done in all -/
def RGc (σ : SM) : Prop :=
  nb (σ 244 0) 10 ∧
  (∀ i, i < 10 → nb (σ 245 i) 3 ∧ nb (σ 246 i) 40 ∧ nb (σ 248 i) 6) ∧
  (∀ i j, i < 10 → j < ix (σ 246 i) → okAct (σ 247 (160 * i + 4 * j)) (σ 247 (160 * i + 4 * j + 1)) (σ 247 (160 * i + 4 * j + 2)) (σ 247 (160 * i + 4 * j + 3))) ∧
  (∀ i j, i < 10 → j < ix (σ 248 i) → nb (σ 249 (24 * i + 4 * j)) 40 ∧ nb (σ 249 (24 * i + 4 * j + 1)) 40 ∧ nb (σ 249 (24 * i + 4 * j + 2)) 9 ∧ nb (σ 249 (24 * i + 4 * j + 3)) 40) ∧
  (∀ k, k < 5 → ∃ n : Nat, σ 251 k = nI n ∧ 1 ≤ n ∧ n ≤ 9) ∧
  nb (σ 244 41) 100 ∧ nb (σ 244 37) 1000 ∧ nb (σ 244 38) 6000 ∧ nb (σ 244 29) 12 ∧ nb (σ 244 17) 6000 ∧ nb (σ 244 23) 6000 ∧ nb (σ 244 28) 6000 ∧
  ix (σ 244 17) + ix (σ 244 23) + ix (σ 244 28) + ix (σ 244 38) ≤ 6000 ∧
  (∀ f, f < ix (σ 244 29) → ∃ r n : Nat, σ 266 f = nI r ∧ r < ix (σ 244 0) ∧ σ 267 f = nI n ∧ n < ix (σ 246 r)) ∧
  (∀ f, 0 < f → f < ix (σ 244 29) → σ 247 (160 * ix (σ 266 (f - 1)) + 4 * ix (σ 267 (f - 1))) = 23 ∧ σ 268 f = σ 247 (160 * ix (σ 266 (f - 1)) + 4 * ix (σ 267 (f - 1)) + 1)) ∧
  (0 < ix (σ 244 29) → σ 244 15 = 0) ∧
  σ 244 8 = (if σ 244 29 = 0 then 0 else 1) ∧
  (∀ f, f < 12 → σ 269 (96 + f) = 0 ∧ σ 270 (96 + f) = 0)
noncomputable def RG (σ : SM) : Prop := RGc (mG σ)
