/-! THE CLASS AND THE MODEL: how one heap holds both -/
abbrev SM : Type := Nat → Nat → Int32
/-- a fixed int of the class's (cell a, place k), and where the model keeps the same (cell b, place j) -/
def CMR (a k b j : Nat) : Prop :=
  (a = 5 ∧ k = 1 ∧ b = 244 ∧ j = 0) ∨
  (a = 5 ∧ k = 7 ∧ b = 244 ∧ j = 29) ∨
  (a = 5 ∧ k = 11 ∧ b = 244 ∧ j = 41) ∨
  (∃ t : Nat, 1 ≤ t ∧ t ≤ 4 ∧ a = 5 ∧ k = 11 + t ∧ b = 275 ∧ j = t) ∨
  (a = 7 ∧ k = 2 ∧ b = 244 ∧ j = 37) ∨
  (a = 7 ∧ k = 3 ∧ b = 244 ∧ j = 38) ∨
  (∃ q : Nat, q < 5 ∧ a = 8 ∧ k = q ∧ b = 251 ∧ j = q) ∨
  (∃ q : Nat, q < 9 ∧ a = 9 ∧ k = q ∧ b = 273 ∧ j = q) ∨
  (∃ q : Nat, q < 12 ∧ a = 11 ∧ k = q ∧ b = 253 ∧ j = q) ∨
  (∃ q : Nat, q < 12 ∧ a = 12 ∧ k = q ∧ b = 254 ∧ j = q) ∨
  (∃ q : Nat, q < 100 ∧ a = 15 ∧ k = q ∧ b = 274 ∧ j = q) ∨
  (∃ i : Nat, i < 10 ∧ a = 16 + 9 * i ∧ k = 0 ∧ b = 245 ∧ j = i) ∨
  (∃ i : Nat, i < 10 ∧ a = 16 + 9 * i ∧ k = 1 ∧ b = 250 ∧ j = i) ∨
  (∃ i : Nat, i < 10 ∧ a = 16 + 9 * i ∧ k = 2 ∧ b = 246 ∧ j = i) ∨
  (∃ i : Nat, i < 10 ∧ a = 16 + 9 * i ∧ k = 7 ∧ b = 248 ∧ j = i) ∨
  (∃ i r q : Nat, i < 10 ∧ r < 4 ∧ q < 40 ∧ a = 17 + 9 * i + r ∧ k = q ∧ b = 247 ∧ j = 160 * i + 4 * q + r) ∨
  (∃ i r q : Nat, i < 10 ∧ r < 4 ∧ q < 6 ∧ a = 21 + 9 * i + r ∧ k = q ∧ b = 249 ∧ j = 24 * i + 4 * q + r) ∨
  (∃ f : Nat, f < 12 ∧ a = 106 + 11 * f ∧ k = 3 ∧ b = 266 ∧ j = f) ∨
  (∃ f : Nat, f < 12 ∧ a = 106 + 11 * f ∧ k = 6 ∧ b = 271 ∧ j = f)
theorem CMR.mcount  : CMR (5) (1) 244 (0) := Or.inl ⟨rfl, rfl, rfl, rfl⟩
theorem CMR.frames  : CMR (5) (7) 244 (29) := Or.inr (Or.inl ⟨rfl, rfl, rfl, rfl⟩)
theorem CMR.traced  : CMR (5) (11) 244 (41) := Or.inr (Or.inr (Or.inl ⟨rfl, rfl, rfl, rfl⟩))
theorem CMR.told {t : Nat} (h0 : 1 ≤ t) (h1 : t ≤ 4) : CMR (5) (11 + t) 275 (t) := Or.inr (Or.inr (Or.inr (Or.inl ⟨t, h0, h1, rfl, rfl, rfl, rfl⟩)))
theorem CMR.budget  : CMR (7) (2) 244 (37) := Or.inr (Or.inr (Or.inr (Or.inr (Or.inl ⟨rfl, rfl, rfl, rfl⟩))))
theorem CMR.left  : CMR (7) (3) 244 (38) := Or.inr (Or.inr (Or.inr (Or.inr (Or.inr (Or.inl ⟨rfl, rfl, rfl, rfl⟩)))))
theorem CMR.price {q : Nat} (h0 : q < 5) : CMR (8) (q) 251 (q) := Or.inr (Or.inr (Or.inr (Or.inr (Or.inr (Or.inr (Or.inl ⟨q, h0, rfl, rfl, rfl, rfl⟩))))))
theorem CMR.counted {q : Nat} (h0 : q < 9) : CMR (9) (q) 273 (q) := Or.inr (Or.inr (Or.inr (Or.inr (Or.inr (Or.inr (Or.inr (Or.inl ⟨q, h0, rfl, rfl, rfl, rfl⟩)))))))
theorem CMR.plan {q : Nat} (h0 : q < 12) : CMR (11) (q) 253 (q) := Or.inr (Or.inr (Or.inr (Or.inr (Or.inr (Or.inr (Or.inr (Or.inr (Or.inl ⟨q, h0, rfl, rfl, rfl, rfl⟩))))))))
theorem CMR.planWas {q : Nat} (h0 : q < 12) : CMR (12) (q) 254 (q) := Or.inr (Or.inr (Or.inr (Or.inr (Or.inr (Or.inr (Or.inr (Or.inr (Or.inr (Or.inl ⟨q, h0, rfl, rfl, rfl, rfl⟩)))))))))
theorem CMR.trace {q : Nat} (h0 : q < 100) : CMR (15) (q) 274 (q) := Or.inr (Or.inr (Or.inr (Or.inr (Or.inr (Or.inr (Or.inr (Or.inr (Or.inr (Or.inr (Or.inl ⟨q, h0, rfl, rfl, rfl, rfl⟩))))))))))
theorem CMR.wanted {i : Nat} (h0 : i < 10) : CMR (16 + 9 * i) (0) 245 (i) := Or.inr (Or.inr (Or.inr (Or.inr (Or.inr (Or.inr (Or.inr (Or.inr (Or.inr (Or.inr (Or.inr (Or.inl ⟨i, h0, rfl, rfl, rfl, rfl⟩)))))))))))
theorem CMR.begun {i : Nat} (h0 : i < 10) : CMR (16 + 9 * i) (1) 250 (i) := Or.inr (Or.inr (Or.inr (Or.inr (Or.inr (Or.inr (Or.inr (Or.inr (Or.inr (Or.inr (Or.inr (Or.inr (Or.inl ⟨i, h0, rfl, rfl, rfl, rfl⟩))))))))))))
theorem CMR.acts {i : Nat} (h0 : i < 10) : CMR (16 + 9 * i) (2) 246 (i) := Or.inr (Or.inr (Or.inr (Or.inr (Or.inr (Or.inr (Or.inr (Or.inr (Or.inr (Or.inr (Or.inr (Or.inr (Or.inr (Or.inl ⟨i, h0, rfl, rfl, rfl, rfl⟩)))))))))))))
theorem CMR.handlers {i : Nat} (h0 : i < 10) : CMR (16 + 9 * i) (7) 248 (i) := Or.inr (Or.inr (Or.inr (Or.inr (Or.inr (Or.inr (Or.inr (Or.inr (Or.inr (Or.inr (Or.inr (Or.inr (Or.inr (Or.inr (Or.inl ⟨i, h0, rfl, rfl, rfl, rfl⟩))))))))))))))
theorem CMR.code {i r q : Nat} (h0 : i < 10) (h1 : r < 4) (h2 : q < 40) : CMR (17 + 9 * i + r) (q) 247 (160 * i + 4 * q + r) := Or.inr (Or.inr (Or.inr (Or.inr (Or.inr (Or.inr (Or.inr (Or.inr (Or.inr (Or.inr (Or.inr (Or.inr (Or.inr (Or.inr (Or.inr (Or.inl ⟨i, r, q, h0, h1, h2, rfl, rfl, rfl, rfl⟩)))))))))))))))
theorem CMR.catching {i r q : Nat} (h0 : i < 10) (h1 : r < 4) (h2 : q < 6) : CMR (21 + 9 * i + r) (q) 249 (24 * i + 4 * q + r) := Or.inr (Or.inr (Or.inr (Or.inr (Or.inr (Or.inr (Or.inr (Or.inr (Or.inr (Or.inr (Or.inr (Or.inr (Or.inr (Or.inr (Or.inr (Or.inr (Or.inl ⟨i, r, q, h0, h1, h2, rfl, rfl, rfl, rfl⟩))))))))))))))))
theorem CMR.running {f : Nat} (h0 : f < 12) : CMR (106 + 11 * f) (3) 266 (f) := Or.inr (Or.inr (Or.inr (Or.inr (Or.inr (Or.inr (Or.inr (Or.inr (Or.inr (Or.inr (Or.inr (Or.inr (Or.inr (Or.inr (Or.inr (Or.inr (Or.inr (Or.inl ⟨f, h0, rfl, rfl, rfl, rfl⟩)))))))))))))))))
theorem CMR.holds {f : Nat} (h0 : f < 12) : CMR (106 + 11 * f) (6) 271 (f) := Or.inr (Or.inr (Or.inr (Or.inr (Or.inr (Or.inr (Or.inr (Or.inr (Or.inr (Or.inr (Or.inr (Or.inr (Or.inr (Or.inr (Or.inr (Or.inr (Or.inr (Or.inr (⟨f, h0, rfl, rfl, rfl, rfl⟩))))))))))))))))))
/-- and back -/
def ci (b j : Nat) : Nat × Nat :=
  if b = 244 then (if j = 0 then (5, 1) else if j = 29 then (5, 7) else if j = 41 then (5, 11) else if j = 37 then (7, 2) else (7, 3))
  else if b = 275 then (5, 11 + j) else if b = 251 then (8, j) else if b = 273 then (9, j) else if b = 253 then (11, j) else if b = 254 then (12, j) else if b = 274 then (15, j)
  else if b = 245 then (16 + 9 * j, 0) else if b = 250 then (16 + 9 * j, 1) else if b = 246 then (16 + 9 * j, 2) else if b = 248 then (16 + 9 * j, 7)
  else if b = 247 then (17 + 9 * (j / 160) + j % 4, j % 160 / 4) else if b = 249 then (21 + 9 * (j / 24) + j % 4, j % 24 / 4)
  else if b = 266 then (106 + 11 * j, 3) else (106 + 11 * j, 6)
theorem ci_cm {a k b j : Nat} (h : CMR a k b j) : ci b j = (a, k) := by
  rcases h with ⟨rfl, rfl, rfl, rfl⟩ | ⟨rfl, rfl, rfl, rfl⟩ | ⟨rfl, rfl, rfl, rfl⟩ | ⟨t, h0, h1, rfl, rfl, rfl, rfl⟩ | ⟨rfl, rfl, rfl, rfl⟩ | ⟨rfl, rfl, rfl, rfl⟩ | ⟨q, h0, rfl, rfl, rfl, rfl⟩ | ⟨q, h0, rfl, rfl, rfl, rfl⟩ | ⟨q, h0, rfl, rfl, rfl, rfl⟩ | ⟨q, h0, rfl, rfl, rfl, rfl⟩ | ⟨q, h0, rfl, rfl, rfl, rfl⟩ | ⟨i, h0, rfl, rfl, rfl, rfl⟩ | ⟨i, h0, rfl, rfl, rfl, rfl⟩ | ⟨i, h0, rfl, rfl, rfl, rfl⟩ | ⟨i, h0, rfl, rfl, rfl, rfl⟩ | ⟨i, r, q, h0, h1, h2, rfl, rfl, rfl, rfl⟩ | ⟨i, r, q, h0, h1, h2, rfl, rfl, rfl, rfl⟩ | ⟨f, h0, rfl, rfl, rfl, rfl⟩ | ⟨f, h0, rfl, rfl, rfl, rfl⟩
  · rfl
  · rfl
  · rfl
  · rfl
  · rfl
  · rfl
  · rfl
  · rfl
  · rfl
  · rfl
  · rfl
  · rfl
  · rfl
  · rfl
  · rfl
  · refine Prod.ext ?_ ?_
    · show _ = _
      simp only [ci, Nat.reduceEqDiff, if_false, if_true]
      omega
    · show _ = _
      simp only [ci, Nat.reduceEqDiff, if_false, if_true]
      omega
  · refine Prod.ext ?_ ?_
    · show _ = _
      simp only [ci, Nat.reduceEqDiff, if_false, if_true]
      omega
    · show _ = _
      simp only [ci, Nat.reduceEqDiff, if_false, if_true]
      omega
  · rfl
  · rfl
theorem cm_inj {a k a' k' b j : Nat} (h : CMR a k b j) (h' : CMR a' k' b j) : a = a' ∧ k = k' := by
  have := (ci_cm h).symm.trans (ci_cm h')
  simpa using this
theorem cm_lt {a k b j : Nat} (h : CMR a k b j) : 5 ≤ a ∧ a < 238 ∧ a ≠ 14 ∧ (106 ≤ a → (a - 106) % 11 = 0) ∧ a ≠ 10 := by
  rcases h with ⟨rfl, rfl, rfl, rfl⟩ | ⟨rfl, rfl, rfl, rfl⟩ | ⟨rfl, rfl, rfl, rfl⟩ | ⟨t, h0, h1, rfl, rfl, rfl, rfl⟩ | ⟨rfl, rfl, rfl, rfl⟩ | ⟨rfl, rfl, rfl, rfl⟩ | ⟨q, h0, rfl, rfl, rfl, rfl⟩ | ⟨q, h0, rfl, rfl, rfl, rfl⟩ | ⟨q, h0, rfl, rfl, rfl, rfl⟩ | ⟨q, h0, rfl, rfl, rfl, rfl⟩ | ⟨q, h0, rfl, rfl, rfl, rfl⟩ | ⟨i, h0, rfl, rfl, rfl, rfl⟩ | ⟨i, h0, rfl, rfl, rfl, rfl⟩ | ⟨i, h0, rfl, rfl, rfl, rfl⟩ | ⟨i, h0, rfl, rfl, rfl, rfl⟩ | ⟨i, r, q, h0, h1, h2, rfl, rfl, rfl, rfl⟩ | ⟨i, r, q, h0, h1, h2, rfl, rfl, rfl, rfl⟩ | ⟨f, h0, rfl, rfl, rfl, rfl⟩ | ⟨f, h0, rfl, rfl, rfl, rfl⟩ <;> omega
theorem cm_b {a k b j : Nat} (h : CMR a k b j) : 244 ≤ b ∧ b < 276 ∧ (106 ≤ a → k = 3 ∨ k = 6) := by
  rcases h with ⟨rfl, rfl, rfl, rfl⟩ | ⟨rfl, rfl, rfl, rfl⟩ | ⟨rfl, rfl, rfl, rfl⟩ | ⟨t, h0, h1, rfl, rfl, rfl, rfl⟩ | ⟨rfl, rfl, rfl, rfl⟩ | ⟨rfl, rfl, rfl, rfl⟩ | ⟨q, h0, rfl, rfl, rfl, rfl⟩ | ⟨q, h0, rfl, rfl, rfl, rfl⟩ | ⟨q, h0, rfl, rfl, rfl, rfl⟩ | ⟨q, h0, rfl, rfl, rfl, rfl⟩ | ⟨q, h0, rfl, rfl, rfl, rfl⟩ | ⟨i, h0, rfl, rfl, rfl, rfl⟩ | ⟨i, h0, rfl, rfl, rfl, rfl⟩ | ⟨i, h0, rfl, rfl, rfl, rfl⟩ | ⟨i, h0, rfl, rfl, rfl, rfl⟩ | ⟨i, r, q, h0, h1, h2, rfl, rfl, rfl, rfl⟩ | ⟨i, r, q, h0, h1, h2, rfl, rfl, rfl, rfl⟩ | ⟨f, h0, rfl, rfl, rfl, rfl⟩ | ⟨f, h0, rfl, rfl, rfl, rfl⟩ <;> omega
theorem CMR_fun {a k b j b' j' : Nat} (h : CMR a k b j) (h' : CMR a k b' j') : b = b' ∧ j = j' := by
  rcases h with ⟨rfl, rfl, rfl, rfl⟩ | ⟨rfl, rfl, rfl, rfl⟩ | ⟨rfl, rfl, rfl, rfl⟩ | ⟨t, h0, h1, rfl, rfl, rfl, rfl⟩ | ⟨rfl, rfl, rfl, rfl⟩ | ⟨rfl, rfl, rfl, rfl⟩ | ⟨q, h0, rfl, rfl, rfl, rfl⟩ | ⟨q, h0, rfl, rfl, rfl, rfl⟩ | ⟨q, h0, rfl, rfl, rfl, rfl⟩ | ⟨q, h0, rfl, rfl, rfl, rfl⟩ | ⟨q, h0, rfl, rfl, rfl, rfl⟩ | ⟨i, h0, rfl, rfl, rfl, rfl⟩ | ⟨i, h0, rfl, rfl, rfl, rfl⟩ | ⟨i, h0, rfl, rfl, rfl, rfl⟩ | ⟨i, h0, rfl, rfl, rfl, rfl⟩ | ⟨i, r, q, h0, h1, h2, rfl, rfl, rfl, rfl⟩ | ⟨i, r, q, h0, h1, h2, rfl, rfl, rfl, rfl⟩ | ⟨f, h0, rfl, rfl, rfl, rfl⟩ | ⟨f, h0, rfl, rfl, rfl, rfl⟩ <;> rcases h' with ⟨e1, e2, rfl, rfl⟩ | ⟨e1, e2, rfl, rfl⟩ | ⟨e1, e2, rfl, rfl⟩ | ⟨t2, g0, g1, e1, e2, rfl, rfl⟩ | ⟨e1, e2, rfl, rfl⟩ | ⟨e1, e2, rfl, rfl⟩ | ⟨q2, g0, e1, e2, rfl, rfl⟩ | ⟨q2, g0, e1, e2, rfl, rfl⟩ | ⟨q2, g0, e1, e2, rfl, rfl⟩ | ⟨q2, g0, e1, e2, rfl, rfl⟩ | ⟨q2, g0, e1, e2, rfl, rfl⟩ | ⟨i2, g0, e1, e2, rfl, rfl⟩ | ⟨i2, g0, e1, e2, rfl, rfl⟩ | ⟨i2, g0, e1, e2, rfl, rfl⟩ | ⟨i2, g0, e1, e2, rfl, rfl⟩ | ⟨i2, r2, q2, g0, g1, g2, e1, e2, rfl, rfl⟩ | ⟨i2, r2, q2, g0, g1, g2, e1, e2, rfl, rfl⟩ | ⟨f2, g0, e1, e2, rfl, rfl⟩ | ⟨f2, g0, e1, e2, rfl, rfl⟩ <;> omega
def FI (h : HP) (σ : SM) : Prop := ∀ a k b j, CMR a k b j → hp_i h a k = σ b j
theorem FI.w {h : HP} {σ : SM} {a k b j : Nat} {x : Int32} (w : FI h σ) (e : CMR a k b j) : FI (hp_wi h a k x) (hp_u σ b j x) := by
  intro a' k' b' j' e'
  rw [hp_i_wi]
  unfold hp_u
  by_cases q : a' = a ∧ k' = k
  · obtain ⟨rfl, rfl⟩ := q
    have e2 := (ci_cm e).trans (ci_cm e').symm
    rw [if_pos ⟨rfl, rfl⟩, if_pos (CMR_fun e' e)]
  · rw [if_neg q, if_neg, w a' k' b' j' e']
    rintro ⟨rfl, rfl⟩
    exact q (cm_inj e' e)
theorem FI.wo {h : HP} {σ : SM} {a k : Nat} {x : Int32} (w : FI h σ) (e : ∀ b j, ¬ CMR a k b j) : FI (hp_wi h a k x) σ := by
  intro a' k' b' j' e'
  rw [hp_i_wi, if_neg, w a' k' b' j' e']
  rintro ⟨rfl, rfl⟩
  exact e _ _ e'
theorem FI.so {h : HP} {σ : SM} {b j : Nat} {x : Int32} (w : FI h σ) (e : ∀ a k, ¬ CMR a k b j) : FI h (hp_u σ b j x) := by
  intro a' k' b' j' e'
  unfold hp_u
  rw [if_neg, w a' k' b' j' e']
  rintro ⟨rfl, rfl⟩
  exact e _ _ e'
theorem FI.wa {h : HP} {σ : SM} {a k v : Nat} (w : FI h σ) : FI (hp_wa h a k v) σ := w
theorem FI.mk {h : HP} {σ : SM} {t n s : Nat} (w : FI h σ) (hn : 276 ≤ hp_n h) : FI (hp_mk h t n s) σ := by
  intro a k b j e
  have := cm_lt e
  rw [hp_i_mk, if_neg (by omega)]
  exact w a k b j e
/-- what the model's own cells, and the arrays of before, hold -/
def RM (h : HP) (ρ : SM) : Prop := ∀ a j, a < 4 ∨ (244 ≤ a ∧ a < 276) → hp_i h a j = ρ a j
/-- the KIND of a THING -/
def thK (σ : SM) (K V : Int32) : Int32 := if K = 0 then -5 else if K = 1 then 0 else if K = 2 then 1 + σ 257 (ix V) else 5 + σ 262 (ix V)
/-- a slot holds a THING -/
def SL (h : HP) (σ : SM) (ca ra : Nat → Nat) (a : Nat) (K V : Int32) : Prop := hp_i h a 0 = thK σ K V ∧ hp_i h a 1 = (if K = 1 then V else 0) ∧ hp_a h a 2 = (if K = 2 then ca (ix V) else 0) ∧ hp_a h a 3 = (if K = 3 then ra (ix V) else 0)
def okT (σ : SM) (K V : Int32) : Prop := K = 0 ∨ K = 1 ∨ (K = 2 ∧ ∃ n : Nat, V = nI n ∧ n < ix (σ 244 17)) ∨ (K = 3 ∧ ∃ n : Nat, V = nI n ∧ n < ix (σ 244 23))
