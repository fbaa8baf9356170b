/-! NUMBERS -/
theorem nI_mul (a b : Nat) : nI a * nI b = nI (a * b) := (Int32.ofNat_mul a b).symm
theorem nI_sub {a b : Nat} (h : b ≤ a) : nI a - nI b = nI (a - b) := by
  have e : nI a = nI (a - b) + nI b := by rw [nI_add]; congr 1; omega
  rw [e, Int32.add_sub_cancel]
theorem nI_lit (n : Nat) : (OfNat.ofNat n : Int32) = nI n := rfl
theorem ix_nI {n : Nat} (h : n < 2147483648) : ix (nI n) = n := nI_clamp h
/-- a number from 0 to B -/
def nb (x : Int32) (B : Nat) : Prop := ∃ n : Nat, x = nI n ∧ n ≤ B
theorem nb.ix {x : Int32} {B : Nat} (h : nb x B) (hB : B < 2147483648) : x = nI (ix x) ∧ ix x ≤ B := by
  obtain ⟨n, rfl, h2⟩ := h
  rw [ix_nI (by omega)]
  exact ⟨rfl, h2⟩
theorem inb_nI {n N : Nat} (h : n < N) (hn : n < 2147483648) : inb (nI n) N = true := by
  simp only [inb, Bool.and_eq_true, decide_eq_true_eq]
  exact ⟨nI_pos' hn, by rw [ix_nI hn]; exact h⟩
theorem inb_lit {n N : Nat} (h : n < N) (hn : n < 2147483648) : inb (OfNat.ofNat n) N = true := inb_nI h hn
theorem ix_lit {n : Nat} (h : n < 2147483648) : ix (OfNat.ofNat n) = n := ix_nI h
/-- isOutside, in: a number between two small ones -/
theorem i32_cases {x : Int32} {B : Nat} (hB : B < 2147483648) : (x < 0 ∨ nI B < x) ∨ ∃ n : Nat, x = nI n ∧ n ≤ B := by
  by_cases h1 : x < 0
  · exact Or.inl (Or.inl h1)
  · by_cases h2 : nI B < x
    · exact Or.inl (Or.inr h2)
    · obtain ⟨j, hj, rfl⟩ := nI_of h1
      refine Or.inr ⟨j, rfl, ?_⟩
      rcases Nat.lt_or_ge B j with q | q
      · exact absurd (nI_lt q hj) h2
      · exact q
