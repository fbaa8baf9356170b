/-! PAIRS: what only reads, or writes one number -/
theorem out_cases (x : Int32) (B : Nat) (hB : B < 2147483648) : (x < 0 ∨ OfNat.ofNat B < x) ∨ ∃ n : Nat, x = nI n ∧ n ≤ B ∧ ¬ (nI n < 0 ∨ OfNat.ofNat B < nI n) := by
  rcases i32_cases (x := x) hB with q | ⟨n, rfl, hn⟩
  · exact Or.inl q
  · refine Or.inr ⟨n, rfl, hn, ?_⟩
    rintro (q | q)
    · exact nI_pos (n := n) (by omega) q
    · exact nI_nlt (a := B) (b := n) hn hB q
theorem RL.fx {xs : Nat → Int32} {L : Nat} {h : HP} (w : RL xs L h) : FX L h := w.1
theorem RL.fi {xs : Nat → Int32} {L : Nat} {h : HP} (w : RL xs L h) : FI h (hp_i h) := w.2.2.2.1
theorem RL.g {xs : Nat → Int32} {L : Nat} {h : HP} (w : RL xs L h) : RGc (mG (hp_i h)) := w.2.2.2.2.1
theorem pr_left (xs : Nat → Int32) (L : Nat) : PR_left L (RL xs L) := by
  intro h w
  have x := w.fx
  refine ⟨hp_i h 7 3, h, h, ?_, ?_, x, fun _ => rfl, w⟩
  · simp only [x1017_0, x1017_1, x1017_4, x1017_7, x1017_10, x.k4, x.a4_0, x.k5, x.a5_2, x.k7]
  · simp only [x1160_0, x1160_1, x1160_4, x.k244, w.fi _ _ _ _ CMR.left]
theorem pr_plan (xs : Nat → Int32) (L : Nat) : PR_plan L (RL xs L) := by
  intro h a1 w
  have x := w.fx
  rcases out_cases a1 11 (by decide) with q | ⟨n, rfl, hn, q⟩
  · refine ⟨-2, h, h, ?_, ?_, x, fun _ => rfl, w⟩
    · simp only [x1009_0, x1009_1, x1009_2, x1009_4, x1009_7, x1009_10, x1009_12, x1009_15, x1009_16, x1009_19, x1009_22, x1009_23, x1009_23R, x1009_24, sp_isOutside, if_pos q, Option.bind_some, Option.toList_some, List.singleton_append, if_false]
      simp [x1009_0, x1009_1, x1009_2, x1009_4, x1009_7, x1009_10, x1009_12, x1009_15, x1009_16, x1009_19, x1009_22, x1009_23, x1009_23R, x1009_24]
    · simp only [x1117_0, x1117_1, x1117_2, x1117_4, x1117_7, x1117_10, x1117_11, x1117_14, x1117_15, x1117_16, x1117_19, x1117_21, sp_in, if_pos q, Option.bind_some, Option.toList_some, List.singleton_append]
      simp [x1117_0, x1117_1, x1117_2, x1117_4, x1117_7, x1117_10, x1117_11, x1117_14, x1117_15, x1117_16, x1117_19, x1117_21]
  · have e1 : inb (nI n) 12 = true := inb_nI (by omega) (by omega)
    have e2 : ix (nI n) = n := ix_nI (by omega)
    refine ⟨hp_i h 11 n, h, h, ?_, ?_, x, fun _ => rfl, w⟩
    · simp only [x1009_0, x1009_1, x1009_2, x1009_4, x1009_7, x1009_10, x1009_12, x1009_15, x1009_16, x1009_19, x1009_22, x1009_23, x1009_23R, x1009_24, sp_isOutside, if_neg q, Option.bind_some, Option.toList_some, List.singleton_append]
      simp [x1009_0, x1009_1, x1009_2, x1009_4, x1009_7, x1009_10, x1009_12, x1009_15, x1009_16, x1009_19, x1009_22, x1009_23, x1009_23R, x1009_24, x.k4, x.a4_0, x.k5, x.a5_4, x.k11, x.l11, e1, e2]
    · simp only [x1117_0, x1117_1, x1117_2, x1117_4, x1117_7, x1117_10, x1117_11, x1117_14, x1117_15, x1117_16, x1117_19, x1117_21, sp_in, if_neg q, Option.bind_some, Option.toList_some, List.singleton_append]
      simp [x1117_0, x1117_1, x1117_2, x1117_4, x1117_7, x1117_10, x1117_11, x1117_14, x1117_15, x1117_16, x1117_19, x1117_21, x.k244, x.a244_11, x.k253, x.l253, e1, e2, w.fi _ _ _ _ (CMR.plan (q := n) (by omega))]
