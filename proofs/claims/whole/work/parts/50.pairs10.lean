/-! PAIRS: result -/
/-- holdings, unmasked -/
theorem RH.un {σ : SM} (w : RH σ) : ∃ A : Nat, A + sumN (fun f => 40 - ix (σ 267 f)) (ix (σ 244 29)) + 82 * ix (σ 244 38) ≤ 492000 ∧
  (∀ f k, f < 12 → k < 6000 → ∃ n : Nat, σ 272 (6000 * f + k) = nI n ∧ n ≤ A ∧ (ix (σ 244 29) ≤ f ∨ ix (σ 244 17) ≤ k → n = 0)) ∧
  (∀ f, f < 12 → σ 271 f = nI (sumN (fun k => ix (σ 272 (6000 * f + k))) 6000) ∧ sumN (fun k => ix (σ 272 (6000 * f + k))) 6000 ≤ A) ∧
  (∀ k, k < 6000 → σ 261 k = nI (sumN (fun f => ix (σ 272 (6000 * f + k))) 12) ∧ sumN (fun f => ix (σ 272 (6000 * f + k))) 12 ≤ A) := by
  have e : ∀ b j, depH b j → mH σ b j = σ b j := fun b j h => if_pos h
  have w' : RHc (mH σ) := w
  unfold RHc at w'
  have e7 : ∀ q, mH σ 267 q = σ 267 q := fun q => e _ _ (by unfold depH; omega)
  have e2 : ∀ q, mH σ 272 q = σ 272 q := fun q => e _ _ (by unfold depH; omega)
  have e1 : ∀ q, mH σ 271 q = σ 271 q := fun q => e _ _ (by unfold depH; omega)
  have e0 : ∀ q, mH σ 261 q = σ 261 q := fun q => e _ _ (by unfold depH; omega)
  simp only [e 244 29 (by unfold depH; omega), e 244 38 (by unfold depH; omega), e 244 17 (by unfold depH; omega), e7, e2, e1, e0] at w'
  exact w'
theorem CR.hold {L : Nat} {h0 h : HP} {σ : SM} {ca ra : Nat → Nat} {hs : Nat → List Nat} {sp : List Nat} (w : CR L h0 h σ ca ra hs sp) : (∀ f, f < 12 → chn (hp_a h) (hp_a h (106 + 11 * f) 5) (hs f)) ∧ (∀ f, ix (σ 244 29) ≤ f → hs f = []) ∧ chn (hp_a h) (hp_a h 10 0) sp ∧
  (∀ x ∈ allH hs sp, 276 ≤ x ∧ x < hp_n h ∧ hp_k h x = 3) ∧ (allH hs sp).Nodup ∧
  (∀ f, f < ix (σ 244 29) → ∀ x ∈ hs f, hp_a h x 1 = 106 + 11 * f ∧ ∃ k, k < ix (σ 244 17) ∧ hp_a h x 0 = ca k ∧ hp_i h x 2 = σ 272 (6000 * f + k) ∧ hp_a h x 3 = lat (hp_a h) hs (ca k) f) ∧
  (∀ f, f < ix (σ 244 29) → ∀ x ∈ hs f, ∀ y ∈ hs f, hp_a h x 0 = hp_a h y 0 → x = y) ∧
  (∀ f k, f < ix (σ 244 29) → k < ix (σ 244 17) → σ 272 (6000 * f + k) ≠ 0 → ∃ x ∈ hs f, hp_a h x 0 = ca k) ∧
  (∀ k, k < ix (σ 244 17) → hp_a h (ca k) 3 = lat (hp_a h) hs (ca k) (ix (σ 244 29))) := by
  have hF := w.hF
  obtain ⟨h1, h2, h3, h4, h5, h6, h7, h8, h9⟩ := w.rx.2.2.2.2.1
  rw [mS_x (by omega)] at h2 h6 h7 h8 h9
  rw [mS_x (by omega)] at h6 h8 h9
  refine ⟨h1, h2, h3, h4, h5, fun f hf x hx => ?_, h7, fun f k hf hk hz => ?_, h9⟩
  · obtain ⟨z1, k, z2, z3, z4, z5⟩ := h6 f hf x hx
    have y := h4 x (allH_mem (by omega) hx)
    rw [mI_at (by unfold dynI; omega), mS_m (by omega)] at z4
    exact ⟨z1, k, z2, z3, z4, z5⟩
  · exact h8 f k hf hk (by rw [mS_m (by omega)]; exact hz)
theorem CR.cinj {L : Nat} {h0 h : HP} {σ : SM} {ca ra : Nat → Nat} {hs : Nat → List Nat} {sp : List Nat} (w : CR L h0 h σ ca ra hs sp) {k k' : Nat} (hk : k < ix (σ 244 17)) (hk' : k' < ix (σ 244 17)) (e : ca k = ca k') : k = k' :=
  w.rx.2.2.1.2.1 k k' (by rw [mS_x (by omega)]; exact hk) (by rw [mS_x (by omega)]; exact hk') e
/-- how often a cell is held -/
theorem CR.times {L : Nat} {h0 h : HP} {σ : SM} {ca ra : Nat → Nat} {hs : Nat → List Nat} {sp : List Nat} {k : Nat} (w : CR L h0 h σ ca ra hs sp) (hk : k < ix (σ 244 17)) : ∀ g acc, g ≤ ix (σ 244 29) → pX 2 7 [.ref (ca k), .int acc, .ref (lat (hp_a h) hs (ca k) g)] [] h = some (some (.int (acc + sumI (fun f => σ 272 (6000 * f + k)) g)), h) := by
  obtain ⟨h1, h2, h3, h4, h5, h6, h7, h8, h9⟩ := w.hold
  have hF := w.hF
  intro g
  induction g with
  | zero =>
    intro acc _
    simp only [x2_0, x2_1, x2_2, x2_3, x2_6, x2_7, x2_8, x2_11, x2_12, x2_13, x2_16, x2_17, x2_18, x2_19, x2_22, x2_23, x2_26, x2_27, lat, if_true, sumI, Int32.add_zero]
  | succ g ih =>
    intro acc hg
    cases hf : (hs g).find? (fun x => hp_a h x 0 == ca k) with
    | none =>
      have e1 : lat (hp_a h) hs (ca k) (g + 1) = lat (hp_a h) hs (ca k) g := by
        conv => lhs; unfold lat
        rw [hf]
      have e2 : σ 272 (6000 * g + k) = 0 := by
        apply Decidable.byContradiction
        intro hz
        obtain ⟨x, hx, e⟩ := h8 g k (by omega) hk hz
        have := List.find?_eq_none.mp hf x hx
        exact this (by rw [e]; exact beq_self_eq_true _)
      rw [e1, ih acc (by omega)]
      show _ = some (some (Value.int (acc + (sumI _ g + σ 272 (6000 * g + k)))), h)
      rw [e2, Int32.add_zero]
    | some x =>
      have hx := List.mem_of_find?_eq_some hf
      have hc : hp_a h x 0 = ca k := by have := List.find?_some hf; simpa using this
      have e1 : lat (hp_a h) hs (ca k) (g + 1) = x := by
        conv => lhs; unfold lat
        rw [hf]
      obtain ⟨z1, k', z2, z3, z4, z5⟩ := h6 g (by omega) x hx
      obtain rfl : k = k' := w.cinj hk z2 (hc.symm.trans z3)
      obtain ⟨y1, y2, y3⟩ := h4 x (allH_mem (by omega) hx)
      have nz : ¬ x = 0 := by omega
      rw [e1]
      simp only [x2_0, x2_1, x2_2, x2_3, x2_6, x2_7, x2_8, x2_11, x2_12, x2_13, x2_16, x2_17, x2_18, x2_19, x2_22, x2_26, x2_27, nz, if_false, y3, z4, z5]
      rw [x2_23, ih _ (by omega)]
      show _ = some (some (Value.int (acc + (sumI _ g + σ 272 (6000 * g + k)))), h)
      rw [Int32.add_assoc, Int32.add_comm (σ 272 _)]
theorem CR.timesHeld {L : Nat} {h0 h : HP} {σ : SM} {ca ra : Nat → Nat} {hs : Nat → List Nat} {sp : List Nat} {k : Nat} (w : CR L h0 h σ ca ra hs sp) (g : RH σ) (hk : k < ix (σ 244 17)) (hk6 : k < 6000) : pX 2 0 [.ref (ca k), .retAddr 0, .retAddr 0] [] h = some (some (.int (σ 261 k)), h) := by
  obtain ⟨c1, c2, c3, _⟩ := w.cel hk
  obtain ⟨h1, h2, h3, h4, h5, h6, h7, h8, h9⟩ := w.hold
  obtain ⟨A, a1, a2, a3, a4⟩ := g.un
  have hF := w.hF
  simp only [x2_0, x2_1, x2_2, x2_3, x2_6, c3]
  rw [h9 k hk, w.times hk _ 0 (Nat.le_refl _)]
  have e1 : sumI (fun f => σ 272 (6000 * f + k)) (ix (σ 244 29)) = nI (sumN (fun f => ix (σ 272 (6000 * f + k))) (ix (σ 244 29))) := sumI_nI (fun i hi => by
    obtain ⟨n, n1, n2, n3⟩ := a2 i k (by omega) hk6
    rw [n1, ix_nI (by omega)])
  have e2 : sumN (fun f => ix (σ 272 (6000 * f + k))) (ix (σ 244 29) + (12 - ix (σ 244 29))) = sumN (fun f => ix (σ 272 (6000 * f + k))) (ix (σ 244 29)) := sumN_more (fun i h1 h2 => by
    obtain ⟨n, n1, n2, n3⟩ := a2 i k (by omega) hk6
    show ix (σ 272 (6000 * i + k)) = 0
    rw [n1, n3 (Or.inl h1)]
    rfl)
  rw [show ix (σ 244 29) + (12 - ix (σ 244 29)) = 12 by omega] at e2
  rw [(a4 k hk6).1, e2, e1, Int32.zero_add]
theorem pr_result (xs : Nat → Int32) (L : Nat) : PR_result L (RL xs L) := by
  intro h a1 w
  have x := w.fx
  obtain ⟨ca, ra, hs, sp, c⟩ := w.cr
  obtain ⟨C, R, N, c1, c2, r1, r2, n1, n2⟩ := w.cnt
  have p : SLP (hp_i h) ca 14 244 15 244 16 := Or.inl ⟨rfl, rfl, rfl, rfl, rfl⟩
  have z := c.at_ p
  have okx := z.2.2.2.2.x (by rw [c1, ix_nI (by omega)]; exact c2) (by rw [r1, ix_nI (by omega)]; exact r2)
  rcases out_cases a1 2 (by decide) with q | ⟨n, rfl, hn, q⟩
  · have q3 : a1.toInt < 0 ∨ 2 < a1.toInt := by
      rcases q with q | q
      · rw [Int32.lt_iff_toInt_lt] at q; exact Or.inl q
      · rw [Int32.lt_iff_toInt_lt] at q; exact Or.inr q
    refine pr_same (v := -2) w ?_ ?_
    · simp [x1012_0, x1012_1, x1012_4, x1012_7, x1012_8, x1012_9_0, x1012_9_1, x1012_9_2, x1012_36, x1012_37, x1012_40, x1012_41, x1012_42, x1012_45, x1012_46, x1012_47, x1012_50, x1012_53, x1012_54, x1012_57, x1012_58, x1012_61, x1012_64, x1012_65, x1012_67, x1012_9_d q3, x.k4, x.a4_0, x.k5]
    · simp [x1155_0, x1155_1_0, x1155_1_1, x1155_1_2, x1155_28, x1155_29, x1155_30, x1155_33, x1155_34, x1155_37, x1155_40, x1155_41, x1155_42, x1155_43, x1155_46, x1155_47, x1155_50, x1155_53, x1155_54, x1155_55, x1155_58, x1155_59, x1155_62, x1155_63, x1155_66, x1155_67, x1155_70, x1155_71, x1155_74, x1155_75, x1155_76, x1155_78, x1155_1_d q3]
  match n, hn with
  | 0, _ =>
    refine pr_same (v := thK (hp_i h) (hp_i h 244 15) (hp_i h 244 16)) w ?_ ?_
    · simp [x1012_0, x1012_1, x1012_4, x1012_7, x1012_8, x1012_9_0, x1012_9_1, x1012_9_2, x1012_36, x1012_37, x1012_40, x1012_41, x1012_42, x1012_45, x1012_46, x1012_47, x1012_50, x1012_53, x1012_54, x1012_57, x1012_58, x1012_61, x1012_64, x1012_65, x1012_67, x.k4, x.a4_0, x.k5, x.a5_8, x.k14, show nI 0 = 0 from rfl, z.1]
    · simp [x1155_0, x1155_1_0, x1155_1_1, x1155_1_2, x1155_28, x1155_29, x1155_30, x1155_33, x1155_34, x1155_37, x1155_40, x1155_41, x1155_42, x1155_43, x1155_46, x1155_47, x1155_50, x1155_53, x1155_54, x1155_55, x1155_58, x1155_59, x1155_62, x1155_63, x1155_66, x1155_67, x1155_70, x1155_71, x1155_74, x1155_75, x1155_76, x1155_78, x.k244, show nI 0 = 0 from rfl, sp_kindOf x okx]
  | 1, _ =>
    refine pr_same (v := thV (hp_i h) (hp_i h 244 15) (hp_i h 244 16)) w ?_ ?_
    · simp [x1012_0, x1012_1, x1012_4, x1012_7, x1012_8, x1012_9_0, x1012_9_1, x1012_9_2, x1012_36, x1012_37, x1012_40, x1012_41, x1012_42, x1012_45, x1012_46, x1012_47, x1012_50, x1012_53, x1012_54, x1012_57, x1012_58, x1012_61, x1012_64, x1012_65, x1012_67, x.k4, x.a4_0, x.k5, x.a5_8, x.k14, show nI 1 = 1 from rfl, c.measure x.k14 (c.th p)]
    · simp [x1155_0, x1155_1_0, x1155_1_1, x1155_1_2, x1155_28, x1155_29, x1155_30, x1155_33, x1155_34, x1155_37, x1155_40, x1155_41, x1155_42, x1155_43, x1155_46, x1155_47, x1155_50, x1155_53, x1155_54, x1155_55, x1155_58, x1155_59, x1155_62, x1155_63, x1155_66, x1155_67, x1155_70, x1155_71, x1155_74, x1155_75, x1155_76, x1155_78, x.k244, show nI 1 = 1 from rfl, sp_toldOf x okx]
  | 2, _ =>
    rcases c.th p with ⟨tk, t1, t2, t3, t4⟩ | ⟨tk, t1, t2, t3, t4⟩ | ⟨n, s, tk, tv, t0, ts, ts3, t1, t2, t3, t4⟩ | ⟨n, l, tk, tv, t0, ts, ts3, t1, t2, t3, t4⟩
    · refine pr_same (v := 0) w ?_ ?_
      · simp [x1012_0, x1012_1, x1012_4, x1012_7, x1012_8, x1012_9_0, x1012_9_1, x1012_9_2, x1012_36, x1012_37, x1012_40, x1012_41, x1012_42, x1012_45, x1012_46, x1012_47, x1012_50, x1012_53, x1012_54, x1012_57, x1012_58, x1012_61, x1012_64, x1012_65, x1012_67, x.k4, x.a4_0, x.k5, x.a5_8, x.k14, show nI 2 = 2 from rfl, t3]
      · simp [x1155_0, x1155_1_0, x1155_1_1, x1155_1_2, x1155_28, x1155_29, x1155_30, x1155_33, x1155_34, x1155_37, x1155_40, x1155_41, x1155_42, x1155_43, x1155_46, x1155_47, x1155_50, x1155_53, x1155_54, x1155_55, x1155_58, x1155_59, x1155_62, x1155_63, x1155_66, x1155_67, x1155_70, x1155_71, x1155_74, x1155_75, x1155_76, x1155_78, x.k244, show nI 2 = 2 from rfl, tk]
    · refine pr_same (v := 0) w ?_ ?_
      · simp [x1012_0, x1012_1, x1012_4, x1012_7, x1012_8, x1012_9_0, x1012_9_1, x1012_9_2, x1012_36, x1012_37, x1012_40, x1012_41, x1012_42, x1012_45, x1012_46, x1012_47, x1012_50, x1012_53, x1012_54, x1012_57, x1012_58, x1012_61, x1012_64, x1012_65, x1012_67, x.k4, x.a4_0, x.k5, x.a5_8, x.k14, show nI 2 = 2 from rfl, t3]
      · simp [x1155_0, x1155_1_0, x1155_1_1, x1155_1_2, x1155_28, x1155_29, x1155_30, x1155_33, x1155_34, x1155_37, x1155_40, x1155_41, x1155_42, x1155_43, x1155_46, x1155_47, x1155_50, x1155_53, x1155_54, x1155_55, x1155_58, x1155_59, x1155_62, x1155_63, x1155_66, x1155_67, x1155_70, x1155_71, x1155_74, x1155_75, x1155_76, x1155_78, x.k244, show nI 2 = 2 from rfl, tk]
    · obtain ⟨y1, y2, y3, _⟩ := c.cel t0
      have n6 : n < 6000 := by rw [c1, ix_nI (by omega)] at t0; omega
      have ne : ¬ ca n = 0 := by omega
      have e1 : inb (nI n) 6000 = true := inb_nI (by omega) (by omega)
      have e2 : ix (nI n) = n := ix_nI (by omega)
      refine pr_same (v := hp_i h 261 n) w ?_ ?_
      · simp [x1012_0, x1012_1, x1012_4, x1012_7, x1012_8, x1012_9_0, x1012_9_1, x1012_9_2, x1012_36, x1012_37, x1012_40, x1012_41, x1012_42, x1012_45, x1012_46, x1012_47, x1012_50, x1012_53, x1012_54, x1012_57, x1012_58, x1012_61, x1012_64, x1012_65, x1012_67, x.k4, x.a4_0, x.k5, x.a5_8, x.k14, show nI 2 = 2 from rfl, t3, ne, y3, c.timesHeld w.2.2.2.2.2.1 t0 n6]
      · simp [x1155_0, x1155_1_0, x1155_1_1, x1155_1_2, x1155_28, x1155_29, x1155_30, x1155_33, x1155_34, x1155_37, x1155_40, x1155_41, x1155_42, x1155_43, x1155_46, x1155_47, x1155_50, x1155_53, x1155_54, x1155_55, x1155_58, x1155_59, x1155_62, x1155_63, x1155_66, x1155_67, x1155_70, x1155_71, x1155_74, x1155_75, x1155_76, x1155_78, x.k244, show nI 2 = 2 from rfl, tk, tv, x.a244_22, x.k261, x.l261, e1, e2]
    · refine pr_same (v := 0) w ?_ ?_
      · simp [x1012_0, x1012_1, x1012_4, x1012_7, x1012_8, x1012_9_0, x1012_9_1, x1012_9_2, x1012_36, x1012_37, x1012_40, x1012_41, x1012_42, x1012_45, x1012_46, x1012_47, x1012_50, x1012_53, x1012_54, x1012_57, x1012_58, x1012_61, x1012_64, x1012_65, x1012_67, x.k4, x.a4_0, x.k5, x.a5_8, x.k14, show nI 2 = 2 from rfl, t3]
      · simp [x1155_0, x1155_1_0, x1155_1_1, x1155_1_2, x1155_28, x1155_29, x1155_30, x1155_33, x1155_34, x1155_37, x1155_40, x1155_41, x1155_42, x1155_43, x1155_46, x1155_47, x1155_50, x1155_53, x1155_54, x1155_55, x1155_58, x1155_59, x1155_62, x1155_63, x1155_66, x1155_67, x1155_70, x1155_71, x1155_74, x1155_75, x1155_76, x1155_78, x.k244, show nI 2 = 2 from rfl, tk]
