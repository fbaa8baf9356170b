/-! THE ENGINE, 28: acts until the end -/
section
variable {L : Nat} {h0 h : HP} {σ : SM} {A : Nat}
theorem IV.pos {F : Nat} (w : IV L h0 h σ A False) (hF : σ 244 29 = nI (F + 1)) (hF12 : F < 12) : 1 ≤ PH σ := by
  obtain ⟨r, m, a, t1, t2, t3, t4, t5, t6, t7, t8⟩ := w.top hF hF12
  have t7 := t7 id
  unfold PH
  rw [t8]
  show 1 ≤ sumN _ F + (40 - ix (σ 267 F)) + _
  rw [t3, ix_nI (by omega)]
  omega
theorem IV.frs {t : Prop} (w : IV L h0 h σ A t) (h : ¬ σ 244 29 = nI 0) : ∃ F, σ 244 29 = nI (F + 1) ∧ F < 12 := by
  obtain ⟨F, f1, f2, f3⟩ := w.2.2.2.1.fr
  rcases Nat.eq_zero_or_pos F with z | z
  · rw [z] at f1
    exact absurd f1 h
  · exact ⟨F - 1, by rw [f1, show F - 1 + 1 = F by omega], by omega⟩
theorem run_loop {a1 a2 : Value} : ∀ (N i : Nat) (h : HP) (σ : SM) (A : Nat), PH σ ≤ N → IV L h0 h σ A False → A + PH σ ≤ 492000 → ¬ σ 244 29 = nI 0 → i + N ≤ 999999 → ∃ v h' σ' A', pX 306 4 [.ref 5, .int 1000000, .int 1, .int (nI i)] [] h = some (some (.int v), h') ∧ (∀ k, FX L k → pX 1154 40 [.ref 244, a1, a2] [] (mset k σ) = some (some (.int v), mset k σ')) ∧ IV L h0 h' σ' A' False ∧ A' + PH σ' ≤ 492000 ∧ σ' 244 29 = nI 0 ∧ σ' 244 8 = σ 244 8 := by
  intro N
  induction N with
  | zero =>
    intro i h σ A hP w hA hz hi
    obtain ⟨F, f1, f2⟩ := w.frs hz
    have := w.pos f1 f2
    omega
  | succ N ih =>
    intro i h σ A hP w hA hz hi
    obtain ⟨F, f1, f2⟩ := w.frs hz
    obtain ⟨v, h1, σ1, r1, r2, A1, q1, q2, q3, q4⟩ := op_one w hA f1 f2
    obtain ⟨ca, ra, hs, sp, c⟩ := w.1
    have X := c.fx
    have e1 : ¬ (1000000 : Int32) ≤ nI i := nI_nle2 (a := 1000000) (by omega) (by omega)
    have e2 : ¬ nI (F + 1) ≤ 0 := nI_nle (by omega) (by omega)
    have cst : pX 306 4 [.ref 5, .int 1000000, .int 1, .int (nI i)] [] h = pX 306 22 [.ref 5, .int 1000000, .int v, .int (nI (i + 1))] [] h1 := by
      simp only [x306_4, x306_5, x306_6, x306_9, x306_10, x306_11, x306_14, x306_15, x306_18, x306_19, e1, if_false, if_true, X.k5, r1, Option.bind_some, Option.toList_some, Option.toList_none, List.singleton_append, List.nil_append, nI_1]
    have mst : ∀ k, FX L k → pX 1154 40 [.ref 244, a1, a2] [] (mset k σ) = pX 1154 51 [.ref 244, a1, a2] [] (mset k σ1) := by
      intro k x
      simp only [x1154_40, x1154_41, x1154_44, x1154_47, x1154_48, hp_k_ms, x.k244, ms_r (show 244 ≤ 244 ∧ 244 < 276 by omega), f1, e2, if_false, r2 k x, Option.bind_some, Option.toList_some, Option.toList_none, List.singleton_append, List.nil_append]
    rcases q4 with ⟨rfl, y1, y2⟩ | ⟨y0, y1, y2⟩
    · obtain ⟨v', h', σ', A', s1, s2, s3, s4, s5, s6⟩ := ih (i + 1) h1 σ1 A1 (by omega) q1 (by omega) y1 (by omega)
      refine ⟨v', h', σ', A', ?_, fun k x => ?_, s3, s4, s5, s6.trans q3⟩
      · rw [cst, x306_22]; exact s1
      · rw [mst k x, x1154_51]; exact s2 k x
    · refine ⟨v, h1, σ1, A1, ?_, fun k x => ?_, q1, by omega, y1, q3⟩
      · rw [cst, x306_22]
        have e3 : ¬ (1000000 : Int32) ≤ nI (i + 1) := nI_nle2 (a := 1000000) (by omega) (by omega)
        simp only [x306_4, x306_5, x306_6, x306_9, x306_10, x306_11, x306_25, x306_26, e3, y0, if_false]
      · rw [mst k x, x1154_51]
        simp only [x1154_40, x1154_41, x1154_44, x1154_54, x1154_55, x1154_58, hp_k_ms, x.k244, ms_r (show 244 ≤ 244 ∧ 244 < 276 by omega), y1, show nI 0 ≤ 0 from Int32.le_refl 0, if_true, y2]
theorem step_loop {n : Nat} (hn : n ≤ 1000) : ∀ (N i : Nat) (h : HP) (σ : SM) (A : Nat), i + N = n → IV L h0 h σ A False → A + PH σ ≤ 492000 → ¬ σ 244 29 = nI 0 → ∃ v h' σ' A' w, pX 306 4 [.ref 5, .int (nI n), .int 1, .int (nI i)] [] h = some (some (.int v), h') ∧ (∀ k, FX L k → pX 1162 26 [.ref 244, .int (nI n), .int (nI i)] [] (mset k σ) = pX 1162 48 [.ref 244, .int (nI n), w] [] (mset k σ')) ∧ IV L h0 h' σ' A' False ∧ A' + PH σ' ≤ 492000 ∧ σ' 244 8 = σ 244 8 ∧ ((v = 1 ∧ ¬ σ' 244 29 = nI 0) ∨ (¬ v = 1 ∧ σ' 244 29 = nI 0 ∧ σ' 244 44 = v)) := by
  intro N
  induction N with
  | zero =>
    intro i h σ A hi w hA hz
    obtain rfl : i = n := by omega
    refine ⟨1, h, σ, A, .int (nI i), ?_, fun k x => ?_, w, hA, rfl, Or.inl ⟨rfl, hz⟩⟩
    · simp only [x306_4, x306_5, x306_6, x306_25, x306_26, Int32.le_refl, if_true]
    · simp only [x1162_26, x1162_27, x1162_28, Int32.le_refl, if_true]
  | succ N ih =>
    intro i h σ A hi w hA hz
    obtain ⟨F, f1, f2⟩ := w.frs hz
    obtain ⟨v, h1, σ1, r1, r2, A1, q1, q2, q3, q4⟩ := op_one w hA f1 f2
    obtain ⟨ca, ra, hs, sp, c⟩ := w.1
    have X := c.fx
    have e1 : ¬ nI n ≤ nI i := nI_nle2 (by omega) (by omega)
    have e2 : ¬ nI (F + 1) ≤ 0 := nI_nle (by omega) (by omega)
    have cst : pX 306 4 [.ref 5, .int (nI n), .int 1, .int (nI i)] [] h = pX 306 22 [.ref 5, .int (nI n), .int v, .int (nI (i + 1))] [] h1 := by
      simp only [x306_4, x306_5, x306_6, x306_9, x306_10, x306_11, x306_14, x306_15, x306_18, x306_19, e1, if_false, if_true, X.k5, r1, Option.bind_some, Option.toList_some, Option.toList_none, List.singleton_append, List.nil_append, nI_1]
    have mst : ∀ k, FX L k → pX 1162 26 [.ref 244, .int (nI n), .int (nI i)] [] (mset k σ) = pX 1162 45 [.ref 244, .int (nI n), .int (nI (i + 1))] [] (mset k σ1) := by
      intro k x
      simp only [x1162_26, x1162_27, x1162_28, x1162_31, x1162_32, x1162_35, x1162_38, x1162_39, x1162_42, e1, if_false, hp_k_ms, x.k244, ms_r (show 244 ≤ 244 ∧ 244 < 276 by omega), f1, e2, r2 k x, Option.bind_some, Option.toList_some, Option.toList_none, List.singleton_append, List.nil_append, nI_1]
    rcases q4 with ⟨rfl, y1, y2⟩ | ⟨y0, y1, y2⟩
    · obtain ⟨v', h', σ', A', w', s1, s2, s3, s4, s5, s6⟩ := ih (i + 1) h1 σ1 A1 (by omega) q1 (by omega) y1
      refine ⟨v', h', σ', A', w', ?_, fun k x => ?_, s3, s4, s5.trans q3, s6⟩
      · rw [cst, x306_22]; exact s1
      · rw [mst k x, x1162_45]; exact s2 k x
    · refine ⟨v, h1, σ1, A1, .int (nI (i + 1)), ?_, fun k x => ?_, q1, by omega, q3, Or.inr ⟨y0, y1, y2⟩⟩
      · rw [cst, x306_22]
        by_cases e3 : nI n ≤ nI (i + 1)
        · simp only [x306_4, x306_5, x306_6, x306_25, x306_26, e3, if_true]
        · simp only [x306_4, x306_5, x306_6, x306_9, x306_10, x306_11, x306_25, x306_26, e3, y0, if_false]
      · rw [mst k x, x1162_45]
        by_cases e3 : nI n ≤ nI (i + 1)
        · simp only [x1162_26, x1162_27, x1162_28, e3, if_true]
        · simp only [x1162_26, x1162_27, x1162_28, x1162_31, x1162_32, x1162_35, e3, if_false, hp_k_ms, x.k244, ms_r (show 244 ≤ 244 ∧ 244 < 276 by omega), y1, show nI 0 ≤ 0 from Int32.le_refl 0, if_true]
end
/-! THE PAIRS run, walk, step, drop -/
section
variable {L : Nat} {h : HP} {xs : Nat → Int32}
theorem RL.iv (w : RL xs L h) : ∃ A, IV L h h (hp_i h) A False ∧ A + PH (hp_i h) ≤ 492000 ∧ hp_i h 244 8 = (if hp_i h 244 29 = 0 then 0 else 1) := by
  obtain ⟨gc, gb, gf, gw⟩ := RG.un w.2.2.2.2.1
  obtain ⟨A, a1, a2⟩ := RH.hh w.2.2.2.2.2.1
  exact ⟨A, ⟨w.cr, gc, gb, gf, a2, by omega⟩, a1, gw⟩
theorem pr_fin {m1 m2 : Nat} {L1 L2 : List Value} {v : Int32} {h' : HP} {σ' : SM} {A : Nat} (w : RL xs L h) (c1 : pX m1 0 L1 [] h = some (some (.int v), h')) (iv : IV L h h' σ' A False) (hA : A + PH σ' ≤ 492000) (h8 : σ' 244 8 = (if σ' 244 29 = 0 then 0 else 1)) (m : ∀ k, FX L k → pX m2 0 L2 [] (mset k (hp_i h)) = some (some (.int v), mset k σ')) :
    ∃ (v : Int32) (h1 h2 : HP), pX m1 0 L1 [] h = some (some (.int v), h1) ∧ pX m2 0 L2 [] h1 = some (some (.int v), h2) ∧ FX L h1 ∧ (∀ j, hp_i h1 1 j = hp_i h 1 j) ∧ RL xs L h2 := by
  obtain ⟨⟨ca, ra, hs, sp, c⟩, gc, gb, gf, hh, _⟩ := iv
  exact pr_end w c1 c (RG.of gc gb gf h8) (HH.rh hh hA) m
/-- isWalk is set as it should be -/
theorem IV.walk {h0 h' : HP} {σ' : SM} {A : Nat} {x : Int32} (iv : IV L h0 h' σ' A False) : IV L h0 h' (hp_u σ' 244 8 x) A False ∧ PH (hp_u σ' 244 8 x) = PH σ' := by
  obtain ⟨⟨ca, ra, hs, sp, c⟩, gc, gb, gf, hh, hA⟩ := iv
  have k : ∀ b j, ¬ (b = 244 ∧ j = 8) → hp_u σ' 244 8 x b j = σ' b j := fun b j q => by rw [hu_at, if_neg q]
  refine ⟨⟨⟨_, _, _, _, c.agree (fun p q z1 z2 z3 => k p q (fun z => z3 (by unfold dead; omega)))⟩, gc.congr (fun b j h => k b j (by omega)), gb.congr (fun j h => k 244 j (by omega)), gf.congr (fun b j h => k b j (by omega)), hh.congr (fun b j h => k b j (by omega)), hA⟩, ?_⟩
  unfold PH
  have a7 : ∀ j, hp_u σ' 244 8 x 267 j = σ' 267 j := fun j => k _ _ (by omega)
  simp only [a7]
  rw [k _ _ (by omega), k _ _ (by omega)]
theorem sp_refusal {M F : Nat} {a1 a2 : Int32} (x : FX L h) (hM : hp_i h 5 1 = nI M) (hF : hp_i h 5 7 = nI F) (hF12 : F ≤ 12) : pX 1024 0 [.ref 4, .int a1, .int a2] [] h = some (some (.int (if a1 < 0 ∨ nI M ≤ a1 then -1 else if a2 < 0 ∨ 1000 < a2 then -2 else if F = 0 then 0 else -3)), h) := by
  have lm := sp_lacksMember (h := h) (m := 5) (n := a1) x.k5
  rw [hM] at lm
  by_cases q1 : a1 < 0 ∨ nI M ≤ a1
  · rw [if_pos q1] at lm
    simp only [x1024_0, x1024_1, x1024_4, x1024_5, x1024_8, x1024_11, x1024_12, x1024_13, x1024_14, x1024_15, x1024_18, x1024_21, x1024_24, x1024_26, x1024_27, x1024_28, x1024_31, x1024_34, x1024_37, x1024_39, x1024_42, x1024_43, x.k4, x.a4_0, x.k5, lm, Option.bind_some, Option.toList_some, Option.toList_none, List.singleton_append, List.nil_append, i32_10, if_false, if_pos q1]
  · rw [if_neg q1] at lm
    by_cases q2 : a2 < 0 ∨ 1000 < a2
    · simp only [x1024_0, x1024_1, x1024_4, x1024_5, x1024_8, x1024_11, x1024_12, x1024_13, x1024_14, x1024_15, x1024_18, x1024_21, x1024_24, x1024_26, x1024_27, x1024_28, x1024_31, x1024_34, x1024_37, x1024_39, x1024_42, x1024_43, x.k4, x.a4_0, x.k5, lm, Option.bind_some, Option.toList_some, Option.toList_none, List.singleton_append, List.nil_append, if_true, sp_isOutside, if_pos q2, i32_10, if_false, if_neg q1]
    · by_cases q3 : F = 0
      · simp only [x1024_0, x1024_1, x1024_4, x1024_5, x1024_8, x1024_11, x1024_12, x1024_13, x1024_14, x1024_15, x1024_18, x1024_21, x1024_24, x1024_26, x1024_27, x1024_28, x1024_31, x1024_34, x1024_37, x1024_39, x1024_42, x1024_43, x.k4, x.a4_0, x.k5, lm, Option.bind_some, Option.toList_some, Option.toList_none, List.singleton_append, List.nil_append, if_true, sp_isOutside, if_neg q2, walked0 x.k5 hF hF12, if_pos q3, if_neg q1]
      · simp only [x1024_0, x1024_1, x1024_4, x1024_5, x1024_8, x1024_11, x1024_12, x1024_13, x1024_14, x1024_15, x1024_18, x1024_21, x1024_24, x1024_26, x1024_27, x1024_28, x1024_31, x1024_34, x1024_37, x1024_39, x1024_42, x1024_43, x.k4, x.a4_0, x.k5, lm, Option.bind_some, Option.toList_some, Option.toList_none, List.singleton_append, List.nil_append, if_true, sp_isOutside, if_neg q2, walked0 x.k5 hF hF12, if_neg q3, if_neg q1, i32_10, if_false]
theorem n1_0 : ¬ (-1 : Int32) = 0 := by decide
theorem n2_0 : ¬ (-2 : Int32) = 0 := by decide
theorem n3_0 : ¬ (-3 : Int32) = 0 := by decide
theorem pr_run (xs : Nat → Int32) (L : Nat) : PR_run L (RL xs L) := by
  intro h a1 a2 w
  have x := w.fx
  obtain ⟨M, M1, M2, M3⟩ := w.memb
  obtain ⟨F, f1, f2, f3, f4⟩ := w.walk
  have rf := sp_refusal (a1 := a1) (a2 := a2) x M1 f1 f3
  have im := sp_isMember (h := h) (m := a1) x.k244 M2 M3
  rcases mem_cases a1 M M3 with q | ⟨m, rfl, hm, q⟩
  · rw [if_pos q] at rf im
    refine pr_same (v := -1) w ?_ ?_
    · simp only [x1011_0, x1011_1, x1011_2, x1011_3, x1011_6, x1011_7, x1011_8, x1011_11, x1011_12, x.k4, rf, Option.bind_some, Option.toList_some, Option.toList_none, List.singleton_append, List.nil_append, n1_0, if_false]
    · simp only [x1154_0, x1154_1, x1154_2, x1154_5, x1154_8, x1154_9, x.k244, im, Option.bind_some, Option.toList_some, Option.toList_none, List.singleton_append, List.nil_append, if_true]
  rw [if_neg q] at rf im
  rcases out_cases a2 1000 (by decide) with q2 | ⟨b, rfl, hb, q2⟩
  · rw [if_pos q2] at rf
    refine pr_same (v := -2) w ?_ ?_
    · simp only [x1011_0, x1011_1, x1011_2, x1011_3, x1011_6, x1011_7, x1011_8, x1011_11, x1011_12, x.k4, rf, Option.bind_some, Option.toList_some, Option.toList_none, List.singleton_append, List.nil_append, n2_0, if_false]
    · simp only [x1154_0, x1154_1, x1154_2, x1154_5, x1154_10, x1154_11, x1154_12, x1154_15, x1154_18, x1154_21, x1154_23, x.k244, im, Option.bind_some, Option.toList_some, Option.toList_none, List.singleton_append, List.nil_append, i32_10, if_false, sp_in, if_pos q2, if_true]
  rw [if_neg q2] at rf
  by_cases hF : F = 0
  · rw [if_pos hF] at rf f4
    rw [hF] at f2
    obtain ⟨A, iv, hA, _⟩ := w.iv
    obtain ⟨v, h1, σ1, s1, s2, s3, s4, s5, s6⟩ := op_start (m := m) (b := b) iv f2 (by rw [M2, ix_nI (by omega)]; exact hm) hb
    obtain ⟨ca, ra, hs, sp, c1⟩ := s3.1
    have X1 := c1.fx
    have cst : ∀ r, (∃ h', pX 1011 31 [.ref 4, .int (nI m), .int (nI b), .int 0, .int v] [.int 1, .int v] h1 = some (some (.int r), h')) → True := fun _ _ => trivial
    have cs : pX 1011 0 [.ref 4, .int (nI m), .int (nI b), .retAddr 0, .retAddr 0] [] h = pX 1011 31 [.ref 4, .int (nI m), .int (nI b), .int 0, .int v] [.int 1, .int v] h1 := by
      simp only [x1011_0, x1011_1, x1011_2, x1011_3, x1011_6, x1011_7, x1011_8, x1011_13, x1011_14, x1011_17, x1011_18, x1011_19, x1011_20, x1011_23, x1011_26, x1011_28, x1011_30, x.k4, rf, Option.bind_some, Option.toList_some, Option.toList_none, List.singleton_append, List.nil_append, if_true, x.a4_0, x.a4_2, x.k5, s1]
    have ms : ∀ k, FX L k → pX 1154 0 [.ref 244, .int (nI m), .int (nI b)] [] (mset k (hp_i h)) = pX 1154 40 [.ref 244, .int (nI m), .int (nI b)] [] (mset k σ1) := by
      intro k y
      have im' := sp_isMember (h := mset k (hp_i h)) (m := nI m) (M := M) (by rw [hp_k_ms]; exact y.k244) (by rw [ms_r (by omega)]; exact M2) M3
      rw [if_neg q] at im'
      simp only [x1154_0, x1154_1, x1154_2, x1154_5, x1154_10, x1154_11, x1154_12, x1154_15, x1154_18, x1154_24, x1154_25, x1154_28, x1154_34, x1154_35, x1154_36, x1154_37, hp_k_ms, y.k244, im', Option.bind_some, Option.toList_some, Option.toList_none, List.singleton_append, List.nil_append, i32_10, if_false, sp_in, if_neg q2, ms_r (show 244 ≤ 244 ∧ 244 < 276 by omega), f4, if_true, s2 k y]
    rcases s6 with ⟨rfl, y1⟩ | ⟨y0, y1, y2⟩
    · obtain ⟨v', h', σ', A', r1, r2, r3, r4, r5, r6⟩ := run_loop (a1 := .int (nI m)) (a2 := .int (nI b)) 492000 0 h1 σ1 A (by omega) s3 (by omega) y1 (by omega)
      refine pr_fin (v := v') w ?_ r3 r4 ?_ (fun k y => (ms k y).trans (r2 k y))
      · rw [cs]
        have r1' : pX 306 0 [.ref 5, .int 1000000, .retAddr 0, .retAddr 0] [] h1 = some (some (.int v'), h') := by
          rw [x306_0, x306_1, x306_2, x306_3]
          exact r1
        simp only [x1011_31, x1011_34, x1011_35, x1011_38, x1011_40, x1011_43, x1011_48, if_true, X1.k4, X1.a4_0, X1.k5, r1', Option.bind_some, Option.toList_some, Option.toList_none, List.singleton_append, List.nil_append]
      · rw [r5, r6, s5, f4]
        rfl
    · refine pr_fin (v := v) w ?_ s3 (by omega) ?_ (fun k y => (ms k y).trans ?_)
      · rw [cs]
        simp only [x1011_31, x1011_46, x1011_48, y0, if_false]
      · rw [y1, s5, f4]
        rfl
      · simp only [x1154_40, x1154_41, x1154_44, x1154_54, x1154_55, x1154_58, hp_k_ms, y.k244, ms_r (show 244 ≤ 244 ∧ 244 < 276 by omega), y1, show nI 0 ≤ 0 from Int32.le_refl 0, if_true, y2]
  · rw [if_neg hF] at rf f4
    refine pr_same (v := -3) w ?_ ?_
    · simp only [x1011_0, x1011_1, x1011_2, x1011_3, x1011_6, x1011_7, x1011_8, x1011_11, x1011_12, x.k4, rf, Option.bind_some, Option.toList_some, Option.toList_none, List.singleton_append, List.nil_append, n3_0, if_false]
    · simp only [x1154_0, x1154_1, x1154_2, x1154_5, x1154_10, x1154_11, x1154_12, x1154_15, x1154_18, x1154_24, x1154_25, x1154_28, x1154_31, x1154_33, x.k244, im, Option.bind_some, Option.toList_some, Option.toList_none, List.singleton_append, List.nil_append, i32_10, if_false, sp_in, if_neg q2, f4]
theorem pr_walk (xs : Nat → Int32) (L : Nat) : PR_walk L (RL xs L) := by
  intro h a1 a2 w
  have x := w.fx
  obtain ⟨M, M1, M2, M3⟩ := w.memb
  obtain ⟨F, f1, f2, f3, f4⟩ := w.walk
  have rf := sp_refusal (a1 := a1) (a2 := a2) x M1 f1 f3
  have im := sp_isMember (h := h) (m := a1) x.k244 M2 M3
  rcases mem_cases a1 M M3 with q | ⟨m, rfl, hm, q⟩
  · rw [if_pos q] at rf im
    refine pr_same (v := -1) w ?_ ?_
    · simp only [x1018_0, x1018_1, x1018_2, x1018_3, x1018_6, x1018_7, x1018_8, x1018_11, x1018_12, x1018_28, x.k4, rf, Option.bind_some, Option.toList_some, Option.toList_none, List.singleton_append, List.nil_append, n1_0, if_false]
    · simp only [x1161_0, x1161_1, x1161_2, x1161_5, x1161_8, x1161_9, x.k244, im, Option.bind_some, Option.toList_some, Option.toList_none, List.singleton_append, List.nil_append, if_true]
  rw [if_neg q] at rf im
  rcases out_cases a2 1000 (by decide) with q2 | ⟨b, rfl, hb, q2⟩
  · rw [if_pos q2] at rf
    refine pr_same (v := -2) w ?_ ?_
    · simp only [x1018_0, x1018_1, x1018_2, x1018_3, x1018_6, x1018_7, x1018_8, x1018_11, x1018_12, x1018_28, x.k4, rf, Option.bind_some, Option.toList_some, Option.toList_none, List.singleton_append, List.nil_append, n2_0, if_false]
    · simp only [x1161_0, x1161_1, x1161_2, x1161_5, x1161_10, x1161_11, x1161_12, x1161_15, x1161_18, x1161_21, x1161_23, x.k244, im, Option.bind_some, Option.toList_some, Option.toList_none, List.singleton_append, List.nil_append, i32_10, if_false, sp_in, if_pos q2, if_true]
  rw [if_neg q2] at rf
  by_cases hF : F = 0
  · rw [if_pos hF] at rf f4
    rw [hF] at f2
    obtain ⟨A, iv, hA, _⟩ := w.iv
    obtain ⟨v, h1, σ1, s1, s2, s3, s4, s5, s6⟩ := op_start (m := m) (b := b) iv f2 (by rw [M2, ix_nI (by omega)]; exact hm) hb
    have cs : pX 1018 0 [.ref 4, .int (nI m), .int (nI b), .retAddr 0] [] h = some (some (.int v), h1) := by
      simp only [x1018_0, x1018_1, x1018_2, x1018_3, x1018_6, x1018_7, x1018_8, x1018_15, x1018_16, x1018_19, x1018_20, x1018_21, x1018_22, x1018_25, x1018_28, x.k4, rf, Option.bind_some, Option.toList_some, Option.toList_none, List.singleton_append, List.nil_append, if_true, x.a4_0, x.a4_2, x.k5, s1]
    have ms : ∀ k, FX L k → pX 1161 0 [.ref 244, .int (nI m), .int (nI b)] [] (mset k (hp_i h)) = pX 1161 40 [.ref 244, .int (nI m), .int (nI b)] [] (mset k σ1) := by
      intro k y
      have im' := sp_isMember (h := mset k (hp_i h)) (m := nI m) (M := M) (by rw [hp_k_ms]; exact y.k244) (by rw [ms_r (by omega)]; exact M2) M3
      rw [if_neg q] at im'
      simp only [x1161_0, x1161_1, x1161_2, x1161_5, x1161_10, x1161_11, x1161_12, x1161_15, x1161_18, x1161_24, x1161_25, x1161_28, x1161_34, x1161_35, x1161_36, x1161_37, hp_k_ms, y.k244, im', Option.bind_some, Option.toList_some, Option.toList_none, List.singleton_append, List.nil_append, i32_10, if_false, sp_in, if_neg q2, ms_r (show 244 ≤ 244 ∧ 244 < 276 by omega), f4, if_true, s2 k y]
    rcases s6 with ⟨rfl, y1⟩ | ⟨y0, y1, y2⟩
    · obtain ⟨iv2, ph2⟩ := s3.walk (x := 1)
      obtain ⟨G, G1, G2⟩ := s3.frs y1
      have e2 : ¬ nI (G + 1) ≤ 0 := nI_nle (by omega) (by omega)
      refine pr_fin (v := 1) w cs iv2 (by omega) ?_ (fun k y => (ms k y).trans ?_)
      · rw [hu_same, hu_idx (by omega), if_neg]
        rw [G1]
        exact nI_ne0 (by omega) (by omega)
      · rw [x1161_40, x1161_41, x1161_42 (FX.ms (σ := σ1) y).k244, ms_r (show 244 ≤ 244 ∧ 244 < 276 by omega), G1, x1161_45, if_neg e2, x1161_48, x1161_49, x1161_53 (FX.ms (σ := σ1) y).k244 (Or.inr rfl), ms_w (show 244 ≤ 244 ∧ 244 < 276 by omega)]
        simp only [x1161_56, x1161_57, x1161_60, x1161_63, x1161_64, x1161_71, hp_k_ms, y.k244, ms_r (show 244 ≤ 244 ∧ 244 < 276 by omega), hu_same, i32_10, if_false]
    · obtain ⟨iv2, ph2⟩ := s3.walk (x := 0)
      refine pr_fin (v := v) w cs iv2 (by omega) ?_ (fun k y => (ms k y).trans ?_)
      · rw [hu_same, hu_idx (by omega), y1]
        rfl
      · rw [x1161_40, x1161_41, x1161_42 (FX.ms (σ := σ1) y).k244, ms_r (show 244 ≤ 244 ∧ 244 < 276 by omega), y1, x1161_45, if_pos (show nI 0 ≤ 0 from Int32.le_refl 0), x1161_52, x1161_53 (FX.ms (σ := σ1) y).k244 (Or.inl rfl), ms_w (show 244 ≤ 244 ∧ 244 < 276 by omega)]
        simp only [x1161_56, x1161_57, x1161_60, x1161_67, x1161_68, x1161_71, hp_k_ms, y.k244, ms_r (show 244 ≤ 244 ∧ 244 < 276 by omega), hu_same, if_true, hu_idx (show ¬ 44 = 8 by omega), y2]
  · rw [if_neg hF] at rf f4
    refine pr_same (v := -3) w ?_ ?_
    · simp only [x1018_0, x1018_1, x1018_2, x1018_3, x1018_6, x1018_7, x1018_8, x1018_11, x1018_12, x1018_28, x.k4, rf, Option.bind_some, Option.toList_some, Option.toList_none, List.singleton_append, List.nil_append, n3_0, if_false]
    · simp only [x1161_0, x1161_1, x1161_2, x1161_5, x1161_10, x1161_11, x1161_12, x1161_15, x1161_18, x1161_24, x1161_25, x1161_28, x1161_31, x1161_33, x.k244, im, Option.bind_some, Option.toList_some, Option.toList_none, List.singleton_append, List.nil_append, i32_10, if_false, sp_in, if_neg q2, f4]
theorem pr_step (xs : Nat → Int32) (L : Nat) : PR_step L (RL xs L) := by
  intro h a1 w
  have x := w.fx
  obtain ⟨F, f1, f2, f3, f4⟩ := w.walk
  by_cases q : a1 < 1 ∨ 1000 < a1
  · refine pr_same (v := -2) w ?_ ?_
    · simp only [x1019_0, x1019_1, x1019_2, x1019_5, x1019_8, x1019_11, x1019_13, sp_isOutside, if_pos q, Option.bind_some, Option.toList_some, Option.toList_none, List.singleton_append, List.nil_append, i32_10, if_false]
    · simp only [x1162_0, x1162_1, x1162_2, x1162_5, x1162_8, x1162_11, x1162_13, sp_in, if_pos q, Option.bind_some, Option.toList_some, Option.toList_none, List.singleton_append, List.nil_append, if_true]
  by_cases hF : F = 0
  · rw [if_pos hF] at f4
    refine pr_same (v := -3) w ?_ ?_
    · simp only [x1019_0, x1019_1, x1019_2, x1019_5, x1019_8, x1019_14, x1019_15, x1019_18, x1019_21, x1019_35, x1019_37, sp_isOutside, if_neg q, Option.bind_some, Option.toList_some, Option.toList_none, List.singleton_append, List.nil_append, if_true, x.k4, x.a4_0, x.k5, walked0 x.k5 f1 f3, if_pos hF]
    · simp only [x1162_0, x1162_1, x1162_2, x1162_5, x1162_8, x1162_14, x1162_15, x1162_18, x1162_21, x1162_23, sp_in, if_neg q, Option.bind_some, Option.toList_some, Option.toList_none, List.singleton_append, List.nil_append, i32_10, if_false, x.k244, f4, if_true]
  rw [if_neg hF] at f4
  obtain ⟨n, hn, rfl⟩ : ∃ n : Nat, (1 ≤ n ∧ n ≤ 1000) ∧ a1 = nI n := by
    rcases out_cases a1 1000 (by decide) with z | ⟨p, rfl, hp, -⟩
    · rcases z with z | z
      · exact absurd (Or.inl (by
          rw [Int32.lt_iff_toInt_lt] at z ⊢
          have z1 : (0 : Int32).toInt = 0 := rfl
          have z2 : (1 : Int32).toInt = 1 := rfl
          omega)) q
      · exact absurd (Or.inr z) q
    · refine ⟨p, ⟨?_, hp⟩, rfl⟩
      rcases Nat.eq_zero_or_pos p with z | z
      · subst z
        exact absurd (Or.inl (by decide)) q
      · exact z
  have hz : ¬ hp_i h 244 29 = nI 0 := fun e => by
    rw [f2] at e
    have := (nI_eq (by omega) (by omega)).mp e
    omega
  obtain ⟨A, iv, hA, _⟩ := w.iv
  obtain ⟨v, h1, σ1, A1, wv, s1, s2, s3, s4, s5, s6⟩ := step_loop (n := n) (by omega) n 0 h (hp_i h) A (by omega) iv hA hz
  have s1' : pX 306 0 [.ref 5, .int (nI n), .retAddr 0, .retAddr 0] [] h = some (some (.int v), h1) := by
    rw [x306_0, x306_1, x306_2, x306_3]
    exact s1
  have cs : pX 1019 0 [.ref 4, .int (nI n)] [] h = some (some (.int v), h1) := by
    simp only [x1019_0, x1019_1, x1019_2, x1019_5, x1019_8, x1019_14, x1019_15, x1019_18, x1019_21, x1019_24, x1019_25, x1019_28, x1019_29, x1019_32, x1019_37, sp_isOutside, if_neg q, Option.bind_some, Option.toList_some, Option.toList_none, List.singleton_append, List.nil_append, if_true, x.k4, x.a4_0, x.k5, walked0 x.k5 f1 f3, if_neg hF, i32_10, if_false, s1']
  have ms : ∀ k, FX L k → pX 1162 0 [.ref 244, .int (nI n), .retAddr 0] [] (mset k (hp_i h)) = pX 1162 48 [.ref 244, .int (nI n), wv] [] (mset k σ1) := by
    intro k y
    rw [← s2 k y]
    simp only [x1162_0, x1162_1, x1162_2, x1162_5, x1162_8, x1162_14, x1162_15, x1162_18, x1162_24, x1162_25, sp_in, if_neg q, Option.bind_some, Option.toList_some, Option.toList_none, List.singleton_append, List.nil_append, i32_10, if_false, hp_k_ms, y.k244, ms_r (show 244 ≤ 244 ∧ 244 < 276 by omega), f4]
    rfl
  rcases s6 with ⟨rfl, y1⟩ | ⟨y0, y1, y2⟩
  · obtain ⟨iv2, ph2⟩ := s3.walk (x := 1)
    obtain ⟨G, G1, G2⟩ := s3.frs y1
    have e2 : ¬ nI (G + 1) ≤ 0 := nI_nle (by omega) (by omega)
    refine pr_fin (v := 1) w cs iv2 (by omega) ?_ (fun k y => (ms k y).trans ?_)
    · rw [hu_same, hu_idx (by omega), if_neg]
      rw [G1]
      exact nI_ne0 (by omega) (by omega)
    · rw [x1162_48, x1162_49, x1162_50 (FX.ms (σ := σ1) y).k244, ms_r (show 244 ≤ 244 ∧ 244 < 276 by omega), G1, x1162_53, if_neg e2, x1162_56, x1162_57, x1162_61 (FX.ms (σ := σ1) y).k244 (Or.inr rfl), ms_w (show 244 ≤ 244 ∧ 244 < 276 by omega)]
      simp only [x1162_64, x1162_65, x1162_68, x1162_71, x1162_72, x1162_79, hp_k_ms, y.k244, ms_r (show 244 ≤ 244 ∧ 244 < 276 by omega), hu_same, i32_10, if_false]
  · obtain ⟨iv2, ph2⟩ := s3.walk (x := 0)
    refine pr_fin (v := v) w cs iv2 (by omega) ?_ (fun k y => (ms k y).trans ?_)
    · rw [hu_same, hu_idx (by omega), y1]
      rfl
    · rw [x1162_48, x1162_49, x1162_50 (FX.ms (σ := σ1) y).k244, ms_r (show 244 ≤ 244 ∧ 244 < 276 by omega), y1, x1162_53, if_pos (show nI 0 ≤ 0 from Int32.le_refl 0), x1162_60, x1162_61 (FX.ms (σ := σ1) y).k244 (Or.inl rfl), ms_w (show 244 ≤ 244 ∧ 244 < 276 by omega)]
      simp only [x1162_64, x1162_65, x1162_68, x1162_75, x1162_76, x1162_79, hp_k_ms, y.k244, ms_r (show 244 ≤ 244 ∧ 244 < 276 by omega), hu_same, if_true, hu_idx (show ¬ 44 = 8 by omega), y2]
theorem pr_drop (xs : Nat → Int32) (L : Nat) : PR_drop L (RL xs L) := by
  intro h w
  have x := w.fx
  obtain ⟨F, f1, f2, f3, f4⟩ := w.walk
  by_cases hF : F = 0
  · rw [if_pos hF] at f4
    refine pr_same (v := -3) w ?_ ?_
    · simp only [x1022_0, x1022_1, x1022_4, x1022_7, x1022_10, x1022_12, x.k4, x.a4_0, x.k5, walked0 x.k5 f1 f3, if_pos hF, Option.bind_some, Option.toList_some, Option.toList_none, List.singleton_append, List.nil_append, if_true]
    · simp only [x1165_0, x1165_1, x1165_4, x1165_7, x1165_9, x.k244, f4, if_true]
  rw [if_neg hF] at f4
  obtain ⟨A, iv, hA, _⟩ := w.iv
  have h15 : hp_i h 244 15 = 0 := iv.2.2.2.1.2.2.2.1 (by rw [f2, ix_nI (by omega)]; omega)
  obtain ⟨h1, σ1, s1, s2, s3, s4, s5, s6, s7⟩ := op_stop iv h15
  obtain ⟨iv2, ph2⟩ := s3.walk (x := 0)
  refine pr_fin (v := 1) w ?_ iv2 (by omega) ?_ (fun k y => ?_)
  · simp only [x1022_0, x1022_1, x1022_4, x1022_7, x1022_13, x1022_14, x1022_17, x1022_20, x1022_21, x1022_22, x.k4, x.a4_0, x.k5, walked0 x.k5 f1 f3, if_neg hF, Option.bind_some, Option.toList_some, Option.toList_none, List.singleton_append, List.nil_append, i32_10, if_false, s1]
  · rw [hu_same, hu_idx (by omega), s4]
    rfl
  · simp only [x1165_0, x1165_1, x1165_4, x1165_10, x1165_11, x1165_14, x1165_15, hp_k_ms, y.k244, ms_r (show 244 ≤ 244 ∧ 244 < 276 by omega), f4, i32_10, if_false, s2 k y, Option.bind_some, Option.toList_some, Option.toList_none, List.singleton_append, List.nil_append]
    rw [x1165_16 (FX.ms (σ := σ1) y).k244 (Or.inl rfl), ms_w (show 244 ≤ 244 ∧ 244 < 276 by omega), x1165_19, x1165_20]
end
