/-! PAIRS: counted, trace, set, price, told, info, cut, member -/
theorem i32_pred {x y : Int32} (hx : 0 ≤ x) : x - 1 < y ↔ x ≤ y := by
  have h0 : 0 ≤ x.toInt := by simpa using Int32.le_iff_toInt_le.mp hx
  have h1 := Int32.toInt_lt x
  have h2 : (x - 1).toInt = x.toInt - 1 := by
    rw [Int32.toInt_sub, show (1 : Int32).toInt = 1 from rfl, Int.bmod_def]
    omega
  rw [Int32.lt_iff_toInt_lt, Int32.le_iff_toInt_le, h2]
  omega
theorem mG_n {f : SM} {a k : Nat} {x : Int32} (h : ¬ freeS a k) : mG (hp_u f a k x) = hp_u (mG f) a k x := by
  funext b j
  unfold mG hp_u
  by_cases q : b = a ∧ j = k
  · obtain ⟨rfl, rfl⟩ := q
    rw [if_neg h, if_pos ⟨rfl, rfl⟩, if_pos ⟨rfl, rfl⟩]
  · rw [if_neg q, if_neg q]
theorem RL.memb {xs : Nat → Int32} {L : Nat} {h : HP} (w : RL xs L h) : ∃ M : Nat, hp_i h 5 1 = nI M ∧ hp_i h 244 0 = nI M ∧ M ≤ 10 := by
  obtain ⟨M, h1, h2⟩ := w.g.1
  rw [mG_at (by unfold freeS; omega)] at h1
  exact ⟨M, (w.fi _ _ _ _ CMR.mcount).trans h1, h1, h2⟩
theorem RL.walk {xs : Nat → Int32} {L : Nat} {h : HP} (w : RL xs L h) : ∃ F : Nat, hp_i h 5 7 = nI F ∧ hp_i h 244 29 = nI F ∧ F ≤ 12 ∧ hp_i h 244 8 = (if F = 0 then 0 else 1) := by
  obtain ⟨_, _, _, _, _, _, _, _, g9, _, _, _, _, _, _, _, g17, _⟩ := w.g
  obtain ⟨F, h1, h2⟩ := g9
  rw [mG_at (by unfold freeS; omega)] at h1
  rw [mG_at (by unfold freeS; omega), mG_at (by unfold freeS; omega), h1] at g17
  refine ⟨F, (w.fi _ _ _ _ CMR.frames).trans h1, h1, h2, ?_⟩
  rw [g17]
  by_cases hF : F = 0
  · rw [if_pos hF, if_pos (by rw [hF]; rfl)]
  · rw [if_neg hF, if_neg (nI_ne0 (by omega) (by omega))]
theorem RL.tr {xs : Nat → Int32} {L : Nat} {h : HP} (w : RL xs L h) : ∃ T : Nat, hp_i h 5 11 = nI T ∧ hp_i h 244 41 = nI T ∧ T ≤ 100 := by
  obtain ⟨T, h1, h2⟩ := w.g.2.2.2.2.2.1
  rw [mG_at (by unfold freeS; omega)] at h1
  exact ⟨T, (w.fi _ _ _ _ CMR.traced).trans h1, h1, h2⟩
theorem walked0 {h : HP} (x5 : hp_k h 5 = 4) {F : Nat} (hF : hp_i h 5 7 = nI F) (hle : F ≤ 12) : pX 302 0 [.ref 5] [] h = some (some (.int (if F = 0 then 0 else 1)), h) := by
  rw [sp_isWalked x5, hF]
  by_cases q : F = 0
  · rw [if_pos q, if_pos (by rw [q]; decide)]
  · rw [if_neg q, if_neg (nI_nle (by omega) (by omega))]
theorem sp_isMember {h : HP} {m : Int32} {M : Nat} (k : hp_k h 244 = 12) (hM : hp_i h 244 0 = nI M) (hle : M ≤ 10) : pX 1102 0 [.ref 244, .int m] [] h = some (some (.int (if m < 0 ∨ nI M ≤ m then 0 else 1)), h) := by
  have e : (nI M - 1 < m) ↔ (nI M ≤ m) := i32_pred (nI_pos' (by omega))
  simp only [x1102_0, x1102_1, x1102_2, x1102_3, x1102_6, x1102_7, x1102_8, x1102_11, k, sp_in, hM, e, Option.bind_some, Option.toList_some, List.singleton_append]
  by_cases h1 : m < 0 ∨ nI M ≤ m <;> simp [x1102_0, x1102_1, x1102_2, x1102_3, x1102_6, x1102_7, x1102_8, x1102_11, h1]
theorem mem_cases (x : Int32) (M : Nat) (hM : M ≤ 10) : (x < 0 ∨ nI M ≤ x) ∨ ∃ n : Nat, x = nI n ∧ n < M ∧ ¬ (nI n < 0 ∨ nI M ≤ nI n) := by
  by_cases h1 : x < 0
  · exact Or.inl (Or.inl h1)
  · obtain ⟨j, hj, rfl⟩ := nI_of h1
    by_cases h2 : nI M ≤ nI j
    · exact Or.inl (Or.inr h2)
    · refine Or.inr ⟨j, rfl, ?_, fun q => q.elim h1 h2⟩
      rcases Nat.lt_or_ge j M with q | q
      · exact q
      · exact absurd (nI_le q hj) h2
theorem pr_counted (xs : Nat → Int32) (L : Nat) : PR_counted L (RL xs L) := by
  intro h a1 w
  have x := w.fx
  rcases out_cases a1 8 (by decide) with q | ⟨n, rfl, hn, q⟩
  · refine ⟨-2, h, h, ?_, ?_, x, fun _ => rfl, w⟩
    · simp only [x1015_0, x1015_1, x1015_2, x1015_4, x1015_7, x1015_10, x1015_12, x1015_15, x1015_16, x1015_19, x1015_22, x1015_25, x1015_26, x1015_26R, x1015_27, sp_isOutside, if_pos q, Option.bind_some, Option.toList_some, List.singleton_append]
      simp [x1015_0, x1015_1, x1015_2, x1015_4, x1015_7, x1015_10, x1015_12, x1015_15, x1015_16, x1015_19, x1015_22, x1015_25, x1015_26, x1015_26R, x1015_27]
    · simp only [x1158_0, x1158_1, x1158_2, x1158_4, x1158_7, x1158_10, x1158_11, x1158_14, x1158_15, x1158_16, x1158_19, x1158_21, sp_in, if_pos q, Option.bind_some, Option.toList_some, List.singleton_append]
      simp [x1158_0, x1158_1, x1158_2, x1158_4, x1158_7, x1158_10, x1158_11, x1158_14, x1158_15, x1158_16, x1158_19, x1158_21]
  · have e1 : inb (nI n) 9 = true := inb_nI (by omega) (by omega)
    have e2 : ix (nI n) = n := ix_nI (by omega)
    refine ⟨hp_i h 9 n, h, h, ?_, ?_, x, fun _ => rfl, w⟩
    · simp only [x1015_0, x1015_1, x1015_2, x1015_4, x1015_7, x1015_10, x1015_12, x1015_15, x1015_16, x1015_19, x1015_22, x1015_25, x1015_26, x1015_26R, x1015_27, sp_isOutside, if_neg q, Option.bind_some, Option.toList_some, List.singleton_append]
      simp [x1015_0, x1015_1, x1015_2, x1015_4, x1015_7, x1015_10, x1015_12, x1015_15, x1015_16, x1015_19, x1015_22, x1015_25, x1015_26, x1015_26R, x1015_27, x.k4, x.a4_0, x.k5, x.a5_2, x.k7, x.a7_1, x.k9, x.l9, e1, e2]
    · simp only [x1158_0, x1158_1, x1158_2, x1158_4, x1158_7, x1158_10, x1158_11, x1158_14, x1158_15, x1158_16, x1158_19, x1158_21, sp_in, if_neg q, Option.bind_some, Option.toList_some, List.singleton_append]
      simp [x1158_0, x1158_1, x1158_2, x1158_4, x1158_7, x1158_10, x1158_11, x1158_14, x1158_15, x1158_16, x1158_19, x1158_21, x.k244, x.a244_39, x.k273, x.l273, e1, e2, w.fi _ _ _ _ (CMR.counted (q := n) (by omega))]
theorem pr_trace (xs : Nat → Int32) (L : Nat) : PR_trace L (RL xs L) := by
  intro h a1 w
  have x := w.fx
  obtain ⟨T, t1, t2, t3⟩ := w.tr
  have e : (nI T - 1 < a1) ↔ (nI T ≤ a1) := i32_pred (nI_pos' (by omega))
  by_cases q1 : a1 < 0
  · refine ⟨-5, h, h, ?_, ?_, x, fun _ => rfl, w⟩
    · simp [x1016_0, x1016_1, x1016_4, x1016_5, x1016_6, x1016_9, x1016_12, x1016_15, x1016_17, x1016_20, x1016_21, x1016_24, x1016_27, x1016_28, x1016_28R, x1016_29, q1]
    · simp only [x1159_0, x1159_1, x1159_2, x1159_3, x1159_6, x1159_7, x1159_8, x1159_11, x1159_14, x1159_15, x1159_18, x1159_19, x1159_20, x1159_23, x1159_25, x.k244, sp_in, q1, true_or, if_true, Option.bind_some, Option.toList_some, List.singleton_append]
      try simp [x1159_0, x1159_1, x1159_2, x1159_3, x1159_6, x1159_7, x1159_8, x1159_11, x1159_14, x1159_15, x1159_18, x1159_19, x1159_20, x1159_23, x1159_25]
  · by_cases q2 : nI T ≤ a1
    · refine ⟨-5, h, h, ?_, ?_, x, fun _ => rfl, w⟩
      · simp [x1016_0, x1016_1, x1016_4, x1016_5, x1016_6, x1016_9, x1016_12, x1016_15, x1016_17, x1016_20, x1016_21, x1016_24, x1016_27, x1016_28, x1016_28R, x1016_29, q1, x.k4, x.a4_0, x.k5, t1, k2_nlt q2]
      · simp only [x1159_0, x1159_1, x1159_2, x1159_3, x1159_6, x1159_7, x1159_8, x1159_11, x1159_14, x1159_15, x1159_18, x1159_19, x1159_20, x1159_23, x1159_25, x.k244, t2, sp_in, e, q2, or_true, if_true, Option.bind_some, Option.toList_some, List.singleton_append]
        try simp [x1159_0, x1159_1, x1159_2, x1159_3, x1159_6, x1159_7, x1159_8, x1159_11, x1159_14, x1159_15, x1159_18, x1159_19, x1159_20, x1159_23, x1159_25]
    · obtain ⟨n, hn, rfl⟩ := nI_of q1
      have hnT : n < T := by
        rcases Nat.lt_or_ge n T with z | z
        · exact z
        · exact absurd (nI_le z hn) q2
      have e1 : inb (nI n) 100 = true := inb_nI (by omega) (by omega)
      have e2 : ix (nI n) = n := ix_nI (by omega)
      refine ⟨hp_i h 15 n, h, h, ?_, ?_, x, fun _ => rfl, w⟩
      · simp [x1016_0, x1016_1, x1016_4, x1016_5, x1016_6, x1016_9, x1016_12, x1016_15, x1016_17, x1016_20, x1016_21, x1016_24, x1016_27, x1016_28, x1016_28R, x1016_29, q1, x.k4, x.a4_0, x.k5, t1, k2_lt q2, x.a5_10, x.k15, x.l15, e1, e2]
      · simp only [x1159_0, x1159_1, x1159_2, x1159_3, x1159_6, x1159_7, x1159_8, x1159_11, x1159_14, x1159_15, x1159_18, x1159_19, x1159_20, x1159_23, x1159_25, x.k244, t2, sp_in, e, q1, q2, or_self, if_false, Option.bind_some, Option.toList_some, List.singleton_append]
        simp [x1159_0, x1159_1, x1159_2, x1159_3, x1159_6, x1159_7, x1159_8, x1159_11, x1159_14, x1159_15, x1159_18, x1159_19, x1159_20, x1159_23, x1159_25, x.k244, x.a244_40, x.k274, x.l274, e1, e2, w.fi _ _ _ _ (CMR.trace (q := n) (by omega))]
theorem pr_set (xs : Nat → Int32) (L : Nat) : PR_set L (RL xs L) := by
  intro h a1 a2 w
  have x := w.fx
  obtain ⟨F, f1, f2, f3, f4⟩ := w.walk
  rcases out_cases a1 11 (by decide) with q | ⟨n, rfl, hn, q⟩
  · refine ⟨-2, h, h, ?_, ?_, x, fun _ => rfl, w⟩
    · simp only [x1008_0, x1008_1, x1008_2, x1008_4, x1008_7, x1008_10, x1008_12, x1008_13, x1008_14, x1008_17, x1008_20, x1008_23, x1008_25, x1008_26, x1008_27, x1008_30, x1008_33, x1008_34, x1008_34R, x1008_35, x1008_36, x1008_37, x1008_40, x1008_43, x1008_44, x1008_45, x1008_46, x1008_47, sp_isOutside, if_pos q, Option.bind_some, Option.toList_some, List.singleton_append]
      simp [x1008_0, x1008_1, x1008_2, x1008_4, x1008_7, x1008_10, x1008_12, x1008_13, x1008_14, x1008_17, x1008_20, x1008_23, x1008_25, x1008_26, x1008_27, x1008_30, x1008_33, x1008_34, x1008_34R, x1008_35, x1008_36, x1008_37, x1008_40, x1008_43, x1008_44, x1008_45, x1008_46, x1008_47]
    · simp only [x1116_0, x1116_1, x1116_2, x1116_4, x1116_7, x1116_10, x1116_12, x1116_13, x1116_14, x1116_17, x1116_20, x1116_22, x1116_23, x1116_24, x1116_27, x1116_28, x1116_29, x1116_30, x1116_31, x1116_34, x1116_35, x1116_36, x1116_37, x1116_38, sp_in, if_pos q, Option.bind_some, Option.toList_some, List.singleton_append]
      simp [x1116_0, x1116_1, x1116_2, x1116_4, x1116_7, x1116_10, x1116_12, x1116_13, x1116_14, x1116_17, x1116_20, x1116_22, x1116_23, x1116_24, x1116_27, x1116_28, x1116_29, x1116_30, x1116_31, x1116_34, x1116_35, x1116_36, x1116_37, x1116_38]
  · have e1 : inb (nI n) 12 = true := inb_nI (by omega) (by omega)
    have e2 : ix (nI n) = n := ix_nI (by omega)
    by_cases hF : F = 0
    · have f5 : hp_i h 244 8 = 0 := by rw [f4, if_pos hF]
      refine ⟨hp_i h 11 n, hp_wi h 11 n a2, hp_wi (hp_wi h 11 n a2) 253 n a2, ?_, ?_, x.wi, fun _ => rfl, w.pair (CMR.plan (q := n) (by omega)) (by unfold depS; omega) (by unfold depH; omega) ?_⟩
      · simp only [x1008_0, x1008_1, x1008_2, x1008_4, x1008_7, x1008_10, x1008_12, x1008_13, x1008_14, x1008_17, x1008_20, x1008_23, x1008_25, x1008_26, x1008_27, x1008_30, x1008_33, x1008_34, x1008_34R, x1008_35, x1008_36, x1008_37, x1008_40, x1008_43, x1008_44, x1008_45, x1008_46, x1008_47, sp_isOutside, if_neg q, Option.bind_some, Option.toList_some, List.singleton_append]
        simp [x1008_0, x1008_1, x1008_2, x1008_4, x1008_7, x1008_10, x1008_12, x1008_13, x1008_14, x1008_17, x1008_20, x1008_23, x1008_25, x1008_26, x1008_27, x1008_30, x1008_33, x1008_34, x1008_34R, x1008_35, x1008_36, x1008_37, x1008_40, x1008_43, x1008_44, x1008_45, x1008_46, x1008_47, x.k4, x.a4_0, x.k5, walked0 x.k5 f1 f3, hF, x.a5_4, x.k11, x.l11, e1, e2]
      · simp only [x1116_0, x1116_1, x1116_2, x1116_4, x1116_7, x1116_10, x1116_12, x1116_13, x1116_14, x1116_17, x1116_20, x1116_22, x1116_23, x1116_24, x1116_27, x1116_28, x1116_29, x1116_30, x1116_31, x1116_34, x1116_35, x1116_36, x1116_37, x1116_38, sp_in, if_neg q, Option.bind_some, Option.toList_some, List.singleton_append]
        simp [x1116_0, x1116_1, x1116_2, x1116_4, x1116_7, x1116_10, x1116_12, x1116_13, x1116_14, x1116_17, x1116_20, x1116_22, x1116_23, x1116_24, x1116_27, x1116_28, x1116_29, x1116_30, x1116_31, x1116_34, x1116_35, x1116_36, x1116_37, x1116_38, hp_k_wi, hp_a_wi, hp_l_wi, hp_i_wi, x.k244, x.a244_11, x.k253, x.l253, e1, e2, f5, w.fi _ _ _ _ (CMR.plan (q := n) (by omega))]
      · show RGc _
        rw [mG_u (by unfold freeS; omega)]
        exact w.g
    · have f5 : hp_i h 244 8 = 1 := by rw [f4, if_neg hF]
      refine ⟨-3, h, h, ?_, ?_, x, fun _ => rfl, w⟩
      · simp only [x1008_0, x1008_1, x1008_2, x1008_4, x1008_7, x1008_10, x1008_12, x1008_13, x1008_14, x1008_17, x1008_20, x1008_23, x1008_25, x1008_26, x1008_27, x1008_30, x1008_33, x1008_34, x1008_34R, x1008_35, x1008_36, x1008_37, x1008_40, x1008_43, x1008_44, x1008_45, x1008_46, x1008_47, sp_isOutside, if_neg q, Option.bind_some, Option.toList_some, List.singleton_append]
        simp [x1008_0, x1008_1, x1008_2, x1008_4, x1008_7, x1008_10, x1008_12, x1008_13, x1008_14, x1008_17, x1008_20, x1008_23, x1008_25, x1008_26, x1008_27, x1008_30, x1008_33, x1008_34, x1008_34R, x1008_35, x1008_36, x1008_37, x1008_40, x1008_43, x1008_44, x1008_45, x1008_46, x1008_47, x.k4, x.a4_0, x.k5, walked0 x.k5 f1 f3, hF]
      · simp only [x1116_0, x1116_1, x1116_2, x1116_4, x1116_7, x1116_10, x1116_12, x1116_13, x1116_14, x1116_17, x1116_20, x1116_22, x1116_23, x1116_24, x1116_27, x1116_28, x1116_29, x1116_30, x1116_31, x1116_34, x1116_35, x1116_36, x1116_37, x1116_38, sp_in, if_neg q, Option.bind_some, Option.toList_some, List.singleton_append]
        simp [x1116_0, x1116_1, x1116_2, x1116_4, x1116_7, x1116_10, x1116_12, x1116_13, x1116_14, x1116_17, x1116_20, x1116_22, x1116_23, x1116_24, x1116_27, x1116_28, x1116_29, x1116_30, x1116_31, x1116_34, x1116_35, x1116_36, x1116_37, x1116_38, x.k244, f5]
theorem RGc.price {s : SM} (g : RGc s) {k p : Nat} (h1 : 1 ≤ p) (h2 : p ≤ 9) : RGc (hp_u s 251 k (nI p)) := by
  obtain ⟨g1, g2, g3, g4, g5, g6, g7, g8, g9, g10, g11, g12, g13, g14, g15, g16, g17⟩ := g
  unfold RGc
  simp only [hp_u, Nat.reduceEqDiff, false_and, if_false, true_and]
  refine ⟨g1, g2, g3, g4, fun q hq => ?_, g6, g7, g8, g9, g10, g11, g12, g13, g14, g15, g16, g17⟩
  by_cases e : q = k
  · rw [if_pos e]; exact ⟨p, rfl, h1, h2⟩
  · rw [if_neg e]; exact g5 q hq
theorem pr_price (xs : Nat → Int32) (L : Nat) : PR_price L (RL xs L) := by
  intro h a1 a2 w
  have x := w.fx
  obtain ⟨F, f1, f2, f3, f4⟩ := w.walk
  rcases out_cases a1 4 (by decide) with q | ⟨n, rfl, hn, q⟩
  · refine ⟨-2, h, h, ?_, ?_, x, fun _ => rfl, w⟩
    · simp only [x1005_0, x1005_1, x1005_2, x1005_3, x1005_6, x1005_9, x1005_10, x1005_11, x1005_13, x1005_16, x1005_19, x1005_21, x1005_22, x1005_23, x1005_26, x1005_29, x1005_32, x1005_34, x1005_35, x1005_36, x1005_39, x1005_42, x1005_45, x1005_46, x1005_46R, x1005_47, x1005_48, x1005_49, x1005_52, x1005_55, x1005_58, x1005_59, x1005_60, x1005_61, x1005_62, sp_isOutside, if_pos q, Option.bind_some, Option.toList_some, List.singleton_append]
      simp [x1005_0, x1005_1, x1005_2, x1005_3, x1005_6, x1005_9, x1005_10, x1005_11, x1005_13, x1005_16, x1005_19, x1005_21, x1005_22, x1005_23, x1005_26, x1005_29, x1005_32, x1005_34, x1005_35, x1005_36, x1005_39, x1005_42, x1005_45, x1005_46, x1005_46R, x1005_47, x1005_48, x1005_49, x1005_52, x1005_55, x1005_58, x1005_59, x1005_60, x1005_61, x1005_62]
    · simp only [x1109_0, x1109_1, x1109_2, x1109_3, x1109_6, x1109_9, x1109_10, x1109_11, x1109_13, x1109_16, x1109_19, x1109_21, x1109_22, x1109_23, x1109_26, x1109_29, x1109_31, x1109_32, x1109_33, x1109_36, x1109_37, x1109_38, x1109_39, x1109_40, x1109_43, x1109_44, x1109_45, x1109_46, x1109_47, sp_in, if_pos q, Option.bind_some, Option.toList_some, List.singleton_append]
      simp [x1109_0, x1109_1, x1109_2, x1109_3, x1109_6, x1109_9, x1109_10, x1109_11, x1109_13, x1109_16, x1109_19, x1109_21, x1109_22, x1109_23, x1109_26, x1109_29, x1109_31, x1109_32, x1109_33, x1109_36, x1109_37, x1109_38, x1109_39, x1109_40, x1109_43, x1109_44, x1109_45, x1109_46, x1109_47]
  · by_cases q2 : a2 < 1 ∨ 9 < a2
    · refine ⟨-2, h, h, ?_, ?_, x, fun _ => rfl, w⟩
      · simp only [x1005_0, x1005_1, x1005_2, x1005_3, x1005_6, x1005_9, x1005_10, x1005_11, x1005_13, x1005_16, x1005_19, x1005_21, x1005_22, x1005_23, x1005_26, x1005_29, x1005_32, x1005_34, x1005_35, x1005_36, x1005_39, x1005_42, x1005_45, x1005_46, x1005_46R, x1005_47, x1005_48, x1005_49, x1005_52, x1005_55, x1005_58, x1005_59, x1005_60, x1005_61, x1005_62, sp_isOutside, if_neg q, if_pos q2, Option.bind_some, Option.toList_some, List.singleton_append, if_true]
        try simp [x1005_0, x1005_1, x1005_2, x1005_3, x1005_6, x1005_9, x1005_10, x1005_11, x1005_13, x1005_16, x1005_19, x1005_21, x1005_22, x1005_23, x1005_26, x1005_29, x1005_32, x1005_34, x1005_35, x1005_36, x1005_39, x1005_42, x1005_45, x1005_46, x1005_46R, x1005_47, x1005_48, x1005_49, x1005_52, x1005_55, x1005_58, x1005_59, x1005_60, x1005_61, x1005_62]
      · simp only [x1109_0, x1109_1, x1109_2, x1109_3, x1109_6, x1109_9, x1109_10, x1109_11, x1109_13, x1109_16, x1109_19, x1109_21, x1109_22, x1109_23, x1109_26, x1109_29, x1109_31, x1109_32, x1109_33, x1109_36, x1109_37, x1109_38, x1109_39, x1109_40, x1109_43, x1109_44, x1109_45, x1109_46, x1109_47, sp_in, if_neg q, if_pos q2, Option.bind_some, Option.toList_some, List.singleton_append]
        try simp [x1109_0, x1109_1, x1109_2, x1109_3, x1109_6, x1109_9, x1109_10, x1109_11, x1109_13, x1109_16, x1109_19, x1109_21, x1109_22, x1109_23, x1109_26, x1109_29, x1109_31, x1109_32, x1109_33, x1109_36, x1109_37, x1109_38, x1109_39, x1109_40, x1109_43, x1109_44, x1109_45, x1109_46, x1109_47]
    · have e1 : inb (nI n) 5 = true := inb_nI (by omega) (by omega)
      have e2 : ix (nI n) = n := ix_nI (by omega)
      by_cases hF : F = 0
      · have f5 : hp_i h 244 8 = 0 := by rw [f4, if_pos hF]
        obtain ⟨p, hp9, rfl⟩ : ∃ p : Nat, (1 ≤ p ∧ p ≤ 9) ∧ a2 = nI p := by
          rcases out_cases a2 9 (by decide) with z | ⟨p, rfl, hp, -⟩
          · rcases z with z | z
            · exact absurd (Or.inl (by
                rw [Int32.lt_iff_toInt_lt] at z ⊢
                have z1 : (0 : Int32).toInt = 0 := rfl
                have z2 : (1 : Int32).toInt = 1 := rfl
                omega)) q2
            · exact absurd (Or.inr z) q2
          · refine ⟨p, ⟨?_, hp⟩, rfl⟩
            rcases Nat.eq_zero_or_pos p with z | z
            · subst z
              exact absurd (Or.inl (by decide)) q2
            · exact z
        refine ⟨hp_i h 8 n, hp_wi h 8 n (nI p), hp_wi (hp_wi h 8 n (nI p)) 251 n (nI p), ?_, ?_, x.wi, fun _ => rfl, w.pair (CMR.price (q := n) (by omega)) (by unfold depS; omega) (by unfold depH; omega) ?_⟩
        · simp only [x1005_0, x1005_1, x1005_2, x1005_3, x1005_6, x1005_9, x1005_10, x1005_11, x1005_13, x1005_16, x1005_19, x1005_21, x1005_22, x1005_23, x1005_26, x1005_29, x1005_32, x1005_34, x1005_35, x1005_36, x1005_39, x1005_42, x1005_45, x1005_46, x1005_46R, x1005_47, x1005_48, x1005_49, x1005_52, x1005_55, x1005_58, x1005_59, x1005_60, x1005_61, x1005_62, sp_isOutside, if_neg q, if_neg q2, Option.bind_some, Option.toList_some, List.singleton_append]
          simp [x1005_0, x1005_1, x1005_2, x1005_3, x1005_6, x1005_9, x1005_10, x1005_11, x1005_13, x1005_16, x1005_19, x1005_21, x1005_22, x1005_23, x1005_26, x1005_29, x1005_32, x1005_34, x1005_35, x1005_36, x1005_39, x1005_42, x1005_45, x1005_46, x1005_46R, x1005_47, x1005_48, x1005_49, x1005_52, x1005_55, x1005_58, x1005_59, x1005_60, x1005_61, x1005_62, x.k4, x.a4_0, x.k5, walked0 x.k5 f1 f3, hF, x.a5_2, x.k7, x.a7_0, x.k8, x.l8, e1, e2]
        · simp only [x1109_0, x1109_1, x1109_2, x1109_3, x1109_6, x1109_9, x1109_10, x1109_11, x1109_13, x1109_16, x1109_19, x1109_21, x1109_22, x1109_23, x1109_26, x1109_29, x1109_31, x1109_32, x1109_33, x1109_36, x1109_37, x1109_38, x1109_39, x1109_40, x1109_43, x1109_44, x1109_45, x1109_46, x1109_47, sp_in, if_neg q, if_neg q2, Option.bind_some, Option.toList_some, List.singleton_append]
          simp [x1109_0, x1109_1, x1109_2, x1109_3, x1109_6, x1109_9, x1109_10, x1109_11, x1109_13, x1109_16, x1109_19, x1109_21, x1109_22, x1109_23, x1109_26, x1109_29, x1109_31, x1109_32, x1109_33, x1109_36, x1109_37, x1109_38, x1109_39, x1109_40, x1109_43, x1109_44, x1109_45, x1109_46, x1109_47, hp_k_wi, hp_a_wi, hp_l_wi, hp_i_wi, x.k244, x.a244_7, x.k251, x.l251, e1, e2, f5, w.fi _ _ _ _ (CMR.price (q := n) (by omega))]
        · show RGc _
          rw [mG_n (by unfold freeS; omega)]
          exact w.g.price hp9.1 hp9.2
      · have f5 : hp_i h 244 8 = 1 := by rw [f4, if_neg hF]
        refine ⟨-3, h, h, ?_, ?_, x, fun _ => rfl, w⟩
        · simp only [x1005_0, x1005_1, x1005_2, x1005_3, x1005_6, x1005_9, x1005_10, x1005_11, x1005_13, x1005_16, x1005_19, x1005_21, x1005_22, x1005_23, x1005_26, x1005_29, x1005_32, x1005_34, x1005_35, x1005_36, x1005_39, x1005_42, x1005_45, x1005_46, x1005_46R, x1005_47, x1005_48, x1005_49, x1005_52, x1005_55, x1005_58, x1005_59, x1005_60, x1005_61, x1005_62, sp_isOutside, if_neg q, if_neg q2, Option.bind_some, Option.toList_some, List.singleton_append]
          simp [x1005_0, x1005_1, x1005_2, x1005_3, x1005_6, x1005_9, x1005_10, x1005_11, x1005_13, x1005_16, x1005_19, x1005_21, x1005_22, x1005_23, x1005_26, x1005_29, x1005_32, x1005_34, x1005_35, x1005_36, x1005_39, x1005_42, x1005_45, x1005_46, x1005_46R, x1005_47, x1005_48, x1005_49, x1005_52, x1005_55, x1005_58, x1005_59, x1005_60, x1005_61, x1005_62, x.k4, x.a4_0, x.k5, walked0 x.k5 f1 f3, hF]
        · simp only [x1109_0, x1109_1, x1109_2, x1109_3, x1109_6, x1109_9, x1109_10, x1109_11, x1109_13, x1109_16, x1109_19, x1109_21, x1109_22, x1109_23, x1109_26, x1109_29, x1109_31, x1109_32, x1109_33, x1109_36, x1109_37, x1109_38, x1109_39, x1109_40, x1109_43, x1109_44, x1109_45, x1109_46, x1109_47, sp_in, if_neg q, if_neg q2, Option.bind_some, Option.toList_some, List.singleton_append]
          simp [x1109_0, x1109_1, x1109_2, x1109_3, x1109_6, x1109_9, x1109_10, x1109_11, x1109_13, x1109_16, x1109_19, x1109_21, x1109_22, x1109_23, x1109_26, x1109_29, x1109_31, x1109_32, x1109_33, x1109_36, x1109_37, x1109_38, x1109_39, x1109_40, x1109_43, x1109_44, x1109_45, x1109_46, x1109_47, x.k244, f5]
theorem pr_told (xs : Nat → Int32) (L : Nat) : PR_told L (RL xs L) := by
  intro h a1 w
  have x := w.fx
  obtain ⟨F, f1, f2, f3, f4⟩ := w.walk
  rcases out_cases a1 5 (by decide) with q | ⟨n, rfl, hn, q⟩
  · have q3 : a1.toInt < 0 ∨ 5 < a1.toInt := by
      rcases q with q | q
      · rw [Int32.lt_iff_toInt_lt] at q; exact Or.inl q
      · rw [Int32.lt_iff_toInt_lt] at q; exact Or.inr q
    refine ⟨-2, h, h, ?_, ?_, x, fun _ => rfl, w⟩
    · simp [x1023_0, x1023_1_d q3, x1023_0, x1023_1_0, x1023_1_1, x1023_1_2, x1023_1_3, x1023_1_4, x1023_1_5, x1023_40, x1023_41, x1023_44, x1023_47, x1023_48, x1023_49, x1023_52, x1023_55, x1023_56, x1023_57, x1023_60, x1023_63, x1023_64, x1023_65, x1023_68, x1023_71, x1023_72, x1023_73, x1023_76, x1023_79, x1023_80, x1023_81, x1023_84, x1023_87, x1023_90, x1023_91, x1023_94, x1023_95, x1023_96, x1023_98]
    · simp only [x1166_0, x1166_1, x1166_2, x1166_3, x1166_6, x1166_9, x1166_11, x1166_12, x1166_13, x1166_16, x1166_17, x1166_20, x1166_23, x1166_24, x1166_25, x1166_28, x1166_29, x1166_32, x1166_35, x1166_36, x1166_39, x1166_40, x1166_43, x1166_44, x1166_47, x1166_48, x1166_49, sp_in, if_pos q, Option.bind_some, Option.toList_some, List.singleton_append]
      simp [x1166_0, x1166_1, x1166_2, x1166_3, x1166_6, x1166_9, x1166_11, x1166_12, x1166_13, x1166_16, x1166_17, x1166_20, x1166_23, x1166_24, x1166_25, x1166_28, x1166_29, x1166_32, x1166_35, x1166_36, x1166_39, x1166_40, x1166_43, x1166_44, x1166_47, x1166_48, x1166_49]
  · match n, hn with
    | 0, _ =>
      refine ⟨hp_i h 5 1, h, h, ?_, ?_, x, fun _ => rfl, w⟩
      · simp [x1023_0, x1023_1_0, x1023_1_1, x1023_1_2, x1023_1_3, x1023_1_4, x1023_1_5, x1023_40, x1023_41, x1023_44, x1023_47, x1023_48, x1023_49, x1023_52, x1023_55, x1023_56, x1023_57, x1023_60, x1023_63, x1023_64, x1023_65, x1023_68, x1023_71, x1023_72, x1023_73, x1023_76, x1023_79, x1023_80, x1023_81, x1023_84, x1023_87, x1023_90, x1023_91, x1023_94, x1023_95, x1023_96, x1023_98, show nI 0 = 0 from rfl, x.k4, x.a4_0, x.k5]
      · simp [x1166_0, x1166_1, x1166_2, x1166_3, x1166_6, x1166_9, x1166_11, x1166_12, x1166_13, x1166_16, x1166_17, x1166_20, x1166_23, x1166_24, x1166_25, x1166_28, x1166_29, x1166_32, x1166_35, x1166_36, x1166_39, x1166_40, x1166_43, x1166_44, x1166_47, x1166_48, x1166_49, sp_in, show nI 0 = 0 from rfl, x.k244, w.fi _ _ _ _ CMR.mcount]
    | 1, _ =>
      refine ⟨hp_i h 5 12, h, h, ?_, ?_, x, fun _ => rfl, w⟩
      · simp [x1023_0, x1023_1_0, x1023_1_1, x1023_1_2, x1023_1_3, x1023_1_4, x1023_1_5, x1023_40, x1023_41, x1023_44, x1023_47, x1023_48, x1023_49, x1023_52, x1023_55, x1023_56, x1023_57, x1023_60, x1023_63, x1023_64, x1023_65, x1023_68, x1023_71, x1023_72, x1023_73, x1023_76, x1023_79, x1023_80, x1023_81, x1023_84, x1023_87, x1023_90, x1023_91, x1023_94, x1023_95, x1023_96, x1023_98, show nI 1 = 1 from rfl, x.k4, x.a4_0, x.k5]
      · simp [x1166_0, x1166_1, x1166_2, x1166_3, x1166_6, x1166_9, x1166_11, x1166_12, x1166_13, x1166_16, x1166_17, x1166_20, x1166_23, x1166_24, x1166_25, x1166_28, x1166_29, x1166_32, x1166_35, x1166_36, x1166_39, x1166_40, x1166_43, x1166_44, x1166_47, x1166_48, x1166_49, sp_in, show nI 1 = 1 from rfl, x.k244, x.a244_43, x.k275, x.l275, show inb 1 5 = true from rfl, show ix 1 = 1 from rfl, w.fi _ _ _ _ (CMR.told (t := 1) (by decide) (by decide))]
    | 2, _ =>
      refine ⟨hp_i h 5 13, h, h, ?_, ?_, x, fun _ => rfl, w⟩
      · simp [x1023_0, x1023_1_0, x1023_1_1, x1023_1_2, x1023_1_3, x1023_1_4, x1023_1_5, x1023_40, x1023_41, x1023_44, x1023_47, x1023_48, x1023_49, x1023_52, x1023_55, x1023_56, x1023_57, x1023_60, x1023_63, x1023_64, x1023_65, x1023_68, x1023_71, x1023_72, x1023_73, x1023_76, x1023_79, x1023_80, x1023_81, x1023_84, x1023_87, x1023_90, x1023_91, x1023_94, x1023_95, x1023_96, x1023_98, show nI 2 = 2 from rfl, x.k4, x.a4_0, x.k5]
      · simp [x1166_0, x1166_1, x1166_2, x1166_3, x1166_6, x1166_9, x1166_11, x1166_12, x1166_13, x1166_16, x1166_17, x1166_20, x1166_23, x1166_24, x1166_25, x1166_28, x1166_29, x1166_32, x1166_35, x1166_36, x1166_39, x1166_40, x1166_43, x1166_44, x1166_47, x1166_48, x1166_49, sp_in, show nI 2 = 2 from rfl, x.k244, x.a244_43, x.k275, x.l275, show inb 2 5 = true from rfl, show ix 2 = 2 from rfl, w.fi _ _ _ _ (CMR.told (t := 2) (by decide) (by decide))]
    | 3, _ =>
      refine ⟨hp_i h 5 14, h, h, ?_, ?_, x, fun _ => rfl, w⟩
      · simp [x1023_0, x1023_1_0, x1023_1_1, x1023_1_2, x1023_1_3, x1023_1_4, x1023_1_5, x1023_40, x1023_41, x1023_44, x1023_47, x1023_48, x1023_49, x1023_52, x1023_55, x1023_56, x1023_57, x1023_60, x1023_63, x1023_64, x1023_65, x1023_68, x1023_71, x1023_72, x1023_73, x1023_76, x1023_79, x1023_80, x1023_81, x1023_84, x1023_87, x1023_90, x1023_91, x1023_94, x1023_95, x1023_96, x1023_98, show nI 3 = 3 from rfl, x.k4, x.a4_0, x.k5]
      · simp [x1166_0, x1166_1, x1166_2, x1166_3, x1166_6, x1166_9, x1166_11, x1166_12, x1166_13, x1166_16, x1166_17, x1166_20, x1166_23, x1166_24, x1166_25, x1166_28, x1166_29, x1166_32, x1166_35, x1166_36, x1166_39, x1166_40, x1166_43, x1166_44, x1166_47, x1166_48, x1166_49, sp_in, show nI 3 = 3 from rfl, x.k244, x.a244_43, x.k275, x.l275, show inb 3 5 = true from rfl, show ix 3 = 3 from rfl, w.fi _ _ _ _ (CMR.told (t := 3) (by decide) (by decide))]
    | 4, _ =>
      refine ⟨hp_i h 5 15, h, h, ?_, ?_, x, fun _ => rfl, w⟩
      · simp [x1023_0, x1023_1_0, x1023_1_1, x1023_1_2, x1023_1_3, x1023_1_4, x1023_1_5, x1023_40, x1023_41, x1023_44, x1023_47, x1023_48, x1023_49, x1023_52, x1023_55, x1023_56, x1023_57, x1023_60, x1023_63, x1023_64, x1023_65, x1023_68, x1023_71, x1023_72, x1023_73, x1023_76, x1023_79, x1023_80, x1023_81, x1023_84, x1023_87, x1023_90, x1023_91, x1023_94, x1023_95, x1023_96, x1023_98, show nI 4 = 4 from rfl, x.k4, x.a4_0, x.k5]
      · simp [x1166_0, x1166_1, x1166_2, x1166_3, x1166_6, x1166_9, x1166_11, x1166_12, x1166_13, x1166_16, x1166_17, x1166_20, x1166_23, x1166_24, x1166_25, x1166_28, x1166_29, x1166_32, x1166_35, x1166_36, x1166_39, x1166_40, x1166_43, x1166_44, x1166_47, x1166_48, x1166_49, sp_in, show nI 4 = 4 from rfl, x.k244, x.a244_43, x.k275, x.l275, show inb 4 5 = true from rfl, show ix 4 = 4 from rfl, w.fi _ _ _ _ (CMR.told (t := 4) (by decide) (by decide))]
    | 5, _ =>
      refine ⟨if F = 0 then 0 else 1, h, h, ?_, ?_, x, fun _ => rfl, w⟩
      · by_cases hF : F = 0 <;> simp [x1023_0, x1023_1_0, x1023_1_1, x1023_1_2, x1023_1_3, x1023_1_4, x1023_1_5, x1023_40, x1023_41, x1023_44, x1023_47, x1023_48, x1023_49, x1023_52, x1023_55, x1023_56, x1023_57, x1023_60, x1023_63, x1023_64, x1023_65, x1023_68, x1023_71, x1023_72, x1023_73, x1023_76, x1023_79, x1023_80, x1023_81, x1023_84, x1023_87, x1023_90, x1023_91, x1023_94, x1023_95, x1023_96, x1023_98, show nI 5 = 5 from rfl, x.k4, x.a4_0, x.k5, walked0 x.k5 f1 f3, hF]
      · by_cases hF : F = 0 <;> simp [x1166_0, x1166_1, x1166_2, x1166_3, x1166_6, x1166_9, x1166_11, x1166_12, x1166_13, x1166_16, x1166_17, x1166_20, x1166_23, x1166_24, x1166_25, x1166_28, x1166_29, x1166_32, x1166_35, x1166_36, x1166_39, x1166_40, x1166_43, x1166_44, x1166_47, x1166_48, x1166_49, sp_in, show nI 5 = 5 from rfl, x.k244, f4, hF]
