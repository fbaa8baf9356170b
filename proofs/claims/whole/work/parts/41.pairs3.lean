/-! PAIRS: info, cut, member, handler, act -/
theorem sp_addAct {h : HP} {a n : Nat} {o x y z : Int32} (k : hp_k h a = 5) (k1 : hp_k h (a + 1) = 100) (k2 : hp_k h (a + 2) = 100) (k3 : hp_k h (a + 3) = 100) (k4 : hp_k h (a + 4) = 100)
    (l1 : hp_l h (a + 1) = 40) (l2 : hp_l h (a + 2) = 40) (l3 : hp_l h (a + 3) = 40) (l4 : hp_l h (a + 4) = 40) (p1 : hp_a h a 3 = a + 1) (p2 : hp_a h a 4 = a + 2) (p3 : hp_a h a 5 = a + 3) (p4 : hp_a h a 6 = a + 4) (hn : hp_i h a 2 = nI n) (hl : n < 40) :
    pX 401 0 [.ref a, .int o, .int x, .int y, .int z] [] h = some (some (.int (nI (n + 1))), hp_wi (hp_wi (hp_wi (hp_wi (hp_wi h (a + 1) n o) (a + 2) n x) (a + 3) n y) (a + 4) n z) a 2 (nI (n + 1))) := by
  have e1 : inb (nI n) 40 = true := inb_nI hl (by omega)
  have e2 : ix (nI n) = n := ix_nI (by omega)
  simp [x401_0, x401_1, x401_4, x401_5, x401_8, x401_9, x401_10, x401_11, x401_14, x401_15, x401_18, x401_19, x401_20, x401_21, x401_24, x401_25, x401_28, x401_29, x401_30, x401_31, x401_34, x401_35, x401_38, x401_40, x401_41, x401_42, x401_43, x401_46, x401_47, x401_48, x401_51, x401_52, x401_55, k, k1, k2, k3, k4, l1, l2, l3, l4, p1, p2, p3, p4, hp_k_wi, hp_l_wi, hp_a_wi, hp_i_wi, hn, e1, e2, nI_1]
theorem sp_addHandler {h : HP} {a n : Nat} {o x y z : Int32} (k : hp_k h a = 5) (k1 : hp_k h (a + 5) = 100) (k2 : hp_k h (a + 6) = 100) (k3 : hp_k h (a + 7) = 100) (k4 : hp_k h (a + 8) = 100)
    (l1 : hp_l h (a + 5) = 6) (l2 : hp_l h (a + 6) = 6) (l3 : hp_l h (a + 7) = 6) (l4 : hp_l h (a + 8) = 6) (p1 : hp_a h a 8 = a + 5) (p2 : hp_a h a 9 = a + 6) (p3 : hp_a h a 10 = a + 7) (p4 : hp_a h a 11 = a + 8) (hn : hp_i h a 7 = nI n) (hl : n < 6) :
    pX 402 0 [.ref a, .int o, .int x, .int y, .int z] [] h = some (some (.int (nI (n + 1))), hp_wi (hp_wi (hp_wi (hp_wi (hp_wi h (a + 5) n o) (a + 6) n x) (a + 7) n y) (a + 8) n z) a 7 (nI (n + 1))) := by
  have e1 : inb (nI n) 6 = true := inb_nI hl (by omega)
  have e2 : ix (nI n) = n := ix_nI (by omega)
  simp [x402_0, x402_1, x402_4, x402_5, x402_8, x402_9, x402_10, x402_11, x402_14, x402_15, x402_18, x402_19, x402_20, x402_21, x402_24, x402_25, x402_28, x402_29, x402_30, x402_31, x402_34, x402_35, x402_38, x402_40, x402_41, x402_42, x402_43, x402_46, x402_47, x402_48, x402_51, x402_52, x402_55, k, k1, k2, k3, k4, l1, l2, l3, l4, p1, p2, p3, p4, hp_k_wi, hp_l_wi, hp_a_wi, hp_i_wi, hn, e1, e2, nI_1]
/-- what is known of member m -/
theorem RL.mem {xs : Nat → Int32} {L : Nat} {h : HP} (w : RL xs L h) {m : Nat} (hm : m < 10) : ∃ W A H : Nat, hp_i h 245 m = nI W ∧ W ≤ 3 ∧ hp_i h 246 m = nI A ∧ A ≤ 40 ∧ hp_i h 248 m = nI H ∧ H ≤ 6 := by
  obtain ⟨⟨W, h1, h2⟩, ⟨A, h3, h4⟩, ⟨H, h5, h6⟩⟩ := w.g.2.1 m hm
  rw [mG_at (by unfold freeS; omega)] at h1 h3 h5
  exact ⟨W, A, H, h1, h2, h3, h4, h5, h6⟩
theorem pr_info (xs : Nat → Int32) (L : Nat) : PR_info L (RL xs L) := by
  intro h a1 a2 w
  have x := w.fx
  obtain ⟨M, m1, m2, m3⟩ := w.memb
  rcases mem_cases a1 M m3 with q | ⟨m, rfl, hm, q⟩
  · refine pr_same (v := -1) w ?_ ?_
    · simp only [x1007_0, x1007_1, x1007_4, x1007_5, x1007_8, x1007_11, x1007_12, x1007_13, x1007_14, x1007_17, x1007_20, x1007_21, x1007_22, x1007_23, x1007_24_0, x1007_24_1, x1007_24_2, x1007_24_3, x1007_56, x1007_57, x1007_60, x1007_61, x1007_62, x1007_65, x1007_66, x1007_67, x1007_70, x1007_71, x1007_72, x1007_75, x1007_76, x1007_78, x.k4, x.a4_0, x.k5, sp_lacksMember x.k5, m1, if_pos q, Option.bind_some, Option.toList_some, Option.toList_none, List.singleton_append, List.nil_append]
      simp [x1007_0, x1007_1, x1007_4, x1007_5, x1007_8, x1007_11, x1007_12, x1007_13, x1007_14, x1007_17, x1007_20, x1007_21, x1007_22, x1007_23, x1007_24_0, x1007_24_1, x1007_24_2, x1007_24_3, x1007_56, x1007_57, x1007_60, x1007_61, x1007_62, x1007_65, x1007_66, x1007_67, x1007_70, x1007_71, x1007_72, x1007_75, x1007_76, x1007_78]
    · simp only [x1115_0, x1115_1, x1115_2, x1115_5, x1115_8, x1115_9, x1115_10, x1115_11_0, x1115_11_1, x1115_11_2, x1115_11_3, x1115_40, x1115_41, x1115_44, x1115_45, x1115_46, x1115_47, x1115_48, x1115_51, x1115_52, x1115_53, x1115_54, x1115_55, x1115_58, x1115_59, x1115_60, x1115_61, x1115_62, x1115_65, x1115_66, x1115_67, x1115_68, x1115_70, x.k244, sp_isMember x.k244 m2 m3, if_pos q, Option.bind_some, Option.toList_some, Option.toList_none, List.singleton_append, List.nil_append]
      simp [x1115_0, x1115_1, x1115_2, x1115_5, x1115_8, x1115_9, x1115_10, x1115_11_0, x1115_11_1, x1115_11_2, x1115_11_3, x1115_40, x1115_41, x1115_44, x1115_45, x1115_46, x1115_47, x1115_48, x1115_51, x1115_52, x1115_53, x1115_54, x1115_55, x1115_58, x1115_59, x1115_60, x1115_61, x1115_62, x1115_65, x1115_66, x1115_67, x1115_68, x1115_70]
  · have e1 : inb (nI m) 10 = true := inb_nI (by omega) (by omega)
    have e2 : ix (nI m) = m := ix_nI (by omega)
    have k1 := x.mk m (by omega)
    have a1 := x.mem m (by omega)
    rcases out_cases a2 3 (by decide) with q2 | ⟨n, rfl, hn, q2⟩
    · have q3 : a2.toInt < 0 ∨ 3 < a2.toInt := by
        rcases q2 with q | q
        · rw [Int32.lt_iff_toInt_lt] at q; exact Or.inl q
        · rw [Int32.lt_iff_toInt_lt] at q; exact Or.inr q
      refine pr_same (v := -2) w ?_ ?_
      · simp only [x1007_0, x1007_1, x1007_4, x1007_5, x1007_8, x1007_11, x1007_12, x1007_13, x1007_14, x1007_17, x1007_20, x1007_21, x1007_22, x1007_23, x1007_24_0, x1007_24_1, x1007_24_2, x1007_24_3, x1007_56, x1007_57, x1007_60, x1007_61, x1007_62, x1007_65, x1007_66, x1007_67, x1007_70, x1007_71, x1007_72, x1007_75, x1007_76, x1007_78, x.k4, x.a4_0, x.k5, sp_lacksMember x.k5, m1, if_neg q, Option.bind_some, Option.toList_some, Option.toList_none, List.singleton_append, List.nil_append]
        simp [x1007_0, x1007_1, x1007_4, x1007_5, x1007_8, x1007_11, x1007_12, x1007_13, x1007_14, x1007_17, x1007_20, x1007_21, x1007_22, x1007_23, x1007_24_0, x1007_24_1, x1007_24_2, x1007_24_3, x1007_56, x1007_57, x1007_60, x1007_61, x1007_62, x1007_65, x1007_66, x1007_67, x1007_70, x1007_71, x1007_72, x1007_75, x1007_76, x1007_78, x1007_24_d q3, x.k4, x.a4_0, x.k5, x.a5_0, x.k6, x.l6, e1, e2, a1, k1]
      · simp only [x1115_0, x1115_1, x1115_2, x1115_5, x1115_8, x1115_9, x1115_10, x1115_11_0, x1115_11_1, x1115_11_2, x1115_11_3, x1115_40, x1115_41, x1115_44, x1115_45, x1115_46, x1115_47, x1115_48, x1115_51, x1115_52, x1115_53, x1115_54, x1115_55, x1115_58, x1115_59, x1115_60, x1115_61, x1115_62, x1115_65, x1115_66, x1115_67, x1115_68, x1115_70, x.k244, sp_isMember x.k244 m2 m3, if_neg q, Option.bind_some, Option.toList_some, Option.toList_none, List.singleton_append, List.nil_append]
        simp [x1115_0, x1115_1, x1115_2, x1115_5, x1115_8, x1115_9, x1115_10, x1115_11_0, x1115_11_1, x1115_11_2, x1115_11_3, x1115_40, x1115_41, x1115_44, x1115_45, x1115_46, x1115_47, x1115_48, x1115_51, x1115_52, x1115_53, x1115_54, x1115_55, x1115_58, x1115_59, x1115_60, x1115_61, x1115_62, x1115_65, x1115_66, x1115_67, x1115_68, x1115_70, x1115_11_d q3]
    · match n, hn with
      | 0, _ =>
        refine pr_same (v := hp_i h 245 m) w ?_ ?_
        · simp only [x1007_0, x1007_1, x1007_4, x1007_5, x1007_8, x1007_11, x1007_12, x1007_13, x1007_14, x1007_17, x1007_20, x1007_21, x1007_22, x1007_23, x1007_24_0, x1007_24_1, x1007_24_2, x1007_24_3, x1007_56, x1007_57, x1007_60, x1007_61, x1007_62, x1007_65, x1007_66, x1007_67, x1007_70, x1007_71, x1007_72, x1007_75, x1007_76, x1007_78, x.k4, x.a4_0, x.k5, sp_lacksMember x.k5, m1, if_neg q, Option.bind_some, Option.toList_some, Option.toList_none, List.singleton_append, List.nil_append, show nI 0 = 0 from rfl]
          simp [x1007_0, x1007_1, x1007_4, x1007_5, x1007_8, x1007_11, x1007_12, x1007_13, x1007_14, x1007_17, x1007_20, x1007_21, x1007_22, x1007_23, x1007_24_0, x1007_24_1, x1007_24_2, x1007_24_3, x1007_56, x1007_57, x1007_60, x1007_61, x1007_62, x1007_65, x1007_66, x1007_67, x1007_70, x1007_71, x1007_72, x1007_75, x1007_76, x1007_78, x.k4, x.a4_0, x.k5, x.a5_0, x.k6, x.l6, e1, e2, a1, k1, w.fi _ _ _ _ (CMR.wanted (i := m) (by omega))]
        · simp only [x1115_0, x1115_1, x1115_2, x1115_5, x1115_8, x1115_9, x1115_10, x1115_11_0, x1115_11_1, x1115_11_2, x1115_11_3, x1115_40, x1115_41, x1115_44, x1115_45, x1115_46, x1115_47, x1115_48, x1115_51, x1115_52, x1115_53, x1115_54, x1115_55, x1115_58, x1115_59, x1115_60, x1115_61, x1115_62, x1115_65, x1115_66, x1115_67, x1115_68, x1115_70, x.k244, sp_isMember x.k244 m2 m3, if_neg q, Option.bind_some, Option.toList_some, Option.toList_none, List.singleton_append, List.nil_append, show nI 0 = 0 from rfl]
          simp [x1115_0, x1115_1, x1115_2, x1115_5, x1115_8, x1115_9, x1115_10, x1115_11_0, x1115_11_1, x1115_11_2, x1115_11_3, x1115_40, x1115_41, x1115_44, x1115_45, x1115_46, x1115_47, x1115_48, x1115_51, x1115_52, x1115_53, x1115_54, x1115_55, x1115_58, x1115_59, x1115_60, x1115_61, x1115_62, x1115_65, x1115_66, x1115_67, x1115_68, x1115_70, x.k244, x.a244_1, x.k245, x.l245, e1, e2]
      | 1, _ =>
        refine pr_same (v := hp_i h 246 m) w ?_ ?_
        · simp only [x1007_0, x1007_1, x1007_4, x1007_5, x1007_8, x1007_11, x1007_12, x1007_13, x1007_14, x1007_17, x1007_20, x1007_21, x1007_22, x1007_23, x1007_24_0, x1007_24_1, x1007_24_2, x1007_24_3, x1007_56, x1007_57, x1007_60, x1007_61, x1007_62, x1007_65, x1007_66, x1007_67, x1007_70, x1007_71, x1007_72, x1007_75, x1007_76, x1007_78, x.k4, x.a4_0, x.k5, sp_lacksMember x.k5, m1, if_neg q, Option.bind_some, Option.toList_some, Option.toList_none, List.singleton_append, List.nil_append, show nI 1 = 1 from rfl]
          simp [x1007_0, x1007_1, x1007_4, x1007_5, x1007_8, x1007_11, x1007_12, x1007_13, x1007_14, x1007_17, x1007_20, x1007_21, x1007_22, x1007_23, x1007_24_0, x1007_24_1, x1007_24_2, x1007_24_3, x1007_56, x1007_57, x1007_60, x1007_61, x1007_62, x1007_65, x1007_66, x1007_67, x1007_70, x1007_71, x1007_72, x1007_75, x1007_76, x1007_78, x.k4, x.a4_0, x.k5, x.a5_0, x.k6, x.l6, e1, e2, a1, k1, w.fi _ _ _ _ (CMR.acts (i := m) (by omega))]
        · simp only [x1115_0, x1115_1, x1115_2, x1115_5, x1115_8, x1115_9, x1115_10, x1115_11_0, x1115_11_1, x1115_11_2, x1115_11_3, x1115_40, x1115_41, x1115_44, x1115_45, x1115_46, x1115_47, x1115_48, x1115_51, x1115_52, x1115_53, x1115_54, x1115_55, x1115_58, x1115_59, x1115_60, x1115_61, x1115_62, x1115_65, x1115_66, x1115_67, x1115_68, x1115_70, x.k244, sp_isMember x.k244 m2 m3, if_neg q, Option.bind_some, Option.toList_some, Option.toList_none, List.singleton_append, List.nil_append, show nI 1 = 1 from rfl]
          simp [x1115_0, x1115_1, x1115_2, x1115_5, x1115_8, x1115_9, x1115_10, x1115_11_0, x1115_11_1, x1115_11_2, x1115_11_3, x1115_40, x1115_41, x1115_44, x1115_45, x1115_46, x1115_47, x1115_48, x1115_51, x1115_52, x1115_53, x1115_54, x1115_55, x1115_58, x1115_59, x1115_60, x1115_61, x1115_62, x1115_65, x1115_66, x1115_67, x1115_68, x1115_70, x.k244, x.a244_2, x.k246, x.l246, e1, e2]
      | 2, _ =>
        refine pr_same (v := hp_i h 248 m) w ?_ ?_
        · simp only [x1007_0, x1007_1, x1007_4, x1007_5, x1007_8, x1007_11, x1007_12, x1007_13, x1007_14, x1007_17, x1007_20, x1007_21, x1007_22, x1007_23, x1007_24_0, x1007_24_1, x1007_24_2, x1007_24_3, x1007_56, x1007_57, x1007_60, x1007_61, x1007_62, x1007_65, x1007_66, x1007_67, x1007_70, x1007_71, x1007_72, x1007_75, x1007_76, x1007_78, x.k4, x.a4_0, x.k5, sp_lacksMember x.k5, m1, if_neg q, Option.bind_some, Option.toList_some, Option.toList_none, List.singleton_append, List.nil_append, show nI 2 = 2 from rfl]
          simp [x1007_0, x1007_1, x1007_4, x1007_5, x1007_8, x1007_11, x1007_12, x1007_13, x1007_14, x1007_17, x1007_20, x1007_21, x1007_22, x1007_23, x1007_24_0, x1007_24_1, x1007_24_2, x1007_24_3, x1007_56, x1007_57, x1007_60, x1007_61, x1007_62, x1007_65, x1007_66, x1007_67, x1007_70, x1007_71, x1007_72, x1007_75, x1007_76, x1007_78, x.k4, x.a4_0, x.k5, x.a5_0, x.k6, x.l6, e1, e2, a1, k1, w.fi _ _ _ _ (CMR.handlers (i := m) (by omega))]
        · simp only [x1115_0, x1115_1, x1115_2, x1115_5, x1115_8, x1115_9, x1115_10, x1115_11_0, x1115_11_1, x1115_11_2, x1115_11_3, x1115_40, x1115_41, x1115_44, x1115_45, x1115_46, x1115_47, x1115_48, x1115_51, x1115_52, x1115_53, x1115_54, x1115_55, x1115_58, x1115_59, x1115_60, x1115_61, x1115_62, x1115_65, x1115_66, x1115_67, x1115_68, x1115_70, x.k244, sp_isMember x.k244 m2 m3, if_neg q, Option.bind_some, Option.toList_some, Option.toList_none, List.singleton_append, List.nil_append, show nI 2 = 2 from rfl]
          simp [x1115_0, x1115_1, x1115_2, x1115_5, x1115_8, x1115_9, x1115_10, x1115_11_0, x1115_11_1, x1115_11_2, x1115_11_3, x1115_40, x1115_41, x1115_44, x1115_45, x1115_46, x1115_47, x1115_48, x1115_51, x1115_52, x1115_53, x1115_54, x1115_55, x1115_58, x1115_59, x1115_60, x1115_61, x1115_62, x1115_65, x1115_66, x1115_67, x1115_68, x1115_70, x.k244, x.a244_4, x.k248, x.l248, e1, e2]
      | 3, _ =>
        refine pr_same (v := hp_i h 250 m) w ?_ ?_
        · simp only [x1007_0, x1007_1, x1007_4, x1007_5, x1007_8, x1007_11, x1007_12, x1007_13, x1007_14, x1007_17, x1007_20, x1007_21, x1007_22, x1007_23, x1007_24_0, x1007_24_1, x1007_24_2, x1007_24_3, x1007_56, x1007_57, x1007_60, x1007_61, x1007_62, x1007_65, x1007_66, x1007_67, x1007_70, x1007_71, x1007_72, x1007_75, x1007_76, x1007_78, x.k4, x.a4_0, x.k5, sp_lacksMember x.k5, m1, if_neg q, Option.bind_some, Option.toList_some, Option.toList_none, List.singleton_append, List.nil_append, show nI 3 = 3 from rfl]
          simp [x1007_0, x1007_1, x1007_4, x1007_5, x1007_8, x1007_11, x1007_12, x1007_13, x1007_14, x1007_17, x1007_20, x1007_21, x1007_22, x1007_23, x1007_24_0, x1007_24_1, x1007_24_2, x1007_24_3, x1007_56, x1007_57, x1007_60, x1007_61, x1007_62, x1007_65, x1007_66, x1007_67, x1007_70, x1007_71, x1007_72, x1007_75, x1007_76, x1007_78, x.k4, x.a4_0, x.k5, x.a5_0, x.k6, x.l6, e1, e2, a1, k1, w.fi _ _ _ _ (CMR.begun (i := m) (by omega))]
        · simp only [x1115_0, x1115_1, x1115_2, x1115_5, x1115_8, x1115_9, x1115_10, x1115_11_0, x1115_11_1, x1115_11_2, x1115_11_3, x1115_40, x1115_41, x1115_44, x1115_45, x1115_46, x1115_47, x1115_48, x1115_51, x1115_52, x1115_53, x1115_54, x1115_55, x1115_58, x1115_59, x1115_60, x1115_61, x1115_62, x1115_65, x1115_66, x1115_67, x1115_68, x1115_70, x.k244, sp_isMember x.k244 m2 m3, if_neg q, Option.bind_some, Option.toList_some, Option.toList_none, List.singleton_append, List.nil_append, show nI 3 = 3 from rfl]
          simp [x1115_0, x1115_1, x1115_2, x1115_5, x1115_8, x1115_9, x1115_10, x1115_11_0, x1115_11_1, x1115_11_2, x1115_11_3, x1115_40, x1115_41, x1115_44, x1115_45, x1115_46, x1115_47, x1115_48, x1115_51, x1115_52, x1115_53, x1115_54, x1115_55, x1115_58, x1115_59, x1115_60, x1115_61, x1115_62, x1115_65, x1115_66, x1115_67, x1115_68, x1115_70, x.k244, x.a244_6, x.k250, x.l250, e1, e2]
/-- without frames a member's acts, its handlers, its code may change -/
theorem RGc.acts {s : SM} (g : RGc s) (hz : s 244 29 = 0) {m A : Nat} (hA : nI A = s 246 m ∨ A ≤ ix (s 246 m)) (hA2 : A ≤ 40) : RGc (hp_u s 246 m (nI A)) := by
  obtain ⟨g1, g2, g3, g4, g5, g6, g7, g8, g9, g10, g11, g12, g13, g14, g15, g16, g17⟩ := g
  have z0 : ix (s 244 29) = 0 := by rw [hz]; rfl
  unfold RGc
  simp only [hp_u, Nat.reduceEqDiff, false_and, if_false, true_and]
  refine ⟨g1, fun i hi => ?_, fun i j hi hj => ?_, g4, g5, g6, g7, g8, g9, g10, g11, g12, g13, fun f hf => absurd hf (by omega), fun f _ hf => absurd hf (by omega), g16, g17⟩
  · by_cases e : i = m
    · rw [if_pos e]; exact ⟨(g2 i hi).1, ⟨A, rfl, hA2⟩, (g2 i hi).2.2⟩
    · rw [if_neg e]; exact g2 i hi
  · by_cases e : i = m
    · rw [if_pos e, ix_nI (by omega)] at hj
      refine g3 i j hi ?_
      rw [e]
      rcases hA with q | q
      · rw [← q, ix_nI (by omega)]; exact hj
      · omega
    · rw [if_neg e] at hj; exact g3 i j hi hj
theorem pr_cut (xs : Nat → Int32) (L : Nat) : PR_cut L (RL xs L) := by
  intro h a1 w
  have x := w.fx
  obtain ⟨M, m1, m2, m3⟩ := w.memb
  obtain ⟨F, f1, f2, f3, f4⟩ := w.walk
  rcases mem_cases a1 M m3 with q | ⟨m, rfl, hm, q⟩
  · refine pr_same (v := -1) w ?_ ?_
    · simp only [x1004_0, x1004_1, x1004_4, x1004_5, x1004_8, x1004_11, x1004_12, x1004_13, x1004_14, x1004_17, x1004_20, x1004_21, x1004_22, x1004_23, x1004_24, x1004_27, x1004_30, x1004_33, x1004_34, x1004_37, x1004_40, x1004_42, x1004_43, x1004_44, x1004_45, x1004_48, x1004_49, x1004_50, x1004_53, x1004_54, x1004_57, x.k4, x.a4_0, x.k5, sp_lacksMember x.k5, m1, if_pos q, Option.bind_some, Option.toList_some, Option.toList_none, List.singleton_append, List.nil_append]
      simp [x1004_0, x1004_1, x1004_4, x1004_5, x1004_8, x1004_11, x1004_12, x1004_13, x1004_14, x1004_17, x1004_20, x1004_21, x1004_22, x1004_23, x1004_24, x1004_27, x1004_30, x1004_33, x1004_34, x1004_37, x1004_40, x1004_42, x1004_43, x1004_44, x1004_45, x1004_48, x1004_49, x1004_50, x1004_53, x1004_54, x1004_57]
    · simp only [x1108_0, x1108_1, x1108_2, x1108_5, x1108_8, x1108_9, x1108_10, x1108_11, x1108_14, x1108_17, x1108_18, x1108_21, x1108_22, x1108_23, x1108_26, x1108_28, x1108_29, x1108_30, x1108_33, x1108_34, x1108_35, x1108_36, x1108_37, x1108_38, x1108_39, x1108_40, x1108_43, x1108_44, x1108_45, x.k244, sp_isMember x.k244 m2 m3, if_pos q, Option.bind_some, Option.toList_some, Option.toList_none, List.singleton_append, List.nil_append]
      simp [x1108_0, x1108_1, x1108_2, x1108_5, x1108_8, x1108_9, x1108_10, x1108_11, x1108_14, x1108_17, x1108_18, x1108_21, x1108_22, x1108_23, x1108_26, x1108_28, x1108_29, x1108_30, x1108_33, x1108_34, x1108_35, x1108_36, x1108_37, x1108_38, x1108_39, x1108_40, x1108_43, x1108_44, x1108_45]
  · have e1 : inb (nI m) 10 = true := inb_nI (by omega) (by omega)
    have e2 : ix (nI m) = m := ix_nI (by omega)
    have k1 := x.mk m (by omega)
    have a1 := x.mem m (by omega)
    obtain ⟨W, A, H, h1, h2, h3, h4, h5, h6⟩ := w.mem (m := m) (by omega)
    have h3c : hp_i h (16 + 9 * m) 2 = nI A := (w.fi _ _ _ _ (CMR.acts (i := m) (by omega))).trans h3
    by_cases hF : F = 0
    · have f5 : hp_i h 244 8 = 0 := by rw [f4, if_pos hF]
      by_cases hA : A = 0
      · subst hA
        refine pr_same (v := -3) w ?_ ?_
        · simp only [x1004_0, x1004_1, x1004_4, x1004_5, x1004_8, x1004_11, x1004_12, x1004_13, x1004_14, x1004_17, x1004_20, x1004_21, x1004_22, x1004_23, x1004_24, x1004_27, x1004_30, x1004_33, x1004_34, x1004_37, x1004_40, x1004_42, x1004_43, x1004_44, x1004_45, x1004_48, x1004_49, x1004_50, x1004_53, x1004_54, x1004_57, x.k4, x.a4_0, x.k5, sp_lacksMember x.k5, m1, if_neg q, Option.bind_some, Option.toList_some, Option.toList_none, List.singleton_append, List.nil_append]
          simp [x1004_0, x1004_1, x1004_4, x1004_5, x1004_8, x1004_11, x1004_12, x1004_13, x1004_14, x1004_17, x1004_20, x1004_21, x1004_22, x1004_23, x1004_24, x1004_27, x1004_30, x1004_33, x1004_34, x1004_37, x1004_40, x1004_42, x1004_43, x1004_44, x1004_45, x1004_48, x1004_49, x1004_50, x1004_53, x1004_54, x1004_57, x.k4, x.a4_0, x.k5, x.a5_0, x.k6, x.l6, e1, e2, a1, k1, walked0 x.k5 f1 f3, hF, h3c, show nI 0 = 0 from rfl]
        · simp only [x1108_0, x1108_1, x1108_2, x1108_5, x1108_8, x1108_9, x1108_10, x1108_11, x1108_14, x1108_17, x1108_18, x1108_21, x1108_22, x1108_23, x1108_26, x1108_28, x1108_29, x1108_30, x1108_33, x1108_34, x1108_35, x1108_36, x1108_37, x1108_38, x1108_39, x1108_40, x1108_43, x1108_44, x1108_45, x.k244, sp_isMember x.k244 m2 m3, if_neg q, Option.bind_some, Option.toList_some, Option.toList_none, List.singleton_append, List.nil_append]
          simp [x1108_0, x1108_1, x1108_2, x1108_5, x1108_8, x1108_9, x1108_10, x1108_11, x1108_14, x1108_17, x1108_18, x1108_21, x1108_22, x1108_23, x1108_26, x1108_28, x1108_29, x1108_30, x1108_33, x1108_34, x1108_35, x1108_36, x1108_37, x1108_38, x1108_39, x1108_40, x1108_43, x1108_44, x1108_45, x.k244, f5, x.a244_2, x.k246, x.l246, e1, e2, h3, show nI 0 = 0 from rfl]
      · have hA1 : ¬ nI A = 0 := nI_ne0 (by omega) (by omega)
        have hA2 : nI A - 1 = nI (A - 1) := nI_sub (b := 1) (by omega)
        obtain ⟨ca, ra, hs, sp, c⟩ := w.cr
        refine pr_end (v := nI (A - 1)) (h := hp_wi h (16 + 9 * m) 2 (nI (A - 1))) (σ := hp_u (hp_i h) 246 m (nI (A - 1))) w ?_ (c.w (CMR.acts (i := m) (by omega)) (by unfold depS; omega)) ?_ ?_ ?_
        · simp only [x1004_0, x1004_1, x1004_4, x1004_5, x1004_8, x1004_11, x1004_12, x1004_13, x1004_14, x1004_17, x1004_20, x1004_21, x1004_22, x1004_23, x1004_24, x1004_27, x1004_30, x1004_33, x1004_34, x1004_37, x1004_40, x1004_42, x1004_43, x1004_44, x1004_45, x1004_48, x1004_49, x1004_50, x1004_53, x1004_54, x1004_57, x.k4, x.a4_0, x.k5, sp_lacksMember x.k5, m1, if_neg q, Option.bind_some, Option.toList_some, Option.toList_none, List.singleton_append, List.nil_append]
          simp [x1004_0, x1004_1, x1004_4, x1004_5, x1004_8, x1004_11, x1004_12, x1004_13, x1004_14, x1004_17, x1004_20, x1004_21, x1004_22, x1004_23, x1004_24, x1004_27, x1004_30, x1004_33, x1004_34, x1004_37, x1004_40, x1004_42, x1004_43, x1004_44, x1004_45, x1004_48, x1004_49, x1004_50, x1004_53, x1004_54, x1004_57, x.k4, x.a4_0, x.k5, x.a5_0, x.k6, x.l6, e1, e2, a1, k1, walked0 x.k5 f1 f3, hF, h3c, hA1, hA2, hp_k_wi, hp_i_wi]
        · show RGc _
          rw [mG_n (by unfold freeS; omega)]
          refine w.g.acts ?_ (Or.inr ?_) (by omega)
          · rw [mG_at (by unfold freeS; omega), f2, hF]; rfl
          · rw [mG_at (by unfold freeS; omega), h3, ix_nI (by omega)]; omega
        · exact RH_u w.2.2.2.2.2.1 (by unfold depH; omega)
        · intro k x
          have i1 : pX 1102 0 [.ref 244, .int (nI m)] [] (mset k (hp_i h)) = _ := sp_isMember (M := M) x.k244 m2 m3
          simp only [x1108_0, x1108_1, x1108_2, x1108_5, x1108_8, x1108_9, x1108_10, x1108_11, x1108_14, x1108_17, x1108_18, x1108_21, x1108_22, x1108_23, x1108_26, x1108_28, x1108_29, x1108_30, x1108_33, x1108_34, x1108_35, x1108_36, x1108_37, x1108_38, x1108_39, x1108_40, x1108_43, x1108_44, x1108_45, x.ms.k244, i1, if_neg q, Option.bind_some, Option.toList_some, Option.toList_none, List.singleton_append, List.nil_append]
          simp [x1108_0, x1108_1, x1108_2, x1108_5, x1108_8, x1108_9, x1108_10, x1108_11, x1108_14, x1108_17, x1108_18, x1108_21, x1108_22, x1108_23, x1108_26, x1108_28, x1108_29, x1108_30, x1108_33, x1108_34, x1108_35, x1108_36, x1108_37, x1108_38, x1108_39, x1108_40, x1108_43, x1108_44, x1108_45, hp_k_ms, hp_a_ms, hp_l_ms, hp_i_ms, hp_k_wi, hp_a_wi, hp_l_wi, hp_i_wi, ms_w, hu_at, x.k244, f5, x.a244_2, x.k246, x.l246, e1, e2, h3, hA1, hA2]
    · have f5 : hp_i h 244 8 = 1 := by rw [f4, if_neg hF]
      refine pr_same (v := -3) w ?_ ?_
      · simp only [x1004_0, x1004_1, x1004_4, x1004_5, x1004_8, x1004_11, x1004_12, x1004_13, x1004_14, x1004_17, x1004_20, x1004_21, x1004_22, x1004_23, x1004_24, x1004_27, x1004_30, x1004_33, x1004_34, x1004_37, x1004_40, x1004_42, x1004_43, x1004_44, x1004_45, x1004_48, x1004_49, x1004_50, x1004_53, x1004_54, x1004_57, x.k4, x.a4_0, x.k5, sp_lacksMember x.k5, m1, if_neg q, Option.bind_some, Option.toList_some, Option.toList_none, List.singleton_append, List.nil_append]
        simp [x1004_0, x1004_1, x1004_4, x1004_5, x1004_8, x1004_11, x1004_12, x1004_13, x1004_14, x1004_17, x1004_20, x1004_21, x1004_22, x1004_23, x1004_24, x1004_27, x1004_30, x1004_33, x1004_34, x1004_37, x1004_40, x1004_42, x1004_43, x1004_44, x1004_45, x1004_48, x1004_49, x1004_50, x1004_53, x1004_54, x1004_57, x.k4, x.a4_0, x.k5, x.a5_0, x.k6, x.l6, e1, e2, a1, k1, walked0 x.k5 f1 f3, hF]
      · simp only [x1108_0, x1108_1, x1108_2, x1108_5, x1108_8, x1108_9, x1108_10, x1108_11, x1108_14, x1108_17, x1108_18, x1108_21, x1108_22, x1108_23, x1108_26, x1108_28, x1108_29, x1108_30, x1108_33, x1108_34, x1108_35, x1108_36, x1108_37, x1108_38, x1108_39, x1108_40, x1108_43, x1108_44, x1108_45, x.k244, sp_isMember x.k244 m2 m3, if_neg q, Option.bind_some, Option.toList_some, Option.toList_none, List.singleton_append, List.nil_append]
        simp [x1108_0, x1108_1, x1108_2, x1108_5, x1108_8, x1108_9, x1108_10, x1108_11, x1108_14, x1108_17, x1108_18, x1108_21, x1108_22, x1108_23, x1108_26, x1108_28, x1108_29, x1108_30, x1108_33, x1108_34, x1108_35, x1108_36, x1108_37, x1108_38, x1108_39, x1108_40, x1108_43, x1108_44, x1108_45, x.k244, f5]
