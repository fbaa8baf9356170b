/-! THE ENGINE, 6: weigh, cell, row -/
section
variable {L : Nat} {h0 h : HP} {σ : SM} {ca ra : Nat → Nat} {hs : Nat → List Nat} {sp : List Nat} {f a b c : Nat}
theorem op_weigh (w : CR L h0 h σ ca ra hs sp) (g : GB σ) (gp : GP σ) (hf : f < ix (σ 244 29)) (ha : a < 8) (hb : b < 8) (m0 : σ 244 45 = nI (8 * f)) (m1 : σ 244 46 = nI a) (m2 : σ 244 47 = nI b) :
    LKS L h0 h σ 333 [.ref 5, .ref (109 + 11 * f + a), .ref (109 + 11 * f + b), .retAddr 0, .retAddr 0, .retAddr 0] 1146 [.ref 244, .retAddr 0, .retAddr 0, .retAddr 0, .retAddr 0] := by
  have f12 : f < 12 := Nat.lt_of_lt_of_le hf w.hF
  have ka := w.rk f12 ha
  have kb := w.rk f12 hb
  have tb := w.reg hf hb
  have n6 := g.cr
  by_cases q1 : agV (σ 269 (8 * f + b)) 2 = 0
  · rw [agV_2.mp q1] at tb
    obtain ⟨n, s, v1, v2, v3, v4, v5, v6, v7, v8⟩ := tb.iscel
    obtain ⟨y1, y2, y3, y4, y5, y6, y7, y8⟩ := w.cel v2
    have ne : ¬ ca n = 0 := by omega
    have e1 : inb (nI n) 6000 = true := inb_nI (by omega) (by omega)
    have e2 : ix (nI n) = n := ix_nI (by omega)
    rw [v3] at y5
    have key : ∀ (B : Nat) (W : Int32), B ≤ 3 → (if nI s = 3 then (3 : Int32) else if nI s < 1 then 1 else 2) = nI B → weighV (nI s) (σ 258 n) = W →
        (∀ k, FX L k → pX 1146 0 [.ref 244, .retAddr 0, .retAddr 0, .retAddr 0, .retAddr 0] [] (mset k σ) = pX 1146 57 [.ref 244, .int 0, .int (nI n), .int (nI B), .int (nI 0)] [] (mset k σ)) →
        (∀ k σ', FX L k → σ' 244 45 = nI (8 * f) → σ' 244 46 = nI a → σ' 257 n = nI s → σ' 258 n = σ 258 n → pX 1146 96 [.ref 244, .int 0, .int (nI n), .int (nI B), .int (nI B)] [] (mset k σ') = some (some (.int 0), mset k (rgS σ' (8 * f + a) 1 W))) →
        LKS L h0 h σ 333 [.ref 5, .ref (109 + 11 * f + a), .ref (109 + 11 * f + b), .retAddr 0, .retAddr 0, .retAddr 0] 1146 [.ref 244, .retAddr 0, .retAddr 0, .retAddr 0, .retAddr 0] := by
      intro B W hB hBs hW mm1 mm2
      have cc : pX 333 0 [.ref 5, .ref (109 + 11 * f + a), .ref (109 + 11 * f + b), .retAddr 0, .retAddr 0, .retAddr 0] [] h = pX 333 23 [.ref 5, .ref (109 + 11 * f + a), .ref (109 + 11 * f + b), .ref (ca n), .int (nI B), .int (nI 0)] [] h := by
        simp only [x333_0, x333_1, x333_4, x333_5, x333_6, x333_9, x333_10, x333_13, x333_14, x333_15, x333_18, x333_20, x333_21, x333_25, x333_27, x333_30, x333_31, x333_34, x333_35, x333_38, x333_41, x333_43, x333_44, x333_47, x333_50, x333_51, x333_52, x333_55, x333_58, x333_59, kb, v7, ne, if_false, y3, sp_bodies y3, y5, hBs, Option.bind_some, Option.toList_some, Option.toList_none, List.singleton_append, List.nil_append]
        rfl
      rcases weigh_loop (sA := 109 + 11 * f + a) (sB := 109 + 11 * f + b) (cn := ca n) (lz := 0) (nz := nI n) hB B 0 h σ (by omega) w g gp with ⟨h', σ', r1, r2, r3, r4⟩ | ⟨h', σ', r1, r2, r3, r4, r5⟩
      · exact LKS.stop r3 r4 (cc.trans r1) (fun k x => (mm1 k x).trans (r2 k x))
      · have s29 : σ' 244 29 = σ 244 29 := r5 _ _ (by omega) (by omega)
        have s17 : σ' 244 17 = σ 244 17 := r5 _ _ (by omega) (by omega)
        obtain ⟨u1, u2, u3, u4, u5, u6, u7, u8⟩ := r3.cel (k := n) (by rw [s17]; exact v2)
        have ka' := r3.rk f12 ha
        rw [r5 257 n (by omega) (by omega), v3] at u5
        rw [r5 258 n (by omega) (by omega)] at u7
        refine LKS.done (r3.num (V := W) (f := f) (r := a) (by rw [s29]; exact hf) ha) (r4.reg f12 ha) (cc.trans (r1.trans ?_)) (fun k x => (mm1 k x).trans ((r2 k x).trans (mm2 k σ' x ?_ ?_ ?_ ?_)))
        · simp [x333_50, x333_51, x333_52, x333_55, x333_58, x333_59, u3, sp_weight u3, u5, u7, hW, ka', sp_number ka']
        · rw [r5 _ _ (by omega) (by omega)]; exact m0
        · rw [r5 _ _ (by omega) (by omega)]; exact m1
        · rw [r5 _ _ (by omega) (by omega)]; exact v3
        · exact r5 _ _ (by omega) (by omega)
    have n0 : nI 0 = 0 := rfl
    have n1 : nI 1 = 1 := rfl
    have n2 : nI 2 = 2 := rfl
    have n3 : nI 3 = 3 := rfl
    match s, v4, v3, key with
    | 0, _, v3, key =>
      refine key 1 (σ 258 n + 1) (by omega) (by decide) (by unfold weighV; rfl) (fun k x => ?_) (fun k σ' x z0 z1 z2 z3 => ?_)
      · simp only [x1146_0, x1146_1, x1146_2, x1146_5, x1146_6, x1146_9, x1146_10, x1146_11, x1146_14, x1146_15, x1146_16, x1146_17, x1146_18, x1146_21, x1146_24, x1146_25, x1146_26, x1146_29, x1146_30, x1146_31, x1146_34, x1146_35, x1146_38, x1146_39, x1146_42, x1146_43, x1146_44, x1146_45, x1146_48, x1146_49, x1146_52, x1146_53, x1146_54, x1146_55, x1146_59, x1146_60, x1146_63, x1146_64, x1146_65, x1146_68, x1146_69, x1146_70, x1146_71, x1146_74, x1146_77, x1146_79, x1146_80, x1146_81, x1146_84, x1146_85, x1146_86, x1146_87, x1146_88, x1146_89, x1146_90, x1146_93, x1146_96, x1146_97, x1146_100, x1146_101, x1146_102, x1146_103, x1146_104, x1146_106, x1146_107, x1146_108, x1146_109, x1146_112, x1146_113, x1146_114, x1146_117, x1146_119, x1146_122, x1146_123, x1146_126, x1146_127, x1146_128, x1146_129, x1146_132, x1146_133, x1146_135, x1146_136, x1146_138, x1146_139, x1146_142, x1146_143, x1146_145, x1146_146, x1146_149, x1146_150, hp_k_ms, hp_a_ms, hp_l_ms, ms_r (show 244 ≤ 244 ∧ 244 < 276 by omega), ms_r (show 244 ≤ 257 ∧ 257 < 276 by omega), x.k244, m2, sp_against x m0 f12 hb, q1, sp_value x m0 f12 hb, v1, x.a244_18, x.k257, x.l257, e1, e2, v3, Option.bind_some, Option.toList_some, Option.toList_none, List.singleton_append, List.nil_append, Int32.le_refl, if_true, n0, n1]
      · simp [x1146_0, x1146_1, x1146_2, x1146_5, x1146_6, x1146_9, x1146_10, x1146_11, x1146_14, x1146_15, x1146_16, x1146_17, x1146_18, x1146_21, x1146_24, x1146_25, x1146_26, x1146_29, x1146_30, x1146_31, x1146_34, x1146_35, x1146_38, x1146_39, x1146_42, x1146_43, x1146_44, x1146_45, x1146_48, x1146_49, x1146_52, x1146_53, x1146_54, x1146_55, x1146_57, x1146_59, x1146_60, x1146_63, x1146_64, x1146_65, x1146_68, x1146_69, x1146_70, x1146_71, x1146_74, x1146_77, x1146_79, x1146_80, x1146_81, x1146_84, x1146_85, x1146_86, x1146_87, x1146_88, x1146_89, x1146_90, x1146_96, x1146_97, x1146_100, x1146_101, x1146_102, x1146_103, x1146_104, x1146_106, x1146_107, x1146_108, x1146_109, x1146_112, x1146_113, x1146_114, x1146_117, x1146_119, x1146_122, x1146_123, x1146_126, x1146_127, x1146_128, x1146_129, x1146_132, x1146_133, x1146_135, x1146_136, x1146_138, x1146_139, x1146_142, x1146_143, x1146_145, x1146_146, x1146_149, x1146_150, hp_k_ms, hp_a_ms, hp_l_ms, hp_i_ms, x.k244, x.a244_18, x.k257, x.l257, x.a244_19, x.k258, x.l258, e1, e2, z2, z3, n0, sp_makes x z0 z1 f12 ha]
    | 1, _, v3, key =>
      refine key 2 (2 * (σ 258 n + 1)) (by omega) (by decide) (by unfold weighV; rfl) (fun k x => ?_) (fun k σ' x z0 z1 z2 z3 => ?_)
      · simp only [x1146_0, x1146_1, x1146_2, x1146_5, x1146_6, x1146_9, x1146_10, x1146_11, x1146_14, x1146_15, x1146_16, x1146_17, x1146_18, x1146_21, x1146_24, x1146_25, x1146_26, x1146_29, x1146_30, x1146_31, x1146_34, x1146_35, x1146_38, x1146_39, x1146_42, x1146_43, x1146_44, x1146_45, x1146_48, x1146_49, x1146_52, x1146_53, x1146_54, x1146_55, x1146_59, x1146_60, x1146_63, x1146_64, x1146_65, x1146_68, x1146_69, x1146_70, x1146_71, x1146_74, x1146_77, x1146_79, x1146_80, x1146_81, x1146_84, x1146_85, x1146_86, x1146_87, x1146_88, x1146_89, x1146_90, x1146_93, x1146_96, x1146_97, x1146_100, x1146_101, x1146_102, x1146_103, x1146_104, x1146_106, x1146_107, x1146_108, x1146_109, x1146_112, x1146_113, x1146_114, x1146_117, x1146_119, x1146_122, x1146_123, x1146_126, x1146_127, x1146_128, x1146_129, x1146_132, x1146_133, x1146_135, x1146_136, x1146_138, x1146_139, x1146_142, x1146_143, x1146_145, x1146_146, x1146_149, x1146_150, hp_k_ms, hp_a_ms, hp_l_ms, ms_r (show 244 ≤ 244 ∧ 244 < 276 by omega), ms_r (show 244 ≤ 257 ∧ 257 < 276 by omega), x.k244, m2, sp_against x m0 f12 hb, q1, sp_value x m0 f12 hb, v1, x.a244_18, x.k257, x.l257, e1, e2, v3, Option.bind_some, Option.toList_some, Option.toList_none, List.singleton_append, List.nil_append, Int32.le_refl, if_true, n0, n1, n2, i32_10, if_false, show ¬ (1 : Int32) = 3 by decide]
      · simp [x1146_0, x1146_1, x1146_2, x1146_5, x1146_6, x1146_9, x1146_10, x1146_11, x1146_14, x1146_15, x1146_16, x1146_17, x1146_18, x1146_21, x1146_24, x1146_25, x1146_26, x1146_29, x1146_30, x1146_31, x1146_34, x1146_35, x1146_38, x1146_39, x1146_42, x1146_43, x1146_44, x1146_45, x1146_48, x1146_49, x1146_52, x1146_53, x1146_54, x1146_55, x1146_57, x1146_59, x1146_60, x1146_63, x1146_64, x1146_65, x1146_68, x1146_69, x1146_70, x1146_71, x1146_74, x1146_77, x1146_79, x1146_80, x1146_81, x1146_84, x1146_85, x1146_86, x1146_87, x1146_88, x1146_89, x1146_90, x1146_96, x1146_97, x1146_100, x1146_101, x1146_102, x1146_103, x1146_104, x1146_106, x1146_107, x1146_108, x1146_109, x1146_112, x1146_113, x1146_114, x1146_117, x1146_119, x1146_122, x1146_123, x1146_126, x1146_127, x1146_128, x1146_129, x1146_132, x1146_133, x1146_135, x1146_136, x1146_138, x1146_139, x1146_142, x1146_143, x1146_145, x1146_146, x1146_149, x1146_150, hp_k_ms, hp_a_ms, hp_l_ms, hp_i_ms, x.k244, x.a244_18, x.k257, x.l257, x.a244_19, x.k258, x.l258, e1, e2, z2, z3, n1, sp_makes x z0 z1 f12 ha]
    | 2, _, v3, key =>
      refine key 2 (2 * (σ 258 n + 1)) (by omega) (by decide) (by unfold weighV; rfl) (fun k x => ?_) (fun k σ' x z0 z1 z2 z3 => ?_)
      · simp only [x1146_0, x1146_1, x1146_2, x1146_5, x1146_6, x1146_9, x1146_10, x1146_11, x1146_14, x1146_15, x1146_16, x1146_17, x1146_18, x1146_21, x1146_24, x1146_25, x1146_26, x1146_29, x1146_30, x1146_31, x1146_34, x1146_35, x1146_38, x1146_39, x1146_42, x1146_43, x1146_44, x1146_45, x1146_48, x1146_49, x1146_52, x1146_53, x1146_54, x1146_55, x1146_59, x1146_60, x1146_63, x1146_64, x1146_65, x1146_68, x1146_69, x1146_70, x1146_71, x1146_74, x1146_77, x1146_79, x1146_80, x1146_81, x1146_84, x1146_85, x1146_86, x1146_87, x1146_88, x1146_89, x1146_90, x1146_93, x1146_96, x1146_97, x1146_100, x1146_101, x1146_102, x1146_103, x1146_104, x1146_106, x1146_107, x1146_108, x1146_109, x1146_112, x1146_113, x1146_114, x1146_117, x1146_119, x1146_122, x1146_123, x1146_126, x1146_127, x1146_128, x1146_129, x1146_132, x1146_133, x1146_135, x1146_136, x1146_138, x1146_139, x1146_142, x1146_143, x1146_145, x1146_146, x1146_149, x1146_150, hp_k_ms, hp_a_ms, hp_l_ms, ms_r (show 244 ≤ 244 ∧ 244 < 276 by omega), ms_r (show 244 ≤ 257 ∧ 257 < 276 by omega), x.k244, m2, sp_against x m0 f12 hb, q1, sp_value x m0 f12 hb, v1, x.a244_18, x.k257, x.l257, e1, e2, v3, Option.bind_some, Option.toList_some, Option.toList_none, List.singleton_append, List.nil_append, Int32.le_refl, if_true, n0, n2, if_false, show ¬ (2 : Int32) = 3 by decide, show ¬ (2 : Int32) = 0 by decide]
      · simp [x1146_0, x1146_1, x1146_2, x1146_5, x1146_6, x1146_9, x1146_10, x1146_11, x1146_14, x1146_15, x1146_16, x1146_17, x1146_18, x1146_21, x1146_24, x1146_25, x1146_26, x1146_29, x1146_30, x1146_31, x1146_34, x1146_35, x1146_38, x1146_39, x1146_42, x1146_43, x1146_44, x1146_45, x1146_48, x1146_49, x1146_52, x1146_53, x1146_54, x1146_55, x1146_57, x1146_59, x1146_60, x1146_63, x1146_64, x1146_65, x1146_68, x1146_69, x1146_70, x1146_71, x1146_74, x1146_77, x1146_79, x1146_80, x1146_81, x1146_84, x1146_85, x1146_86, x1146_87, x1146_88, x1146_89, x1146_90, x1146_96, x1146_97, x1146_100, x1146_101, x1146_102, x1146_103, x1146_104, x1146_106, x1146_107, x1146_108, x1146_109, x1146_112, x1146_113, x1146_114, x1146_117, x1146_119, x1146_122, x1146_123, x1146_126, x1146_127, x1146_128, x1146_129, x1146_132, x1146_133, x1146_135, x1146_136, x1146_138, x1146_139, x1146_142, x1146_143, x1146_145, x1146_146, x1146_149, x1146_150, hp_k_ms, hp_a_ms, hp_l_ms, hp_i_ms, x.k244, x.a244_18, x.k257, x.l257, x.a244_19, x.k258, x.l258, e1, e2, z2, z3, n2, sp_makes x z0 z1 f12 ha]
    | 3, _, v3, key =>
      refine key 3 (2 * (σ 258 n + 1) + 7) (by omega) (by decide) (by unfold weighV; rfl) (fun k x => ?_) (fun k σ' x z0 z1 z2 z3 => ?_)
      · simp only [x1146_0, x1146_1, x1146_2, x1146_5, x1146_6, x1146_9, x1146_10, x1146_11, x1146_14, x1146_15, x1146_16, x1146_17, x1146_18, x1146_21, x1146_24, x1146_25, x1146_26, x1146_29, x1146_30, x1146_31, x1146_34, x1146_35, x1146_38, x1146_39, x1146_42, x1146_43, x1146_44, x1146_45, x1146_48, x1146_49, x1146_52, x1146_53, x1146_54, x1146_55, x1146_59, x1146_60, x1146_63, x1146_64, x1146_65, x1146_68, x1146_69, x1146_70, x1146_71, x1146_74, x1146_77, x1146_79, x1146_80, x1146_81, x1146_84, x1146_85, x1146_86, x1146_87, x1146_88, x1146_89, x1146_90, x1146_93, x1146_96, x1146_97, x1146_100, x1146_101, x1146_102, x1146_103, x1146_104, x1146_106, x1146_107, x1146_108, x1146_109, x1146_112, x1146_113, x1146_114, x1146_117, x1146_119, x1146_122, x1146_123, x1146_126, x1146_127, x1146_128, x1146_129, x1146_132, x1146_133, x1146_135, x1146_136, x1146_138, x1146_139, x1146_142, x1146_143, x1146_145, x1146_146, x1146_149, x1146_150, hp_k_ms, hp_a_ms, hp_l_ms, ms_r (show 244 ≤ 244 ∧ 244 < 276 by omega), ms_r (show 244 ≤ 257 ∧ 257 < 276 by omega), x.k244, m2, sp_against x m0 f12 hb, q1, sp_value x m0 f12 hb, v1, x.a244_18, x.k257, x.l257, e1, e2, v3, Option.bind_some, Option.toList_some, Option.toList_none, List.singleton_append, List.nil_append, Int32.le_refl, if_true, n0, n3, if_false, show ¬ (3 : Int32) = 0 by decide]
      · simp [x1146_0, x1146_1, x1146_2, x1146_5, x1146_6, x1146_9, x1146_10, x1146_11, x1146_14, x1146_15, x1146_16, x1146_17, x1146_18, x1146_21, x1146_24, x1146_25, x1146_26, x1146_29, x1146_30, x1146_31, x1146_34, x1146_35, x1146_38, x1146_39, x1146_42, x1146_43, x1146_44, x1146_45, x1146_48, x1146_49, x1146_52, x1146_53, x1146_54, x1146_55, x1146_57, x1146_59, x1146_60, x1146_63, x1146_64, x1146_65, x1146_68, x1146_69, x1146_70, x1146_71, x1146_74, x1146_77, x1146_79, x1146_80, x1146_81, x1146_84, x1146_85, x1146_86, x1146_87, x1146_88, x1146_89, x1146_90, x1146_96, x1146_97, x1146_100, x1146_101, x1146_102, x1146_103, x1146_104, x1146_106, x1146_107, x1146_108, x1146_109, x1146_112, x1146_113, x1146_114, x1146_117, x1146_119, x1146_122, x1146_123, x1146_126, x1146_127, x1146_128, x1146_129, x1146_132, x1146_133, x1146_135, x1146_136, x1146_138, x1146_139, x1146_142, x1146_143, x1146_145, x1146_146, x1146_149, x1146_150, hp_k_ms, hp_a_ms, hp_l_ms, hp_i_ms, x.k244, x.a244_18, x.k257, x.l257, x.a244_19, x.k258, x.l258, e1, e2, z2, z3, n3, sp_makes x z0 z1 f12 ha]
  · have q2 : ¬ σ 269 (8 * f + b) = 2 := fun z => q1 (agV_2.mpr z)
    refine LKS.ag _ 2 q1 w g ?_ (fun k x => ?_)
    · simp [x333_0, x333_1, x333_4, x333_5, x333_6, x333_9, x333_10, x333_13, x333_14, x333_15, x333_18, x333_20, x333_21, x333_23, x333_25, x333_27, x333_30, x333_31, x333_34, x333_35, x333_38, x333_41, x333_43, x333_44, x333_50, x333_51, x333_52, x333_55, x333_58, x333_59, kb, tb.ncel q2, w.mis kb tb q2]
    · simp [x1146_0, x1146_1, x1146_2, x1146_5, x1146_6, x1146_9, x1146_10, x1146_11, x1146_14, x1146_15, x1146_16, x1146_17, x1146_18, x1146_21, x1146_24, x1146_25, x1146_26, x1146_29, x1146_30, x1146_31, x1146_34, x1146_35, x1146_38, x1146_39, x1146_42, x1146_43, x1146_44, x1146_45, x1146_48, x1146_49, x1146_52, x1146_53, x1146_54, x1146_55, x1146_57, x1146_59, x1146_60, x1146_63, x1146_64, x1146_65, x1146_68, x1146_69, x1146_70, x1146_71, x1146_74, x1146_77, x1146_79, x1146_80, x1146_81, x1146_84, x1146_85, x1146_86, x1146_87, x1146_88, x1146_89, x1146_90, x1146_96, x1146_97, x1146_100, x1146_101, x1146_102, x1146_103, x1146_104, x1146_106, x1146_107, x1146_108, x1146_109, x1146_112, x1146_113, x1146_114, x1146_117, x1146_119, x1146_122, x1146_123, x1146_126, x1146_127, x1146_128, x1146_129, x1146_132, x1146_133, x1146_135, x1146_136, x1146_138, x1146_139, x1146_142, x1146_143, x1146_145, x1146_146, x1146_149, x1146_150, hp_k_ms, hp_i_ms, x.k244, m2, sp_against x m0 f12 hb, q1, agV_p]
/-- the heap with a new cell -/
def cellH (h : HP) (s0 : Nat) : HP := hp_wi (hp_wa (hp_wi (hp_mk (hp_mk h 1 0 4) 9 0 4) (hp_n h + 1) 0 (-5)) (hp_n h) 1 (hp_n h + 1)) (hp_n h) 0 (nI s0)
theorem cellH_n (h : HP) (s0 : Nat) : hp_n (cellH h s0) = hp_n h + 2 := by
  unfold cellH
  rw [hp_n_wi, hp_n_wa, hp_n_wi, hp_n_mk, hp_n_mk]
theorem cellH_s (h : HP) (s0 : Nat) : hp_s (cellH h s0) = hp_s h + 8 := by
  unfold cellH
  rw [hp_s_wi, hp_s_wa, hp_s_wi, hp_s_mk, hp_s_mk]
theorem cellH_k (h : HP) (s0 x : Nat) : hp_k (cellH h s0) x = if x = hp_n h + 1 then 9 else if x = hp_n h then 1 else hp_k h x := by
  unfold cellH
  rw [hp_k_wi, hp_k_wa, hp_k_wi, hp_k_mk, hp_n_mk, hp_k_mk]
theorem cellH_l (h : HP) (s0 x : Nat) : hp_l (cellH h s0) x = if x = hp_n h + 1 then 0 else if x = hp_n h then 0 else hp_l h x := by
  unfold cellH
  rw [hp_l_wi, hp_l_wa, hp_l_wi, hp_l_mk, hp_n_mk, hp_l_mk]
theorem cellH_i (h : HP) (s0 x q : Nat) : hp_i (cellH h s0) x q = if x = hp_n h ∧ q = 0 then nI s0 else if x = hp_n h + 1 ∧ q = 0 then -5 else if x = hp_n h + 1 then 0 else if x = hp_n h then 0 else hp_i h x q := by
  unfold cellH
  rw [hp_i_wi, hp_i_wa, hp_i_wi, hp_i_mk, hp_n_mk, hp_i_mk]
theorem cellH_a (h : HP) (s0 x q : Nat) : hp_a (cellH h s0) x q = if x = hp_n h ∧ q = 1 then hp_n h + 1 else if x = hp_n h + 1 then 0 else if x = hp_n h then 0 else hp_a h x q := by
  unfold cellH
  rw [hp_a_wi, hp_a_wa, hp_a_wi, hp_a_mk, hp_n_mk, hp_a_mk]
theorem FX.cellH {s0 : Nat} (x : FX L h) : FX L (cellH h s0) := by
  have x1 : FX L (hp_mk h 1 0 4) := FX.mk_ x
  have x2 : FX L (hp_mk (hp_mk h 1 0 4) 9 0 4) := FX.mk_ x1
  have x3 : FX L (hp_wi (hp_mk (hp_mk h 1 0 4) 9 0 4) (hp_n h + 1) 0 (-5)) := FX.wi x2
  have x4 : FX L (hp_wa (hp_wi (hp_mk (hp_mk h 1 0 4) 9 0 4) (hp_n h + 1) 0 (-5)) (hp_n h) 1 (hp_n h + 1)) := by
    refine FX.wa x3 ?_
    unfold mov
    right; right; left
    rw [hp_k_wi, hp_k_mk, hp_n_mk, if_neg (by omega), hp_k_mk, if_pos rfl]
  exact FX.wi x4
/-- a new cell stands behind the others -/
theorem CR.newCell {C s0 : Nat} (w : CR L h0 h σ ca ra hs sp) (hC : σ 244 17 = nI C) (hC2 : C < 6000) (hs3 : s0 ≤ 3) (hz : ∀ f, f < ix (σ 244 29) → σ 272 (6000 * f + C) = 0) :
    CR L h0 (cellH h s0) (hp_u (hp_u σ 257 C (nI s0)) 244 17 (nI (C + 1))) (fun k => if k = C then hp_n h else ca k) ra hs sp := by
  have hF := w.hF
  obtain ⟨w1, w2, w3, w4, w6, w5⟩ := w
  have hn := w1.n
  refine ⟨w1.cellH, ?_, w3, ?_, ?_, ?_⟩
  · intro b j hb
    rw [cellH_i, if_neg (by omega), if_neg (by omega), if_neg (by omega), if_neg (by omega)]
    exact w2 b j hb
  · refine FI.so (FI.so ?_ (ncm_s (by omega))) (ncm_s (by omega))
    intro b k b' j' e
    have := cm_lt e
    rw [cellH_i, if_neg (by omega), if_neg (by omega), if_neg (by omega), if_neg (by omega)]
    exact w4 b k b' j' e
  · rw [hu_idx (by omega), hu_cell (by omega)]
    exact hF
  · rw [cellH_n, cellH_s, mS_n (by unfold depS; omega), mS_n (by unfold depS; omega)]
    refine RXo.newCell (C := C) (s0 := s0) w5 (by rw [mS_x (by omega)]; exact hC) hC2 hu_same (by rw [hu_cell (by omega), hu_same]) hs3 (fun p q h1 h2 => by rw [hu_at, if_neg h1, hu_at, if_neg h2]) (fun x hx => ⟨?_, ?_⟩) (fun x q hx => ?_) (fun x q hx => ?_) ?_ ?_ ?_ ?_ ?_ ?_ ?_ ?_ ?_ ?_ (fun f hf => ?_) w1.k14 w1.argk w1.fgk w1.frs hn (by rw [mS_x (by omega)]; exact hF)
    · rw [cellH_k, if_neg (by omega), if_neg (by omega)]
    · rw [cellH_l, if_neg (by omega), if_neg (by omega)]
    · rw [cellH_a, if_neg (by omega), if_neg (by omega), if_neg (by omega)]
    · unfold mI
      by_cases q' : dynI x q
      · rw [if_pos q', if_pos q', cellH_i, if_neg (by omega), if_neg (by omega), if_neg (by omega), if_neg (by omega)]
      · rw [if_neg q', if_neg q']
    · rw [cellH_k, if_neg (by omega), if_pos rfl]
    · rw [cellH_k, if_pos rfl]
    · rw [mI_at (by unfold dynI; omega), cellH_i, if_pos ⟨rfl, rfl⟩]
    · rw [mI_at (by unfold dynI; omega), cellH_i, if_neg (by omega), if_neg (by omega), if_neg (by omega), if_pos rfl]
    · rw [mI_at (by unfold dynI; omega), cellH_i, if_neg (by omega), if_pos ⟨rfl, rfl⟩]
    · rw [mI_at (by unfold dynI; omega), cellH_i, if_neg (by omega), if_neg (by omega), if_pos rfl]
    · rw [cellH_a, if_pos ⟨rfl, rfl⟩]
    · rw [cellH_a, if_neg (by omega), if_neg (by omega), if_pos rfl]
    · rw [cellH_a, if_neg (by omega), if_pos rfl]
    · rw [cellH_a, if_neg (by omega), if_pos rfl]
    · rw [mS_x (by omega)] at hf
      rw [mS_m (by omega)]
      exact hz f hf
end
