/-! THE ENGINE, 3: acts that look at cells and rows -/
section
variable {L : Nat} {h0 h : HP} {σ : SM} {ca ra : Nat → Nat} {hs : Nat → List Nat} {sp : List Nat} {f a b c : Nat}
theorem TH.nrow {a : Nat} {K V : Int32} (t : TH h σ ca ra a K V) (q : ¬ K = 3) : hp_a h a 3 = 0 := by
  rcases t with ⟨rfl, t1, t2, t3, t4⟩ | ⟨rfl, t1, t2, t3, t4⟩ | ⟨n, s, rfl, rfl, t0, ts, ts3, t1, t2, t3, t4⟩ | ⟨n, l, rfl, rfl, t0, ts, ts3, t1, t2, t3, t4⟩
  · exact t4
  · exact t4
  · exact t4
  · exact absurd rfl q
theorem TH.ncel {a : Nat} {K V : Int32} (t : TH h σ ca ra a K V) (q : ¬ K = 2) : hp_a h a 2 = 0 := by
  rcases t with ⟨rfl, t1, t2, t3, t4⟩ | ⟨rfl, t1, t2, t3, t4⟩ | ⟨n, s, rfl, rfl, t0, ts, ts3, t1, t2, t3, t4⟩ | ⟨n, l, rfl, rfl, t0, ts, ts3, t1, t2, t3, t4⟩
  · exact t3
  · exact t3
  · exact absurd rfl q
  · exact t3
theorem TH.isrow {a : Nat} {V : Int32} (t : TH h σ ca ra a 3 V) : ∃ n l : Nat, V = nI n ∧ n < ix (σ 244 23) ∧ σ 262 n = nI l ∧ l ≤ 4 ∧ hp_i h a 0 = nI (5 + l) ∧ hp_i h a 1 = 0 ∧ hp_a h a 2 = 0 ∧ hp_a h a 3 = ra n := by
  rcases t with ⟨e, _⟩ | ⟨e, _⟩ | ⟨n, s, e, _⟩ | ⟨n, l, _, t⟩
  · exact absurd e (by decide)
  · exact absurd e (by decide)
  · exact absurd e (by decide)
  · exact ⟨n, l, t⟩
theorem TH.iscel {a : Nat} {V : Int32} (t : TH h σ ca ra a 2 V) : ∃ n s : Nat, V = nI n ∧ n < ix (σ 244 17) ∧ σ 257 n = nI s ∧ s ≤ 3 ∧ hp_i h a 0 = nI (1 + s) ∧ hp_i h a 1 = 0 ∧ hp_a h a 2 = ca n ∧ hp_a h a 3 = 0 := by
  rcases t with ⟨e, _⟩ | ⟨e, _⟩ | ⟨n, s, _, t⟩ | ⟨n, l, e, _⟩
  · exact absurd e (by decide)
  · exact absurd e (by decide)
  · exact ⟨n, s, t⟩
  · exact absurd e (by decide)
theorem GB.cr (g : GB σ) : ix (σ 244 17) ≤ 6000 ∧ ix (σ 244 23) ≤ 6000 ∧ ix (σ 244 28) ≤ 6000 := by
  obtain ⟨_, _, _, ⟨C, c1, c2⟩, ⟨R, r1, r2⟩, ⟨T, t1, t2⟩, _⟩ := g
  rw [c1, r1, t1, ix_nI (by omega), ix_nI (by omega), ix_nI (by omega)]
  exact ⟨c2, r2, t2⟩
theorem op_length (w : CR L h0 h σ ca ra hs sp) (g : GB σ) (hf : f < ix (σ 244 29)) (ha : a < 8) (hb : b < 8) (m0 : σ 244 45 = nI (8 * f)) (m1 : σ 244 46 = nI a) (m2 : σ 244 47 = nI b) :
    LKS L h0 h σ 324 [.ref (109 + 11 * f + a), .ref (109 + 11 * f + b), .retAddr 0] 1149 [.ref 244, .retAddr 0] := by
  have f12 : f < 12 := Nat.lt_of_lt_of_le hf w.hF
  have ka := w.rk f12 ha
  have kb := w.rk f12 hb
  have tb := w.reg hf hb
  by_cases q1 : agV (σ 269 (8 * f + b)) 3 = 0
  · rw [agV_3.mp q1] at tb
    obtain ⟨n, l, v1, v2, v3, v4, v5, v6, v7, v8⟩ := tb.isrow
    obtain ⟨y1, y2, y3, y4, y5, y6, y7, _⟩ := w.row v2
    have ne : ¬ ra n = 0 := by omega
    have n6 := g.cr
    have e1 : inb (nI n) 6000 = true := inb_nI (by omega) (by omega)
    have e2 : ix (nI n) = n := ix_nI (by omega)
    refine LKS.done (w.num (V := σ 264 n) hf ha) ((SO.refl g).reg f12 ha) ?_ (fun k x => ?_)
    · simp [x324_0, x324_1, x324_4, x324_5, x324_6, x324_9, x324_10, x324_13, x324_14, x324_15, x324_16, x324_19, x324_22, x324_23, ka, kb, v8, ne, y3, y7, sp_number]
    · simp [x1149_0, x1149_1, x1149_2, x1149_5, x1149_6, x1149_9, x1149_10, x1149_11, x1149_14, x1149_15, x1149_16, x1149_17, x1149_20, x1149_21, x1149_22, x1149_25, x1149_28, x1149_29, x1149_32, x1149_33, hp_k_ms, hp_i_ms, hp_a_ms, hp_l_ms, x.k244, m2, sp_against x m0 f12 hb, q1, sp_value x m0 f12 hb, v1, x.a244_26, x.k264, x.l264, e1, e2, sp_makes x m0 m1 f12 ha]
  · have q2 : ¬ σ 269 (8 * f + b) = 3 := fun z => q1 (agV_3.mpr z)
    refine LKS.ag _ 3 q1 w g ?_ (fun k x => ?_)
    · simp [x324_0, x324_1, x324_4, x324_5, x324_6, x324_9, x324_10, x324_13, x324_14, x324_15, x324_16, x324_19, x324_22, x324_23, kb, tb.nrow q2, w.mis kb tb q2]
    · simp [x1149_0, x1149_1, x1149_2, x1149_5, x1149_6, x1149_9, x1149_10, x1149_11, x1149_14, x1149_15, x1149_16, x1149_17, x1149_20, x1149_21, x1149_22, x1149_25, x1149_28, x1149_29, x1149_32, x1149_33, hp_k_ms, hp_i_ms, x.k244, m2, sp_against x m0 f12 hb, q1]
theorem op_field (w : CR L h0 h σ ca ra hs sp) (g : GB σ) (hf : f < ix (σ 244 29)) (ha : a < 8) (hb : b < 8) (hc : c ≤ 3) (m0 : σ 244 45 = nI (8 * f)) (m1 : σ 244 46 = nI a) (m2 : σ 244 47 = nI b) (m3 : σ 244 48 = nI c) :
    LKS L h0 h σ 325 [.ref (109 + 11 * f + a), .ref (109 + 11 * f + b), .int (nI c), .retAddr 0] 1140 [.ref 244, .retAddr 0, .retAddr 0] := by
  have f12 : f < 12 := Nat.lt_of_lt_of_le hf w.hF
  have ka := w.rk f12 ha
  have kb := w.rk f12 hb
  have tb := w.reg hf hb
  by_cases q1 : agV (σ 269 (8 * f + b)) 2 = 0
  · rw [agV_2.mp q1] at tb
    obtain ⟨n, s, v1, v2, v3, v4, v5, v6, v7, v8⟩ := tb.iscel
    obtain ⟨y1, y2, y3, y4, y5, y6, y7, y8⟩ := w.cel v2
    have ne : ¬ ca n = 0 := by omega
    have n6 := g.cr
    have e1 : inb (nI n) 6000 = true := inb_nI (by omega) (by omega)
    have e2 : ix (nI n) = n := ix_nI (by omega)
    match c, hc, m3 with
    | 0, _, m3 =>
      refine LKS.done (w.num (V := σ 258 n) hf ha) ((SO.refl g).reg f12 ha) ?_ (fun k x => ?_)
      · simp [x325_0, x325_1, x325_4, x325_5, x325_6, x325_9, x325_10, x325_13, x325_14, x325_15_0, x325_15_1, x325_15_2, x325_40, x325_41, x325_42, x325_45, x325_48, x325_51, x325_52, x325_53, x325_56, x325_59, x325_62, x325_63, x325_64, x325_67, x325_70, x325_71, x325_72, x325_75, x325_78, x325_79, ka, kb, v7, ne, y3, y7, sp_number, show nI 0 = 0 from rfl]
      · simp [x1140_0, x1140_1, x1140_2, x1140_5, x1140_6, x1140_9, x1140_10, x1140_11, x1140_14, x1140_15, x1140_16, x1140_17, x1140_18, x1140_21, x1140_24, x1140_25, x1140_26, x1140_29, x1140_30, x1140_33, x1140_34, x1140_35, x1140_38, x1140_39, x1140_40, x1140_41, x1140_44, x1140_45, x1140_46, x1140_49, x1140_52, x1140_53, x1140_54, x1140_55, x1140_58, x1140_61, x1140_62, x1140_65, x1140_66, x1140_67, x1140_70, x1140_71, x1140_74, x1140_75, x1140_78, x1140_79, x1140_82, x1140_83, x1140_84, x1140_85, x1140_88, x1140_90, x1140_93, x1140_94, x1140_97, x1140_98, hp_k_ms, hp_i_ms, hp_a_ms, hp_l_ms, x.k244, m2, m3, show nI 0 = 0 from rfl, sp_against x m0 f12 hb, q1, sp_value x m0 f12 hb, v1, x.a244_19, x.k258, x.l258, e1, e2, sp_makes x m0 m1 f12 ha]
    | 1, _, m3 =>
      have z := w.at_ (Or.inr (Or.inr (Or.inr (Or.inr ⟨n, v2, rfl, rfl, rfl, rfl, rfl⟩))))
      refine LKS.done (w.cpy hf ha z) ((SO.refl g).reg f12 ha) ?_ (fun k x => ?_)
      · simp [x325_0, x325_1, x325_4, x325_5, x325_6, x325_9, x325_10, x325_13, x325_14, x325_15_0, x325_15_1, x325_15_2, x325_40, x325_41, x325_42, x325_45, x325_48, x325_51, x325_52, x325_53, x325_56, x325_59, x325_62, x325_63, x325_64, x325_67, x325_70, x325_71, x325_72, x325_75, x325_78, x325_79, ka, kb, v7, ne, y3, y8, sp_copy ka y4, show nI 1 = 1 from rfl]
      · simp [x1140_0, x1140_1, x1140_2, x1140_5, x1140_6, x1140_9, x1140_10, x1140_11, x1140_14, x1140_15, x1140_16, x1140_17, x1140_18, x1140_21, x1140_24, x1140_25, x1140_26, x1140_29, x1140_30, x1140_33, x1140_34, x1140_35, x1140_38, x1140_39, x1140_40, x1140_41, x1140_44, x1140_45, x1140_46, x1140_49, x1140_52, x1140_53, x1140_54, x1140_55, x1140_58, x1140_61, x1140_62, x1140_65, x1140_66, x1140_67, x1140_70, x1140_71, x1140_74, x1140_75, x1140_78, x1140_79, x1140_82, x1140_83, x1140_84, x1140_85, x1140_88, x1140_90, x1140_93, x1140_94, x1140_97, x1140_98, hp_k_ms, hp_i_ms, hp_a_ms, hp_l_ms, x.k244, m2, m3, show nI 1 = 1 from rfl, sp_against x m0 f12 hb, q1, sp_value x m0 f12 hb, v1, x.a244_20, x.k259, x.l259, x.a244_21, x.k260, x.l260, e1, e2, sp_makes x m0 m1 f12 ha]
    | 2, _, m3 =>
      refine LKS.done (w.num (V := 1) hf ha) ((SO.refl g).reg f12 ha) ?_ (fun k x => ?_)
      · simp [x325_0, x325_1, x325_4, x325_5, x325_6, x325_9, x325_10, x325_13, x325_14, x325_15_0, x325_15_1, x325_15_2, x325_40, x325_41, x325_42, x325_45, x325_48, x325_51, x325_52, x325_53, x325_56, x325_59, x325_62, x325_63, x325_64, x325_67, x325_70, x325_71, x325_72, x325_75, x325_78, x325_79, ka, kb, v7, ne, y3, y7, sp_number, show nI 2 = 2 from rfl]
      · simp [x1140_0, x1140_1, x1140_2, x1140_5, x1140_6, x1140_9, x1140_10, x1140_11, x1140_14, x1140_15, x1140_16, x1140_17, x1140_18, x1140_21, x1140_24, x1140_25, x1140_26, x1140_29, x1140_30, x1140_33, x1140_34, x1140_35, x1140_38, x1140_39, x1140_40, x1140_41, x1140_44, x1140_45, x1140_46, x1140_49, x1140_52, x1140_53, x1140_54, x1140_55, x1140_58, x1140_61, x1140_62, x1140_65, x1140_66, x1140_67, x1140_70, x1140_71, x1140_74, x1140_75, x1140_78, x1140_79, x1140_82, x1140_83, x1140_84, x1140_85, x1140_88, x1140_90, x1140_93, x1140_94, x1140_97, x1140_98, hp_k_ms, hp_i_ms, hp_a_ms, hp_l_ms, x.k244, m2, m3, show nI 2 = 2 from rfl, sp_against x m0 f12 hb, q1, sp_value x m0 f12 hb, v1, sp_makes x m0 m1 f12 ha]
    | 3, _, m3 =>
      have dd : (3 : Int32).toInt < 0 ∨ 2 < (3 : Int32).toInt := by decide
      rw [v3] at y5
      by_cases q2 : s < 2
      · have q3 : nI s < 2 := nI_lt (b := 2) q2 (by omega)
        have q4 : nI s ≤ 1 := nI_le (b := 1) (by omega) (by omega)
        refine LKS.done (w.num (V := 1) hf ha) ((SO.refl g).reg f12 ha) ?_ (fun k x => ?_)
        · simp [x325_0, x325_1, x325_4, x325_5, x325_6, x325_9, x325_10, x325_13, x325_14, x325_15_0, x325_15_1, x325_15_2, x325_40, x325_41, x325_42, x325_45, x325_48, x325_51, x325_52, x325_53, x325_56, x325_59, x325_62, x325_63, x325_64, x325_67, x325_70, x325_71, x325_72, x325_75, x325_78, x325_79, x325_15_d dd, ka, kb, v7, ne, y3, y5, q3, sp_otherMark y3, sp_number, show nI 3 = 3 from rfl]
        · simp [x1140_0, x1140_1, x1140_2, x1140_5, x1140_6, x1140_9, x1140_10, x1140_11, x1140_14, x1140_15, x1140_16, x1140_17, x1140_18, x1140_21, x1140_24, x1140_25, x1140_26, x1140_29, x1140_30, x1140_33, x1140_34, x1140_35, x1140_38, x1140_39, x1140_40, x1140_41, x1140_44, x1140_45, x1140_46, x1140_49, x1140_52, x1140_53, x1140_54, x1140_55, x1140_58, x1140_61, x1140_62, x1140_65, x1140_66, x1140_67, x1140_70, x1140_71, x1140_74, x1140_75, x1140_78, x1140_79, x1140_82, x1140_83, x1140_84, x1140_85, x1140_88, x1140_90, x1140_93, x1140_94, x1140_97, x1140_98, hp_k_ms, hp_i_ms, hp_a_ms, hp_l_ms, x.k244, m2, m3, show nI 3 = 3 from rfl, sp_against x m0 f12 hb, q1, sp_value x m0 f12 hb, v1, v3, q4, x.a244_18, x.k257, x.l257, e1, e2, sp_makes x m0 m1 f12 ha]
      · have q3 : ¬ nI s < 2 := nI_nlt (a := s) (b := 2) (by omega) (by omega)
        have q4 : ¬ nI s ≤ 1 := nI_nle2 (a := s) (b := 1) (by omega) (by omega)
        refine LKS.done (w.num (V := 7) hf ha) ((SO.refl g).reg f12 ha) ?_ (fun k x => ?_)
        · simp [x325_0, x325_1, x325_4, x325_5, x325_6, x325_9, x325_10, x325_13, x325_14, x325_15_0, x325_15_1, x325_15_2, x325_40, x325_41, x325_42, x325_45, x325_48, x325_51, x325_52, x325_53, x325_56, x325_59, x325_62, x325_63, x325_64, x325_67, x325_70, x325_71, x325_72, x325_75, x325_78, x325_79, x325_15_d dd, ka, kb, v7, ne, y3, y5, q3, sp_otherMark y3, sp_number, show nI 3 = 3 from rfl]
        · simp [x1140_0, x1140_1, x1140_2, x1140_5, x1140_6, x1140_9, x1140_10, x1140_11, x1140_14, x1140_15, x1140_16, x1140_17, x1140_18, x1140_21, x1140_24, x1140_25, x1140_26, x1140_29, x1140_30, x1140_33, x1140_34, x1140_35, x1140_38, x1140_39, x1140_40, x1140_41, x1140_44, x1140_45, x1140_46, x1140_49, x1140_52, x1140_53, x1140_54, x1140_55, x1140_58, x1140_61, x1140_62, x1140_65, x1140_66, x1140_67, x1140_70, x1140_71, x1140_74, x1140_75, x1140_78, x1140_79, x1140_82, x1140_83, x1140_84, x1140_85, x1140_88, x1140_90, x1140_93, x1140_94, x1140_97, x1140_98, hp_k_ms, hp_i_ms, hp_a_ms, hp_l_ms, x.k244, m2, m3, show nI 3 = 3 from rfl, sp_against x m0 f12 hb, q1, sp_value x m0 f12 hb, v1, v3, q4, x.a244_18, x.k257, x.l257, e1, e2, sp_makes x m0 m1 f12 ha]
  · have q2 : ¬ σ 269 (8 * f + b) = 2 := fun z => q1 (agV_2.mpr z)
    refine LKS.ag _ 2 q1 w g ?_ (fun k x => ?_)
    · simp [x325_0, x325_1, x325_4, x325_5, x325_6, x325_9, x325_10, x325_13, x325_14, x325_15_0, x325_15_1, x325_15_2, x325_40, x325_41, x325_42, x325_45, x325_48, x325_51, x325_52, x325_53, x325_56, x325_59, x325_62, x325_63, x325_64, x325_67, x325_70, x325_71, x325_72, x325_75, x325_78, x325_79, kb, tb.ncel q2, w.mis kb tb q2]
    · simp [x1140_0, x1140_1, x1140_2, x1140_5, x1140_6, x1140_9, x1140_10, x1140_11, x1140_14, x1140_15, x1140_16, x1140_17, x1140_18, x1140_21, x1140_24, x1140_25, x1140_26, x1140_29, x1140_30, x1140_33, x1140_34, x1140_35, x1140_38, x1140_39, x1140_40, x1140_41, x1140_44, x1140_45, x1140_46, x1140_49, x1140_52, x1140_53, x1140_54, x1140_55, x1140_58, x1140_61, x1140_62, x1140_65, x1140_66, x1140_67, x1140_70, x1140_71, x1140_74, x1140_75, x1140_78, x1140_79, x1140_82, x1140_83, x1140_84, x1140_85, x1140_88, x1140_90, x1140_93, x1140_94, x1140_97, x1140_98, hp_k_ms, hp_i_ms, x.k244, m2, sp_against x m0 f12 hb, q1, agV_p]
theorem op_note (w : CR L h0 h σ ca ra hs sp) (g : GB σ) (hf : f < ix (σ 244 29)) (ha : a < 8) (hb : b < 8) (m0 : σ 244 45 = nI (8 * f)) (m1 : σ 244 46 = nI a) (m2 : σ 244 47 = nI b) :
    LKS L h0 h σ 331 [.ref 5, .ref (109 + 11 * f + a), .ref (109 + 11 * f + b), .retAddr 0] 1144 [.ref 244, .retAddr 0] := by
  have f12 : f < 12 := Nat.lt_of_lt_of_le hf w.hF
  have X := w.fx
  have ka := w.rk f12 ha
  have kb := w.rk f12 hb
  have ta := w.reg hf ha
  have tb := w.reg hf hb
  have mn := w.misNs ka kb ta tb
  by_cases q1 : agV (σ 269 (8 * f + a)) 1 = 0
  · by_cases q2 : agV (σ 269 (8 * f + b)) 1 = 0
    · rw [agV_1.mp q1] at ta
      rw [agV_1.mp q2] at tb
      have a1 := ta.num.2
      have b1 := tb.num.2
      generalize hVa : σ 270 (8 * f + a) = Va at a1
      generalize hVb : σ 270 (8 * f + b) = Vb at b1
      rcases out_cases Vb 11 (by decide) with q | ⟨j, rfl, hj, q⟩
      · refine LKS.kind 2 (by omega) (by omega) w g ?_ (fun k x => ?_)
        · simp only [x331_0, x331_1, x331_2, x331_5, x331_6, x331_7, x331_10, x331_11, x331_12, x331_13, x331_16, x331_17, x331_19, x331_22, x331_25, x331_26, x331_27, x331_28, x331_31, x331_32, x331_35, x331_36, x331_39, x331_40, x331_41, mn, kb, b1, q1, q2, sp_isOutside, if_pos q, if_true, Option.bind_some, Option.toList_some, Option.toList_none, List.singleton_append, List.nil_append]
          try simp [x331_0, x331_1, x331_2, x331_5, x331_6, x331_7, x331_10, x331_11, x331_12, x331_13, x331_16, x331_17, x331_19, x331_22, x331_25, x331_26, x331_27, x331_28, x331_31, x331_32, x331_35, x331_36, x331_39, x331_40, x331_41]
          try rfl
        · simp only [x1144_0, x1144_1, x1144_2, x1144_5, x1144_6, x1144_9, x1144_10, x1144_11, x1144_14, x1144_15, x1144_18, x1144_19, x1144_20, x1144_23, x1144_24, x1144_27, x1144_28, x1144_29, x1144_32, x1144_33, x1144_34, x1144_35, x1144_36, x1144_39, x1144_42, x1144_43, x1144_45, x1144_48, x1144_51, x1144_52, x1144_53, x1144_54, x1144_57, x1144_58, x1144_59, x1144_62, x1144_65, x1144_66, x1144_67, x1144_70, x1144_73, x1144_74, x1144_75, hp_k_ms, ms_r (show 244 ≤ 244 ∧ 244 < 276 by omega), x.k244, m1, m2, sp_against x m0 f12 ha, sp_against x m0 f12 hb, q1, q2, sp_value x m0 f12 hb, hVb, sp_in, if_pos q, Option.bind_some, Option.toList_some, Option.toList_none, List.singleton_append, List.nil_append, Int32.le_refl, if_true]
          try simp [x1144_0, x1144_1, x1144_2, x1144_5, x1144_6, x1144_9, x1144_10, x1144_11, x1144_14, x1144_15, x1144_18, x1144_19, x1144_20, x1144_23, x1144_24, x1144_27, x1144_28, x1144_29, x1144_32, x1144_33, x1144_34, x1144_35, x1144_36, x1144_39, x1144_42, x1144_43, x1144_45, x1144_48, x1144_51, x1144_52, x1144_53, x1144_54, x1144_57, x1144_58, x1144_59, x1144_62, x1144_65, x1144_66, x1144_67, x1144_70, x1144_73, x1144_74, x1144_75]
          try rfl
      · have e1 : inb (nI j) 12 = true := inb_nI (by omega) (by omega)
        have e2 : ix (nI j) = j := ix_nI (by omega)
        refine LKS.done (w.w (x := Va) (CMR.plan (q := j) (by omega)) (by unfold depS; omega)) ((SO.refl g).u (by unfold hard; omega) (by omega)) ?_ (fun k x => ?_)
        · simp only [x331_0, x331_1, x331_2, x331_5, x331_6, x331_7, x331_10, x331_11, x331_12, x331_13, x331_16, x331_17, x331_19, x331_22, x331_25, x331_26, x331_27, x331_28, x331_31, x331_32, x331_35, x331_36, x331_39, x331_40, x331_41, mn, kb, b1, q1, q2, sp_isOutside, if_neg q, if_true, Option.bind_some, Option.toList_some, Option.toList_none, List.singleton_append, List.nil_append]
          simp [x331_0, x331_1, x331_2, x331_5, x331_6, x331_7, x331_10, x331_11, x331_12, x331_13, x331_16, x331_17, x331_19, x331_22, x331_25, x331_26, x331_27, x331_28, x331_31, x331_32, x331_35, x331_36, x331_39, x331_40, x331_41, X.k5, X.a5_4, X.k11, X.l11, ka, kb, a1, b1, e1, e2]
        · simp only [x1144_0, x1144_1, x1144_2, x1144_5, x1144_6, x1144_9, x1144_10, x1144_11, x1144_14, x1144_15, x1144_18, x1144_19, x1144_20, x1144_23, x1144_24, x1144_27, x1144_28, x1144_29, x1144_32, x1144_33, x1144_34, x1144_35, x1144_36, x1144_39, x1144_42, x1144_43, x1144_45, x1144_48, x1144_51, x1144_52, x1144_53, x1144_54, x1144_57, x1144_58, x1144_59, x1144_62, x1144_65, x1144_66, x1144_67, x1144_70, x1144_73, x1144_74, x1144_75, hp_k_ms, ms_r (show 244 ≤ 244 ∧ 244 < 276 by omega), x.k244, m1, m2, sp_against x m0 f12 ha, sp_against x m0 f12 hb, q1, q2, sp_value x m0 f12 hb, hVb, sp_in, if_neg q, Option.bind_some, Option.toList_some, Option.toList_none, List.singleton_append, List.nil_append, Int32.le_refl, if_true]
          simp [x1144_0, x1144_1, x1144_2, x1144_5, x1144_6, x1144_9, x1144_10, x1144_11, x1144_14, x1144_15, x1144_18, x1144_19, x1144_20, x1144_23, x1144_24, x1144_27, x1144_28, x1144_29, x1144_32, x1144_33, x1144_34, x1144_35, x1144_36, x1144_39, x1144_42, x1144_43, x1144_45, x1144_48, x1144_51, x1144_52, x1144_53, x1144_54, x1144_57, x1144_58, x1144_59, x1144_62, x1144_65, x1144_66, x1144_67, x1144_70, x1144_73, x1144_74, x1144_75, hp_k_ms, hp_i_ms, hp_a_ms, hp_l_ms, ms_w, x.k244, m1, m2, sp_value x m0 f12 ha, sp_value x m0 f12 hb, hVa, hVb, x.a244_11, x.k253, x.l253, e1, e2]
    · refine LKS.ag _ 1 q2 w g ?_ (fun k x => ?_)
      · simp [x331_0, x331_1, x331_2, x331_5, x331_6, x331_7, x331_10, x331_11, x331_12, x331_13, x331_16, x331_17, x331_19, x331_22, x331_25, x331_26, x331_27, x331_28, x331_31, x331_32, x331_35, x331_36, x331_39, x331_40, x331_41, mn, q1, q2]
      · simp [x1144_0, x1144_1, x1144_2, x1144_5, x1144_6, x1144_9, x1144_10, x1144_11, x1144_14, x1144_15, x1144_18, x1144_19, x1144_20, x1144_23, x1144_24, x1144_27, x1144_28, x1144_29, x1144_32, x1144_33, x1144_34, x1144_35, x1144_36, x1144_39, x1144_42, x1144_43, x1144_45, x1144_48, x1144_51, x1144_52, x1144_53, x1144_54, x1144_57, x1144_58, x1144_59, x1144_62, x1144_65, x1144_66, x1144_67, x1144_70, x1144_73, x1144_74, x1144_75, hp_k_ms, hp_i_ms, x.k244, m1, m2, sp_against x m0 f12 ha, sp_against x m0 f12 hb, q1, q2, agV_p]
  · refine LKS.ag _ 1 q1 w g ?_ (fun k x => ?_)
    · simp [x331_0, x331_1, x331_2, x331_5, x331_6, x331_7, x331_10, x331_11, x331_12, x331_13, x331_16, x331_17, x331_19, x331_22, x331_25, x331_26, x331_27, x331_28, x331_31, x331_32, x331_35, x331_36, x331_39, x331_40, x331_41, mn, q1]
    · simp [x1144_0, x1144_1, x1144_2, x1144_5, x1144_6, x1144_9, x1144_10, x1144_11, x1144_14, x1144_15, x1144_18, x1144_19, x1144_20, x1144_23, x1144_24, x1144_27, x1144_28, x1144_29, x1144_32, x1144_33, x1144_34, x1144_35, x1144_36, x1144_39, x1144_42, x1144_43, x1144_45, x1144_48, x1144_51, x1144_52, x1144_53, x1144_54, x1144_57, x1144_58, x1144_59, x1144_62, x1144_65, x1144_66, x1144_67, x1144_70, x1144_73, x1144_74, x1144_75, hp_k_ms, hp_i_ms, x.k244, m1, m2, sp_against x m0 f12 ha, q1, agV_p]
theorem op_ask (w : CR L h0 h σ ca ra hs sp) (g : GB σ) (hf : f < ix (σ 244 29)) (ha : a < 8) (hb : b < 8) (m0 : σ 244 45 = nI (8 * f)) (m1 : σ 244 46 = nI a) (m2 : σ 244 47 = nI b) :
    LKS L h0 h σ 332 [.ref 5, .ref (109 + 11 * f + a), .ref (109 + 11 * f + b), .retAddr 0] 1145 [.ref 244, .retAddr 0] := by
  have f12 : f < 12 := Nat.lt_of_lt_of_le hf w.hF
  have X := w.fx
  have ka := w.rk f12 ha
  have kb := w.rk f12 hb
  have tb := w.reg hf hb
  have mn := w.misN kb tb
  by_cases q2 : agV (σ 269 (8 * f + b)) 1 = 0
  · rw [agV_1.mp q2] at tb
    have b1 := tb.num.2
    generalize hVb : σ 270 (8 * f + b) = Vb at b1
    rcases out_cases Vb 11 (by decide) with q | ⟨j, rfl, hj, q⟩
    · refine LKS.kind 2 (by omega) (by omega) w g ?_ (fun k x => ?_)
      · simp only [x332_0, x332_1, x332_4, x332_5, x332_6, x332_9, x332_10, x332_11, x332_12, x332_15, x332_16, x332_18, x332_21, x332_24, x332_25, x332_26, x332_27, x332_28, x332_31, x332_32, x332_35, x332_36, x332_39, x332_40, mn, kb, b1, q2, sp_isOutside, if_pos q, if_true, Option.bind_some, Option.toList_some, Option.toList_none, List.singleton_append, List.nil_append]
        try simp [x332_0, x332_1, x332_4, x332_5, x332_6, x332_9, x332_10, x332_11, x332_12, x332_15, x332_16, x332_18, x332_21, x332_24, x332_25, x332_26, x332_27, x332_28, x332_31, x332_32, x332_35, x332_36, x332_39, x332_40]
        try rfl
      · simp only [x1145_0, x1145_1, x1145_2, x1145_5, x1145_6, x1145_9, x1145_10, x1145_11, x1145_14, x1145_15, x1145_16, x1145_17, x1145_18, x1145_21, x1145_24, x1145_25, x1145_27, x1145_30, x1145_33, x1145_34, x1145_35, x1145_36, x1145_37, x1145_38, x1145_41, x1145_42, x1145_43, x1145_46, x1145_49, x1145_50, x1145_53, x1145_54, hp_k_ms, ms_r (show 244 ≤ 244 ∧ 244 < 276 by omega), x.k244, m1, m2, sp_against x m0 f12 hb, q2, sp_value x m0 f12 hb, hVb, sp_in, if_pos q, Option.bind_some, Option.toList_some, Option.toList_none, List.singleton_append, List.nil_append, Int32.le_refl, if_true]
        try simp [x1145_0, x1145_1, x1145_2, x1145_5, x1145_6, x1145_9, x1145_10, x1145_11, x1145_14, x1145_15, x1145_16, x1145_17, x1145_18, x1145_21, x1145_24, x1145_25, x1145_27, x1145_30, x1145_33, x1145_34, x1145_35, x1145_36, x1145_37, x1145_38, x1145_41, x1145_42, x1145_43, x1145_46, x1145_49, x1145_50, x1145_53, x1145_54]
        try rfl
    · have e1 : inb (nI j) 12 = true := inb_nI (by omega) (by omega)
      have e2 : ix (nI j) = j := ix_nI (by omega)
      have e3 : hp_i h 11 j = σ 253 j := w.fi _ _ _ _ (CMR.plan (by omega))
      refine LKS.done (w.num (V := σ 253 j) hf ha) ((SO.refl g).reg f12 ha) ?_ (fun k x => ?_)
      · simp only [x332_0, x332_1, x332_4, x332_5, x332_6, x332_9, x332_10, x332_11, x332_12, x332_15, x332_16, x332_18, x332_21, x332_24, x332_25, x332_26, x332_27, x332_28, x332_31, x332_32, x332_35, x332_36, x332_39, x332_40, mn, kb, b1, q2, sp_isOutside, if_neg q, if_true, Option.bind_some, Option.toList_some, Option.toList_none, List.singleton_append, List.nil_append]
        simp [x332_0, x332_1, x332_4, x332_5, x332_6, x332_9, x332_10, x332_11, x332_12, x332_15, x332_16, x332_18, x332_21, x332_24, x332_25, x332_26, x332_27, x332_28, x332_31, x332_32, x332_35, x332_36, x332_39, x332_40, X.k5, X.a5_4, X.k11, X.l11, ka, kb, b1, e1, e2, e3, sp_number ka]
      · simp only [x1145_0, x1145_1, x1145_2, x1145_5, x1145_6, x1145_9, x1145_10, x1145_11, x1145_14, x1145_15, x1145_16, x1145_17, x1145_18, x1145_21, x1145_24, x1145_25, x1145_27, x1145_30, x1145_33, x1145_34, x1145_35, x1145_36, x1145_37, x1145_38, x1145_41, x1145_42, x1145_43, x1145_46, x1145_49, x1145_50, x1145_53, x1145_54, hp_k_ms, ms_r (show 244 ≤ 244 ∧ 244 < 276 by omega), x.k244, m1, m2, sp_against x m0 f12 hb, q2, sp_value x m0 f12 hb, hVb, sp_in, if_neg q, Option.bind_some, Option.toList_some, Option.toList_none, List.singleton_append, List.nil_append, Int32.le_refl, if_true]
        simp [x1145_0, x1145_1, x1145_2, x1145_5, x1145_6, x1145_9, x1145_10, x1145_11, x1145_14, x1145_15, x1145_16, x1145_17, x1145_18, x1145_21, x1145_24, x1145_25, x1145_27, x1145_30, x1145_33, x1145_34, x1145_35, x1145_36, x1145_37, x1145_38, x1145_41, x1145_42, x1145_43, x1145_46, x1145_49, x1145_50, x1145_53, x1145_54, hp_k_ms, hp_i_ms, hp_a_ms, hp_l_ms, x.k244, m1, m2, sp_value x m0 f12 hb, hVb, x.a244_11, x.k253, x.l253, e1, e2, sp_makes x m0 m1 f12 ha]
  · refine LKS.ag _ 1 q2 w g ?_ (fun k x => ?_)
    · simp [x332_0, x332_1, x332_4, x332_5, x332_6, x332_9, x332_10, x332_11, x332_12, x332_15, x332_16, x332_18, x332_21, x332_24, x332_25, x332_26, x332_27, x332_28, x332_31, x332_32, x332_35, x332_36, x332_39, x332_40, kb, mn, q2]
    · simp [x1145_0, x1145_1, x1145_2, x1145_5, x1145_6, x1145_9, x1145_10, x1145_11, x1145_14, x1145_15, x1145_16, x1145_17, x1145_18, x1145_21, x1145_24, x1145_25, x1145_27, x1145_30, x1145_33, x1145_34, x1145_35, x1145_36, x1145_37, x1145_38, x1145_41, x1145_42, x1145_43, x1145_46, x1145_49, x1145_50, x1145_53, x1145_54, hp_k_ms, hp_i_ms, x.k244, m2, sp_against x m0 f12 hb, q2, agV_p]
theorem op_throw (w : CR L h0 h σ ca ra hs sp) (g : GB σ) (hf : f < ix (σ 244 29)) (ha : a < 8) (m0 : σ 244 45 = nI (8 * f)) (m1 : σ 244 46 = nI a) :
    LKS L h0 h σ 329 [.ref 5, .ref (109 + 11 * f + a), .retAddr 0] 1150 [.ref 244, .int 22, .retAddr 0] := by
  have f12 : f < 12 := Nat.lt_of_lt_of_le hf w.hF
  have X := w.fx
  have ka := w.rk f12 ha
  have ta := w.reg hf ha
  have mn := w.misN ka ta
  have e1 : inb (nI (8 * f + a)) 96 = true := inb_nI (by omega) (by omega)
  have e2 : ix (nI (8 * f + a)) = 8 * f + a := ix_nI (by omega)
  have c2 : CR L h0 h (hp_u σ 244 42 (σ 270 (8 * f + a))) ca ra hs sp := w.s (ncm_s (by omega)) (by unfold depS; omega)
  have s2 : SO σ (hp_u σ 244 42 (σ 270 (8 * f + a))) := (SO.refl g).u (by unfold hard; omega) (by omega)
  have m0' : hp_u σ 244 42 (σ 270 (8 * f + a)) 244 45 = nI (8 * f) := by rw [hu_idx (by omega)]; exact m0
  have e3 : hp_u σ 244 42 (σ 270 (8 * f + a)) 269 (8 * f + a) = σ 269 (8 * f + a) := hu_cell (by omega)
  by_cases q1 : agV (σ 269 (8 * f + a)) 1 = 0
  · have ta' := ta
    rw [agV_1.mp q1] at ta'
    have a1 := ta'.num.2
    refine ⟨nI 9, nI 9, hp_wi h 5 9 (σ 270 (8 * f + a)), hp_u σ 244 42 (σ 270 (8 * f + a)), ?_, fun k x => ?_, ⟨ca, ra, hs, sp, c2.c (by omega) ?_ (by unfold dynI; omega)⟩, s2, Or.inr (Or.inr ⟨9, by omega, by omega, rfl, rfl, fun _ => ?_⟩)⟩
    · simp [x329_0, x329_1, x329_4, x329_5, x329_6, x329_9, x329_10, x329_11, x329_12, x329_13, x329_16, x329_19, x329_21, ka, mn, q1, a1, X.k5]; rfl
    · simp [x1150_0, x1150_1_0, x1150_1_1, x1150_1_2, x1150_1_3, x1150_1_4, x1150_1_5, x1150_1_6, x1150_1_7, x1150_1_8, x1150_1_9, x1150_1_10, x1150_1_11, x1150_1_12, x1150_1_13, x1150_1_14, x1150_1_15, x1150_1_16, x1150_1_17, x1150_1_18, x1150_1_19, x1150_1_20, x1150_1_21, x1150_1_22, x1150_1_23, x1150_1_24, x1150_1_25, x1150_1_26, x1150_1_27, x1150_128, x1150_129, x1150_130, x1150_131, x1150_134, x1150_137, x1150_138, x1150_139, x1150_140, x1150_141, x1150_144, x1150_145, x1150_148, x1150_149, x1150_152, x1150_153, x1150_154, x1150_155, x1150_158, x1150_159, x1150_162, x1150_163, x1150_166, x1150_167, x1150_168, x1150_171, x1150_172, x1150_173, x1150_174, x1150_177, x1150_178, x1150_179, x1150_180, x1150_183, x1150_186, x1150_187, x1150_188, x1150_191, x1150_192, x1150_193, x1150_196, x1150_197, x1150_198, x1150_201, x1150_202, x1150_203, x1150_206, x1150_207, x1150_208, x1150_211, x1150_212, x1150_213, x1150_216, x1150_217, x1150_218, x1150_221, x1150_222, x1150_223, x1150_226, x1150_227, x1150_228, x1150_229, x1150_230, x1150_231, x1150_234, x1150_235, x1150_238, x1150_239, x1150_242, x1150_243, x1150_244, x1150_245, x1150_248, x1150_249, x1150_252, x1150_253, x1150_256, x1150_257, x1150_258, x1150_259, x1150_262, x1150_265, x1150_268, x1150_269, x1150_272, x1150_273, x1150_276, x1150_277, x1150_278, x1150_279, x1150_282, x1150_283, x1150_286, x1150_287, x1150_290, x1150_291, x1150_292, x1150_295, x1150_296, x1150_297, x1150_300, x1150_301, x1150_304, x1150_305, x1150_308, x1150_309, x1150_310, x1150_311, x1150_314, x1150_315, x1150_318, x1150_319, x1150_322, x1150_323, x1150_324, x1150_325, x1150_328, x1150_331, x1150_334, x1150_335, x1150_338, x1150_339, x1150_340, x1150_341, x1150_342, x1150_345, x1150_346, x1150_347, x1150_348, x1150_351, x1150_352, x1150_353, x1150_354, x1150_357, x1150_358, x1150_361, x1150_362, x1150_365, x1150_366, x1150_367, x1150_370, x1150_371, x1150_372, x1150_375, x1150_376, x1150_379, x1150_380, x1150_381, x1150_384, x1150_385, x1150_388, x1150_390, x1150_391, x1150_392, x1150_395, x1150_396, x1150_397, x1150_400, x1150_401, x1150_402, x1150_405, x1150_406, x1150_407, x1150_410, x1150_411, x1150_412, x1150_413, x1150_416, hp_k_ms, hp_i_ms, hp_a_ms, hp_l_ms, ms_w, hu_at, x.k244, x.a244_34, x.k270, x.l270, m0, m1, nI_add, e1, e2, sp_against x m0' f12 ha, e3, q1]; rfl
    · intro b j e
      rcases e with e | e | e | ⟨_, e⟩ | e | e | ⟨_, e⟩ | ⟨_, e⟩ | ⟨_, e⟩ | ⟨_, e⟩ | ⟨_, e⟩ | ⟨_, e⟩ | ⟨_, e⟩ | ⟨_, e⟩ | ⟨_, e⟩ | ⟨_, _, _, e⟩ | ⟨_, _, _, e⟩ | ⟨_, e⟩ | ⟨_, e⟩ <;> omega
    · rw [hu_same, hp_i_wi, if_pos ⟨rfl, rfl⟩]
  · have hv : ∀ n : Nat, agV (σ 269 (8 * f + a)) 1 = nI n → 1 ≤ n → n ≤ 8 → LKS L h0 h σ 329 [.ref 5, .ref (109 + 11 * f + a), .retAddr 0] 1150 [.ref 244, .int 22, .retAddr 0] := by
      intro n hn n1 n2
      have nz : ¬ nI n = 0 := nI_ne0 (by omega) (by omega)
      have nl : ¬ nI n ≤ 0 := nI_nle (by omega) (by omega)
      refine ⟨nI n, nI n, h, hp_u σ 244 42 (σ 270 (8 * f + a)), ?_, fun k x => ?_, ⟨ca, ra, hs, sp, c2⟩, s2, Or.inr (Or.inr ⟨n, by omega, by omega, rfl, rfl, by omega⟩)⟩
      · simp [x329_0, x329_1, x329_4, x329_5, x329_6, x329_9, x329_10, x329_11, x329_12, x329_13, x329_16, x329_19, x329_21, ka, mn, hn, nz]
      · simp [x1150_0, x1150_1_0, x1150_1_1, x1150_1_2, x1150_1_3, x1150_1_4, x1150_1_5, x1150_1_6, x1150_1_7, x1150_1_8, x1150_1_9, x1150_1_10, x1150_1_11, x1150_1_12, x1150_1_13, x1150_1_14, x1150_1_15, x1150_1_16, x1150_1_17, x1150_1_18, x1150_1_19, x1150_1_20, x1150_1_21, x1150_1_22, x1150_1_23, x1150_1_24, x1150_1_25, x1150_1_26, x1150_1_27, x1150_128, x1150_129, x1150_130, x1150_131, x1150_134, x1150_137, x1150_138, x1150_139, x1150_140, x1150_141, x1150_144, x1150_145, x1150_148, x1150_149, x1150_152, x1150_153, x1150_154, x1150_155, x1150_158, x1150_159, x1150_162, x1150_163, x1150_166, x1150_167, x1150_168, x1150_171, x1150_172, x1150_173, x1150_174, x1150_177, x1150_178, x1150_179, x1150_180, x1150_183, x1150_186, x1150_187, x1150_188, x1150_191, x1150_192, x1150_193, x1150_196, x1150_197, x1150_198, x1150_201, x1150_202, x1150_203, x1150_206, x1150_207, x1150_208, x1150_211, x1150_212, x1150_213, x1150_216, x1150_217, x1150_218, x1150_221, x1150_222, x1150_223, x1150_226, x1150_227, x1150_228, x1150_229, x1150_230, x1150_231, x1150_234, x1150_235, x1150_238, x1150_239, x1150_242, x1150_243, x1150_244, x1150_245, x1150_248, x1150_249, x1150_252, x1150_253, x1150_256, x1150_257, x1150_258, x1150_259, x1150_262, x1150_265, x1150_268, x1150_269, x1150_272, x1150_273, x1150_276, x1150_277, x1150_278, x1150_279, x1150_282, x1150_283, x1150_286, x1150_287, x1150_290, x1150_291, x1150_292, x1150_295, x1150_296, x1150_297, x1150_300, x1150_301, x1150_304, x1150_305, x1150_308, x1150_309, x1150_310, x1150_311, x1150_314, x1150_315, x1150_318, x1150_319, x1150_322, x1150_323, x1150_324, x1150_325, x1150_328, x1150_331, x1150_334, x1150_335, x1150_338, x1150_339, x1150_340, x1150_341, x1150_342, x1150_345, x1150_346, x1150_347, x1150_348, x1150_351, x1150_352, x1150_353, x1150_354, x1150_357, x1150_358, x1150_361, x1150_362, x1150_365, x1150_366, x1150_367, x1150_370, x1150_371, x1150_372, x1150_375, x1150_376, x1150_379, x1150_380, x1150_381, x1150_384, x1150_385, x1150_388, x1150_390, x1150_391, x1150_392, x1150_395, x1150_396, x1150_397, x1150_400, x1150_401, x1150_402, x1150_405, x1150_406, x1150_407, x1150_410, x1150_411, x1150_412, x1150_413, x1150_416, hp_k_ms, hp_i_ms, hp_a_ms, hp_l_ms, ms_w, hu_at, x.k244, x.a244_34, x.k270, x.l270, m0, m1, nI_add, e1, e2, sp_against x m0' f12 ha, e3, hn, nl]
    rcases agV_v _ q1 with e | e
    · exact hv 1 e (by omega) (by omega)
    · exact hv 3 e (by omega) (by omega)
end
