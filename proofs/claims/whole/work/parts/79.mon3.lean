/-! THE ENGINE, 23b: LEAVE -/
section
variable {L : Nat} {h0 h : HP} {σ : SM} {A F : Nat} {ca ra : Nat → Nat} {hs : Nat → List Nat} {sp : List Nat}
theorem leave_no {a n : Nat} (c : CR L h0 h σ ca ra hs sp) (gb : GB σ) (hF : σ 244 29 = nI (F + 1)) (hF12 : F < 12) (ha : a < 8) (m0 : σ 244 45 = nI (8 * F)) (m1 : σ 244 46 = nI a) (q1 : agV (σ 269 (8 * F + a)) 2 = 0) (v1 : σ 270 (8 * F + a) = nI n) (nn : n < 6000) (v7 : hp_a h (109 + 11 * F + a) 2 = ca n) (ne : ¬ ca n = 0) (z : σ 272 (6000 * F + n) = 0) (lv : pX 502 0 [.ref 10, .ref (106 + 11 * F), .ref (ca n), .retAddr 0] [] h = some (some (.int 0), h)) :
    LKS L h0 h σ 328 [.ref 5, .ref (106 + 11 * F), .ref (109 + 11 * F + a), .retAddr 0] 1142 [.ref 244, .int 0, .retAddr 0, .retAddr 0, .retAddr 0, .retAddr 0] := by
  have X := c.fx
  have ka := c.rk hF12 ha
  refine LKS.kind 6 (by omega) (by omega) c gb ?_ (fun k x => ?_)
  · simp only [x328_0, x328_1, x328_4, x328_5, x328_6, x328_14, x328_15, x328_18, x328_19, x328_20, x328_23, x328_30, x328_32, ka, v7, ne, if_false, X.k5, X.a5_3, X.k10, lv, Option.bind_some, Option.toList_some, Option.toList_none, List.singleton_append, List.nil_append, if_true]
    rfl
  · have n8 : nI (F + 1) - 1 = nI F := nI_pred F
    have e3 : (6000 : Int32) * nI F + nI n = nI (6000 * F + n) := by rw [show (6000 : Int32) = nI 6000 from rfl, nI_mul, nI_add]
    have e4 : inb (nI (6000 * F + n)) 72000 = true := inb_nI (by omega) (by omega)
    have e5 : ix (nI (6000 * F + n)) = 6000 * F + n := ix_nI (by omega)
    simp only [x1142_0, x1142_1, x1142_2, x1142_5, x1142_6, x1142_9, x1142_10, x1142_11, x1142_16, x1142_17, x1142_18, x1142_21, x1142_24, x1142_25, x1142_26, x1142_29, x1142_30, x1142_31, x1142_33, x1142_34, x1142_37, x1142_38, x1142_41, x1142_44, x1142_46, x1142_47, x1142_48, x1142_49, x1142_50, x1142_53, x1142_55, hp_k_ms, hp_a_ms, hp_l_ms, x.k244, x.a244_36, x.k272, x.l272, ms_r (show 244 ≤ 244 ∧ 244 < 276 by omega), ms_r (show 244 ≤ 272 ∧ 272 < 276 by omega), m1, sp_against x m0 hF12 ha, q1, sp_value x m0 hF12 ha, v1, Option.bind_some, Option.toList_some, Option.toList_none, List.singleton_append, List.nil_append, Int32.le_refl, if_true, hF, n8, e3, e4, e5, z]
    rfl
theorem leave_cr {x n : Nat} (c : CR L h0 h σ ca ra hs sp) (hf : F < ix (σ 244 29)) (hF12 : F < 12) (x1 : x ∈ hs F) (v2 : n < ix (σ 244 17)) (hC : ix (σ 244 17) ≤ 6000) (x2 : hp_a h x 0 = ca n) (x7 : 276 ≤ x) : CR L h0 (hp_wi (hp_wi h x 2 (σ 272 (6000 * F + n) - 1)) (106 + 11 * F) 6 (σ 271 F - 1)) (monS σ F n (σ 272 (6000 * F + n) - 1) (σ 271 F - 1) (σ 261 n - 1) (σ 273 7)) ca ra hs sp := by
  have g7 : hp_i h 9 7 = σ 273 7 := c.fi _ _ _ _ (CMR.counted (by omega))
  have cm := c.mon (a := σ 272 (6000 * F + n) - 1) (b := σ 271 F - 1) (c := σ 261 n - 1) (d := σ 273 7) hf hF12 x1 v2 hC x2
  have e9 : hp_wi (hp_wi (hp_wi h x 2 (σ 272 (6000 * F + n) - 1)) (106 + 11 * F) 6 (σ 271 F - 1)) 9 7 (σ 273 7) = hp_wi (hp_wi h x 2 (σ 272 (6000 * F + n) - 1)) (106 + 11 * F) 6 (σ 271 F - 1) := by
    refine hp_ext (by rw [hp_n_wi]) (by rw [hp_s_wi]) (fun _ => by rw [hp_k_wi]) (fun _ => by rw [hp_l_wi]) (fun p j => ?_) (fun _ _ => by rw [hp_a_wi])
    rw [hp_i_wi]
    by_cases z : p = 9 ∧ j = 7
    · rw [if_pos z, z.1, z.2, hp_i_wi, if_neg (by omega), hp_i_wi, if_neg (by omega), g7]
    · rw [if_neg z]
  rw [e9] at cm
  exact cm
theorem leave_m {k : HP} {a n b' : Nat} (x : FX L k) (hF : σ 244 29 = nI (F + 1)) (hF12 : F < 12) (m0 : σ 244 45 = nI (8 * F)) (m1 : σ 244 46 = nI a) (ha : a < 8) (q1 : agV (σ 269 (8 * F + a)) 2 = 0) (v1 : σ 270 (8 * F + a) = nI n) (nn : n < 6000) (q : ¬ σ 272 (6000 * F + n) = 0) (hb1 : σ 272 (6000 * F + n) = nI (b' + 1)) : pX 1142 0 [.ref 244, .int 0, .retAddr 0, .retAddr 0, .retAddr 0, .retAddr 0] [] (mset k σ) = some (some (.int 0), mset k (monS σ F n (nI b') (σ 271 F - 1) (σ 261 n - 1) (σ 273 7))) := by
  rw [sp_mon (e := 0) (F' := 0) x hF hF12 m0 m1 ha q1 v1 nn (Or.inl rfl) (fun _ => q), if_pos (show (0 : Int32) = 0 from rfl), if_pos (show (0 : Int32) = 0 from rfl), i32_m1, i32_m1, i32_m1, Int32.add_zero, hb1, nI_pred]
theorem leave_yes {op : Int32} {a n x b' : Nat} (w : IV L h0 h σ A False) (hAP : A + PH σ ≤ 492000) (c : CR L h0 h σ ca ra hs sp) (hF : σ 244 29 = nI (F + 1)) (hF12 : F < 12) (ho : ¬ op = 23) (ha : a < 8) (m0 : σ 244 45 = nI (8 * F)) (m1 : σ 244 46 = nI a) (q1 : agV (σ 269 (8 * F + a)) 2 = 0) (v1 : σ 270 (8 * F + a) = nI n) (nn : n < 6000) (v2 : n < ix (σ 244 17)) (hC : ix (σ 244 17) ≤ 6000) (v7 : hp_a h (109 + 11 * F + a) 2 = ca n) (ne : ¬ ca n = 0) (y3 : hp_k h (ca n) = 1) (x1 : x ∈ hs F) (x2 : hp_a h x 0 = ca n) (x3 : hp_a h (ca n) 3 = x) (x4 : hp_a h x 1 = 106 + 11 * F) (x5 : hp_i h x 2 = σ 272 (6000 * F + n)) (x6 : hp_k h x = 3) (x7 : 276 ≤ x) (q : ¬ σ 272 (6000 * F + n) = 0) (hb1 : σ 272 (6000 * F + n) = nI (b' + 1)) (hbA : b' + 1 ≤ 492000) :
    ACM L h0 h σ A F op 328 [.ref 5, .ref (106 + 11 * F), .ref (109 + 11 * F + a), .retAddr 0] 1142 [.ref 244, .int 0, .retAddr 0, .retAddr 0, .retAddr 0, .retAddr 0] := by
  have X := c.fx
  have ka := c.rk hF12 ha
  have f0 : ix (σ 244 29) = F + 1 := by rw [hF]; exact ix_nI (by omega)
  have okf : okr (106 + 11 * F) = true := by unfold okr; simp; omega
  have xz : ¬ x = 0 := by omega
  have g6 : hp_i h (106 + 11 * F) 6 = σ 271 F := c.fi _ _ _ _ (CMR.holds hF12)
  have xne : ¬ 106 + 11 * F = x := by omega
  have cm := leave_cr c (F := F) (n := n) (by omega) hF12 x1 v2 hC x2 x7
  have en : pX 502 0 [.ref 10, .ref (106 + 11 * F), .ref (ca n), .retAddr 0] [] h = some (some (.int 1), hp_wi (hp_wi h x 2 (σ 272 (6000 * F + n) - 1)) (106 + 11 * F) 6 (σ 271 F - 1)) := by
    simp only [x502_0, x502_1, x502_4, x502_5, x502_6, x502_9, x502_10, x502_13, x502_14, x502_17, x502_18, x502_21, x502_26, x502_27, x502_28, x502_31, x502_32, x502_33, x502_36, x502_37, x502_38, x502_41, x502_42, x502_43, x502_46, y3, x3, xz, if_false, x6, x4, okf, if_true, x5, q, hp_k_wi, X.fk F hF12, hp_i_wi, xne, false_and, g6]
    exact x502_47 (Or.inr rfl)
  have pr : σ 272 (6000 * F + n) - 1 = nI b' := by rw [hb1, nI_pred]
  rw [pr] at cm en
  have hbi : ix (σ 272 (6000 * F + n)) = b' + 1 := by rw [hb1]; exact ix_nI (by omega)
  generalize hp_wi (hp_wi h x 2 (nI b')) (106 + 11 * F) 6 (σ 271 F - 1) = g2 at cm en
  obtain ⟨iv, ph⟩ := mon_iv (k := n) (n := b' + 1) (n' := b') (b := σ 271 F - 1) (c := σ 261 n - 1) (d := σ 273 7) w hF hF12 v2 nn hAP hbi (by omega) (fun s h1 h2 => by
    obtain ⟨s', rfl⟩ : ∃ s', s = s' + 1 := ⟨s - 1, by omega⟩
    rw [h1, nI_pred, show s' + 1 - (b' + 1) + b' = s' by omega]) (fun s h1 h2 => by
    obtain ⟨s', rfl⟩ : ∃ s', s = s' + 1 := ⟨s - 1, by omega⟩
    rw [h1, nI_pred, show s' + 1 - (b' + 1) + b' = s' by omega]) ⟨_, _, _, _, cm⟩
  refine ⟨0, 0, g2, monS σ F n (nI b') (σ 271 F - 1) (σ 261 n - 1) (σ 273 7), ?_, fun k x => leave_m x hF hF12 m0 m1 ha q1 v1 nn q hb1, monS_at (by omega) (by omega) (by omega) (by omega), fun j => monS_at (by omega) (by omega) (by omega) (by omega), Or.inl ⟨rfl, rfl, ho, A + 1, iv, ?_, ?_, ?_⟩⟩
  · simp only [x328_0, x328_1, x328_4, x328_5, x328_6, x328_14, x328_15, x328_18, x328_19, x328_20, x328_23, x328_26, x328_27, x328_32, ka, v7, ne, if_false, X.k5, X.a5_3, X.k10, en, Option.bind_some, Option.toList_some, Option.toList_none, List.singleton_append, List.nil_append, i32_10]
  · rw [monS_at (by omega) (by omega) (by omega) (by omega)]; exact hF
  · rw [ph]; omega
  · rw [ph]; exact Nat.le_refl _
theorem op_leave {a : Nat} {op : Int32} (w : IV L h0 h σ A False) (hAP : A + PH σ ≤ 492000) (hF : σ 244 29 = nI (F + 1)) (hF12 : F < 12) (ho : ¬ op = 23) (ha : a < 8) (m0 : σ 244 45 = nI (8 * F)) (m1 : σ 244 46 = nI a) :
    ACM L h0 h σ A F op 328 [.ref 5, .ref (106 + 11 * F), .ref (109 + 11 * F + a), .retAddr 0] 1142 [.ref 244, .int 0, .retAddr 0, .retAddr 0, .retAddr 0, .retAddr 0] := by
  obtain ⟨⟨ca, ra, hs, sp, c⟩, gc, gb, gf, hh, hA⟩ := id w
  have X := c.fx
  have f0 : ix (σ 244 29) = F + 1 := by rw [hF]; exact ix_nI (by omega)
  have ka := c.rk hF12 ha
  have ta := c.reg (f := F) (by omega) ha
  have n6 := gb.cr
  by_cases q1 : agV (σ 269 (8 * F + a)) 2 = 0
  · rw [agV_2.mp q1] at ta
    obtain ⟨n, s, v1, v2, v3, v4, v5, v6, v7, v8⟩ := ta.iscel
    obtain ⟨y1, y2, y3, y4, y5, y6, y7, y8⟩ := c.cel v2
    have ne : ¬ ca n = 0 := by omega
    have nn : n < 6000 := by omega
    have hC : ix (σ 244 17) ≤ 6000 := by omega
    obtain ⟨hb, hb1, hb2, hb3⟩ := hh.1 F n hF12 nn
    have okf : okr (106 + 11 * F) = true := by unfold okr; simp; omega
    rcases c.find hF hF12 v2 with ⟨x, x1, x2, x3, x4, x5, x6, x7⟩ | ⟨nh, z0, zz⟩
    · have xz : ¬ x = 0 := by omega
      by_cases q : σ 272 (6000 * F + n) = 0
      · refine LKS.ac w hF ho (leave_no c gb hF hF12 ha m0 m1 q1 v1 nn v7 ne q ?_)
        simp only [x502_0, x502_1, x502_4, x502_5, x502_6, x502_9, x502_10, x502_13, x502_14, x502_17, x502_18, x502_21, x502_24, y3, x3, xz, if_false, x6, x4, okf, if_true, x5, q]
        exact x502_25 (Or.inl rfl)
      · have hz : ¬ hb = 0 := fun z => q (by rw [hb1, z]; rfl)
        obtain ⟨b', hb'⟩ : ∃ b', hb = b' + 1 := ⟨hb - 1, by omega⟩
        rw [hb'] at hb1
        exact leave_yes w hAP c hF hF12 ho ha m0 m1 q1 v1 nn v2 hC v7 ne y3 x1 x2 x3 x4 x5 x6 x7 q hb1 (by omega)
    · refine LKS.ac w hF ho (leave_no c gb hF hF12 ha m0 m1 q1 v1 nn v7 ne z0 ?_)
      rcases zz with zz | ⟨z1, z2, g', z3, z4⟩
      · simp only [x502_0, x502_1, x502_4, x502_5, x502_6, x502_24, y3, zz, if_true]
        exact x502_25 (Or.inl rfl)
      · have xz : ¬ hp_a h (ca n) 3 = 0 := by omega
        have ok2 : okr (106 + 11 * g') = true := by unfold okr; simp; omega
        have ne2 : ¬ 106 + 11 * g' = 106 + 11 * F := by omega
        simp only [x502_0, x502_1, x502_4, x502_5, x502_6, x502_9, x502_10, x502_13, x502_14, x502_24, y3, xz, if_false, z1, z4, okf, ok2, ne2]
        exact x502_25 (Or.inl rfl)
  · have q2 : ¬ σ 269 (8 * F + a) = 2 := fun z => q1 (agV_2.mpr z)
    refine LKS.ac w hF ho (LKS.ag _ 2 q1 c gb ?_ (fun k x => ?_))
    · simp [x328_0, x328_1, x328_4, x328_5, x328_6, x328_9, x328_10, x328_13, x328_14, x328_15, x328_18, x328_19, x328_20, x328_23, x328_26, x328_27, x328_30, x328_32, ka, ta.ncel q2, c.mis ka ta q2]
    · simp [x1142_0, x1142_1, x1142_2, x1142_5, x1142_6, x1142_9, x1142_10, x1142_11, x1142_14, x1142_15, x1142_16, x1142_17, x1142_18, x1142_21, x1142_24, x1142_25, x1142_26, x1142_29, x1142_30, x1142_31, x1142_33, x1142_34, x1142_37, x1142_38, x1142_41, x1142_44, x1142_46, x1142_47, x1142_48, x1142_49, x1142_50, x1142_53, x1142_55, x1142_56, x1142_57, x1142_60, x1142_61, x1142_64, x1142_65, x1142_67, x1142_68, x1142_71, x1142_74, x1142_76, x1142_77, x1142_78, x1142_79, x1142_80, x1142_81, x1142_83, x1142_84, x1142_85, x1142_86, x1142_89, x1142_91, x1142_92, x1142_93, x1142_95, x1142_96, x1142_97, x1142_98, x1142_101, x1142_102, x1142_103, x1142_104, x1142_106, x1142_107, x1142_108, x1142_109, x1142_112, x1142_114, x1142_115, x1142_116, x1142_117, x1142_120, x1142_121, x1142_124, x1142_125, x1142_126, x1142_127, x1142_128, hp_k_ms, hp_i_ms, x.k244, m1, sp_against x m0 hF12 ha, q1, agV_p]
end
