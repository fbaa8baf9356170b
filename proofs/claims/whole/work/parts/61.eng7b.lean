/-! THE ENGINE, 7b: row -/
section
variable {L : Nat} {h0 h : HP} {σ : SM} {ca ra : Nat → Nat} {hs : Nat → List Nat} {sp : List Nat} {f a b c : Nat}
theorem sp_paysRow {h1 : HP} {z : Int32} (X : FX L h) (X1 : FX L h1) (p1 : pX 602 0 [.ref 7, .long ((hp_i h 8 3).toInt64 + (hp_i h 8 4).toInt64 * z.toInt64), .retAddr 0] [] h = some (some (.int 1), h1)) : pX 604 0 [.ref 7, .int z] [] h = some (some (.int 1), hp_wi (hp_wi h1 9 4 (hp_i h1 9 4 + 1)) 9 5 (hp_i h1 9 5 + z)) := by
  have i3 : inb 3 5 = true := inb_lit (by decide) (by decide)
  have i4 : ix 3 = 3 := ix_lit (by decide)
  have i5 : inb 4 5 = true := inb_lit (by decide) (by decide)
  have i6 : ix 4 = 4 := ix_lit (by decide)
  have i7 : inb 4 9 = true := inb_lit (by decide) (by decide)
  have i8 : inb 5 9 = true := inb_lit (by decide) (by decide)
  have i9 : ix 5 = 5 := ix_lit (by decide)
  simp only [x604_0, x604_1, x604_2, x604_5, x604_6, x604_7, x604_8, x604_9, x604_12, x604_13, x604_14, x604_15, x604_16, x604_17, x604_18, x604_19, x604_22, x604_25, x604_26, x604_28, x604_31, x604_32, x604_33, x604_34, x604_35, x604_36, x604_37, x604_38, x604_41, x604_42, x604_43, x604_44, x604_45, x604_46, x604_47, x604_48, X.k7, X.a7_0, X.k8, X.l8, i3, i4, i5, i6, p1, Option.bind_some, Option.toList_some, Option.toList_none, List.singleton_append, List.nil_append, i32_10, if_false]
  simp only [x604_27, x604_28, x604_31, x604_32, x604_33, x604_34, x604_35, x604_36, X1.k7, X1.a7_1, X1.k9, X1.l9, i6, i7]
  simp only [x604_37, x604_38, x604_41, x604_42, x604_43, x604_44, x604_45, x604_46, x604_47, x604_48, hp_k_wi, hp_l_wi, hp_a_wi, hp_i_wi, X1.k7, X1.a7_1, X1.k9, X1.l9, i8, i9, Nat.reduceEqDiff, and_false, if_false, or_true]
theorem op_row {l : Nat} (w : CR L h0 h σ ca ra hs sp) (g : GB σ) (gp : GP σ) (hf : f < ix (σ 244 29)) (ha : a < 8) (hb : b < 8) (hl4 : l ≤ 4) (m0 : σ 244 45 = nI (8 * f)) (m1 : σ 244 46 = nI a) (m2 : σ 244 47 = nI b) (m3 : σ 244 48 = nI l) :
    LKS L h0 h σ 320 [.ref 5, .ref (109 + 11 * f + a), .ref (109 + 11 * f + b), .int (nI l), .retAddr 0, .retAddr 0] 1135 [.ref 244, .retAddr 0, .retAddr 0] := by
  have f12 : f < 12 := Nat.lt_of_lt_of_le hf w.hF
  have X := w.fx
  have ka := w.rk f12 ha
  have kb := w.rk f12 hb
  have tb := w.reg hf hb
  have mn := w.misN kb tb
  by_cases q2 : agV (σ 269 (8 * f + b)) 1 = 0
  · rw [agV_1.mp q2] at tb
    have b1 := tb.num.2
    generalize hVb : σ 270 (8 * f + b) = Vb at b1
    by_cases q3 : Vb < 0
    · have q4 : ¬ (0 : Int32) ≤ Vb := Int32.not_le.mpr q3
      refine LKS.kind 4 (by omega) (by omega) w g ?_ (fun k x => ?_)
      · simp [x320_0, x320_1, x320_4, x320_6, x320_8, x320_11, x320_13, x320_14, x320_15, x320_18, x320_20, x320_22, x320_25, x320_26, x320_27, x320_28, x320_31, x320_33, x320_36, x320_39, x320_41, x320_42, x320_43, x320_46, x320_47, x320_48, x320_50, x320_53, x320_56, x320_57, kb, mn, q2, b1, q4]; rfl
      · simp [x1135_0, x1135_1, x1135_2, x1135_5, x1135_6, x1135_9, x1135_10, x1135_11, x1135_14, x1135_15, x1135_16, x1135_17, x1135_18, x1135_21, x1135_24, x1135_25, x1135_26, x1135_29, x1135_30, x1135_31, x1135_32, x1135_33, x1135_36, x1135_37, x1135_38, x1135_39, x1135_40, x1135_41, x1135_42, x1135_45, x1135_46, x1135_47, x1135_48, x1135_49, x1135_50, x1135_53, x1135_56, x1135_58, x1135_59, x1135_60, x1135_63, x1135_64, x1135_65, x1135_66, x1135_67, x1135_68, x1135_69, x1135_70, x1135_73, x1135_74, x1135_75, x1135_76, x1135_77, x1135_78, x1135_79, x1135_80, x1135_83, x1135_84, x1135_87, x1135_88, x1135_91, x1135_92, x1135_93, x1135_96, x1135_97, x1135_100, x1135_101, x1135_104, x1135_105, x1135_106, x1135_109, x1135_110, x1135_113, x1135_114, x1135_115, x1135_116, x1135_117, x1135_120, x1135_121, x1135_122, x1135_125, x1135_126, x1135_127, x1135_130, x1135_131, x1135_132, x1135_135, x1135_136, x1135_137, x1135_138, x1135_141, x1135_142, x1135_143, x1135_146, x1135_147, hp_k_ms, hp_i_ms, x.k244, m2, sp_against x m0 f12 hb, q2, sp_value x m0 f12 hb, hVb, q4]; rfl
    · have q4 : (0 : Int32) ≤ Vb := Int32.not_lt.mp q3
      obtain ⟨z, hz, rfl⟩ := nI_of q3
      obtain ⟨P3, u1, u2, u3⟩ := gp 3 (by omega)
      obtain ⟨P4, v1, v2, v3⟩ := gp 4 (by omega)
      have fp3 : hp_i h 8 3 = σ 251 3 := w.fi _ _ _ _ (CMR.price (q := 3) (by omega))
      have fp4 : hp_i h 8 4 = σ 251 4 := w.fi _ _ _ _ (CMR.price (q := 4) (by omega))
      have i3 : inb 3 5 = true := inb_lit (by decide) (by decide)
      have i4 : ix 3 = 3 := ix_lit (by decide)
      have i5 : inb 4 5 = true := inb_lit (by decide) (by decide)
      have i6 : ix 4 = 4 := ix_lit (by decide)
      have i7 : inb 4 9 = true := inb_lit (by decide) (by decide)
      have i8 : inb 5 9 = true := inb_lit (by decide) (by decide)
      have i9 : ix 5 = 5 := ix_lit (by decide)
      have hzz : ((nI P3).toInt64 + (nI P4).toInt64 * (nI z).toInt64).toInt = ((P3 + P4 * z : Nat) : Int) := i64_3 (nI_toInt64 (by omega)) (nI_toInt64 (by omega)) (nI_toInt64 hz) (by omega) (by omega) hz
      have cm : (nI z).toInt64 * (nI P4).toInt64 = (nI P4).toInt64 * (nI z).toInt64 := Int64.mul_comm _ _
      have le1 : 1 * z ≤ P4 * z := Nat.mul_le_mul_right z v2
      rcases w.pay g hzz with ⟨p1, p2, p3⟩ | ⟨σ1, p1, p2, p3, p4, p5, p6, p7, p8⟩
      · refine LKS.stop w (SO.refl g) ?_ (fun k x => ?_)
        · have pr : pX 604 0 [.ref 7, .int (nI z)] [] h = some (some (.int 0), h) := by
            simp [x604_0, x604_1, x604_2, x604_5, x604_6, x604_7, x604_8, x604_9, x604_12, x604_13, x604_14, x604_15, x604_16, x604_17, x604_18, x604_19, x604_22, x604_25, x604_26, x604_27, x604_28, x604_31, x604_32, x604_33, x604_34, x604_35, x604_36, x604_37, x604_38, x604_41, x604_42, x604_43, x604_44, x604_45, x604_46, x604_47, x604_48, X.k7, X.a7_0, X.k8, X.l8, i3, i4, i5, i6, fp3, fp4, u1, v1, p1]
          simp [x320_0, x320_1, x320_4, x320_6, x320_8, x320_11, x320_13, x320_14, x320_15, x320_18, x320_20, x320_22, x320_25, x320_26, x320_27, x320_28, x320_31, x320_33, x320_36, x320_39, x320_41, x320_42, x320_43, x320_46, x320_47, x320_48, x320_50, x320_53, x320_56, x320_57, kb, mn, q2, b1, q4, X.k5, X.a5_2, X.k7, pr]
        · simp [x1135_0, x1135_1, x1135_2, x1135_5, x1135_6, x1135_9, x1135_10, x1135_11, x1135_14, x1135_15, x1135_16, x1135_17, x1135_18, x1135_21, x1135_24, x1135_25, x1135_26, x1135_29, x1135_30, x1135_31, x1135_32, x1135_33, x1135_36, x1135_37, x1135_38, x1135_39, x1135_40, x1135_41, x1135_42, x1135_45, x1135_46, x1135_47, x1135_48, x1135_49, x1135_50, x1135_53, x1135_56, x1135_58, x1135_59, x1135_60, x1135_63, x1135_64, x1135_65, x1135_66, x1135_67, x1135_68, x1135_69, x1135_70, x1135_73, x1135_74, x1135_75, x1135_76, x1135_77, x1135_78, x1135_79, x1135_80, x1135_83, x1135_84, x1135_87, x1135_88, x1135_91, x1135_92, x1135_93, x1135_96, x1135_97, x1135_100, x1135_101, x1135_104, x1135_105, x1135_106, x1135_109, x1135_110, x1135_113, x1135_114, x1135_115, x1135_116, x1135_117, x1135_120, x1135_121, x1135_122, x1135_125, x1135_126, x1135_127, x1135_130, x1135_131, x1135_132, x1135_135, x1135_136, x1135_137, x1135_138, x1135_141, x1135_142, x1135_143, x1135_146, x1135_147, hp_k_ms, hp_i_ms, hp_a_ms, hp_l_ms, x.k244, m2, sp_against x m0 f12 hb, q2, sp_value x m0 f12 hb, hVb, q4, x.a244_7, x.k251, x.l251, i3, i4, i5, i6, u1, v1, cm, p3 k x]
      · have s17 : σ1 244 17 = σ 244 17 := p8 _ _ (by omega) (by omega)
        have s23 : σ1 244 23 = σ 244 23 := p8 _ _ (by omega) (by omega)
        have s28 : σ1 244 28 = σ 244 28 := p8 _ _ (by omega) (by omega)
        have s29 : σ1 244 29 = σ 244 29 := p8 _ _ (by omega) (by omega)
        have X1 := p4.fx
        have c4 : hp_i (payH h (nI (P3 + P4 * z))) 9 4 = σ1 273 4 := p4.fi _ _ _ _ (CMR.counted (q := 4) (by omega))
        have c5 : hp_i (payH h (nI (P3 + P4 * z))) 9 5 = σ1 273 5 := p4.fi _ _ _ _ (CMR.counted (q := 5) (by omega))
        generalize hh1 : payH h (nI (P3 + P4 * z)) = h1 at p1 p4 X1 c4 c5
        have w2 := (p4.w (x := σ1 273 4 + 1) (CMR.counted (q := 4) (by omega)) (by unfold depS; omega)).w (x := σ1 273 5 + nI z) (CMR.counted (q := 5) (by omega)) (by unfold depS; omega)
        obtain ⟨_, _, ⟨H0, l01, l02⟩, ⟨C0, c01, c02⟩, ⟨R, r01, r02⟩, ⟨T, t01, t02⟩, g07⟩ := g
        rw [c01, r01, t01, ix_nI (by omega), ix_nI (by omega), ix_nI (by omega)] at g07
        have hR2 : R < 6000 := by omega
        have hTz : T + z ≤ 6000 := by omega
        generalize hσ2 : hp_u (hp_u σ1 273 4 (σ1 273 4 + 1)) 273 5 (σ1 273 5 + nI z) = σ2 at w2
        have t17 : σ2 244 17 = nI C0 := by rw [← hσ2, hu_cell (by omega), hu_cell (by omega), s17, c01]
        have t23 : σ2 244 23 = nI R := by rw [← hσ2, hu_cell (by omega), hu_cell (by omega), s23, r01]
        have t28 : σ2 244 28 = nI T := by rw [← hσ2, hu_cell (by omega), hu_cell (by omega), s28, t01]
        have t29 : σ2 244 29 = σ 244 29 := by rw [← hσ2, hu_cell (by omega), hu_cell (by omega), s29]
        have nc := w2.newRow t23 hR2 t28 hTz hl4
        generalize hh2 : hp_wi (hp_wi h1 9 4 (σ1 273 4 + 1)) 9 5 (σ1 273 5 + nI z) = h2 at w2 nc
        have so2 : SO σ σ2 := by rw [← hσ2]; exact (p5.u (by unfold hard; omega) (by omega)).u (by unfold hard; omega) (by omega)
        have l2 : ix (σ2 244 38) + (P3 + P4 * z) = ix (σ 244 38) := by rw [← hσ2, hu_cell (by omega), hu_cell (by omega)]; exact p6
        generalize hσ3 : hp_u (hp_u (hp_u (hp_u (hp_u σ2 262 R (nI l)) 263 R (nI T)) 264 R (nI z)) 244 28 (nI (T + z))) 244 23 (nI (R + 1)) = σ3 at nc
        have a3 : ∀ b j, ¬ (b = 262 ∨ b = 263 ∨ b = 264) → ¬ (b = 244 ∧ (j = 23 ∨ j = 28)) → σ3 b j = σ2 b j := by
          intro b j h1 h2
          rw [← hσ3, hu_at, if_neg (by omega), hu_at, if_neg (by omega), hu_at, if_neg (by omega), hu_at, if_neg (by omega), hu_at, if_neg (by omega)]
        have e23 : σ3 244 23 = nI (R + 1) := by rw [← hσ3, hu_same]
        have e28 : σ3 244 28 = nI (T + z) := by rw [← hσ3, hu_idx (by omega), hu_same]
        have e262 : σ3 262 R = nI l := by rw [← hσ3, hu_cell (by omega), hu_cell (by omega), hu_cell (by omega), hu_cell (by omega), hu_same]
        have e29' : ix (σ3 244 29) = ix (σ 244 29) := by rw [a3 _ _ (by omega) (by omega), t29]
        have ok : okT σ3 3 (nI R) := Or.inr (Or.inr (Or.inr ⟨rfl, R, rfl, by rw [e23, ix_nI (by omega)]; omega⟩))
        have fin := nc.regw (f := f) (r := a) (by rw [e29']; exact hf) ha ok
        have th : thK σ3 3 (nI R) = 5 + nI l := by
          unfold thK
          rw [ix_nI (by omega), e262]
          rfl
        rw [th, ix_nI (by omega)] at fin
        simp only [show ¬ (3 : Int32) = 1 by decide, show ¬ (3 : Int32) = 2 by decide, if_false, if_true] at fin
        have kn := nc.rk f12 ha
        have X2 := w2.fx
        have hn := X2.n
        have nz : ¬ hp_n h2 = 0 := by omega
        have so : SO σ σ3 := by
          refine ⟨fun b j hb => ?_, ?_, ?_, ?_⟩
          · rw [a3 b j (by unfold hard at hb; omega) (by unfold hard at hb; omega)]
            exact so2.1 b j hb
          · obtain ⟨a1, a2, a4, a5, a6, a7, a8⟩ := so2.2.1
            unfold GB
            rw [a3 244 41 (by omega) (by omega), a3 244 37 (by omega) (by omega), a3 244 38 (by omega) (by omega), a3 244 17 (by omega) (by omega), e23, e28]
            refine ⟨a1, a2, a4, a5, ⟨R + 1, rfl, by omega⟩, ⟨T + z, rfl, hTz⟩, ?_⟩
            rw [ix_nI (by omega), ix_nI (by omega), t17, ix_nI (by omega)]
            omega
          · rw [a3 244 38 (by omega) (by omega)]
            exact so2.2.2.1
          · rw [a3 244 17 (by omega) (by omega)]
            exact so2.2.2.2
        refine LKS.done fin (so.reg f12 ha) ?_ (fun k x => ?_)
        · have pr : pX 604 0 [.ref 7, .int (nI z)] [] h = some (some (.int 1), h2) := by
            have := sp_paysRow (z := nI z) X X1 (by rw [fp3, fp4, u1, v1]; exact p1)
            rw [c4, c5, hh2] at this
            exact this
          have km : hp_k (hp_mk h2 8 0 4) (hp_n h2) = 8 := by rw [hp_k_mk, if_pos rfl]
          have zn : (if nI z < 0 then (0 : Int32) else nI z) = nI z := if_neg q3
          have zi : ix (nI z) = z := ix_nI hz
          have zb : z ≤ 134217728 := by omega
          have zp : (0 : Int32) ≤ nI z := q4
          have n1 : ¬ hp_n h2 = hp_n h2 + 1 := by omega
          have n2 : ¬ hp_n h2 = hp_n h2 + 1 + 1 := by omega
          have n3 : ¬ hp_n h2 + 1 = hp_n h2 := by omega
          have n4 : ¬ hp_n h2 + 1 + 1 = hp_n h2 := by omega
          have z0 : ix 0 = 0 := ix_lit (by decide)
          have i0 : pX 700 0 [.ref (hp_n h2), .int (nI l), .int (nI z)] [] (hp_mk h2 8 0 4) = some (none, rowH h2 l z) := by
            unfold rowH
            by_cases q : l = 4
            · subst q
              have e4 : nI 4 = 4 := rfl
              simp only [x700_0, x700_1, x700_4, x700_5, x700_6, x700_9, x700_10, x700_11, x700_12, x700_15, x700_18, x700_19, x700_20, x700_21, x700_24, x700_25, x700_28, x700_29, x700_32, x700_34, x700_37, x700_38, x700_39, x700_40, x700_43, x700_44, x700_47, x700_50, x700_51, x700_54, x700_57, hp_n_mk, hp_n_wi, hp_n_wa, hp_k_wi, hp_k_wa, hp_k_mk, hp_i_wi, hp_i_wa, hp_i_mk, nz, e4, n1, n2, n3, n4, if_true, if_false, and_self, zn, zi, z0, zb, zp, Int32.le_refl, Nat.zero_le, not_false_eq_true, true_and, false_and]
            · have e4 : ¬ nI l = 4 := fun z => q ((nI_eq (a := l) (b := 4) (by omega) (by omega)).mp z)
              simp only [x700_0, x700_1, x700_4, x700_5, x700_6, x700_9, x700_10, x700_11, x700_12, x700_15, x700_18, x700_19, x700_20, x700_21, x700_24, x700_25, x700_28, x700_29, x700_32, x700_34, x700_37, x700_38, x700_39, x700_40, x700_43, x700_44, x700_47, x700_50, x700_51, x700_54, x700_57, hp_n_mk, hp_n_wi, hp_n_wa, hp_k_wi, hp_k_wa, hp_k_mk, hp_i_wi, hp_i_wa, hp_i_mk, nz, q, e4, n1, n2, n3, n4, if_true, if_false, and_self, zn, zi, z0, zb, zp, Int32.le_refl, Nat.zero_le, not_false_eq_true, true_and, false_and]
          have kc : hp_k (rowH h2 l z) (hp_n h2) = 8 := by rw [rowH_k, if_neg (by omega), if_neg (by omega), if_pos rfl]
          have bc := sp_row kn kc
          rw [rowH_i, if_neg (by omega), if_neg (by omega), if_neg (by omega), if_pos ⟨rfl, rfl⟩] at bc
          simp only [x320_0, x320_1, x320_4, x320_6, x320_8, x320_11, x320_13, x320_14, x320_15, x320_18, x320_20, x320_22, x320_25, x320_26, x320_27, x320_28, x320_31, x320_33, x320_36, x320_39, x320_41, x320_42, x320_43, x320_46, x320_47, x320_48, x320_50, x320_53, x320_56, x320_57, kb, mn, q2, b1, q4, X.k5, X.a5_2, X.k7, pr, i0, km, kn, bc, Option.bind_some, Option.toList_some, Option.toList_none, List.singleton_append, List.nil_append, i32_10, if_false, if_true, List.cons_append]
        · have s45 : σ3 244 45 = nI (8 * f) := by
            rw [a3 _ _ (by omega) (by omega), ← hσ2, hu_cell (by omega), hu_cell (by omega), p8 _ _ (by omega) (by omega)]; exact m0
          have s46 : σ3 244 46 = nI a := by
            rw [a3 _ _ (by omega) (by omega), ← hσ2, hu_cell (by omega), hu_cell (by omega), p8 _ _ (by omega) (by omega)]; exact m1
          have s48 : σ1 244 48 = nI l := by rw [p8 _ _ (by omega) (by omega)]; exact m3
          have s23' : σ1 244 23 = nI R := by rw [s23, r01]
          have s28' : σ1 244 28 = nI T := by rw [s28, t01]
          have d1 : inb (nI R) 6000 = true := inb_nI (by omega) (by omega)
          have d2 : ix (nI R) = R := ix_nI (by omega)
          have pe : nI (R + 1) - 1 = nI R := nI_pred R
          have mk := sp_makes (K := 3) (V := nI R) x s45 s46 f12 ha
          rw [← hσ3, ← hσ2] at mk ⊢
          simp [x1135_0, x1135_1, x1135_2, x1135_5, x1135_6, x1135_9, x1135_10, x1135_11, x1135_14, x1135_15, x1135_16, x1135_17, x1135_18, x1135_21, x1135_24, x1135_25, x1135_26, x1135_29, x1135_30, x1135_31, x1135_32, x1135_33, x1135_36, x1135_37, x1135_38, x1135_39, x1135_40, x1135_41, x1135_42, x1135_45, x1135_46, x1135_47, x1135_48, x1135_49, x1135_50, x1135_53, x1135_56, x1135_58, x1135_59, x1135_60, x1135_63, x1135_64, x1135_65, x1135_66, x1135_67, x1135_68, x1135_69, x1135_70, x1135_73, x1135_74, x1135_75, x1135_76, x1135_77, x1135_78, x1135_79, x1135_80, x1135_83, x1135_84, x1135_87, x1135_88, x1135_91, x1135_92, x1135_93, x1135_96, x1135_97, x1135_100, x1135_101, x1135_104, x1135_105, x1135_106, x1135_109, x1135_110, x1135_113, x1135_114, x1135_115, x1135_116, x1135_117, x1135_120, x1135_121, x1135_122, x1135_125, x1135_126, x1135_127, x1135_130, x1135_131, x1135_132, x1135_135, x1135_136, x1135_137, x1135_138, x1135_141, x1135_142, x1135_143, x1135_146, x1135_147, hp_k_ms, hp_a_ms, hp_l_ms, hp_i_ms, ms_w, hu_at, x.k244, m2, sp_against x m0 f12 hb, q2, sp_value x m0 f12 hb, hVb, q4, x.a244_7, x.k251, x.l251, i3, i4, i5, i6, u1, v1, cm, p3 k x, x.a244_39, x.k273, x.l273, i7, i8, i9, x.a244_24, x.k262, x.l262, x.a244_25, x.k263, x.l263, x.a244_26, x.k264, x.l264, s23', s28', s48, d1, d2, nI_1, nI_add, pe, mk]
  · refine LKS.ag _ 1 q2 w g ?_ (fun k x => ?_)
    · simp [x320_0, x320_1, x320_4, x320_6, x320_8, x320_11, x320_13, x320_14, x320_15, x320_18, x320_20, x320_22, x320_25, x320_26, x320_27, x320_28, x320_31, x320_33, x320_36, x320_39, x320_41, x320_42, x320_43, x320_46, x320_47, x320_48, x320_50, x320_53, x320_56, x320_57, kb, mn, q2]
    · simp [x1135_0, x1135_1, x1135_2, x1135_5, x1135_6, x1135_9, x1135_10, x1135_11, x1135_14, x1135_15, x1135_16, x1135_17, x1135_18, x1135_21, x1135_24, x1135_25, x1135_26, x1135_29, x1135_30, x1135_31, x1135_32, x1135_33, x1135_36, x1135_37, x1135_38, x1135_39, x1135_40, x1135_41, x1135_42, x1135_45, x1135_46, x1135_47, x1135_48, x1135_49, x1135_50, x1135_53, x1135_56, x1135_58, x1135_59, x1135_60, x1135_63, x1135_64, x1135_65, x1135_66, x1135_67, x1135_68, x1135_69, x1135_70, x1135_73, x1135_74, x1135_75, x1135_76, x1135_77, x1135_78, x1135_79, x1135_80, x1135_83, x1135_84, x1135_87, x1135_88, x1135_91, x1135_92, x1135_93, x1135_96, x1135_97, x1135_100, x1135_101, x1135_104, x1135_105, x1135_106, x1135_109, x1135_110, x1135_113, x1135_114, x1135_115, x1135_116, x1135_117, x1135_120, x1135_121, x1135_122, x1135_125, x1135_126, x1135_127, x1135_130, x1135_131, x1135_132, x1135_135, x1135_136, x1135_137, x1135_138, x1135_141, x1135_142, x1135_143, x1135_146, x1135_147, hp_k_ms, hp_i_ms, x.k244, m2, sp_against x m0 f12 hb, q2, agV_p]
end
