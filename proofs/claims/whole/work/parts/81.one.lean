/-! THE ENGINE, 25: one act -/
/-- what one act brings -/
def DN (L : Nat) (h0 : HP) (A B : Nat) (u v : Int32) (h' : HP) (σ' : SM) : Prop := ∃ A', IV L h0 h' σ' A' False ∧ A' + PH σ' ≤ A + B ∧ σ' 244 8 = u ∧ ((v = 1 ∧ ¬ σ' 244 29 = nI 0 ∧ PH σ' + 1 ≤ B) ∨ (¬ v = 1 ∧ σ' 244 29 = nI 0 ∧ σ' 244 44 = v))
section
variable {L : Nat} {h0 h : HP} {σ : SM} {A F : Nat}
theorem settle0 {k : HP} (x : FX L k) (hF : σ 244 29 = nI 0) : pX 1151 0 [.ref 244] [] (mset k σ) = some (none, mset k σ) := by
  simp only [x1151_0, x1151_1, x1151_4, x1151_46, hp_k_ms, x.k244, ms_r (show 244 ≤ 244 ∧ 244 < 276 by omega), hF, show nI 0 ≤ 0 from Int32.le_refl 0, if_true]
/-- behind the act: frames that are over -/
theorem one_settle {G : Nat} {l1 l2 m1 m2 m3 : Value} {B A0 : Nat} (w : IV L h0 h σ A True) (hG : σ 244 29 = nI G) (h1 : 0 < G) (h2 : G ≤ 12) (hB : PH σ + 1 ≤ B) (hA : A + PH σ ≤ A0 + B) : ∃ v h' σ', pX 307 59 [.ref 5, l1, l2] [] h = some (some (.int v), h') ∧ (∀ k, FX L k → pX 1152 174 [.ref 244, m1, m2, m3] [] (mset k σ) = some (none, mset k σ')) ∧ DN L h0 A0 B (σ 244 8) v h' σ' := by
  obtain ⟨v, h', σ', r1, r2, r3, r4, r5, r6⟩ := op_settle w hG h1 h2
  obtain ⟨ca, ra, hs, sp, c⟩ := w.1
  refine ⟨v, h', σ', ?_, fun k x => ?_, A, r3, by omega, r5, ?_⟩
  · simp only [x307_59, x307_60, x307_63, c.fx.k5, r1, Option.bind_some, Option.toList_some, Option.toList_none, List.singleton_append, List.nil_append]
  · simp only [x1152_174, x1152_175, x1152_178, hp_k_ms, x.k244, r2 k x, Option.bind_some, Option.toList_some, Option.toList_none, List.singleton_append, List.nil_append]
  · rcases r6 with ⟨q1, q2⟩ | ⟨q1, q2, q3⟩
    · exact Or.inl ⟨q1, q2, by omega⟩
    · exact Or.inr ⟨by rw [q1]; decide, q2, by rw [q3, q1]⟩
theorem goOn_pre {r n : Nat} {k : HP} (x : FX L k) (hF : σ 244 29 = nI (F + 1)) (hF12 : F < 12) (t1 : σ 266 F = nI r) (hr : r < 10) (t3 : σ 267 F = nI n) (hn : n < 40) : pX 1152 0 [.ref 244, .retAddr 0, .retAddr 0, .retAddr 0] [] (mset k σ) = pX 1152 71 [.ref 244, .int (nI F), .int (nI (160 * r + 4 * n)), .retAddr 0] [] (mset k (hp_u (hp_u (hp_u (hp_u σ 244 45 (nI (8 * F))) 244 46 (σ 247 (160 * r + 4 * n + 1))) 244 47 (σ 247 (160 * r + 4 * n + 2))) 244 48 (σ 247 (160 * r + 4 * n + 3)))) := by
  have n8 : nI (F + 1) - 1 = nI F := nI_pred F
  have b3 : inb (nI F) 12 = true := inb_nI (by omega) (by omega)
  have b4 : ix (nI F) = F := ix_nI (by omega)
  have e1 : (160 : Int32) * nI r + 4 * nI n = nI (160 * r + 4 * n) := by rw [show (160 : Int32) = nI 160 from rfl, show (4 : Int32) = nI 4 from rfl, nI_mul, nI_mul, nI_add]
  have e2 : (8 : Int32) * nI F = nI (8 * F) := by rw [show (8 : Int32) = nI 8 from rfl, nI_mul]
  have a1 : nI (160 * r + 4 * n) + 1 = nI (160 * r + 4 * n + 1) := nI_1 _
  have a2 : nI (160 * r + 4 * n) + 2 = nI (160 * r + 4 * n + 2) := nI_add _ 2
  have a3 : nI (160 * r + 4 * n) + 3 = nI (160 * r + 4 * n + 3) := nI_add _ 3
  have i1 : inb (nI (160 * r + 4 * n + 1)) 1600 = true := inb_nI (by omega) (by omega)
  have j1 : ix (nI (160 * r + 4 * n + 1)) = 160 * r + 4 * n + 1 := ix_nI (by omega)
  have i2 : inb (nI (160 * r + 4 * n + 2)) 1600 = true := inb_nI (by omega) (by omega)
  have j2 : ix (nI (160 * r + 4 * n + 2)) = 160 * r + 4 * n + 2 := ix_nI (by omega)
  have i3 : inb (nI (160 * r + 4 * n + 3)) 1600 = true := inb_nI (by omega) (by omega)
  have j3 : ix (nI (160 * r + 4 * n + 3)) = 160 * r + 4 * n + 3 := ix_nI (by omega)
  simp only [x1152_0, x1152_1, x1152_4, x1152_5, x1152_6, x1152_7, x1152_10, x1152_11, x1152_14, x1152_15, x1152_16, x1152_17, x1152_18, x1152_19, x1152_22, x1152_23, x1152_24, x1152_25, x1152_26, x1152_27, x1152_28, x1152_30, x1152_31, x1152_32, x1152_35, x1152_36, x1152_37, x1152_40, x1152_41, x1152_42, x1152_43, x1152_44, x1152_47, x1152_48, x1152_49, x1152_52, x1152_53, x1152_54, x1152_55, x1152_56, x1152_59, x1152_60, x1152_61, x1152_64, x1152_65, x1152_66, x1152_67, x1152_68, hp_k_ms, hp_a_ms, hp_l_ms, x.k244, x.a244_30, x.k266, x.l266, x.a244_31, x.k267, x.l267, x.a244_3, x.k247, x.l247, ms_r (show 244 ≤ 244 ∧ 244 < 276 by omega), ms_r (show 244 ≤ 266 ∧ 266 < 276 by omega), ms_r (show 244 ≤ 267 ∧ 267 < 276 by omega), ms_r (show 244 ≤ 247 ∧ 247 < 276 by omega), ms_w (show 244 ≤ 244 ∧ 244 < 276 by omega), hF, n8, b3, b4, t1, t3, e1, e2, a1, a2, a3, i1, j1, i2, j2, i3, j3, hu_cell (show ¬ 247 = 244 by omega)]
/-- GIVE -/
theorem one_give {r n : Nat} (H : AH L h0 h σ A F r n 24) : ∃ v h' σ', pX 307 0 [.ref 5, .retAddr 0, .retAddr 0] [] h = some (some (.int v), h') ∧ (∀ k, FX L k → pX 1152 71 [.ref 244, .int (nI F), .int (nI (160 * r + 4 * n)), .retAddr 0] [] (mset k σ) = some (none, mset k σ')) ∧ DN L h0 A (PH σ) (σ 244 8) v h' σ' := by
  have okA := H.ok
  obtain ⟨a, ea, la⟩ := okA.2.1 (by decide)
  have a8 : a < 8 := by omega
  have na : σ 244 46 &&& 7 = nI a := by rw [ea]; exact and7_nI a8
  obtain ⟨b7, nb, b8⟩ := and7 (σ 244 47)
  obtain ⟨c7, nc, c8⟩ := and7 (σ 244 48)
  have pre := perf_pre H na a8 nb b8 nc c8
  obtain ⟨iv, hAP, hF, hF12, t1, hr, t3, hn, h40, ho, m0, m1, m2, m3⟩ := id H
  obtain ⟨⟨ca, ra, hs, sp, cr⟩, gc, gb, gf, hh, hA⟩ := id iv
  have X := cr.fx
  have f0 : ix (σ 244 29) = F + 1 := by rw [hF]; exact ix_nI (by omega)
  have lf : F < ix (σ 244 29) := by omega
  have fF : hp_i h 5 7 = nI (F + 1) := (cr.fi _ _ _ _ CMR.frames).trans hF
  have ka := cr.rk hF12 a8
  have kg := X.fgk F hF12
  obtain ⟨z1, z2, z3, z4, z5⟩ := cr.at_ (SLP.reg lf a8)
  generalize hK : σ 269 (8 * F + a) = K at z1 z2 z3 z4 z5
  generalize hV : σ 270 (8 * F + a) = V at z1 z2 z3 z4 z5
  have c1 := cr.slot (a := 108 + 11 * F) (b := 269) (j := 96 + F) (c := 270) (i := 96 + F) (K := K) (V := V) (Or.inr (Or.inr (Or.inr (Or.inl ⟨F, lf, rfl, rfl, rfl, rfl, rfl⟩)))) z5
  rw [← z1, ← z2, ← z3, ← z4] at c1
  have cp := sp_copy (h := h) (a := 108 + 11 * F) (b := 109 + 11 * F + a) kg ka
  obtain ⟨ac, ac1, ac2⟩ := (gc.2.1 r hr).2.1
  have hn' : n < ac := by rw [ac1, ix_nI (by omega)] at hn; exact hn
  generalize hg1 : slSet h (108 + 11 * F) (hp_i h (109 + 11 * F + a) 0) (hp_i h (109 + 11 * F + a) 1) (hp_a h (109 + 11 * F + a) 2) (hp_a h (109 + 11 * F + a) 3) = g1 at c1 cp
  have X1 := c1.fx
  have c2 := c1.at (f := F) (V := nI ac) (by rw [hu_cell (by omega), hu_cell (by omega)]; exact lf)
  generalize hσ1 : hp_u (hp_u (hp_u σ 269 (96 + F) K) 270 (96 + F) V) 267 F (nI ac) = σ1 at c2
  have hv : ∀ b j, ¬ (b = 267 ∧ j = F) → ¬ ((b = 269 ∨ b = 270) ∧ j = 96 + F) → σ1 b j = σ b j := by
    intro b j q1 q2
    rw [← hσ1, hu_at, if_neg q1, hu_at, if_neg (by omega), hu_at, if_neg (by omega)]
  have k1 : σ1 269 (96 + F) = K := by rw [← hσ1, hu_cell (by omega), hu_cell (by omega), hu_same]
  have v1 : σ1 270 (96 + F) = V := by rw [← hσ1, hu_cell (by omega), hu_same]
  obtain ⟨g3, σ3, r1, r2, r3, r4, r5, r6, r7⟩ := give_step (i := 0) (v := .retAddr 0) c2 hv k1 v1 gc gb gf hh hA hF hF12
  obtain ⟨h', σ', i', v', s1, s2, s3, s4, s5, s6⟩ := settle_loop F 1 g3 σ3 (.ref (108 + 11 * F)) r3 r4 (by omega)
  obtain ⟨ca', ra', hs', sp', c'⟩ := s3.1
  obtain ⟨G, G1, G2, G3⟩ := s3.2.2.2.1.fr
  have X' := c'.fx
  have fG : hp_i h' 5 7 = nI G := (c'.fi _ _ _ _ CMR.frames).trans G1
  have X2 := c2.fx
  have f2 : ix (σ1 244 29) = F + 1 := by rw [hv _ _ (by omega) (by omega)]; exact f0
  have fF2 : hp_i (hp_wi g1 (106 + 11 * F) 4 (nI ac)) 5 7 = nI (F + 1) := by rw [c2.fi _ _ _ _ CMR.frames, hv _ _ (by omega) (by omega)]; exact hF
  have bh := c2.behind (f := F) (r := r) (m := ac) (a := ac) (by omega) (by rw [hv _ _ (by omega) (by omega)]; exact t1) hr (by rw [← hσ1, hu_same]) (by rw [hv _ _ (by omega) (by omega)]; exact ac1) (by omega) (by omega)
  rw [if_neg (by omega)] at bh
  have q2 : ¬ nI (F + 1) ≤ 0 := nI_nle (by omega) (by omega)
  have en : ∃ w : Int32, pX 310 0 [.ref 5, .retAddr 0, .retAddr 0] [] (hp_wi g1 (106 + 11 * F) 4 (nI ac)) = some (some (.int w), h') ∧ ((w = 1 ∧ ¬ σ' 244 29 = nI 0) ∨ (w = 0 ∧ σ' 244 29 = nI 0)) := by
    have st : pX 310 0 [.ref 5, .retAddr 0, .retAddr 0] [] (hp_wi g1 (106 + 11 * F) 4 (nI ac)) = pX 310 79 [.ref 5, i', v'] [] h' := by
      rw [← s1, ← r1]
      simp only [x310_0, x310_1, x310_2, x310_3, x310_5, x310_8, x310_9, x310_12, x310_15, x310_16, x310_19, x310_22, show ¬ (12 : Int32) ≤ 0 by decide, q2, if_false, X2.k5, fF2, sp_top X2 fF2 hF12, X2.fk F hF12, bh, Option.bind_some, Option.toList_some, Option.toList_none, List.singleton_append, List.nil_append, i32_10]
      rfl
    rcases Nat.eq_zero_or_pos G with z | z
    · subst z
      refine ⟨0, ?_, Or.inr ⟨rfl, G1⟩⟩
      rw [st]
      simp only [x310_79, x310_80, x310_83, x310_90, x310_91, X'.k5, fG, show nI 0 ≤ 0 from Int32.le_refl 0, if_true]
    · refine ⟨1, ?_, Or.inl ⟨rfl, fun e => ?_⟩⟩
      · rw [st]
        simp only [x310_79, x310_80, x310_83, x310_86, x310_87, x310_91, X'.k5, fG, nI_nle z (by omega), if_false]
      · rw [G1] at e
        have := (nI_eq (by omega) (by omega)).mp e
        omega
  obtain ⟨wv, en1, en2⟩ := en
  have gv : pX 104 0 [.ref (106 + 11 * F), .ref (109 + 11 * F + a)] [] h = some (none, hp_wi g1 (106 + 11 * F) 4 (nI ac)) := by
    have fr1 := (c1.frm (f := F) (by rw [hu_cell (by omega), hu_cell (by omega)]; exact lf)).1
    rw [hu_cell (by omega), hu_cell (by omega), t1, ix_nI (by omega)] at fr1
    have fac : hp_i g1 (16 + 9 * r) 2 = nI ac := by
      rw [c1.fi _ _ _ _ (CMR.acts hr), hu_cell (by omega), hu_cell (by omega)]; exact ac1
    simp only [x104_0, x104_1, x104_4, x104_5, x104_8, x104_9, x104_10, x104_13, x104_16, x104_19, X.fk F hF12, X.fp1 F hF12, kg, cp, Option.bind_some, Option.toList_some, Option.toList_none, List.singleton_append, List.nil_append, X1.fk F hF12, fr1, X1.mk r hr, fac]
  have pf : pX 315 0 [.ref 5, .ref (106 + 11 * F), .retAddr 0, .retAddr 0, .retAddr 0, .retAddr 0, .retAddr 0, .retAddr 0, .retAddr 0] [] h = some (some (.int (-1)), hp_wi g1 (106 + 11 * F) 4 (nI ac)) := by
    rw [pre]
    simp only [x315_78_24, x315_416, x315_417, x315_419, x315_422, x315_423, X.fk F hF12, gv, Option.bind_some, Option.toList_some, Option.toList_none, List.singleton_append, List.nil_append]
  refine ⟨wv, h', σ', ?_, fun k x => ?_, A, s3, by omega, s5.trans r7, ?_⟩
  · simp only [x307_0, x307_1, x307_4, x307_5, x307_6, x307_7, x307_10, x307_11, x307_12, x307_24, x307_25, x307_38, x307_39, x307_41, x307_49, x307_50, x307_52, x307_59, x307_60, x307_63, X.k5, sp_top X fF hF12, pf, Option.bind_some, Option.toList_some, Option.toList_none, List.singleton_append, List.nil_append, show (-1 : Int32) ≤ 0 by decide, show ¬ (-1 : Int32) = 0 by decide, show ¬ (-1 : Int32) = -9 by decide, show (-10 : Int32) ≤ -1 by decide, if_true, if_false, X2.k5, en1]
  · have i1 : inb (nI (160 * r + 4 * n)) 1600 = true := inb_nI (by omega) (by omega)
    have j1 : ix (nI (160 * r + 4 * n)) = 160 * r + 4 * n := ix_nI (by omega)
    have d1 : inb (nI (8 * F + a)) 96 = true := inb_nI (by omega) (by omega)
    have d2 : ix (nI (8 * F + a)) = 8 * F + a := ix_nI (by omega)
    simp only [x1152_71, x1152_72, x1152_75, x1152_76, x1152_77, x1152_79, x1152_82, x1152_83, x1152_84, x1152_87, x1152_88, x1152_91, x1152_92, x1152_95, x1152_96, x1152_97, x1152_98, x1152_101, x1152_102, x1152_105, x1152_106, x1152_109, x1152_110, x1152_111, x1152_114, x1152_174, x1152_175, x1152_178, hp_k_ms, hp_a_ms, hp_l_ms, x.k244, x.a244_3, x.k247, x.l247, x.a244_33, x.k269, x.l269, x.a244_34, x.k270, x.l270, ms_r (show 244 ≤ 244 ∧ 244 < 276 by omega), ms_r (show 244 ≤ 247 ∧ 247 < 276 by omega), ms_r (show 244 ≤ 269 ∧ 269 < 276 by omega), ms_r (show 244 ≤ 270 ∧ 270 < 276 by omega), i1, j1, ho, if_true, m0, ea, nI_add, d1, d2, hK, hV, r2 k x, s2 k x, Option.bind_some, Option.toList_some, Option.toList_none, List.singleton_append, List.nil_append]
  · rw [t3, ix_nI (by omega)] at r6
    rcases en2 with ⟨e1, e2⟩ | ⟨e1, e2⟩
    · exact Or.inl ⟨e1, e2, by omega⟩
    · refine Or.inr ⟨by rw [e1]; decide, e2, ?_⟩
      rcases s6 e2 with ⟨y1, y2⟩ | y
      · rw [y2, r5 y1, e1]
      · rw [y, e1]
end
