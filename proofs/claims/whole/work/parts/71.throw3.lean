/-! THE ENGINE, 16: what is thrown -/
section
variable {L : Nat} {h0 h : HP} {σ : SM} {A : Nat}
/-- what comes of a throw -/
def THR (L : Nat) (h0 : HP) (A B : Nat) (u : Int32) (kd : Nat) (v : Int32) (h' : HP) (σ' : SM) : Prop := σ' 244 8 = u ∧
  ((v = -1 ∧ IV L h0 h' σ' A True ∧ (∃ G : Nat, σ' 244 29 = nI G ∧ 0 < G ∧ G ≤ 12) ∧ PH σ' + 1 ≤ B) ∨
   (v = -9 ∧ FX L h' ∧ ∃ h'', pX 313 0 [.ref 5, .retAddr 0] [] h' = some (some (.int (-9)), h'') ∧ IV L h0 h'' σ' A False ∧ σ' 244 29 = nI 0 ∧ σ' 244 44 = -9 ∧ PH σ' ≤ B) ∨
   (v = -10 - nI kd ∧ IV L h0 h' σ' A False ∧ σ' 244 29 = nI 0 ∧ σ' 244 44 = v ∧ PH σ' ≤ B))
theorem throw_loop {kd : Nat} (k1 : 1 ≤ kd) (k9 : kd ≤ 9) : ∀ (F i : Nat) (h : HP) (σ : SM) (l3 l4 m2 m3 m4 : Value), IV L h0 h σ A False → σ 244 29 = nI F → i + F ≤ 12 → σ 244 15 = 0 → (kd = 9 → σ 244 42 = hp_i h 5 9) → ∃ v h' σ', pX 311 2 [.ref 5, .int (nI kd), .int (nI i), l3, l4] [] h = some (some (.int v), h') ∧ (∀ k, FX L k → pX 1128 0 [.ref 244, .int (nI kd), m2, m3, m4] [] (mset k σ) = some (none, mset k σ')) ∧ THR L h0 A (PH σ) (σ 244 8) kd v h' σ' := by
  intro F
  induction F with
  | zero =>
    intro i h σ l3 l4 m2 m3 m4 w hF hi h15 h59
    obtain ⟨⟨ca, ra, hs, sp, c⟩, gc, gb, gf, hh, hA⟩ := w
    have X := c.fx
    have fF : hp_i h 5 7 = nI 0 := (c.fi _ _ _ _ CMR.frames).trans hF
    have fT : hp_i h 5 14 = σ 275 3 := c.fi _ _ _ _ (CMR.told (t := 3) (by omega) (by omega))
    have c2 := (c.res0 h15).w (CMR.told (t := 3) (by omega) (by omega)) (x := σ 275 3 + 1) (by unfold depS; omega)
    have c3 := c2.agree (σ' := hp_u (hp_u (hp_u (hp_u σ 244 15 0) 244 16 0) 275 3 (σ 275 3 + 1)) 244 44 (-10 - nI kd)) (fun b j q1 q2 q3 => by
      rw [hu_at, if_neg]
      intro z
      exact q3 (by unfold dead; omega))
    generalize hσ3 : hp_u (hp_u (hp_u (hp_u σ 244 15 0) 244 16 0) 275 3 (σ 275 3 + 1)) 244 44 (-10 - nI kd) = σ3 at c3
    have k3 : ∀ b j, ¬ (b = 244 ∧ (j = 15 ∨ j = 16 ∨ j = 44)) → ¬ b = 275 → σ3 b j = σ b j := by
      intro b j h1 h2
      rw [← hσ3, hu_at, if_neg (by omega), hu_at, if_neg (by omega), hu_at, if_neg (by omega), hu_at, if_neg (by omega)]
    have i3 : inb 3 5 = true := inb_lit (by decide) (by decide)
    have j3 : ix 3 = 3 := ix_lit (by decide)
    have s29 : σ3 244 29 = nI 0 := by rw [k3 _ _ (by omega) (by omega)]; exact hF
    refine ⟨-10 - nI kd, _, σ3, ?_, fun k x => ?_, k3 _ _ (by omega) (by omega), Or.inr (Or.inr ⟨rfl, ⟨⟨_, _, _, _, c3⟩, ?_, ?_, ?_, ?_, hA⟩, s29, ?_, ?_⟩)⟩
    · have st : pX 311 2 [.ref 5, .int (nI kd), .int (nI i), l3, l4] [] h = pX 311 60 [.ref 5, .int (nI kd), .int (nI i), l3, l4] [] h := by
        by_cases q : (12 : Int32) ≤ nI i
        · simp only [x311_2, x311_3, x311_5, q, if_true]
        · simp only [x311_2, x311_3, x311_5, x311_8, x311_9, x311_12, q, if_false, X.k5, fF, show nI 0 ≤ 0 from Int32.le_refl 0, if_true]
      rw [st]
      simp only [x311_60, x311_61, x311_62, x311_65, x311_66, x311_67, x311_70, x311_72, x311_73, x311_74, X.k5, fT]
    · rw [← hσ3]
      simp only [x1128_0, x1128_1, x1128_4, x1128_217, x1128_218, x1128_219, x1128_222, x1128_223, x1128_224, x1128_227, x1128_228, x1128_231, x1128_232, x1128_233, x1128_234, x1128_235, x1128_236, x1128_237, x1128_238, x1128_240, x1128_241, x1128_242, x1128_245, hp_k_ms, hp_a_ms, hp_l_ms, x.k244, x.a244_43, x.k275, x.l275, ms_r (show 244 ≤ 244 ∧ 244 < 276 by omega), ms_r (show 244 ≤ 275 ∧ 275 < 276 by omega), ms_w (show 244 ≤ 244 ∧ 244 < 276 by omega), ms_w (show 244 ≤ 275 ∧ 275 < 276 by omega), hF, show nI 0 ≤ 0 from Int32.le_refl 0, if_true, i3, j3, hu_cell (show ¬ 275 = 244 by omega)]
    · exact gc.congr (fun b j h => k3 b j (by omega) (by omega))
    · exact gb.congr (fun j h => k3 244 j (by omega) (by omega))
    · obtain ⟨a1, a2, a3, a4, a5⟩ := gf
      refine ⟨⟨0, s29, by omega⟩, fun f hf => ?_, fun f h0 hf => ?_, fun hf => ?_, fun f hf => ?_⟩
      · rw [s29, ix_nI (by omega)] at hf; exact absurd hf (by omega)
      · rw [s29, ix_nI (by omega)] at hf; exact absurd hf (by omega)
      · rw [s29, ix_nI (by omega)] at hf; exact absurd hf (by omega)
      · rw [k3 _ _ (by omega) (by omega), k3 _ _ (by omega) (by omega)]
        exact a5 f hf
    · exact hh.congr (fun b j h => k3 b j (by omega) (by omega))
    · rw [← hσ3, hu_same]
    · exact PH.congr (k3 _ _ (by omega) (by omega)) (fun j => k3 _ _ (by omega) (by omega)) (by rw [k3 _ _ (by omega) (by omega)]; exact Nat.le_refl _)
  | succ F ih =>
    intro i h σ l3 l4 m2 m3 m4 w hF hi h15 h59
    have hF12 : F < 12 := by omega
    obtain ⟨r, m, a, t1, t2, t3, t4, t5, t6, t7, t8⟩ := w.top hF hF12
    obtain ⟨⟨ca, ra, hs, sp, c⟩, gc, gb, gf, hh, hA⟩ := id w
    have X := c.fx
    obtain ⟨H, hH, hH6⟩ := (gc.2.1 r t2).2.2
    have fF : hp_i h 5 7 = nI (F + 1) := (c.fi _ _ _ _ CMR.frames).trans hF
    have q : ¬ (12 : Int32) ≤ nI i := nI_nle2 (a := 12) (by omega) (by omega)
    have q2 : ¬ nI (F + 1) ≤ 0 := nI_nle (by omega) (by omega)
    have n8 : nI (F + 1) - 1 = nI F := nI_pred F
    have b3 : inb (nI F) 12 = true := inb_nI (by omega) (by omega)
    have b4 : ix (nI F) = F := ix_nI (by omega)
    have e24 : (24 : Int32) * nI r = nI (24 * r + 4 * 0) := by rw [show (24 : Int32) = nI 24 from rfl, nI_mul]; rfl
    obtain ⟨fr1, fr2⟩ := c.frm (f := F) (by omega)
    rw [t1, ix_nI (by omega)] at fr1
    rw [t3] at fr2
    have fst : ∀ x, pX 404 2 [.ref (16 + 9 * r), .int (nI m), .int (nI kd), .int (nI 0)] [] h = some (some (.int x), h) → pX 311 2 [.ref 5, .int (nI kd), .int (nI i), l3, l4] [] h = pX 311 38 [.ref 5, .int (nI kd), .int (nI i), .ref (106 + 11 * F), .int x] [.int (-5), .int x] h := by
      intro x hx
      have hx0 : pX 404 0 [.ref (16 + 9 * r), .int (nI m), .int (nI kd), .retAddr 0] [] h = some (some (.int x), h) := by
        rw [x404_0, x404_1]
        exact hx
      simp only [x311_2, x311_3, x311_5, x311_8, x311_9, x311_12, x311_15, x311_16, x311_19, x311_20, x311_21, x311_24, x311_25, x311_28, x311_29, x311_32, x311_34, x311_36, q, q2, if_false, X.k5, fF, sp_top X fF hF12, X.fk F hF12, fr1, fr2, X.mk r t2, hx0, Option.bind_some, Option.toList_some, Option.toList_none, List.singleton_append, List.nil_append]
    have mst : ∀ k, FX L k → pX 1128 0 [.ref 244, .int (nI kd), m2, m3, m4] [] (mset k σ) = pX 1128 27 [.ref 244, .int (nI kd), .int (nI F), .int (nI r), .int (nI (24 * r + 4 * 0))] [] (mset k σ) := by
      intro k x
      simp only [x1128_0, x1128_1, x1128_4, x1128_7, x1128_8, x1128_11, x1128_12, x1128_13, x1128_14, x1128_15, x1128_18, x1128_19, x1128_20, x1128_21, x1128_23, x1128_24, x1128_25, hp_k_ms, hp_a_ms, hp_l_ms, x.k244, x.a244_30, x.k266, x.l266, ms_r (show 244 ≤ 244 ∧ 244 < 276 by omega), ms_r (show 244 ≤ 266 ∧ 266 < 276 by omega), hF, q2, if_false, n8, b3, b4, t1, e24]
    rcases find_loop (kd := nI kd) c t2 hF12 hH hH6 t3 H 0 (by omega) with ⟨q', y1, y2, y3⟩ | ⟨y1, y2⟩
    · have ne : ¬ nI q' = -5 := nI_n5 (by omega)
      have cst := fst _ y2
      rcases op_begH (n := m) w hF hF12 t1 t2 t3 hH hH6 y1 k1 k9 h59 with ⟨z1, z2⟩ | ⟨h', σ', z1, z2, z3, z4, z5, z6⟩
      · obtain ⟨h'', σ', s1, s2, s3, s4, s5, s6, s7⟩ := op_stop w h15
        refine ⟨-9, h, σ', ?_, fun k x => ?_, s7, Or.inr (Or.inl ⟨rfl, X, h'', s1, s3, s4, s5, s6⟩)⟩
        · rw [cst]
          simp only [x311_38, x311_41, x311_42, x311_43, x311_45, x311_46, x311_49, ne, if_false, X.k5, z1, Option.bind_some, Option.toList_some, Option.toList_none, List.singleton_append, List.nil_append]
        · rw [mst k x, y3 k x, z2 k x]
          simp only [x1128_119, x1128_122, hp_k_ms, x.k244, s2 k x, Option.bind_some, Option.toList_some, Option.toList_none, List.singleton_append, List.nil_append]
      · refine ⟨-1, h', σ', ?_, fun k x => ?_, z6, Or.inl ⟨rfl, z3, ⟨F + 1, z4, by omega, by omega⟩, z5⟩⟩
        · rw [cst]
          simp only [x311_38, x311_41, x311_42, x311_43, x311_45, x311_46, x311_49, ne, if_false, X.k5, z1, Option.bind_some, Option.toList_some, Option.toList_none, List.singleton_append, List.nil_append]
        · rw [mst k x, y3 k x, z2 k x]
    · obtain ⟨h1, p1, p2, p3, p4, p5⟩ := w.pop hF hF12
      have kp := kpF.pop σ F
      obtain ⟨v, h', σ', r1, r2, r3, r4⟩ := ih (i + 1) h1 (popS σ F) (.ref (106 + 11 * F)) (.int (-5)) (.int (nI F)) (.int (nI r)) (.int (nI (24 * r + 4 * H))) p2 popS_29 (by omega) (by rw [kp _ _ (by omega) (by omega) (by omega) (by omega) (by omega)]; exact h15) (fun z => by rw [kp _ _ (by omega) (by omega) (by omega) (by omega) (by omega), p5]; exact h59 z)
      refine ⟨v, h', σ', ?_, fun k x => ?_, ?_, ?_⟩
      · rw [fst _ y1, ← r1]
        generalize hR : pX 311 2 [.ref 5, .int (nI kd), .int (nI (i + 1)), .ref (106 + 11 * F), .int (-5)] [] h1 = R
        simp only [x311_38, x311_50, x311_51, x311_54, if_true, X.k5, p1, Option.bind_some, Option.toList_some, Option.toList_none, List.singleton_append, List.nil_append, nI_1]
        rw [x311_57]
        exact hR
      · rw [mst k x, y2 k x, ← r2 k x]
        generalize hR : pX 1128 0 [.ref 244, .int (nI kd), .int (nI F), .int (nI r), .int (nI (24 * r + 4 * H))] [] (mset k (popS σ F)) = R
        simp only [x1128_199, x1128_200, x1128_201, x1128_204, x1128_205, x1128_206, x1128_209, x1128_210, x1128_211, hp_k_ms, x.k244, ms_r (show 244 ≤ 244 ∧ 244 < 276 by omega), ms_w (show 244 ≤ 244 ∧ 244 < 276 by omega), hF, n8, p4 k x, Option.bind_some, Option.toList_some, Option.toList_none, List.singleton_append, List.nil_append]
        rw [x1128_214]
        exact hR
      · rw [r3]; exact kp _ _ (by omega) (by omega) (by omega) (by omega) (by omega)
      · rcases r4 with ⟨e1, e2, e3, e4⟩ | ⟨e1, e0, h'', e2, e3, e4, e5, e6⟩ | ⟨e1, e2, e3, e4, e5⟩
        · exact Or.inl ⟨e1, e2, e3, by omega⟩
        · exact Or.inr (Or.inl ⟨e1, e0, h'', e2, e3, e4, e5, by omega⟩)
        · exact Or.inr (Or.inr ⟨e1, e2, e3, e4, by omega⟩)
theorem op_throw_ {kd F : Nat} (k1 : 1 ≤ kd) (k9 : kd ≤ 9) (w : IV L h0 h σ A False) (hF : σ 244 29 = nI F) (hF12 : F ≤ 12) (h15 : σ 244 15 = 0) (h59 : kd = 9 → σ 244 42 = hp_i h 5 9) : ∃ v h' σ', pX 311 0 [.ref 5, .int (nI kd), .retAddr 0, .retAddr 0, .retAddr 0] [] h = some (some (.int v), h') ∧ (∀ k, FX L k → pX 1128 0 [.ref 244, .int (nI kd), .retAddr 0, .retAddr 0, .retAddr 0] [] (mset k σ) = some (none, mset k σ')) ∧ THR L h0 A (PH σ) (σ 244 8) kd v h' σ' := by
  obtain ⟨v, h', σ', r1, r2, r3⟩ := throw_loop k1 k9 F 0 h σ (.retAddr 0) (.retAddr 0) (.retAddr 0) (.retAddr 0) (.retAddr 0) w hF (by omega) h15 h59
  refine ⟨v, h', σ', ?_, r2, r3⟩
  rw [x311_0, x311_1]
  exact r1
end
