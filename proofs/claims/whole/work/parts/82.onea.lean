/-! THE ENGINE, 26: one act, of all -/
theorem thr_kd {m : Nat} (h1 : 1 ≤ m) (h2 : m ≤ 9) : ¬ (-10 : Int32) - nI m = -9 ∧ ¬ (-10 : Int32) ≤ -10 - nI m ∧ ¬ (-10 : Int32) - nI m = 1 := by
  match m, h1, h2 with
  | 1, _, _ => decide
  | 2, _, _ => decide
  | 3, _, _ => decide
  | 4, _, _ => decide
  | 5, _, _ => decide
  | 6, _, _ => decide
  | 7, _, _ => decide
  | 8, _, _ => decide
  | 9, _, _ => decide
section
variable {L : Nat} {h0 h : HP} {σ : SM} {A F : Nat}
theorem one_other {r n : Nat} {o : Int32} (H : AH L h0 h σ A F r n o) (h24 : ¬ o = 24) : ∃ v h' σ', pX 307 0 [.ref 5, .retAddr 0, .retAddr 0] [] h = some (some (.int v), h') ∧ (∀ k, FX L k → pX 1152 71 [.ref 244, .int (nI F), .int (nI (160 * r + 4 * n)), .retAddr 0] [] (mset k σ) = some (none, mset k σ')) ∧ DN L h0 A (PH σ) (σ 244 8) v h' σ' := by
  obtain ⟨v, v', h1, σ1, e1, e2, e8, ecd, ac⟩ := act_all H h24
  obtain ⟨iv, hAP, hF, hF12, t1, hr, t3, hn, h40, ho, m0, m1, m2, m3⟩ := id H
  obtain ⟨⟨ca, ra, hs, sp, cr⟩, gc, gb, gf, hh, hA⟩ := id iv
  have X := cr.fx
  have fF : hp_i h 5 7 = nI (F + 1) := (cr.fi _ _ _ _ CMR.frames).trans hF
  have i1 : inb (nI (160 * r + 4 * n)) 1600 = true := inb_nI (by omega) (by omega)
  have j1 : ix (nI (160 * r + 4 * n)) = 160 * r + 4 * n := ix_nI (by omega)
  have b3 : inb (nI F) 12 = true := inb_nI (by omega) (by omega)
  have b4 : ix (nI F) = F := ix_nI (by omega)
  have cst : pX 307 0 [.ref 5, .retAddr 0, .retAddr 0] [] h = pX 307 12 [.ref 5, .ref (106 + 11 * F), .int v] [.int v] h1 := by
    simp only [x307_0, x307_1, x307_4, x307_5, x307_6, x307_7, x307_10, x307_11, X.k5, sp_top X fF hF12, e1, Option.bind_some, Option.toList_some, Option.toList_none, List.singleton_append, List.nil_append]
  have mst : ∀ k, FX L k → pX 1152 71 [.ref 244, .int (nI F), .int (nI (160 * r + 4 * n)), .retAddr 0] [] (mset k σ) = pX 1152 131 [.ref 244, .int (nI F), .int (nI (160 * r + 4 * n)), .int v'] [.int 10, .int v'] (mset k σ1) := by
    intro k x
    simp only [x1152_71, x1152_72, x1152_75, x1152_76, x1152_77, x1152_79, x1152_117, x1152_118, x1152_119, x1152_122, x1152_123, x1152_124, x1152_127, x1152_128, x1152_129, hp_k_ms, hp_a_ms, hp_l_ms, x.k244, x.a244_3, x.k247, x.l247, ms_r (show 244 ≤ 247 ∧ 247 < 276 by omega), i1, j1, ho, h24, if_false, e2 k x, Option.bind_some, Option.toList_some, Option.toList_none, List.singleton_append, List.nil_append]
  have ecd' : σ1 247 (160 * r + 4 * n) = o := by rw [ecd]; exact ho
  -- to the settling
  have go : ∀ (g : HP) (τ : SM) (A' G : Nat) (w1 w2 w3 : Value), IV L h0 g τ A' True → τ 244 29 = nI G → 0 < G → G ≤ 12 → PH τ + 1 ≤ PH σ → A' + PH τ ≤ A + PH σ → τ 244 8 = σ 244 8 → (∃ l2, pX 307 12 [.ref 5, .ref (106 + 11 * F), .int v] [.int v] h1 = pX 307 59 [.ref 5, .ref (106 + 11 * F), l2] [] g) → (∀ k, FX L k → pX 1152 131 [.ref 244, .int (nI F), .int (nI (160 * r + 4 * n)), .int v'] [.int 10, .int v'] (mset k σ1) = pX 1152 174 [.ref 244, .int (nI F), .int (nI (160 * r + 4 * n)), .int v'] [] (mset k τ)) → ∃ v h' σ', pX 307 0 [.ref 5, .retAddr 0, .retAddr 0] [] h = some (some (.int v), h') ∧ (∀ k, FX L k → pX 1152 71 [.ref 244, .int (nI F), .int (nI (160 * r + 4 * n)), .retAddr 0] [] (mset k σ) = some (none, mset k σ')) ∧ DN L h0 A (PH σ) (σ 244 8) v h' σ' := by
    intro g τ A' G w1 w2 w3 hiv hG hG0 hG12 hp1 hp2 h8 ⟨l2, c1⟩ c2
    obtain ⟨v2, h', σ', r1, r2, r3⟩ := one_settle (l1 := .ref (106 + 11 * F)) (l2 := l2) (m1 := .int (nI F)) (m2 := .int (nI (160 * r + 4 * n))) (m3 := .int v') (B := PH σ) (A0 := A) hiv hG hG0 hG12 hp1 hp2
    rw [h8] at r3
    exact ⟨v2, h', σ', cst.trans (c1.trans r1), fun k x => (mst k x).trans ((c2 k x).trans (r2 k x)), r3⟩
  -- to the stop
  have stp : ∀ (g : HP) (τ : SM), v' = 10 → IV L h0 h1 σ1 A False → σ1 244 29 = nI (F + 1) → PH σ1 ≤ PH σ → v = -9 → ∃ v h' σ', pX 307 0 [.ref 5, .retAddr 0, .retAddr 0] [] h = some (some (.int v), h') ∧ (∀ k, FX L k → pX 1152 71 [.ref 244, .int (nI F), .int (nI (160 * r + 4 * n)), .retAddr 0] [] (mset k σ) = some (none, mset k σ')) ∧ DN L h0 A (PH σ) (σ 244 8) v h' σ' := by
    intro _ _ hv' hiv h29 hph hv
    have h15 : σ1 244 15 = 0 := hiv.2.2.2.1.2.2.2.1 (by rw [h29, ix_nI (by omega)]; omega)
    obtain ⟨h'', σ', s1, s2, s3, s4, s5, s6, s7⟩ := op_stop hiv h15
    obtain ⟨ca1, ra1, hs1, sp1, c1⟩ := hiv.1
    refine ⟨-9, h'', σ', ?_, fun k x => ?_, A, s3, by omega, s7.trans e8, Or.inr ⟨by decide, s4, s5⟩⟩
    · rw [cst, hv]
      simp only [x307_12, x307_24, x307_25, x307_38, x307_39, x307_41, x307_44, x307_45, x307_48, show (-9 : Int32) ≤ 0 by decide, show ¬ (-9 : Int32) = 0 by decide, if_true, if_false, c1.fx.k5, s1, Option.bind_some, Option.toList_some, Option.toList_none, List.singleton_append, List.nil_append]
    · rw [mst k x, hv']
      simp only [x1152_131, x1152_134, x1152_135, x1152_138, x1152_174, x1152_175, x1152_178, if_true, hp_k_ms, x.k244, s2 k x, settle0 x s4, Option.bind_some, Option.toList_some, Option.toList_none, List.singleton_append, List.nil_append]
  rcases ac with ⟨rfl, rfl, ho23, A', a1, a2, a3, a4⟩ | ⟨rfl, rfl, a1, a2, a3⟩ | ⟨m, a1, a2, rfl, rfl, a5, a6, a7, a8⟩ | ⟨rfl, rfl, ho23, to, a1, a2, a3, a4⟩ | ⟨rfl, rfl, ho23, a1, a2, a3, a4⟩
  · -- done
    obtain ⟨r', m', ac', u1, u2, u3, u4, u5, u6, u7, u8⟩ := a1.top a2 hF12
    have u7 := u7 id
    obtain ⟨⟨ca1, ra1, hs1, sp1, c1⟩, gc1, gb1, gf1, hh1, hA1⟩ := id a1
    have X1 := c1.fx
    have fr := (c1.frm (f := F) (by omega)).2
    rw [u3] at fr
    have c2 := c1.at (f := F) (V := nI (m' + 1)) (by omega)
    have rM : r' < ix (σ1 244 0) := by
      obtain ⟨r2, n2, x1, x2, x3, x4, x5⟩ := gf1.2.1 F (by omega)
      rw [u1] at x1
      have : r' = r2 := (nI_eq (by omega) (by
        obtain ⟨M, M1, M2⟩ := gc1.1
        rw [M1, ix_nI (by omega)] at x2
        omega)).mp x1
      omega
    have pg := PH.go (σ := σ1) (V := nI (m' + 1)) a2 hF12
    rw [u3, ix_nI (by omega), ix_nI (by omega)] at pg
    refine go (hp_wi h1 (106 + 11 * F) 4 (nI (m' + 1))) (hp_u σ1 267 F (nI (m' + 1))) A' (F + 1) (.retAddr 0) (.retAddr 0) (.retAddr 0) ⟨⟨_, _, _, _, c2⟩, gc1.congr (fun b j h => hu_cell (by omega)), gb1.congr (fun j h => hu_cell (by omega)), gf1.go a2 hF12 u1 u2 rM (by omega), hh1.congr (fun b j h => hu_cell (by omega)), hA1⟩ (by rw [hu_cell (by omega)]; exact a2) (by omega) (by omega) (by omega) (by omega) (by rw [hu_cell (by omega)]; exact e8) ⟨.int 0, ?_⟩ (fun k x => ?_)
    · simp only [x307_12, x307_24, x307_25, x307_28, x307_29, x307_30, x307_33, x307_34, x307_35, x307_38, x307_39, x307_41, x307_49, x307_50, x307_52, Int32.le_refl, if_true, X1.fk F hF12, fr, nI_1, show ¬ (0 : Int32) = -9 by decide, show (-10 : Int32) ≤ 0 by decide, if_false]
    · simp only [x1152_131, x1152_141, x1152_142, x1152_153, x1152_154, x1152_157, x1152_158, x1152_159, x1152_161, x1152_164, x1152_165, x1152_168, x1152_169, x1152_170, x1152_171, x1152_172, x1152_173, show ¬ (0 : Int32) = 10 by decide, if_false, Int32.le_refl, if_true, hp_k_ms, hp_a_ms, hp_l_ms, x.k244, x.a244_3, x.k247, x.l247, x.a244_31, x.k267, x.l267, ms_r (show 244 ≤ 247 ∧ 247 < 276 by omega), ms_r (show 244 ≤ 267 ∧ 267 < 276 by omega), ms_w (show 244 ≤ 267 ∧ 267 < 276 by omega), i1, j1, ecd', ho23, b3, b4, u3, nI_1]
  · exact stp h σ rfl a1 a2 a3 rfl
  · -- a throw
    have h15 : σ1 244 15 = 0 := a6.2.2.2.1.2.2.2.1 (by rw [a7, ix_nI (by omega)]; omega)
    obtain ⟨w, h2, σ2, s1, s2, s3, s4⟩ := op_throw_ (kd := m) a1 a2 a6 a7 (by omega) h15 a5
    obtain ⟨ca1, ra1, hs1, sp1, c1⟩ := a6.1
    have X1 := c1.fx
    have np : ¬ nI m ≤ 0 := nI_nle (by omega) (by omega)
    have n10 : ¬ nI m = 10 := fun z => by have := (nI_eq (a := m) (b := 10) (by omega) (by omega)).mp z; omega
    have cst2 : pX 307 12 [.ref 5, .ref (106 + 11 * F), .int (nI m)] [.int (nI m)] h1 = pX 307 38 [.ref 5, .ref (106 + 11 * F), .int w] [] h2 := by
      simp only [x307_12, x307_15, x307_16, x307_17, x307_20, x307_21, np, if_false, X1.k5, s1, Option.bind_some, Option.toList_some, Option.toList_none, List.singleton_append, List.nil_append]
    have mst2 : ∀ k, FX L k → pX 1152 131 [.ref 244, .int (nI F), .int (nI (160 * r + 4 * n)), .int (nI m)] [.int 10, .int (nI m)] (mset k σ1) = pX 1152 174 [.ref 244, .int (nI F), .int (nI (160 * r + 4 * n)), .int (nI m)] [] (mset k σ2) := by
      intro k x
      simp only [x1152_131, x1152_141, x1152_142, x1152_145, x1152_146, x1152_147, x1152_150, n10, np, if_false, hp_k_ms, x.k244, s2 k x, Option.bind_some, Option.toList_some, Option.toList_none, List.singleton_append, List.nil_append]
    rcases s4 with ⟨rfl, y1, ⟨G, G1, G2, G3⟩, y3⟩ | ⟨rfl, y0, h'', y1, y2, y3, y4, y5⟩ | ⟨rfl, y1, y2, y3, y4⟩
    · refine go h2 σ2 A G (.retAddr 0) (.retAddr 0) (.retAddr 0) y1 G1 G2 G3 (by omega) (by omega) (s3.trans e8) ⟨.int (-1), ?_⟩ mst2
      rw [cst2]
      simp only [x307_38, x307_39, x307_41, x307_49, x307_50, x307_52, show ¬ (-1 : Int32) = -9 by decide, show (-10 : Int32) ≤ -1 by decide, if_true, if_false]
    · obtain ⟨ca2, ra2, hs2, sp2, c2⟩ := y2.1
      refine ⟨-9, h'', σ2, ?_, fun k x => ?_, A, y2, by omega, s3.trans e8, Or.inr ⟨by decide, y3, y4⟩⟩
      · rw [cst, cst2]
        have k5 : hp_k h2 5 = 4 := y0.k5
        simp only [x307_38, x307_39, x307_41, x307_44, x307_45, x307_48, if_true, k5, y1, Option.bind_some, Option.toList_some, Option.toList_none, List.singleton_append, List.nil_append]
      · rw [mst k x, mst2 k x]
        simp only [x1152_174, x1152_175, x1152_178, hp_k_ms, x.k244, settle0 x y3, Option.bind_some, Option.toList_some, Option.toList_none, List.singleton_append, List.nil_append]
    · refine ⟨-10 - nI m, h2, σ2, ?_, fun k x => ?_, A, y1, by omega, s3.trans e8, Or.inr ⟨?_, y2, y3⟩⟩
      · rw [cst, cst2]
        have z1 := (thr_kd a1 a2).1
        have z2 := (thr_kd a1 a2).2.1
        simp only [x307_38, x307_39, x307_41, x307_49, x307_50, x307_52, x307_55, x307_56, x307_63, z1, z2, if_false]
      · rw [mst k x, mst2 k x]
        simp only [x1152_174, x1152_175, x1152_178, hp_k_ms, x.k244, settle0 x y2, Option.bind_some, Option.toList_some, Option.toList_none, List.singleton_append, List.nil_append]
      · exact (thr_kd a1 a2).2.2
  · -- a jump
    have e : nI to - 1 + 1 = nI to := Int32.sub_add_cancel _ _
    refine go h1 (hp_u σ1 267 F (nI to)) A (F + 1) (.retAddr 0) (.retAddr 0) (.retAddr 0) a2 (by rw [hu_cell (by omega)]; exact a3) (by omega) (by omega) a4 (by omega) (by rw [hu_cell (by omega)]; exact e8) ⟨.int (-1), ?_⟩ (fun k x => ?_)
    · simp only [x307_12, x307_24, x307_25, x307_38, x307_39, x307_41, x307_49, x307_50, x307_52, show (-1 : Int32) ≤ 0 by decide, show ¬ (-1 : Int32) = 0 by decide, show ¬ (-1 : Int32) = -9 by decide, show (-10 : Int32) ≤ -1 by decide, if_true, if_false]
    · simp only [x1152_131, x1152_141, x1152_142, x1152_153, x1152_154, x1152_157, x1152_158, x1152_159, x1152_161, x1152_164, x1152_165, x1152_168, x1152_169, x1152_170, x1152_171, x1152_172, x1152_173, show ¬ (0 : Int32) = 10 by decide, if_false, Int32.le_refl, if_true, hp_k_ms, hp_a_ms, hp_l_ms, x.k244, x.a244_3, x.k247, x.l247, x.a244_31, x.k267, x.l267, ms_r (show 244 ≤ 247 ∧ 247 < 276 by omega), ms_r (show 244 ≤ 267 ∧ 267 < 276 by omega), ms_w (show 244 ≤ 267 ∧ 267 < 276 by omega), i1, j1, ecd', ho23, b3, b4, a1, e]
  · -- a call
    refine go h1 σ1 A (F + 2) (.retAddr 0) (.retAddr 0) (.retAddr 0) a1 a2 (by omega) a3 a4 (by omega) e8 ⟨.int (-1), ?_⟩ (fun k x => ?_)
    · simp only [x307_12, x307_24, x307_25, x307_38, x307_39, x307_41, x307_49, x307_50, x307_52, show (-1 : Int32) ≤ 0 by decide, show ¬ (-1 : Int32) = 0 by decide, show ¬ (-1 : Int32) = -9 by decide, show (-10 : Int32) ≤ -1 by decide, if_true, if_false]
    · simp only [x1152_131, x1152_141, x1152_142, x1152_153, x1152_154, x1152_157, x1152_158, x1152_159, x1152_161, show ¬ (0 : Int32) = 10 by decide, if_false, Int32.le_refl, if_true, hp_k_ms, hp_a_ms, hp_l_ms, x.k244, x.a244_3, x.k247, x.l247, ms_r (show 244 ≤ 247 ∧ 247 < 276 by omega), i1, j1, ecd', ho23]
/-- one act, on both sides -/
theorem op_one (w : IV L h0 h σ A False) (hAP : A + PH σ ≤ 492000) (hF : σ 244 29 = nI (F + 1)) (hF12 : F < 12) : ∃ v h' σ', pX 307 0 [.ref 5, .retAddr 0, .retAddr 0] [] h = some (some (.int v), h') ∧ (∀ k, FX L k → pX 1152 0 [.ref 244, .retAddr 0, .retAddr 0, .retAddr 0] [] (mset k σ) = some (none, mset k σ')) ∧ DN L h0 A (PH σ) (σ 244 8) v h' σ' := by
  obtain ⟨r, n, a, t1, t2, t3, t4, t5, t6, t7, t8⟩ := w.top hF hF12
  have t7 := t7 id
  obtain ⟨⟨ca, ra, hs, sp, c⟩, gc, gb, gf, hh, hA⟩ := w
  have pre := fun k (x : FX L k) => goOn_pre (σ := σ) (F := F) (r := r) (n := n) x hF hF12 t1 t2 t3 (by omega)
  generalize hτ : hp_u (hp_u (hp_u (hp_u σ 244 45 (nI (8 * F))) 244 46 (σ 247 (160 * r + 4 * n + 1))) 244 47 (σ 247 (160 * r + 4 * n + 2))) 244 48 (σ 247 (160 * r + 4 * n + 3)) = τ at pre
  have kτ : ∀ b j, ¬ (b = 244 ∧ (j = 45 ∨ j = 46 ∨ j = 47 ∨ j = 48)) → τ b j = σ b j := by
    intro b j q
    rw [← hτ, hu_at, if_neg (by omega), hu_at, if_neg (by omega), hu_at, if_neg (by omega), hu_at, if_neg (by omega)]
  have cτ := c.agree (σ' := τ) (fun p q z1 z2 z3 => kτ p q (fun z => z3 (by unfold dead; omega)))
  have ivτ : IV L h0 h τ A False := ⟨⟨_, _, _, _, cτ⟩, gc.congr (fun b j h => kτ b j (by omega)), gb.congr (fun j h => kτ 244 j (by omega)), gf.congr (fun b j h => kτ b j (by omega)), hh.congr (fun b j h => kτ b j (by omega)), hA⟩
  have phτ : PH τ = PH σ := by
    unfold PH
    have a7 : ∀ j, τ 267 j = σ 267 j := fun j => kτ _ _ (by omega)
    simp only [a7]
    rw [kτ _ _ (by omega), kτ _ _ (by omega)]
  have H : AH L h0 h τ A F r n (σ 247 (160 * r + 4 * n)) := by
    refine ⟨ivτ, by omega, ?_, hF12, ?_, t2, ?_, ?_, ?_, ?_, ?_, ?_, ?_, ?_⟩
    · rw [kτ _ _ (by omega)]; exact hF
    · rw [kτ _ _ (by omega)]; exact t1
    · rw [kτ _ _ (by omega)]; exact t3
    · rw [kτ _ _ (by omega), t4, ix_nI (by omega)]; exact t7
    · rw [kτ _ _ (by omega), t4, ix_nI (by omega)]; exact t5
    · exact kτ _ _ (by omega)
    · rw [← hτ, hu_idx (by omega), hu_idx (by omega), hu_idx (by omega), hu_same]
    · rw [kτ 247 _ (by omega), ← hτ, hu_idx (by omega), hu_idx (by omega), hu_same]
    · rw [kτ 247 _ (by omega), ← hτ, hu_idx (by omega), hu_same]
    · rw [kτ 247 _ (by omega), ← hτ, hu_same]
  have τ8 : τ 244 8 = σ 244 8 := kτ _ _ (by omega)
  generalize ho : σ 247 (160 * r + 4 * n) = o at H
  by_cases h24 : o = 24
  · subst h24
    obtain ⟨v, h', σ', r1, r2, r3⟩ := one_give H
    rw [phτ, τ8] at r3
    exact ⟨v, h', σ', r1, fun k x => (pre k x).trans (r2 k x), r3⟩
  · obtain ⟨v, h', σ', r1, r2, r3⟩ := one_other H h24
    rw [phτ, τ8] at r3
    exact ⟨v, h', σ', r1, fun k x => (pre k x).trans (r2 k x), r3⟩
end
