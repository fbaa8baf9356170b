/-! THE ENGINE, 19: a frame begins, on both sides -/
section
variable {L : Nat} {h0 h : HP} {σ : SM} {ca ra : Nat → Nat} {hs : Nat → List Nat} {sp : List Nat} {A : Nat}
theorem op_begin {F m wn fi Ln gv xb yb : Nat} {gs : Nat → Nat} {to : Int32} (c : CR L h0 h σ ca ra hs sp) (gc : GC σ) (gb : GB σ) (gf : GF σ False) (hh : HH σ A) (hA : A ≤ 492000) (hF : σ 244 29 = nI F) (hF12 : F < 12) (hm : m < ix (σ 244 0)) (hwn : σ 245 m = nI wn) (wn3 : wn ≤ 3) (hfi : fi < 8) (hL : Ln ≤ 8) (h15 : σ 244 15 = 0)
    (hto : 0 < F → σ 247 (160 * ix (σ 266 (F - 1)) + 4 * ix (σ 267 (F - 1))) = 23 ∧ to = σ 247 (160 * ix (σ 266 (F - 1)) + 4 * ix (σ 267 (F - 1)) + 1))
    (hgv : ∀ g, FX L g → hp_k g gv = 208 ∧ hp_l g gv = Ln ∧ ∀ j, j < Ln → hp_a g gv j = gs j ∧ hp_k g (gs j) = 9) (hgs : ∀ j, j < Ln → ¬ chg F (gs j)) (hgx : ¬ chg F gv)
    (hx : xb = 255 ∨ xb = 269) (hG : ∀ j, j < Ln → SLP σ ca (gs j) xb (yb + j) (xb + 1) (yb + j))
    (hr : ∀ k, k < 8 → σ 269 (8 * F + k) = (if k < wn ∧ fi + k < Ln then σ xb (yb + (fi + k)) else 0) ∧ σ 270 (8 * F + k) = (if k < wn ∧ fi + k < Ln then σ (xb + 1) (yb + (fi + k)) else 0)) :
    (pX 308 0 [.ref 5, .int (nI m), .ref gv, .int (nI fi), .retAddr 0] [] h = some (some (.int 0), h) ∧ ∀ k, FX L k → pX 1125 0 [.ref 244, .int (nI m), .int to] [] (mset k σ) = some (some (.int 0), mset k σ)) ∨
    (∃ h' σ', pX 308 0 [.ref 5, .int (nI m), .ref gv, .int (nI fi), .retAddr 0] [] h = some (some (.int 1), h') ∧ (∀ k, FX L k → pX 1125 0 [.ref 244, .int (nI m), .int to] [] (mset k σ) = some (some (.int 1), mset k σ')) ∧ IV L h0 h' σ' A True ∧ σ' 244 29 = nI (F + 1) ∧ PH σ' + 42 ≤ PH σ ∧ σ' 244 8 = σ 244 8 ∧ ∀ j, σ' 247 j = σ 247 j) := by
  have X := c.fx
  have gp := gc.2.2.2.2
  obtain ⟨M, M1, M2⟩ := gc.1
  have m10 : m < 10 := by rw [M1, ix_nI (by omega)] at hm; omega
  have f0 : ix (σ 244 29) = F := by rw [hF]; exact ix_nI (by omega)
  have i0 : inb 0 5 = true := inb_lit (by decide) (by decide)
  have j0 : ix 0 = 0 := ix_lit (by decide)
  rcases c.pays gb gp (q := 0) (by omega) with ⟨p1, p2⟩ | ⟨h1, σ1, σ2, p1, p2, p3, p4, p5, p6, p7⟩
  · rw [show nI 0 = 0 from rfl] at p1
    refine Or.inl ⟨?_, fun k x => ?_⟩
    · simp only [x308_0, x308_1, x308_4, x308_5, x308_8, x308_11, X.k5, X.a5_2, X.k7, p1, Option.bind_some, Option.toList_some, Option.toList_none, List.singleton_append, List.nil_append, if_true]
      exact x308_12 (Or.inl rfl)
    · simp only [x1125_0, x1125_1, x1125_2, x1125_5, x1125_6, x1125_7, x1125_8, x1125_11, x1125_14, hp_k_ms, hp_a_ms, hp_l_ms, x.k244, x.a244_7, x.k251, x.l251, ms_r (show 244 ≤ 251 ∧ 251 < 276 by omega), i0, j0, p2 k x, Option.bind_some, Option.toList_some, Option.toList_none, List.singleton_append, List.nil_append, if_true]
      exact x1125_15 (Or.inl rfl)
  · rw [show nI 0 = 0 from rfl] at p1
    have X1 := p4.fx
    have kk : ∀ b j, ¬ (b = 244 ∧ (j = 37 ∨ j = 38)) → ¬ b = 273 → σ2 b j = σ b j := by
      intro b j q1 q2
      rw [p3, hu_cell q2]
      exact p7 b j q1 q2
    have F2 : σ2 244 29 = nI F := by rw [kk _ _ (by omega) (by omega)]; exact hF
    have f2 : ix (σ2 244 29) = F := by rw [F2]; exact ix_nI (by omega)
    have gc2 := p5.gc gc
    have gb2 := p5.2.1
    have gf2 := p5.gf gf
    have hh2 := p5.hh hh
    obtain ⟨T, T1, T2⟩ := gb2.1
    have hw1 : hp_i h1 (16 + 9 * m) 0 = nI wn := by
      rw [p4.fi _ _ _ _ (CMR.wanted m10), kk _ _ (by omega) (by omega)]; exact hwn
    obtain ⟨g, e0, Xg, en, es, ek, el, eo, ei, ea, e3, e4, e2, eg, er⟩ := sp_begin (fi := fi) X1 hF12 m10 hw1 wn3 hL hfi hgv hgs hgx
    have fF : hp_i h1 5 7 = nI F := (p4.fi _ _ _ _ CMR.frames).trans F2
    have fFg : hp_i g 5 7 = nI F := by rw [(eo 5 7 (by unfold chg; omega)).1]; exact fF
    have fB : hp_i h1 (16 + 9 * m) 1 = σ2 250 m := p4.fi _ _ _ _ (CMR.begun m10)
    have fC : hp_i h1 9 6 = σ2 273 6 := p4.fi _ _ _ _ (CMR.counted (by omega))
    have fT : hp_i h1 5 11 = nI T := (p4.fi _ _ _ _ CMR.traced).trans T1
    generalize hc6 : (if σ2 273 6 < nI (F + 1) then nI (F + 1) else σ2 273 6) = c6
    generalize hg5 : hp_wi (hp_wi (hp_wi g 5 7 (nI (F + 1))) (16 + 9 * m) 1 (σ2 250 m + 1)) 9 6 c6 = g5
    have X5 : FX L g5 := by rw [← hg5]; exact Xg.wi.wi.wi
    have i5 : ∀ y q, hp_i g5 y q = if y = 9 ∧ q = 6 then c6 else if y = 16 + 9 * m ∧ q = 1 then σ2 250 m + 1 else if y = 5 ∧ q = 7 then nI (F + 1) else hp_i g y q := by
      intro y q
      rw [← hg5, hp_i_wi, hp_i_wi, hp_i_wi]
    have a5 : hp_a g5 = hp_a g := by rw [← hg5]; rfl
    have z271 : σ2 271 F = 0 := by
      obtain ⟨s1, s2⟩ := hh2.2.1 F hF12
      rw [s1, sumN_zero (fun i hi => by
        obtain ⟨n, n1, n2, n3⟩ := hh2.1 F i hF12 hi
        show ix (σ2 272 (6000 * F + i)) = 0
        rw [n1, n3 (Or.inl (by omega))]
        rfl)]
      rfl
    have cr5 : CR L h0 g5 (pushS σ2 F m (σ2 250 m + 1) c6 to) ca ra hs sp := by
      have hF' := p4.hF
      have cel : ∀ j, j < Ln → SLn h1 σ2 ca ra (gs j) (σ2 xb (yb + j)) (σ2 (xb + 1) (yb + j)) := fun j hj => p4.at_ ((hG j hj).congr (kk _ _ (by omega) (by omega)) (kk _ _ (by omega) (by omega)))
      obtain ⟨w1, w2, w3, w4, w6, w5⟩ := p4
      refine ⟨X5, fun a j ha => ?_, w3, ?_, ?_, ?_⟩
      · rw [i5, if_neg (by omega), if_neg (by omega), if_neg (by omega), (eo a j (by unfold chg; omega)).1]
        exact w2 a j ha
      · have e1 := (((w4.w (CMR.running hF12) (x := nI m)).w CMR.frames (x := nI (F + 1))).w (CMR.begun m10) (x := σ2 250 m + 1)).w (CMR.counted (q := 6) (by omega)) (x := c6)
        have e2' : FI g5 (hp_u (hp_u (hp_u (hp_u σ2 266 F (nI m)) 244 29 (nI (F + 1))) 250 m (σ2 250 m + 1)) 273 6 c6) := by
          intro a k b j e
          rw [← e1 a k b j e, hp_i_wi, hp_i_wi, hp_i_wi, hp_i_wi, i5]
          by_cases y1 : a = 9 ∧ k = 6
          · rw [if_pos y1, if_pos y1]
          · rw [if_neg y1, if_neg y1]
            by_cases y2 : a = 16 + 9 * m ∧ k = 1
            · rw [if_pos y2, if_pos y2]
            · rw [if_neg y2, if_neg y2]
              by_cases y3 : a = 5 ∧ k = 7
              · rw [if_pos y3, if_pos y3]
              · rw [if_neg y3, if_neg y3]
                have c1 := cm_lt e
                have c2 := cm_b e
                by_cases y4 : a = 106 + 11 * F ∧ k = 3
                · rw [if_pos y4, y4.1, y4.2]; exact e3
                · rw [if_neg y4]
                  by_cases y5 : a = 106 + 11 * F
                  · rw [y5, ei k (by omega) (by omega)]
                  · rw [(eo a k (by unfold chg; omega)).1]
        refine e2'.eq (fun b j q1 q2 q3 q4 q5 => ?_)
        by_cases y1 : b = 273 ∧ j = 6
        · rw [y1.1, y1.2, pushS_273, hu_same]
        · rw [hu_at, if_neg y1]
          by_cases y2 : b = 250 ∧ j = m
          · rw [y2.1, y2.2, pushS_250, hu_same]
          · rw [hu_at, if_neg y2]
            by_cases y3 : b = 244 ∧ j = 29
            · rw [y3.1, y3.2, pushS_29, hu_same]
            · rw [hu_at, if_neg y3]
              by_cases y4 : b = 266 ∧ j = F
              · rw [y4.1, y4.2, pushS_266, hu_same]
              · rw [hu_at, if_neg y4]
                by_cases y5 : b = 271 ∧ j = F
                · rw [y5.1, y5.2, pushS_271, z271]
                · exact pushS_at y2 y4 (by omega) (by omega) y5 y3 y1
      · rw [pushS_29, ix_nI (by omega)]; omega
      · have en5 : hp_n g5 = hp_n h1 := by rw [← hg5]; exact en
        have es5 : hp_s g5 = hp_s h1 := by rw [← hg5]; exact es
        have ek5 : hp_k g5 = hp_k h1 := by rw [← hg5]; exact ek
        have el5 : hp_l g5 = hp_l h1 := by rw [← hg5]; exact el
        rw [en5, es5, ek5, el5]
        have pS : ∀ p q, depS p q → ¬ (p = 244 ∧ q = 29) → ¬ ((p = 266 ∨ p = 267) ∧ q = F) → ¬ p = 268 → ¬ p = 271 → pushS σ2 F m (σ2 250 m + 1) c6 to p q = σ2 p q := fun p q d q1 q2 q3 q4 => pushS_at (by unfold depS at d; omega) (by omega) (by omega) (by omega) (by omega) q1 (by unfold depS at d; omega)
        have dsl : ∀ a q, (108 + 11 * F ≤ a ∧ a ≤ 116 + 11 * F) → dynI a q := fun a q ha => by unfold dynI; omega
        have i5s : ∀ a q, (108 + 11 * F ≤ a ∧ a ≤ 116 + 11 * F) → mI (hp_i g5) a q = hp_i g a q := fun a q ha => by
          rw [mI_at (dsl a q ha), i5, if_neg (by omega), if_neg (by omega), if_neg (by omega)]
        refine RXo.push (F := F) w5 (by rw [mS_x (by omega)]; exact f2) hF12 (by rw [mS_x (by omega), pushS_29]; exact ix_nI (by omega)) (fun p q q1 q2 q3 q4 q5 => ?_) (fun y q hy => ?_) (fun y q hy => ?_) (fun y hy => ?_) X1.fk X1.k10 ?_ ?_ (fun k hk => ?_) ?_ (fun k hk => ?_)
        · unfold mS
          by_cases z : depS p q
          · rw [if_pos z, if_pos z]; exact pS p q z q1 q3 q4 q5
          · rw [if_neg z, if_neg z]
        · rw [a5]
          rcases hy with hy | ⟨hy, hq⟩
          · exact (eo y q hy).2
          · rw [hy]; exact ea q hq
        · unfold mI
          by_cases z : dynI y q
          · rw [if_pos z, if_pos z, i5, if_neg (by unfold dynI at z; omega), if_neg (by unfold dynI at z; omega), if_neg (by unfold dynI at z; omega)]
            exact (eo y q hy).1
          · rw [if_neg z, if_neg z]
        · unfold chg at hy
          by_cases y1 : y = 106 + 11 * F
          · rw [y1]; exact Or.inl (X1.fk F hF12)
          · by_cases y2 : y = 108 + 11 * F
            · rw [y2]; exact Or.inr (X1.fgk F hF12)
            · obtain ⟨k, rfl⟩ : ∃ k, y = 109 + 11 * F + k := ⟨y - (109 + 11 * F), by omega⟩
              exact Or.inr (X1.frs F k hF12 (by omega))
        · rw [a5, e2, mS_m (by omega), pushS_266, ix_nI (by omega)]
        · rw [mI_at (by unfold dynI; omega), mS_m (by omega), pushS_267, i5, if_neg (by omega), if_neg (by omega), if_neg (by omega)]
          exact e4
        · obtain ⟨s1, s2, s3, s4⟩ := er k hk
          obtain ⟨r1, r2⟩ := hr k hk
          have d1 : mS (pushS σ2 F m (σ2 250 m + 1) c6 to) 269 (8 * F + k) = σ 269 (8 * F + k) := by rw [mS_m (by omega), pS _ _ (by unfold depS; omega) (by omega) (by omega) (by omega) (by omega), kk _ _ (by omega) (by omega)]
          have d2 : mS (pushS σ2 F m (σ2 250 m + 1) c6 to) 270 (8 * F + k) = σ 270 (8 * F + k) := by rw [mS_m (by omega), pS _ _ (by unfold depS; omega) (by omega) (by omega) (by omega) (by omega), kk _ _ (by omega) (by omega)]
          have t1 : ∀ K V, thK (mS (pushS σ2 F m (σ2 250 m + 1) c6 to)) K V = thK σ2 K V := fun K V => (thK_m _ _ _).trans (thK.congr (fun q => pS _ _ (by unfold depS; omega) (by omega) (by omega) (by omega) (by omega)) (fun q => pS _ _ (by unfold depS; omega) (by omega) (by omega) (by omega) (by omega)))
          rw [d1, d2, r1, r2]
          by_cases q : k < wn ∧ fi + k < Ln
          · rw [if_pos q] at s1 s2 s3 s4
            obtain ⟨y1, y2, y3, y4, y5⟩ := cel (fi + k) q.2
            rw [kk _ _ (by omega) (by omega), kk _ _ (by omega) (by omega)] at y1 y2 y3 y4 y5
            rw [if_pos q, if_pos q]
            refine ⟨?_, ?_, ?_, ?_, (okT_m _ _ _).mpr (y5.congr (pS _ _ (by unfold depS; omega) (by omega) (by omega) (by omega) (by omega)) (pS _ _ (by unfold depS; omega) (by omega) (by omega) (by omega) (by omega)))⟩
            · rw [i5s _ _ (by omega), t1, s1]; exact y1
            · rw [i5s _ _ (by omega), s2]; exact y2
            · rw [a5, s3]; exact y3
            · rw [a5, s4]; exact y4
          · rw [if_neg q] at s1 s2 s3 s4
            rw [if_neg q, if_neg q]
            refine ⟨?_, ?_, ?_, ?_, Or.inl rfl⟩
            · rw [i5s _ _ (by omega), s1]; rfl
            · rw [i5s _ _ (by omega), s2]; rfl
            · rw [a5, s3]; rfl
            · rw [a5, s4]; rfl
        · obtain ⟨s1, s2, s3, s4⟩ := eg
          obtain ⟨r1, r2⟩ := gf.2.2.2.2 F hF12
          have d1 : mS (pushS σ2 F m (σ2 250 m + 1) c6 to) 269 (96 + F) = 0 := by rw [mS_m (by omega), pS _ _ (by unfold depS; omega) (by omega) (by omega) (by omega) (by omega), kk _ _ (by omega) (by omega)]; exact r1
          have d2 : mS (pushS σ2 F m (σ2 250 m + 1) c6 to) 270 (96 + F) = 0 := by rw [mS_m (by omega), pS _ _ (by unfold depS; omega) (by omega) (by omega) (by omega) (by omega), kk _ _ (by omega) (by omega)]; exact r2
          rw [d1, d2]
          refine ⟨?_, ?_, ?_, ?_, Or.inl rfl⟩
          · rw [i5s _ _ (by omega), s1]; rfl
          · rw [i5s _ _ (by omega), s2]; rfl
          · rw [a5, s3]; rfl
          · rw [a5, s4]; rfl
        · rw [mS_x (by omega)] at hk
          rw [mS_m (by omega)]
          obtain ⟨C, C1, C2⟩ := gb2.2.2.2.1
          obtain ⟨n, n1, n2, n3⟩ := hh2.1 F k hF12 (by rw [C1, ix_nI (by omega)] at hk; omega)
          rw [n1, n3 (Or.inl (by omega))]
          rfl
    have cr6 := cr5.tr (T := T) (x := 100 + nI m) T2
    rw [pushS_tr] at cr6
    have tk : ∀ b j, ¬ (b = 244 ∧ j = 41) → ¬ b = 274 → trS σ2 T (100 + nI m) b j = σ2 b j := fun b j q1 q2 => trS_at q1 q2
    have tn : nb (trS σ2 T (100 + nI m) 244 41) 100 := by
      unfold trS
      by_cases q : T = 100
      · rw [if_pos q, T1]; exact ⟨T, rfl, T2⟩
      · rw [if_neg q, hu_same]; exact ⟨T + 1, rfl, by omega⟩
    have tr2 : ∀ k, FX L k → _ := fun k x => sp_tr (σ := σ2) (k := k) (T := T) (x := 100 + nI m) x T1 T2
    generalize hτ : trS σ2 T (100 + nI m) = τ at cr6 tk tn tr2
    have f5T : hp_i g5 5 11 = nI T := by rw [i5, if_neg (by omega), if_neg (by omega), if_neg (by omega), (eo 5 11 (by unfold chg; omega)).1]; exact fT
    have b1 : inb (nI m) 10 = true := inb_nI m10 (by omega)
    have b2 : ix (nI m) = m := ix_nI (by omega)
    have b3 : inb (nI F) 12 = true := inb_nI hF12 (by omega)
    have b4 : ix (nI F) = F := ix_nI (by omega)
    have i6 : inb 6 9 = true := inb_lit (by decide) (by decide)
    have j6 : ix 6 = 6 := ix_lit (by decide)
    have i1 : inb 1 9 = true := inb_lit (by decide) (by decide)
    have j1 : ix 1 = 1 := ix_lit (by decide)
    have k5' : ∀ b j, ¬ (b = 250 ∧ j = m) → ¬ ((b = 266 ∨ b = 267 ∨ b = 268 ∨ b = 271) ∧ j = F) → ¬ (b = 244 ∧ (j = 29 ∨ j = 37 ∨ j = 38 ∨ j = 41)) → ¬ (b = 273) → ¬ b = 274 → pushS τ F m (σ2 250 m + 1) c6 to b j = σ b j := by
      intro b j q1 q2 q3 q4 q5
      rw [pushS_at q1 (by omega) (by omega) (by omega) (by omega) (by omega) (by omega), tk b j (by omega) q5, kk b j (by omega) q4]
    refine Or.inr ⟨_, pushS τ F m (σ2 250 m + 1) c6 to, ?_, fun k x => ?_, ⟨⟨_, _, _, _, cr6⟩, ?_, ?_, ?_, ?_, hA⟩, pushS_29, ?_, ?_, fun j => ?_⟩
    · have st : pX 308 0 [.ref 5, .int (nI m), .ref gv, .int (nI fi), .retAddr 0] [] h = pX 308 38 [.ref 5, .int (nI m), .ref gv, .int (nI fi), .ref (16 + 9 * m)] [] g := by
        simp only [x308_0, x308_1, x308_4, x308_5, x308_8, x308_13, x308_14, x308_17, x308_18, x308_19, x308_21, x308_22, x308_25, x308_26, x308_29, x308_30, x308_32, x308_33, x308_34, x308_35, X.k5, X.a5_2, X.k7, p1, Option.bind_some, Option.toList_some, Option.toList_none, List.singleton_append, List.nil_append, i32_10, if_false, X1.k5, X1.a5_0, X1.k6, X1.l6, show 200 ≤ 204 by omega, show 200 ≤ 201 by omega, b1, b2, X1.mem m m10, X1.a5_6, X1.k13, X1.l13, fF, b3, b4, X1.fra F hF12, X1.fk F hF12, e0]
      rw [st]
      have fBg : hp_i g (16 + 9 * m) 1 = σ2 250 m := by rw [(eo _ _ (by unfold chg; omega)).1]; exact fB
      have fCg : hp_i g 9 6 = σ2 273 6 := by rw [(eo _ _ (by unfold chg; omega)).1]; exact fC
      have n57 : ¬ (5 = 16 + 9 * m ∧ 7 = 1) := by omega
      have n96 : ¬ (9 = 16 + 9 * m ∧ 6 = 1) := by omega
      have nm5 : ¬ (16 + 9 * m = 5 ∧ 1 = 7) := by omega
      have kp5 := sp_keep (h := g5) (T := T) (x := 100 + nI m) X5 f5T T2
      simp only [x308_38, x308_39, x308_40, x308_43, x308_44, x308_45, x308_48, x308_50, x308_51, x308_54, x308_55, x308_56, x308_59, x308_60, x308_63, x308_66, x308_68, x308_69, x308_72, x308_75, x308_77, x308_78, x308_79, x308_82, x308_85, x308_86, x308_87, x308_89, x308_90, x308_91, x308_94, Xg.k5, fFg, nI_1, hp_k_wi, hp_a_wi, hp_l_wi, hp_i_wi, Xg.mk m m10, nm5, fBg, Xg.a5_2, Xg.k7, Xg.a7_1, Xg.k9, Xg.l9, i6, j6, n57, n96, fCg, Nat.reduceEqDiff, false_and, and_self, and_false, if_false, if_true, hc6, hg5, X5.k5, kp5, Option.bind_some, Option.toList_some, Option.toList_none, List.singleton_append, List.nil_append]
      exact x308_95 (Or.inr rfl)
    · have c6' : (if nI (F + 1) ≤ σ2 273 6 then σ2 273 6 else nI (F + 1)) = c6 := by
        rw [← hc6]
        by_cases q : σ2 273 6 < nI (F + 1)
        · rw [if_pos q, if_neg (Int32.not_le.mpr q)]
        · rw [if_neg q, if_pos (Int32.not_lt.mp q)]
      have st : pX 1125 0 [.ref 244, .int (nI m), .int to] [] (mset k σ) = pX 1125 34 [.ref 244, .int (nI m), .int to] [] (mset k τ) := by
        have t2 := tr2 k x
        rw [p3] at t2
        simp only [x1125_0, x1125_1, x1125_2, x1125_5, x1125_6, x1125_7, x1125_8, x1125_11, x1125_16, x1125_17, x1125_20, x1125_21, x1125_22, x1125_23, x1125_24, x1125_25, x1125_26, x1125_27, x1125_29, x1125_30, x1125_31, hp_k_ms, hp_a_ms, hp_l_ms, x.k244, x.a244_7, x.k251, x.l251, x.a244_39, x.k273, x.l273, ms_r (show 244 ≤ 251 ∧ 251 < 276 by omega), ms_r (show 244 ≤ 273 ∧ 273 < 276 by omega), ms_w (show 244 ≤ 273 ∧ 273 < 276 by omega), i0, j0, i1, j1, p2 k x, Option.bind_some, Option.toList_some, Option.toList_none, List.singleton_append, List.nil_append, i32_10, if_false, t2]
      rw [st]
      have u1 : τ 250 m = σ2 250 m := tk _ _ (by omega) (by omega)
      have u2 : τ 244 29 = nI F := by rw [tk _ _ (by omega) (by omega)]; exact F2
      have u3 : τ 273 6 = σ2 273 6 := tk _ _ (by omega) (by omega)
      unfold pushS
      rw [← c6']
      by_cases q : nI (F + 1) ≤ σ2 273 6
      · simp only [x1125_34, x1125_35, x1125_38, x1125_39, x1125_40, x1125_41, x1125_42, x1125_43, x1125_44, x1125_45, x1125_48, x1125_49, x1125_52, x1125_53, x1125_54, x1125_55, x1125_58, x1125_59, x1125_62, x1125_63, x1125_64, x1125_65, x1125_68, x1125_69, x1125_72, x1125_73, x1125_74, x1125_75, x1125_78, x1125_79, x1125_82, x1125_83, x1125_84, x1125_85, x1125_86, x1125_89, x1125_90, x1125_91, x1125_94, x1125_95, x1125_98, x1125_100, x1125_101, x1125_104, x1125_105, x1125_108, x1125_110, x1125_111, x1125_114, x1125_115, x1125_118, x1125_121, x1125_122, x1125_125, x1125_127, x1125_128, x1125_129, hp_k_ms, hp_a_ms, hp_l_ms, x.k244, x.a244_6, x.k250, x.l250, x.a244_30, x.k266, x.l266, x.a244_31, x.k267, x.l267, x.a244_32, x.k268, x.l268, x.a244_35, x.k271, x.l271, x.a244_39, x.k273, x.l273, ms_r (show 244 ≤ 244 ∧ 244 < 276 by omega), ms_r (show 244 ≤ 250 ∧ 250 < 276 by omega), ms_r (show 244 ≤ 273 ∧ 273 < 276 by omega), ms_w (show 244 ≤ 250 ∧ 250 < 276 by omega), ms_w (show 244 ≤ 266 ∧ 266 < 276 by omega), ms_w (show 244 ≤ 267 ∧ 267 < 276 by omega), ms_w (show 244 ≤ 268 ∧ 268 < 276 by omega), ms_w (show 244 ≤ 271 ∧ 271 < 276 by omega), ms_w (show 244 ≤ 244 ∧ 244 < 276 by omega), ms_w (show 244 ≤ 273 ∧ 273 < 276 by omega), hu_at, Nat.reduceEqDiff, false_and, and_false, and_self, if_false, if_true, u1, u2, u3, b1, b2, b3, b4, i6, j6, nI_1, q]
        exact x1125_130 (Or.inr rfl)
      · simp only [x1125_34, x1125_35, x1125_38, x1125_39, x1125_40, x1125_41, x1125_42, x1125_43, x1125_44, x1125_45, x1125_48, x1125_49, x1125_52, x1125_53, x1125_54, x1125_55, x1125_58, x1125_59, x1125_62, x1125_63, x1125_64, x1125_65, x1125_68, x1125_69, x1125_72, x1125_73, x1125_74, x1125_75, x1125_78, x1125_79, x1125_82, x1125_83, x1125_84, x1125_85, x1125_86, x1125_89, x1125_90, x1125_91, x1125_94, x1125_95, x1125_98, x1125_100, x1125_101, x1125_104, x1125_105, x1125_108, x1125_110, x1125_111, x1125_114, x1125_115, x1125_118, x1125_121, x1125_122, x1125_125, x1125_127, x1125_128, x1125_129, hp_k_ms, hp_a_ms, hp_l_ms, x.k244, x.a244_6, x.k250, x.l250, x.a244_30, x.k266, x.l266, x.a244_31, x.k267, x.l267, x.a244_32, x.k268, x.l268, x.a244_35, x.k271, x.l271, x.a244_39, x.k273, x.l273, ms_r (show 244 ≤ 244 ∧ 244 < 276 by omega), ms_r (show 244 ≤ 250 ∧ 250 < 276 by omega), ms_r (show 244 ≤ 273 ∧ 273 < 276 by omega), ms_w (show 244 ≤ 250 ∧ 250 < 276 by omega), ms_w (show 244 ≤ 266 ∧ 266 < 276 by omega), ms_w (show 244 ≤ 267 ∧ 267 < 276 by omega), ms_w (show 244 ≤ 268 ∧ 268 < 276 by omega), ms_w (show 244 ≤ 271 ∧ 271 < 276 by omega), ms_w (show 244 ≤ 244 ∧ 244 < 276 by omega), ms_w (show 244 ≤ 273 ∧ 273 < 276 by omega), hu_at, Nat.reduceEqDiff, false_and, and_false, and_self, if_false, if_true, u1, u2, u3, b1, b2, b3, b4, i6, j6, nI_1, q]
        exact x1125_130 (Or.inr rfl)
    · exact gc.congr (fun b j h => k5' b j (by omega) (by omega) (by omega) (by omega) (by omega))
    · obtain ⟨y1, y2, y3, y4, y5, y6, y7⟩ := gb2
      have kb : ∀ j, ¬ j = 29 → ¬ j = 41 → pushS τ F m (σ2 250 m + 1) c6 to 244 j = σ2 244 j := by
        intro j q1 q2
        rw [pushS_at (by omega) (by omega) (by omega) (by omega) (by omega) (by omega) (by omega), tk _ _ (by omega) (by omega)]
      unfold GB
      rw [kb 37 (by omega) (by omega), kb 38 (by omega) (by omega), kb 17 (by omega) (by omega), kb 23 (by omega) (by omega), kb 28 (by omega) (by omega), pushS_at (b := 244) (j := 41) (by omega) (by omega) (by omega) (by omega) (by omega) (by omega) (by omega)]
      exact ⟨tn, y2, y3, y4, y5, y6, y7⟩
    · obtain ⟨y1, y2, y3, y4, y5⟩ := gf
      refine ⟨⟨F + 1, pushS_29, by omega⟩, fun f hf => ?_, fun f hf0 hf => ?_, fun _ => ?_, fun f hf => ?_⟩
      · rw [pushS_29, ix_nI (by omega)] at hf ⊢
        by_cases q : f = F
        · subst q
          refine ⟨m, 0, pushS_266, ?_, pushS_267, by omega, fun z => ?_⟩
          · rw [k5' _ _ (by omega) (by omega) (by omega) (by omega) (by omega)]; exact hm
          · rcases z with z | z
            · omega
            · exact absurd trivial z
        · obtain ⟨r', n', x1, x2, x3, x4, x5⟩ := y2 f (by omega)
          refine ⟨r', n', ?_, ?_, ?_, x4, fun _ => ?_⟩
          · rw [k5' _ _ (by omega) (by omega) (by omega) (by omega) (by omega)]; exact x1
          · rw [k5' _ _ (by omega) (by omega) (by omega) (by omega) (by omega)]; exact x2
          · rw [k5' _ _ (by omega) (by omega) (by omega) (by omega) (by omega)]; exact x3
          · rw [k5' _ _ (by omega) (by omega) (by omega) (by omega) (by omega)]; exact x5 (Or.inr id)
      · rw [pushS_29, ix_nI (by omega)] at hf
        rw [k5' 266 _ (by omega) (by omega) (by omega) (by omega) (by omega), k5' 267 _ (by omega) (by omega) (by omega) (by omega) (by omega), k5' 247 _ (by omega) (by omega) (by omega) (by omega) (by omega), k5' 247 _ (by omega) (by omega) (by omega) (by omega) (by omega)]
        by_cases q : f = F
        · rw [q, pushS_268]
          exact hto (by omega)
        · rw [k5' 268 _ (by omega) (by omega) (by omega) (by omega) (by omega)]
          exact y3 f hf0 (by omega)
      · rw [k5' _ _ (by omega) (by omega) (by omega) (by omega) (by omega)]; exact h15
      · rw [k5' _ _ (by omega) (by omega) (by omega) (by omega) (by omega), k5' _ _ (by omega) (by omega) (by omega) (by omega) (by omega)]
        exact y5 f hf
    · have k272 : ∀ j, pushS τ F m (σ2 250 m + 1) c6 to 272 j = σ 272 j := fun j => k5' _ _ (by omega) (by omega) (by omega) (by omega) (by omega)
      have k261 : ∀ j, pushS τ F m (σ2 250 m + 1) c6 to 261 j = σ 261 j := fun j => k5' _ _ (by omega) (by omega) (by omega) (by omega) (by omega)
      have k17 : pushS τ F m (σ2 250 m + 1) c6 to 244 17 = σ 244 17 := k5' _ _ (by omega) (by omega) (by omega) (by omega) (by omega)
      obtain ⟨g1, g2, g3⟩ := hh
      unfold HH
      simp only [k272, k261, k17, pushS_29]
      refine ⟨fun f k hf hk => ?_, fun f hf => ?_, g3⟩
      · obtain ⟨n, n1, n2, n3⟩ := g1 f k hf hk
        refine ⟨n, n1, n2, fun z => n3 ?_⟩
        rw [ix_nI (by omega)] at z
        omega
      · by_cases q : f = F
        · subst q
          rw [pushS_271]
          obtain ⟨s1, s2⟩ := g2 f hf
          refine ⟨?_, s2⟩
          rw [← s1, ← kk _ _ (by omega) (by omega)]
          exact z271.symm
        · rw [k5' _ _ (by omega) (by omega) (by omega) (by omega) (by omega)]
          exact g2 f hf
    · unfold PH
      have l2 : pushS τ F m (σ2 250 m + 1) c6 to 244 38 = σ2 244 38 := by
        rw [pushS_at (by omega) (by omega) (by omega) (by omega) (by omega) (by omega) (by omega), tk _ _ (by omega) (by omega)]
      rw [l2, pushS_29, ix_nI (by omega), f0]
      have sm := sumN_congr (n := F) (f := fun f => 40 - ix (pushS τ F m (σ2 250 m + 1) c6 to 267 f)) (g := fun f => 40 - ix (σ 267 f)) (fun f hf => by
        show 40 - ix (pushS τ F m (σ2 250 m + 1) c6 to 267 f) = _
        rw [k5' _ _ (by omega) (by omega) (by omega) (by omega) (by omega)])
      show sumN _ F + (40 - ix (pushS τ F m (σ2 250 m + 1) c6 to 267 F)) + _ + _ ≤ _
      rw [sm]
      omega
    · exact k5' _ _ (by omega) (by omega) (by omega) (by omega) (by omega)
    · exact k5' _ _ (by omega) (by omega) (by omega) (by omega) (by omega)
end
