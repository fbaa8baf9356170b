/-! THE ENGINE, 15: to a handler -/
section
variable {L : Nat} {h0 h : HP} {σ : SM} {A : Nat}
theorem pays_59 {q : Nat} {r : Option Value} {h' : HP} (X : FX L h) (hq : q < 5) (e : pX 603 0 [.ref 7, .int (nI q)] [] h = some (r, h')) : hp_i h' 5 9 = hp_i h 5 9 := by
  rw [sp_paysFor X hq] at e
  have e := Option.some.inj e
  by_cases z : canPay h (hp_i h 8 q).toInt64
  · rw [if_pos z] at e
    have e2 : paysH h q = h' := congrArg Prod.snd e
    rw [← e2]
    unfold paysH payH
    rw [hp_i_wi, if_neg (by omega), hp_i_wi, if_neg (by omega), hp_i_wi, if_neg (by omega), hp_i_wi, if_neg (by omega)]
  · rw [if_neg z] at e
    have e2 : h = h' := congrArg Prod.snd e
    rw [← e2]
theorem SO.gc {σ σ' : SM} (s : SO σ σ') (g : GC σ) : GC σ' := g.congr (fun b j h => s.1 b j (by unfold hard; omega))
theorem SO.gf {σ σ' : SM} {t : Prop} (s : SO σ σ') (g : GF σ t) : GF σ' t := g.congr (fun b j h => s.1 b j (by unfold hard; omega))
theorem SO.hh {σ σ' : SM} {A : Nat} (s : SO σ σ') (g : HH σ A) : HH σ' A := g.cells (fun b j h => s.1 b j (by unfold hard; omega)) s.2.2.2
theorem SO.ph {σ σ' : SM} (s : SO σ σ') : PH σ' ≤ PH σ := PH.congr (s.1 _ _ (by unfold hard; omega)) (fun j => s.1 _ _ (by unfold hard; omega)) s.2.2.1
/-- the latest frame goes elsewhere -/
theorem GF.go {F r n : Nat} {t : Prop} (g : GF σ t) (hF : σ 244 29 = nI (F + 1)) (hF12 : F < 12) (h1 : σ 266 F = nI r) (hr : r < 10) (hM : r < ix (σ 244 0)) (hn : n ≤ 40) : GF (hp_u σ 267 F (nI n)) True := by
  have f0 : ix (σ 244 29) = F + 1 := by rw [hF]; exact ix_nI (by omega)
  have k3 : ∀ b j, ¬ (b = 267 ∧ j = F) → hp_u σ 267 F (nI n) b j = σ b j := fun b j h => by rw [hu_at, if_neg h]
  obtain ⟨y1, y2, y3, y4, y5⟩ := g
  refine ⟨?_, fun f hf => ?_, fun f h0 hf => ?_, fun hf => ?_, fun f hf => ?_⟩
  · rw [k3 _ _ (by omega)]; exact y1
  · rw [k3 244 29 (by omega), f0] at hf ⊢
    by_cases q : f = F
    · subst q
      refine ⟨r, n, ?_, ?_, hu_same, hn, fun z => ?_⟩
      · rw [k3 _ _ (by omega)]; exact h1
      · rw [k3 _ _ (by omega)]; exact hM
      · rcases z with z | z
        · omega
        · exact absurd trivial z
    · obtain ⟨r', n', x1, x2, x3, x4, x5⟩ := y2 f (by omega)
      refine ⟨r', n', ?_, ?_, ?_, x4, fun _ => ?_⟩
      · rw [k3 _ _ (by omega)]; exact x1
      · rw [k3 _ _ (by omega)]; exact x2
      · rw [k3 _ _ (by omega)]; exact x3
      · rw [k3 _ _ (by omega)]; exact x5 (by omega)
  · rw [k3 244 29 (by omega), f0] at hf
    rw [k3 266 _ (by omega), k3 267 _ (by omega), k3 268 _ (by omega), k3 247 _ (by omega), k3 247 _ (by omega)]
    exact y3 f h0 (by omega)
  · rw [k3 244 29 (by omega)] at hf
    rw [k3 _ _ (by omega)]; exact y4 hf
  · rw [k3 _ _ (by omega), k3 _ _ (by omega)]; exact y5 f hf
theorem PH.go {F : Nat} {V : Int32} (hF : σ 244 29 = nI (F + 1)) (hF12 : F < 12) : PH (hp_u σ 267 F V) + (40 - ix (σ 267 F)) = PH σ + (40 - ix V) := by
  have f0 : ix (σ 244 29) = F + 1 := by rw [hF]; exact ix_nI (by omega)
  have k3 : ∀ b j, ¬ (b = 267 ∧ j = F) → hp_u σ 267 F V b j = σ b j := fun b j h => by rw [hu_at, if_neg h]
  unfold PH
  rw [k3 244 29 (by omega), k3 244 38 (by omega), f0]
  have e := sumN_congr (n := F) (f := fun f => 40 - ix (hp_u σ 267 F V 267 f)) (g := fun f => 40 - ix (σ 267 f)) (fun f hf => by
    show 40 - ix (hp_u σ 267 F V 267 f) = _
    rw [k3 _ _ (by omega)])
  show sumN _ F + (40 - ix (hp_u σ 267 F V 267 F)) + _ + _ = sumN _ F + (40 - ix (σ 267 F)) + _ + _
  rw [e, hu_same]
  omega
theorem op_begH {F r n H q kd : Nat} (w : IV L h0 h σ A False) (hF : σ 244 29 = nI (F + 1)) (hF12 : F < 12) (t1 : σ 266 F = nI r) (hr : r < 10) (t3 : σ 267 F = nI n) (hH : σ 248 r = nI H) (hH6 : H ≤ 6) (hq : q < H) (k1 : 1 ≤ kd) (k9 : kd ≤ 9) (h59 : kd = 9 → σ 244 42 = hp_i h 5 9) :
    (pX 312 0 [.ref 5, .ref (106 + 11 * F), .int (nI q), .int (nI kd)] [] h = some (some (.int (-9)), h) ∧ ∀ k, FX L k → pX 1128 104 [.ref 244, .int (nI kd), .int (nI F), .int (nI r), .int (nI (24 * r + 4 * q))] [] (mset k σ) = pX 1128 119 [.ref 244, .int (nI kd), .int (nI F), .int (nI r), .int (nI (24 * r + 4 * q))] [.ref 244] (mset k σ)) ∨
    (∃ h' σ', pX 312 0 [.ref 5, .ref (106 + 11 * F), .int (nI q), .int (nI kd)] [] h = some (some (.int (-1)), h') ∧ (∀ k, FX L k → pX 1128 104 [.ref 244, .int (nI kd), .int (nI F), .int (nI r), .int (nI (24 * r + 4 * q))] [] (mset k σ) = some (none, mset k σ')) ∧ IV L h0 h' σ' A True ∧ σ' 244 29 = nI (F + 1) ∧ PH σ' + 1 ≤ PH σ ∧ σ' 244 8 = σ 244 8) := by
  obtain ⟨⟨ca, ra, hs, sp, c⟩, gc, gb, gf, hh, hA⟩ := w
  have X := c.fx
  have gp := gc.2.2.2.2
  have i2 : inb 2 5 = true := inb_lit (by decide) (by decide)
  have j2 : ix 2 = 2 := ix_lit (by decide)
  have i3 : inb 3 9 = true := inb_lit (by decide) (by decide)
  have j3 : ix 3 = 3 := ix_lit (by decide)
  rcases c.pays gb gp (q := 2) (by omega) with ⟨p1, p2⟩ | ⟨h1, σ1, σ2, p1, p2, p3, p4, p5, p6, p7⟩
  · rw [show nI 2 = 2 from rfl] at p1
    refine Or.inl ⟨?_, fun k x => ?_⟩
    · simp only [x312_0, x312_1, x312_4, x312_5, x312_8, x312_11, x312_13, X.k5, X.a5_2, X.k7, p1, Option.bind_some, Option.toList_some, Option.toList_none, List.singleton_append, List.nil_append, if_true]
    · simp only [x1128_104, x1128_105, x1128_106, x1128_109, x1128_110, x1128_111, x1128_112, x1128_115, x1128_118, hp_k_ms, hp_a_ms, hp_l_ms, x.k244, x.a244_7, x.k251, x.l251, ms_r (show 244 ≤ 251 ∧ 251 < 276 by omega), i2, j2, p2 k x, Option.bind_some, Option.toList_some, Option.toList_none, List.singleton_append, List.nil_append, if_true]
  · have h59' := pays_59 X (by omega) p1
    rw [show nI 2 = 2 from rfl] at p1
    obtain ⟨h2, σ3, u1, u2, u3, u4, u5, u6⟩ := op_trace (x := nI kd) p4 p5.2.1.1
    have X1 := p4.fx
    have X2 := u3.fx
    have s29 : σ3 244 29 = nI (F + 1) := by rw [u4 _ _ (by omega) (by omega), p5.1 _ _ (by unfold hard; omega)]; exact hF
    have f0 : ix (σ3 244 29) = F + 1 := by rw [s29]; exact ix_nI (by omega)
    generalize hN : (if nI kd = 9 then hp_i h 5 9 else nI kd) = N
    have c4 := u3.num (V := N) (f := F) (r := 7) (by omega) (by omega)
    have kslot := u3.rk (f := F) (r := 7) hF12 (by omega)
    generalize hh3 : slSet h2 (109 + 11 * F + 7) 0 N 0 0 = h3 at c4
    have X3 := c4.fx
    have so : SO σ (rgS σ3 (8 * F + 7) 1 N) := by
      refine ⟨fun b j hb => ?_, ?_, ?_, ?_⟩
      · unfold rgS
        rw [hu_at, if_neg (by unfold hard at hb; omega), hu_at, if_neg (by unfold hard at hb; omega), u4 b j (by unfold hard at hb; omega) (by unfold hard at hb; omega)]
        exact p5.1 b j hb
      · obtain ⟨a1, a2, a3, a4, a5, a6, a7⟩ := p5.2.1
        unfold GB rgS
        simp only [hu_cell (show ¬ 244 = 269 by omega), hu_cell (show ¬ 244 = 270 by omega)]
        rw [u4 244 37 (by omega) (by omega), u4 244 38 (by omega) (by omega), u4 244 17 (by omega) (by omega), u4 244 23 (by omega) (by omega), u4 244 28 (by omega) (by omega)]
        exact ⟨u5, a2, a3, a4, a5, a6, a7⟩
      · unfold rgS
        rw [hu_cell (by omega), hu_cell (by omega), u4 _ _ (by omega) (by omega)]
        exact p5.2.2.1
      · unfold rgS
        rw [hu_cell (by omega), hu_cell (by omega), u4 _ _ (by omega) (by omega)]
        exact p5.2.2.2
    generalize hσ4 : rgS σ3 (8 * F + 7) 1 N = σ4 at c4 so
    have s29' : σ4 244 29 = nI (F + 1) := by rw [so.1 _ _ (by unfold hard; omega)]; exact hF
    have hq6 : q < 6 := by omega
    obtain ⟨at0, ac1, ac2⟩ := (gc.2.2.2.1 r q hr (by rw [hH, ix_nI (by omega)]; exact hq)).2.2.2
    have c5 := c4.at (f := F) (V := nI at0) (by rw [s29', ix_nI (by omega)]; omega)
    have fat : hp_i h3 (16 + 9 * r + 8) q = nI at0 := by
      have := c4.fi _ _ _ _ (CMR.catching (i := r) (r := 3) (q := q) hr (by omega) hq6)
      rw [show 21 + 9 * r + 3 = 16 + 9 * r + 8 by omega] at this
      rw [this, so.1 _ _ (by unfold hard; omega)]
      exact ac1
    have fr := (c4.frm (f := F) (by rw [s29', ix_nI (by omega)]; omega)).1
    rw [so.1 _ _ (by unfold hard; omega), t1, ix_nI (by omega)] at fr
    have e1 : inb (nI q) 6 = true := inb_nI (by omega) (by omega)
    have e2 : ix (nI q) = q := ix_nI (by omega)
    have i7 : inb 7 8 = true := inb_lit (by decide) (by decide)
    have j7 : ix 7 = 7 := ix_lit (by decide)
    have num := sp_number (h := h2) (a := 109 + 11 * F + 7) (n := N) kslot
    rw [hh3] at num
    have m0 : r < ix (σ4 244 0) := by
      rw [so.1 _ _ (by unfold hard; omega)]
      obtain ⟨r', n', x1, x2, x3, x4, x5⟩ := gf.2.1 F (by rw [hF, ix_nI (by omega)]; omega)
      rw [t1] at x1
      have : r = r' := (nI_eq (by omega) (by
        obtain ⟨M, m1, m2⟩ := gc.1
        rw [m1, ix_nI (by omega)] at x2
        omega)).mp x1
      omega
    have e7 : (8 : Int32) * nI F + 7 = nI (8 * F + 7) := by rw [show (8 : Int32) = nI 8 from rfl, nI_mul]; exact nI_add _ 7
    have e8 : inb (nI (8 * F + 7)) 96 = true := inb_nI (by omega) (by omega)
    have e9 : ix (nI (8 * F + 7)) = 8 * F + 7 := ix_nI (by omega)
    have b3 : inb (nI F) 12 = true := inb_nI (by omega) (by omega)
    have b4 : ix (nI F) = F := ix_nI (by omega)
    have a3 : nI (24 * r + 4 * q) + 3 = nI (24 * r + 4 * q + 3) := nI_add _ 3
    have i1 : inb (nI (24 * r + 4 * q + 3)) 240 = true := inb_nI (by omega) (by omega)
    have j1 : ix (nI (24 * r + 4 * q + 3)) = 24 * r + 4 * q + 3 := ix_nI (by omega)
    have ac3 : σ3 249 (24 * r + 4 * q + 3) = nI at0 := by rw [u4 _ _ (by omega) (by omega), p5.1 _ _ (by unfold hard; omega)]; exact ac1
    have n42 : kd = 9 → σ3 244 42 = hp_i h 5 9 := by
      intro z
      rw [u4 _ _ (by omega) (by omega), p3, hu_cell (by omega), p7 _ _ (by omega) (by omega)]
      exact h59 z
    have n59 : hp_i h2 5 9 = hp_i h 5 9 := u6.trans h59'
    refine Or.inr ⟨hp_wi h3 (106 + 11 * F) 4 (nI at0), hp_u σ4 267 F (nI at0), ?_, fun k x => ?_, ⟨⟨_, _, _, _, c5⟩, ?_, ?_, ?_, ?_, hA⟩, ?_, ?_, ?_⟩
    · have st : pX 312 0 [.ref 5, .ref (106 + 11 * F), .int (nI q), .int (nI kd)] [] h = pX 312 40 [.ref 5, .ref (106 + 11 * F), .int (nI q), .int (nI kd)] [.int N, .ref (109 + 11 * F + 7)] h2 := by
        rw [← hN]
        by_cases z : nI kd = 9
        · have u1' := u1
          rw [z] at u1'
          simp only [x312_0, x312_1, x312_4, x312_5, x312_8, x312_14, x312_15, x312_16, x312_19, x312_20, x312_23, x312_25, x312_26, x312_27, x312_29, x312_32, x312_33, x312_36, X.k5, X.a5_2, X.k7, p1, Option.bind_some, Option.toList_some, Option.toList_none, List.singleton_append, List.nil_append, i32_10, if_false, X1.k5, u1', X2.fk F hF12, X2.fp0 F hF12, X2.frk F hF12, X2.frl F hF12, show 200 ≤ 208 by omega, i7, j7, X2.frp F 7 hF12 (by omega), z, if_true, X2.k5, n59]
        · simp only [x312_0, x312_1, x312_4, x312_5, x312_8, x312_14, x312_15, x312_16, x312_19, x312_20, x312_23, x312_25, x312_26, x312_27, x312_29, x312_39, X.k5, X.a5_2, X.k7, p1, Option.bind_some, Option.toList_some, Option.toList_none, List.singleton_append, List.nil_append, i32_10, if_false, X1.k5, u1, X2.fk F hF12, X2.fp0 F hF12, X2.frk F hF12, X2.frl F hF12, show 200 ≤ 208 by omega, i7, j7, X2.frp F 7 hF12 (by omega), z]
      rw [st]
      simp only [x312_40, x312_43, x312_44, x312_45, x312_48, x312_51, x312_52, x312_53, x312_56, x312_57, kslot, num, Option.bind_some, Option.toList_some, Option.toList_none, List.singleton_append, List.nil_append, X3.fk F hF12, fr, X3.mk r hr, X3.mpb r 8 hr (by omega) (by omega), X3.mka r 8 hr (by omega) (by omega), X3.mlb r 8 hr (by omega) (by omega), e1, e2, fat]
    · rw [← hσ4]
      unfold rgS
      have st : pX 1128 104 [.ref 244, .int (nI kd), .int (nI F), .int (nI r), .int (nI (24 * r + 4 * q))] [] (mset k σ) = pX 1128 176 [.ref 244, .int (nI kd), .int (nI F), .int (nI r), .int (nI (24 * r + 4 * q))] [.int N, .int (nI (8 * F + 7)), .ref 270] (mset k (hp_u σ3 269 (8 * F + 7) 1)) := by
        rw [← hN]
        have st0 : pX 1128 104 [.ref 244, .int (nI kd), .int (nI F), .int (nI r), .int (nI (24 * r + 4 * q))] [] (mset k σ) = pX 1128 138 [.ref 244, .int (nI kd), .int (nI F), .int (nI r), .int (nI (24 * r + 4 * q))] [] (mset k σ3) := by
          have u2' := u2 k x
          rw [p3] at u2'
          simp only [x1128_104, x1128_105, x1128_106, x1128_109, x1128_110, x1128_111, x1128_112, x1128_115, x1128_123, x1128_124, x1128_127, x1128_128, x1128_129, x1128_130, x1128_131, x1128_132, x1128_133, x1128_134, x1128_135, hp_k_ms, hp_a_ms, hp_l_ms, x.k244, x.a244_7, x.k251, x.l251, x.a244_39, x.k273, x.l273, ms_r (show 244 ≤ 251 ∧ 251 < 276 by omega), ms_r (show 244 ≤ 273 ∧ 273 < 276 by omega), ms_w (show 244 ≤ 273 ∧ 273 < 276 by omega), i2, j2, i3, j3, p2 k x, Option.bind_some, Option.toList_some, Option.toList_none, List.singleton_append, List.nil_append, i32_10, if_false, u2']
        rw [st0]
        by_cases z : nI kd = 9
        · have kd9 : kd = 9 := (nI_eq (b := 9) (by omega) (by omega)).mp z
          simp only [x1128_138, x1128_139, x1128_142, x1128_144, x1128_145, x1128_146, x1128_148, x1128_149, x1128_150, x1128_151, x1128_152, x1128_155, x1128_157, x1128_158, x1128_159, x1128_161, x1128_162, x1128_163, x1128_165, x1128_168, x1128_169, x1128_172, hp_k_ms, hp_a_ms, hp_l_ms, x.k244, x.a244_33, x.k269, x.l269, x.a244_34, x.k270, x.l270, ms_r (show 244 ≤ 244 ∧ 244 < 276 by omega), ms_w (show 244 ≤ 269 ∧ 269 < 276 by omega), e7, e8, e9, z, if_true, hu_cell (show ¬ 244 = 269 by omega), n42 kd9]
        · simp only [x1128_138, x1128_139, x1128_142, x1128_144, x1128_145, x1128_146, x1128_148, x1128_149, x1128_150, x1128_151, x1128_152, x1128_155, x1128_157, x1128_158, x1128_159, x1128_161, x1128_162, x1128_163, x1128_165, x1128_175, hp_k_ms, hp_a_ms, hp_l_ms, x.k244, x.a244_33, x.k269, x.l269, x.a244_34, x.k270, x.l270, ms_r (show 244 ≤ 244 ∧ 244 < 276 by omega), ms_w (show 244 ≤ 269 ∧ 269 < 276 by omega), e7, e8, e9, z, if_false]
      rw [st]
      simp only [x1128_176, x1128_177, x1128_178, x1128_181, x1128_182, x1128_183, x1128_186, x1128_188, x1128_189, x1128_190, x1128_191, x1128_192, hp_k_ms, hp_a_ms, hp_l_ms, x.k244, x.a244_31, x.k267, x.l267, x.k270, x.l270, x.a244_5, x.k249, x.l249, ms_r (show 244 ≤ 249 ∧ 249 < 276 by omega), ms_w (show 244 ≤ 267 ∧ 267 < 276 by omega), ms_w (show 244 ≤ 270 ∧ 270 < 276 by omega), e8, e9, b3, b4, a3, i1, j1, hu_cell (show ¬ 249 = 269 by omega), hu_cell (show ¬ 249 = 270 by omega), ac3]
    · exact (so.gc gc).congr (fun b j h => hu_cell (by omega))
    · exact so.2.1.congr (fun j h => hu_cell (by omega))
    · exact (so.gf gf).go s29' hF12 (by rw [so.1 _ _ (by unfold hard; omega)]; exact t1) hr m0 ac2
    · exact (so.hh hh).congr (fun b j h => hu_cell (by omega))
    · rw [hu_cell (by omega)]; exact s29'
    · have e1 := PH.go (σ := σ4) (V := nI at0) s29' hF12
      have e2 : PH σ4 + 82 ≤ PH σ := by
        have l4 : ix (σ4 244 38) + 1 ≤ ix (σ 244 38) := by
          rw [← hσ4]
          unfold rgS
          rw [hu_cell (by omega), hu_cell (by omega), u4 _ _ (by omega) (by omega)]
          exact p6
        unfold PH
        have a7 : ∀ j, σ4 267 j = σ 267 j := fun j => so.1 _ _ (by unfold hard; omega)
        simp only [a7, s29', hF]
        omega
      omega
    · rw [hu_cell (by omega)]; exact so.1 _ _ (by unfold hard; omega)
end
