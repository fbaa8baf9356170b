/-! THE ENGINE, 13: what a frame gives -/
section
variable {L : Nat} {h0 h : HP} {σ σ1 : SM} {ca ra : Nat → Nat} {hs : Nat → List Nat} {sp : List Nat} {A : Nat} {t : Prop}
theorem give_step {F i : Nat} {K V : Int32} {v : Value} (c : CR L h0 h σ1 ca ra hs sp) (hv : ∀ b j, ¬ (b = 267 ∧ j = F) → ¬ ((b = 269 ∨ b = 270) ∧ j = 96 + F) → σ1 b j = σ b j) (hK : σ1 269 (96 + F) = K) (hV : σ1 270 (96 + F) = V) (gc : GC σ) (gb : GB σ) (gf : GF σ t) (hh : HH σ A) (hA : A ≤ 492000) (hF : σ 244 29 = nI (F + 1)) (hF12 : F < 12) :
    ∃ h' σ', pX 310 25 [.ref 5, .int (nI i), v] [] h = pX 310 2 [.ref 5, .int (nI (i + 1)), .ref (108 + 11 * F)] [] h' ∧ (∀ k, FX L k → pX 1127 0 [.ref 244, .int K, .int V, .retAddr 0] [] (mset k σ) = some (none, mset k σ')) ∧ IV L h0 h' σ' A True ∧ σ' 244 29 = nI F ∧ (F = 0 → σ' 244 44 = 0) ∧ PH σ' + (40 - ix (σ 267 F)) ≤ PH σ ∧ σ' 244 8 = σ 244 8 := by
  have X := c.fx
  obtain ⟨C, c1, c2⟩ := gb.2.2.2.1
  have hC : ix (σ 244 17) ≤ 6000 := by rw [c1, ix_nI (by omega)]; exact c2
  have hF1 : σ1 244 29 = nI (F + 1) := by rw [hv _ _ (by omega) (by omega)]; exact hF
  have f1 : ix (σ1 244 29) = F + 1 := by rw [hF1]; exact ix_nI (by omega)
  have fF : hp_i h 5 7 = nI (F + 1) := (c.fi _ _ _ _ CMR.frames).trans hF1
  obtain ⟨g1, e1, e2, e3, _⟩ := c.pop hF1 hF12 (by rw [hv _ _ (by omega) (by omega)]; exact hC)
  have p : SLP σ1 ca (108 + 11 * F) 269 (96 + F) 270 (96 + F) := Or.inr (Or.inr (Or.inr (Or.inl ⟨F, by omega, rfl, rfl, rfl, rfl, rfl⟩)))
  obtain ⟨z1, z2, z3, z4, z5⟩ := c.at_ p
  rw [hK, hV] at z1 z2 z3 z4 z5
  rw [← (e3 0).1] at z1
  rw [← (e3 1).1] at z2
  rw [← (e3 2).2] at z3
  rw [← (e3 3).2] at z4
  have e4 := e2.agree (σ' := popS σ F) (fun b j q1 q2 q3 => by
    rw [popS_29, ix_nI (by omega)] at q3
    exact popS_congr hv (fun z => q3 (by unfold dead; omega)) (fun z => q3 (by unfold dead; omega)))
  have kp := kpF.pop σ F
  have t1 : thK (popS σ F) K V = thK σ1 K V := by
    unfold thK
    rw [kp 257 _ (by omega) (by omega) (by omega) (by omega) (by omega), kp 262 _ (by omega) (by omega) (by omega) (by omega) (by omega), hv 257 _ (by omega) (by omega), hv 262 _ (by omega) (by omega)]
  have t2 : okT (popS σ F) K V := by
    unfold okT at z5 ⊢
    rw [kp 244 17 (by omega) (by omega) (by omega) (by omega) (by omega), kp 244 23 (by omega) (by omega) (by omega) (by omega) (by omega), ← hv 244 17 (by omega) (by omega), ← hv 244 23 (by omega) (by omega)]
    exact z5
  rw [← t1] at z1
  have pf := pop_gf gf hF hF12
  have ph := pop_hh hh hF hF12 hC hA
  have pp := pop_ph hF hF12
  have pc := kp.gc gc
  have pb := kp.gb gb
  have fr := hh.free hA hF12 c2
  have rl : ∀ k, FX L k → pX 1124 0 [.ref 244, .int (nI F), .retAddr 0] [] (mset k (hp_u σ 244 29 (nI F))) = some (none, mset k (popS σ F)) := fun k x => sp_release x hF12 (by rw [hu_idx (by omega)]; exact c1) c2 (by
    rw [hu_cell (by omega)]
    intro q
    obtain ⟨z1, z2⟩ := fr q
    exact ⟨z1, fun j hj => by rw [hu_cell (by omega)]; exact z2 j hj⟩)
  have X1 := e4.fx
  have kG := X.fgk F hF12
  have kG1 := X1.fgk F hF12
  have n8 : nI (F + 1) - 1 = nI F := nI_pred F
  have d1 : hp_i g1 5 7 = nI F := (e4.fi _ _ _ _ CMR.frames).trans popS_29
  have cl : pX 310 25 [.ref 5, .int (nI i), v] [] h = pX 310 37 [.ref 5, .int (nI i), .ref (108 + 11 * F)] [] g1 := by
    simp only [x310_25, x310_26, x310_29, x310_32, x310_33, x310_34, X.k5, sp_top X fF hF12, X.fk F hF12, X.fp1 F hF12, e1, Option.bind_some, Option.toList_some, Option.toList_none, List.singleton_append, List.nil_append]
  have ml : ∀ k, FX L k → pX 1127 0 [.ref 244, .int K, .int V, .retAddr 0] [] (mset k σ) = pX 1127 18 [.ref 244, .int K, .int V, .retAddr 0] [] (mset k (popS σ F)) := by
    intro k x
    simp only [x1127_0, x1127_1, x1127_2, x1127_5, x1127_6, x1127_7, x1127_10, x1127_11, x1127_12, x1127_15, hp_k_ms, x.k244, ms_r (show 244 ≤ 244 ∧ 244 < 276 by omega), ms_w (show 244 ≤ 244 ∧ 244 < 276 by omega), hF, n8, hu_same, rl k x, Option.bind_some, Option.toList_some, Option.toList_none, List.singleton_append, List.nil_append]
  generalize hσ2 : popS σ F = σ2 at *
  have p29 : σ2 244 29 = nI F := by rw [← hσ2]; exact popS_29
  have f2 : ix (σ2 244 29) = F := by rw [p29]; exact ix_nI (by omega)
  rcases Nat.eq_zero_or_pos F with hz | hz
  · subst hz
    have c5 := e4.slot (K := K) (V := V) (Or.inl ⟨rfl, rfl, rfl, rfl, rfl⟩) t2
    rw [← z1, ← z2, ← z3, ← z4] at c5
    have c6 := c5.w (CMR.told (t := 4) (by omega) (by omega)) (x := σ2 275 4 + 1) (by unfold depS; omega)
    have c7 := c6.agree (σ' := hp_u (hp_u (hp_u (hp_u σ2 244 15 K) 244 16 V) 275 4 (σ2 275 4 + 1)) 244 44 0) (fun b j q1 q2 q3 => by
      rw [hu_at, if_neg]
      intro z
      exact q3 (by unfold dead; omega))
    generalize hσ3 : hp_u (hp_u (hp_u (hp_u σ2 244 15 K) 244 16 V) 275 4 (σ2 275 4 + 1)) 244 44 0 = σ3 at c7
    have k3 : ∀ b j, ¬ (b = 244 ∧ (j = 15 ∨ j = 16 ∨ j = 44)) → ¬ b = 275 → σ3 b j = σ2 b j := by
      intro b j h1 h2
      rw [← hσ3, hu_at, if_neg (by omega), hu_at, if_neg (by omega), hu_at, if_neg (by omega), hu_at, if_neg (by omega)]
    have i4 : inb 4 5 = true := inb_lit (by decide) (by decide)
    have i5 : ix 4 = 4 := ix_lit (by decide)
    have s29 : σ3 244 29 = nI 0 := by rw [k3 _ _ (by omega) (by omega)]; exact p29
    have ft : hp_i g1 5 15 = σ2 275 4 := e4.fi _ _ _ _ (CMR.told (t := 4) (by omega) (by omega))
    have cp := sp_copy (h := g1) (a := 14) (b := 108 + 11 * 0) X1.k14 kG1
    generalize hg2 : slSet g1 14 (hp_i g1 (108 + 11 * 0) 0) (hp_i g1 (108 + 11 * 0) 1) (hp_a g1 (108 + 11 * 0) 2) (hp_a g1 (108 + 11 * 0) 3) = g2 at cp c7
    have ft2 : hp_i g2 5 15 = σ2 275 4 := by
      rw [← hg2, hp_i_sl, if_neg (by omega), if_neg (by omega)]; exact ft
    have k52 : hp_k g2 5 = 4 := by rw [← hg2, hp_k_sl]; exact X1.k5
    refine ⟨_, σ3, ?_, fun k x => (ml k x).trans ?_, ⟨⟨_, _, _, _, c7⟩, ?_, ?_, ?_, ?_, hA⟩, s29, fun _ => ?_, ?_, ?_⟩
    · rw [cl]
      generalize hR : pX 310 2 [.ref 5, .int (nI (i + 1)), .ref (108 + 11 * 0)] [] (hp_wi g2 5 15 (σ2 275 4 + 1)) = R
      simp only [x310_37, x310_38, x310_41, x310_55, x310_56, x310_59, x310_60, x310_63, x310_64, x310_65, x310_68, x310_69, x310_70, x310_73, X1.k5, d1, show nI 0 ≤ 0 from Int32.le_refl 0, if_true, X1.a5_8, X1.k14, cp, Option.bind_some, Option.toList_some, Option.toList_none, List.singleton_append, List.nil_append, k52, ft2, nI_1]
      rw [x310_76]
      exact hR
    · rw [← hσ3]
      simp only [x1127_18, x1127_19, x1127_22, x1127_77, x1127_78, x1127_79, x1127_82, x1127_83, x1127_84, x1127_87, x1127_88, x1127_91, x1127_92, x1127_93, x1127_94, x1127_95, x1127_96, x1127_97, x1127_98, x1127_99, x1127_102, hp_k_ms, hp_a_ms, hp_l_ms, x.k244, x.a244_43, x.k275, x.l275, ms_r (show 244 ≤ 244 ∧ 244 < 276 by omega), ms_r (show 244 ≤ 275 ∧ 275 < 276 by omega), ms_w (show 244 ≤ 244 ∧ 244 < 276 by omega), ms_w (show 244 ≤ 275 ∧ 275 < 276 by omega), p29, show nI 0 ≤ 0 from Int32.le_refl 0, if_true, i4, i5, hu_cell (show ¬ 275 = 244 by omega)]
    · exact pc.congr (fun b j h => k3 b j (by omega) (by omega))
    · exact pb.congr (fun j h => k3 244 j (by omega) (by omega))
    · obtain ⟨a1, a2, a3, a4, a5⟩ := pf
      refine ⟨⟨0, s29, by omega⟩, fun f hf => ?_, fun f h0 hf => ?_, fun hf => ?_, fun f hf => ?_⟩
      · rw [s29, ix_nI (by omega)] at hf; exact absurd hf (by omega)
      · rw [s29, ix_nI (by omega)] at hf; exact absurd hf (by omega)
      · rw [s29, ix_nI (by omega)] at hf; exact absurd hf (by omega)
      · rw [k3 _ _ (by omega) (by omega), k3 _ _ (by omega) (by omega)]
        exact a5 f hf
    · exact ph.congr (fun b j h => k3 b j (by omega) (by omega))
    · rw [← hσ3, hu_same]
    · have : PH σ3 ≤ PH σ2 := PH.congr (k3 _ _ (by omega) (by omega)) (fun j => k3 _ _ (by omega) (by omega)) (by rw [k3 _ _ (by omega) (by omega)]; exact Nat.le_refl _)
      omega
    · rw [k3 _ _ (by omega) (by omega)]
      exact kp _ _ (by omega) (by omega) (by omega) (by omega) (by omega)
  · obtain ⟨G, rfl⟩ : ∃ G, F = G + 1 := ⟨F - 1, by omega⟩
    obtain ⟨r, m, a1, a2, a3, a4, a5⟩ := pf.2.1 G (by omega)
    have a6 := a5 (Or.inr id)
    obtain ⟨M, m1, m2⟩ := pc.1
    have r10 : r < 10 := by rw [m1, ix_nI (by omega)] at a2; omega
    obtain ⟨ac, ac1, ac2⟩ := (pc.2.1 r r10).2.1
    have mlt : m < ac := by rw [ac1, ix_nI (by omega)] at a6; exact a6
    have okA := pc.2.2.1 r m r10 a6
    have q3 := gf.2.2.1 (G + 1) (by omega) (by rw [hF, ix_nI (by omega)]; omega)
    have kq : ∀ b j, ¬ (b = 244 ∧ j = 29) → ¬ b = 261 → ¬ b = 271 → ¬ b = 272 → ¬ b = 273 → σ2 b j = σ b j := kp
    rw [show G + 1 - 1 = G by omega, ← kq 266 G (by omega) (by omega) (by omega) (by omega) (by omega), ← kq 267 G (by omega) (by omega) (by omega) (by omega) (by omega), a1, a3, ix_nI (by omega), ix_nI (by omega), ← kq 247 _ (by omega) (by omega) (by omega) (by omega) (by omega), ← kq 247 _ (by omega) (by omega) (by omega) (by omega) (by omega), ← kq 268 _ (by omega) (by omega) (by omega) (by omega) (by omega)] at q3
    obtain ⟨q3, q4⟩ := q3
    rw [q3] at okA
    obtain ⟨a, ra1, ra2⟩ := okA.2.1 (by decide)
    rw [ra1] at q4
    have a8 : a < 8 := by omega
    have bh := e4.behind (f := G) (r := r) (m := m) (a := ac) (by omega) a1 r10 a3 ac1 (by omega) (by omega)
    rw [if_pos mlt] at bh
    obtain ⟨fr1, fr2⟩ := e4.frm (f := G) (by omega)
    rw [a1, ix_nI (by omega)] at fr1
    rw [a3] at fr2
    have fa : hp_i g1 (16 + 9 * r + 2) m = nI a := by
      have := e4.fi _ _ _ _ (CMR.code (i := r) (r := 1) (q := m) r10 (by omega) (by omega))
      rw [show 17 + 9 * r + 1 = 16 + 9 * r + 2 by omega] at this
      rw [this, ra1]
    have nm := sp_named2 (h := g1) (f := G) (n := a) (x := nI a) X1 (by omega) (and7_nI a8) a8
    have im : inb (nI m) 40 = true := inb_nI (by omega) (by omega)
    have im2 : ix (nI m) = m := ix_nI (by omega)
    have ks := X1.frs G a (by omega) a8
    have cp := sp_copy (h := g1) (a := 109 + 11 * G + a) (b := 108 + 11 * (G + 1)) ks kG1
    have c5 := e4.regw (f := G) (r := a) (K := K) (V := V) (by omega) a8 t2
    rw [← z1, ← z2, ← z3, ← z4] at c5
    have c6 := c5.at (f := G) (V := nI (m + 1)) (by show G < ix (rgS σ2 (8 * G + a) K V 244 29); unfold rgS; rw [hu_cell (by omega), hu_cell (by omega)]; omega)
    generalize hg2 : slSet g1 (109 + 11 * G + a) (hp_i g1 (108 + 11 * (G + 1)) 0) (hp_i g1 (108 + 11 * (G + 1)) 1) (hp_a g1 (108 + 11 * (G + 1)) 2) (hp_a g1 (108 + 11 * (G + 1)) 3) = g2 at cp c5 c6
    have at2 : hp_i g2 (106 + 11 * G) 4 = nI m := by
      rw [← hg2, hp_i_sl, if_neg (by omega), if_neg (by omega)]; exact fr2
    have kf2 : hp_k g2 (106 + 11 * G) = 2 := by rw [← hg2, hp_k_sl]; exact X1.fk G (by omega)
    have tk : pX 105 0 [.ref (106 + 11 * G), .ref (108 + 11 * (G + 1))] [] g1 = some (none, hp_wi g2 (106 + 11 * G) 4 (nI (m + 1))) := by
      simp only [x105_0, x105_1, x105_4, x105_7, x105_8, x105_9, x105_12, x105_15, x105_16, x105_19, x105_20, x105_23, x105_24, x105_27, x105_28, x105_29, x105_32, x105_33, x105_34, x105_37, X1.fk G (by omega), bh, Option.bind_some, Option.toList_some, Option.toList_none, List.singleton_append, List.nil_append, if_true, fr1, fr2, X1.mk r r10, X1.mpa r 2 r10 (by omega) (by omega), X1.mka r 2 r10 (by omega) (by omega), X1.mla r 2 r10 (by omega) (by omega), im, im2, fa, nm, ks, cp, kf2, at2, nI_1]
    have tp := sp_top (F := G) X1 d1 (by omega)
    generalize hσ3 : hp_u (rgS σ2 (8 * G + a) K V) 267 G (nI (m + 1)) = σ3 at c6
    have k3 : ∀ b j, ¬ (b = 267 ∧ j = G) → ¬ ((b = 269 ∨ b = 270) ∧ j = 8 * G + a) → σ3 b j = σ2 b j := by
      intro b j h1 h2
      unfold rgS at hσ3
      rw [← hσ3, hu_at, if_neg (by omega), hu_at, if_neg (by omega), hu_at, if_neg (by omega)]
    have s7 : σ3 267 G = nI (m + 1) := by rw [← hσ3, hu_same]
    have s29 : σ3 244 29 = nI (G + 1) := by rw [k3 _ _ (by omega) (by omega)]; exact p29
    have n9 : nI (G + 1) - 1 = nI G := nI_pred G
    have e7 : (8 : Int32) * nI G + nI a = nI (8 * G + a) := by rw [show (8 : Int32) = nI 8 from rfl, nI_mul, nI_add]
    have e8 : inb (nI (8 * G + a)) 96 = true := inb_nI (by omega) (by omega)
    have e9 : ix (nI (8 * G + a)) = 8 * G + a := ix_nI (by omega)
    have b1 : inb (nI (G + 1)) 12 = true := inb_nI (by omega) (by omega)
    have b2 : ix (nI (G + 1)) = G + 1 := ix_nI (by omega)
    have b3 : inb (nI G) 12 = true := inb_nI (by omega) (by omega)
    have b4 : ix (nI G) = G := ix_nI (by omega)
    have q0 : ¬ nI (G + 1) ≤ 0 := nI_nle (by omega) (by omega)
    refine ⟨_, σ3, ?_, fun k x => (ml k x).trans ?_, ⟨⟨_, _, _, _, c6⟩, ?_, ?_, ?_, ?_, hA⟩, s29, fun z => absurd z (by omega), ?_, ?_⟩
    · rw [cl]
      generalize hR : pX 310 2 [.ref 5, .int (nI (i + 1)), .ref (108 + 11 * (G + 1))] [] (hp_wi g2 (106 + 11 * G) 4 (nI (m + 1))) = R
      simp only [x310_37, x310_38, x310_41, x310_44, x310_45, x310_48, x310_49, x310_52, x310_73, X1.k5, d1, q0, if_false, tp, X1.fk G (by omega), tk, Option.bind_some, Option.toList_some, Option.toList_none, List.singleton_append, List.nil_append, nI_1]
      rw [x310_76]
      exact hR
    · rw [← hσ3]
      unfold rgS
      simp only [x1127_18, x1127_19, x1127_22, x1127_25, x1127_27, x1127_28, x1127_31, x1127_32, x1127_33, x1127_34, x1127_35, x1127_38, x1127_39, x1127_42, x1127_43, x1127_44, x1127_45, x1127_46, x1127_49, x1127_50, x1127_51, x1127_52, x1127_53, x1127_56, x1127_57, x1127_58, x1127_59, x1127_60, x1127_63, x1127_64, x1127_67, x1127_68, x1127_69, x1127_70, x1127_71, x1127_72, x1127_73, x1127_74, x1127_102, hp_k_ms, hp_a_ms, hp_l_ms, x.k244, x.a244_32, x.k268, x.l268, x.a244_33, x.k269, x.l269, x.a244_34, x.k270, x.l270, x.a244_31, x.k267, x.l267, ms_r (show 244 ≤ 244 ∧ 244 < 276 by omega), ms_r (show 244 ≤ 268 ∧ 268 < 276 by omega), ms_r (show 244 ≤ 267 ∧ 267 < 276 by omega), ms_w (show 244 ≤ 269 ∧ 269 < 276 by omega), ms_w (show 244 ≤ 270 ∧ 270 < 276 by omega), ms_w (show 244 ≤ 267 ∧ 267 < 276 by omega), p29, q0, if_false, n9, q4, e7, e8, e9, b1, b2, b3, b4, a3, nI_1, hu_cell (show ¬ 244 = 269 by omega), hu_cell (show ¬ 244 = 270 by omega), hu_cell (show ¬ 267 = 269 by omega), hu_cell (show ¬ 267 = 270 by omega)]
    · exact pc.congr (fun b j h => k3 b j (by omega) (by omega))
    · exact pb.congr (fun j h => k3 244 j (by omega) (by omega))
    · obtain ⟨y1, y2, y3, y4, y5⟩ := pf
      refine ⟨⟨G + 1, s29, by omega⟩, fun f hf => ?_, fun f h0 hf => ?_, fun hf => ?_, fun f hf => ?_⟩
      · rw [s29, ix_nI (by omega)] at hf ⊢
        by_cases q : f = G
        · subst q
          refine ⟨r, m + 1, ?_, ?_, s7, ?_, fun z => ?_⟩
          · rw [k3 _ _ (by omega) (by omega)]; exact a1
          · rw [k3 _ _ (by omega) (by omega)]; exact a2
          · omega
          · rcases z with z | z
            · omega
            · exact absurd trivial z
        · obtain ⟨r', n', x1, x2, x3, x4, x5⟩ := y2 f (by omega)
          refine ⟨r', n', ?_, ?_, ?_, ?_, fun _ => ?_⟩
          · rw [k3 _ _ (by omega) (by omega)]; exact x1
          · rw [k3 _ _ (by omega) (by omega)]; exact x2
          · rw [k3 _ _ (by omega) (by omega)]; exact x3
          · exact x4
          · rw [k3 _ _ (by omega) (by omega)]; exact x5 (Or.inr id)
      · rw [s29, ix_nI (by omega)] at hf
        have := y3 f h0 (by omega)
        rw [k3 266 _ (by omega) (by omega), k3 267 _ (by omega) (by omega), k3 268 _ (by omega) (by omega), k3 247 _ (by omega) (by omega), k3 247 _ (by omega) (by omega)]
        exact this
      · rw [k3 _ _ (by omega) (by omega)]; exact y4 (by omega)
      · rw [k3 _ _ (by omega) (by omega), k3 _ _ (by omega) (by omega)]
        exact y5 f hf
    · exact ph.congr (fun b j h => k3 b j (by omega) (by omega))
    · have : PH σ3 ≤ PH σ2 := by
        unfold PH
        rw [k3 244 38 (by omega) (by omega), s29, p29]
        have sm : sumN (fun f => 40 - ix (σ3 267 f)) (ix (nI (G + 1))) ≤ sumN (fun f => 40 - ix (σ2 267 f)) (ix (nI (G + 1))) := by
          rw [b2]
          show sumN _ G + (40 - ix (σ3 267 G)) ≤ sumN _ G + (40 - ix (σ2 267 G))
          rw [s7, a3, ix_nI (by omega), ix_nI (by omega), sumN_congr (f := fun f => 40 - ix (σ3 267 f)) (g := fun f => 40 - ix (σ2 267 f)) (fun f hf => by
            show 40 - ix (σ3 267 f) = _
            rw [k3 _ _ (by omega) (by omega)])]
          omega
        omega
      omega
    · rw [k3 _ _ (by omega) (by omega)]
      exact kp _ _ (by omega) (by omega) (by omega) (by omega) (by omega)
end
