/-! THE ENGINE, 23: ENTER, LEAVE -/
theorem HH.upd {σ σ' : SM} {A F k n n' : Nat} (w : HH σ A) (hF12 : F < 12) (hk : k < 6000) (hF : F < ix (σ 244 29)) (hkc : k < ix (σ 244 17)) (hn : ix (σ 272 (6000 * F + k)) = n) (hn' : n' ≤ n + 1) (hA : A < 492000)
    (e1 : ∀ j, σ' 272 j = if j = 6000 * F + k then nI n' else σ 272 j) (e2 : ∀ f, ¬ f = F → σ' 271 f = σ 271 f) (e3 : ∀ j, ¬ j = k → σ' 261 j = σ 261 j) (e4 : ∀ s : Nat, σ 271 F = nI s → n ≤ s → σ' 271 F = nI (s - n + n')) (e5 : ∀ s : Nat, σ 261 k = nI s → n ≤ s → σ' 261 k = nI (s - n + n')) (e6 : σ' 244 29 = σ 244 29) (e7 : σ' 244 17 = σ 244 17) : HH σ' (A + 1) := by
  have nx : ix (nI n') = n' ∧ n ≤ A := by
    obtain ⟨m, m1, m2, m3⟩ := w.1 F k hF12 hk
    rw [m1, ix_nI (by omega)] at hn
    exact ⟨ix_nI (by omega), by omega⟩
  obtain ⟨g1, g2, g3⟩ := w
  have hp : ∀ f j, f < 12 → j < 6000 → σ' 272 (6000 * f + j) = if f = F ∧ j = k then nI n' else σ 272 (6000 * f + j) := by
    intro f j hf hj
    rw [e1]
    by_cases q : f = F ∧ j = k
    · rw [if_pos q, if_pos (by rw [q.1, q.2])]
    · rw [if_neg q, if_neg (by omega)]
  refine ⟨fun f j hf hj => ?_, fun f hf => ?_, fun j hj => ?_⟩
  · rw [e6, e7, hp f j hf hj]
    by_cases q : f = F ∧ j = k
    · rw [if_pos q]
      exact ⟨n', rfl, by omega, fun z => by omega⟩
    · rw [if_neg q]
      obtain ⟨m, m1, m2, m3⟩ := g1 f j hf hj
      exact ⟨m, m1, by omega, m3⟩
  · by_cases q : f = F
    · subst q
      obtain ⟨s1, s2⟩ := g2 f hf
      have up := sumN_upd (g := fun j => ix (σ 272 (6000 * f + j))) (g' := fun j => ix (σ' 272 (6000 * f + j))) (F := k) (v := n') (n := 6000) hk (by
        show ix (σ' 272 (6000 * f + k)) = n'
        rw [hp f k hf hk, if_pos ⟨rfl, rfl⟩]
        exact nx.1) (fun j hj hne => by
        show ix (σ' 272 (6000 * f + j)) = _
        rw [hp f j hf hj, if_neg (fun z => hne z.2)])
      have le := sumN_le (g := fun j => ix (σ 272 (6000 * f + j))) (i := k) (n := 6000) hk
      rw [hn] at up le
      refine ⟨?_, by omega⟩
      rw [e4 _ s1 le]
      congr 1
      omega
    · obtain ⟨s1, s2⟩ := g2 f hf
      have e : sumN (fun j => ix (σ' 272 (6000 * f + j))) 6000 = sumN (fun j => ix (σ 272 (6000 * f + j))) 6000 := sumN_congr (fun i hi => by
        show ix (σ' 272 (6000 * f + i)) = _
        rw [hp f i hf hi, if_neg (fun z => q z.1)])
      rw [e, e2 f q]
      exact ⟨s1, by omega⟩
  · by_cases q : j = k
    · subst q
      obtain ⟨s1, s2⟩ := g3 j hj
      have up := sumN_upd (g := fun f => ix (σ 272 (6000 * f + j))) (g' := fun f => ix (σ' 272 (6000 * f + j))) (F := F) (v := n') (n := 12) hF12 (by
        show ix (σ' 272 (6000 * F + j)) = n'
        rw [hp F j hF12 hj, if_pos ⟨rfl, rfl⟩]
        exact nx.1) (fun f hf hne => by
        show ix (σ' 272 (6000 * f + j)) = _
        rw [hp f j hf hj, if_neg (fun z => hne z.1)])
      have le := sumN_le (g := fun f => ix (σ 272 (6000 * f + j))) (i := F) (n := 12) hF12
      rw [hn] at up le
      refine ⟨?_, by omega⟩
      rw [e5 _ s1 le]
      congr 1
      omega
    · obtain ⟨s1, s2⟩ := g3 j hj
      have e : sumN (fun f => ix (σ' 272 (6000 * f + j))) 12 = sumN (fun f => ix (σ 272 (6000 * f + j))) 12 := sumN_congr (fun i hi => by
        show ix (σ' 272 (6000 * i + j)) = _
        rw [hp i j hi hj, if_neg (fun z => q z.2)])
      rw [e, e3 j q]
      exact ⟨s1, by omega⟩
theorem i32_m1 (x : Int32) : x + -1 = x - 1 := by rw [Int32.sub_eq_add_neg]
/-- what ENTER, LEAVE change of the model's memory -/
def monS (σ : SM) (F k : Nat) (a b c d : Int32) : SM := hp_u (hp_u (hp_u (hp_u σ 272 (6000 * F + k) a) 271 F b) 261 k c) 273 7 d
theorem monS_at {σ : SM} {F k : Nat} {a b c d : Int32} {p q : Nat} (h1 : ¬ p = 272) (h2 : ¬ p = 271) (h3 : ¬ p = 261) (h4 : ¬ p = 273) : monS σ F k a b c d p q = σ p q := by
  unfold monS
  rw [hu_cell h4, hu_cell h3, hu_cell h2, hu_cell h1]
section
variable {L : Nat} {h0 h : HP} {σ : SM} {A F : Nat}
theorem mon_iv {g : HP} {k n n' : Nat} {b c d : Int32} (w : IV L h0 h σ A False) (hF : σ 244 29 = nI (F + 1)) (hF12 : F < 12) (hk : k < ix (σ 244 17)) (hk6 : k < 6000) (hAP : A + PH σ ≤ 492000) (hn : ix (σ 272 (6000 * F + k)) = n) (hn' : n' ≤ n + 1) (e4 : ∀ s : Nat, σ 271 F = nI s → n ≤ s → b = nI (s - n + n')) (e5 : ∀ s : Nat, σ 261 k = nI s → n ≤ s → c = nI (s - n + n')) (hc : ∃ ca ra hs sp, CR L h0 g (monS σ F k (nI n') b c d) ca ra hs sp) : IV L h0 g (monS σ F k (nI n') b c d) (A + 1) False ∧ PH (monS σ F k (nI n') b c d) = PH σ := by
  obtain ⟨r, m, a, t1, t2, t3, t4, t5, t6, t7, t8⟩ := w.top hF hF12
  have t7 := t7 id
  have ph : PH (monS σ F k (nI n') b c d) = PH σ := by
    unfold PH
    have a7 : ∀ j, monS σ F k (nI n') b c d 267 j = σ 267 j := fun j => monS_at (by omega) (by omega) (by omega) (by omega)
    simp only [a7]
    rw [monS_at (by omega) (by omega) (by omega) (by omega), monS_at (by omega) (by omega) (by omega) (by omega)]
  have pos : 1 ≤ PH σ := by
    unfold PH
    rw [t8]
    show 1 ≤ sumN _ F + (40 - ix (σ 267 F)) + _
    rw [t3, ix_nI (by omega)]
    omega
  obtain ⟨_, gc, gb, gf, hh, hA⟩ := w
  refine ⟨⟨hc, gc.congr (fun p q h => monS_at (by omega) (by omega) (by omega) (by omega)), gb.congr (fun q h => monS_at (by omega) (by omega) (by omega) (by omega)), gf.congr (fun p q h => monS_at (by omega) (by omega) (by omega) (by omega)), ?_, by omega⟩, ph⟩
  refine hh.upd (F := F) (k := k) (n := n) (n' := n') hF12 hk6 (by omega) hk hn hn' (by omega) (fun j => ?_) (fun f q => ?_) (fun j q => ?_) (fun s h1 h2 => ?_) (fun s h1 h2 => ?_) (monS_at (by omega) (by omega) (by omega) (by omega)) (monS_at (by omega) (by omega) (by omega) (by omega))
  · unfold monS
    rw [hu_cell (by omega), hu_cell (by omega), hu_cell (by omega), hu_at]
    by_cases q : j = 6000 * F + k
    · rw [if_pos ⟨rfl, q⟩, if_pos q]
    · rw [if_neg (fun z => q z.2), if_neg q]
  · unfold monS
    rw [hu_cell (by omega), hu_cell (by omega), hu_idx q, hu_cell (by omega)]
  · unfold monS
    rw [hu_cell (by omega), hu_idx q, hu_cell (by omega), hu_cell (by omega)]
  · unfold monS
    rw [hu_cell (by omega), hu_cell (by omega), hu_same]
    exact e4 s h1 h2
  · unfold monS
    rw [hu_cell (by omega), hu_same]
    exact e5 s h1 h2
theorem CR.mon {ca ra : Nat → Nat} {hs : Nat → List Nat} {sp : List Nat} {g : HP} {x k : Nat} {a b c d : Int32} (w : CR L h0 g σ ca ra hs sp) (hf : F < ix (σ 244 29)) (hF12 : F < 12) (hx : x ∈ hs F) (hk : k < ix (σ 244 17)) (hC : ix (σ 244 17) ≤ 6000) (hxk : hp_a g x 0 = ca k) : CR L h0 (hp_wi (hp_wi (hp_wi g x 2 a) (106 + 11 * F) 6 b) 9 7 d) (monS σ F k a b c d) ca ra hs sp := by
  have c1 := ((w.tim (V := a) hf hx hk hC hxk).hd (V := b) hF12).w (CMR.counted (q := 7) (by omega)) (x := d) (by unfold depS; omega)
  refine c1.agree (fun p q h1 h2 h3 => ?_)
  unfold monS
  simp only [hu_at]
  by_cases z : p = 273 ∧ q = 7
  · rw [if_pos z, if_pos z]
  · rw [if_neg z, if_neg z, if_neg]
    intro e
    exact h3 (by unfold dead; omega)
/-- the model's ENTER and LEAVE, of a cell -/
theorem sp_mon {k : HP} {e : Int32} {n F' : Nat} (x : FX L k) (hF : σ 244 29 = nI (F + 1)) (hF12 : F < 12) (m0 : σ 244 45 = nI (8 * F)) {a : Nat} (m1 : σ 244 46 = nI a) (ha : a < 8) (q1 : agV (σ 269 (8 * F + a)) 2 = 0) (v1 : σ 270 (8 * F + a) = nI n) (n6 : n < 6000) (he : e = 0 ∨ e = 1) (hz : e = 0 → ¬ σ 272 (6000 * F + n) = 0) : pX 1142 0 [.ref 244, .int e, .retAddr 0, .retAddr 0, .retAddr 0, .retAddr 0] [] (mset k σ) = some (some (.int 0), mset k (monS σ F n (σ 272 (6000 * F + n) + (if e = 0 then -1 else 1)) (σ 271 F + (if e = 0 then -1 else 1)) (σ 261 n + (if e = 0 then -1 else 1)) (σ 273 7 + (if e = 0 then 0 else 1)))) := by
  have n8 : nI (F + 1) - 1 = nI F := nI_pred F
  have b3 : inb (nI F) 12 = true := inb_nI (by omega) (by omega)
  have b4 : ix (nI F) = F := ix_nI (by omega)
  have e1 : inb (nI n) 6000 = true := inb_nI (by omega) (by omega)
  have e2 : ix (nI n) = n := ix_nI (by omega)
  have e3 : (6000 : Int32) * nI F + nI n = nI (6000 * F + n) := by rw [show (6000 : Int32) = nI 6000 from rfl, nI_mul, nI_add]
  have e4 : inb (nI (6000 * F + n)) 72000 = true := inb_nI (by omega) (by omega)
  have e5 : ix (nI (6000 * F + n)) = 6000 * F + n := ix_nI (by omega)
  have i7 : inb 7 9 = true := inb_lit (by decide) (by decide)
  have j7 : ix 7 = 7 := ix_lit (by decide)
  unfold monS
  rcases he with rfl | rfl
  · simp only [x1142_0, x1142_1, x1142_2, x1142_5, x1142_6, x1142_9, x1142_10, x1142_11, x1142_14, x1142_15, x1142_16, x1142_17, x1142_18, x1142_21, x1142_24, x1142_25, x1142_26, x1142_29, x1142_30, x1142_31, x1142_33, x1142_34, x1142_37, x1142_38, x1142_41, x1142_44, x1142_46, x1142_47, x1142_48, x1142_49, x1142_50, x1142_53, x1142_55, x1142_56, x1142_57, x1142_60, x1142_61, x1142_64, x1142_65, x1142_67, x1142_68, x1142_71, x1142_74, x1142_76, x1142_77, x1142_78, x1142_79, x1142_80, x1142_81, x1142_83, x1142_84, x1142_85, x1142_86, x1142_89, x1142_91, x1142_92, x1142_93, x1142_95, x1142_96, x1142_97, x1142_98, x1142_101, x1142_102, x1142_103, x1142_104, x1142_106, x1142_107, x1142_108, x1142_109, x1142_112, x1142_114, x1142_115, x1142_116, x1142_117, x1142_120, x1142_121, x1142_124, x1142_125, x1142_126, x1142_127, x1142_128, hp_k_ms, hp_a_ms, hp_l_ms, x.k244, x.a244_36, x.k272, x.l272, x.a244_35, x.k271, x.l271, x.a244_22, x.k261, x.l261, x.a244_39, x.k273, x.l273, ms_r (show 244 ≤ 244 ∧ 244 < 276 by omega), ms_r (show 244 ≤ 272 ∧ 272 < 276 by omega), ms_r (show 244 ≤ 271 ∧ 271 < 276 by omega), ms_r (show 244 ≤ 261 ∧ 261 < 276 by omega), ms_r (show 244 ≤ 273 ∧ 273 < 276 by omega), ms_w (show 244 ≤ 272 ∧ 272 < 276 by omega), ms_w (show 244 ≤ 271 ∧ 271 < 276 by omega), ms_w (show 244 ≤ 261 ∧ 261 < 276 by omega), ms_w (show 244 ≤ 273 ∧ 273 < 276 by omega), m1, sp_against x m0 hF12 ha, q1, sp_value x m0 hF12 ha, v1, Option.bind_some, Option.toList_some, Option.toList_none, List.singleton_append, List.nil_append, Int32.le_refl, if_true, hF, n8, e3, e4, e5, hz rfl, if_false, b3, b4, e1, e2, i7, j7, hu_cell (show ¬ 271 = 272 by omega), hu_cell (show ¬ 261 = 271 by omega), hu_cell (show ¬ 261 = 272 by omega), hu_cell (show ¬ 273 = 261 by omega), hu_cell (show ¬ 273 = 271 by omega), hu_cell (show ¬ 273 = 272 by omega)]
  · simp only [x1142_0, x1142_1, x1142_2, x1142_5, x1142_6, x1142_9, x1142_10, x1142_11, x1142_14, x1142_15, x1142_16, x1142_17, x1142_18, x1142_21, x1142_24, x1142_25, x1142_26, x1142_29, x1142_30, x1142_31, x1142_33, x1142_34, x1142_37, x1142_38, x1142_41, x1142_44, x1142_46, x1142_47, x1142_48, x1142_49, x1142_50, x1142_53, x1142_55, x1142_56, x1142_57, x1142_60, x1142_61, x1142_64, x1142_65, x1142_67, x1142_68, x1142_71, x1142_74, x1142_76, x1142_77, x1142_78, x1142_79, x1142_80, x1142_81, x1142_83, x1142_84, x1142_85, x1142_86, x1142_89, x1142_91, x1142_92, x1142_93, x1142_95, x1142_96, x1142_97, x1142_98, x1142_101, x1142_102, x1142_103, x1142_104, x1142_106, x1142_107, x1142_108, x1142_109, x1142_112, x1142_114, x1142_115, x1142_116, x1142_117, x1142_120, x1142_121, x1142_124, x1142_125, x1142_126, x1142_127, x1142_128, hp_k_ms, hp_a_ms, hp_l_ms, x.k244, x.a244_36, x.k272, x.l272, x.a244_35, x.k271, x.l271, x.a244_22, x.k261, x.l261, x.a244_39, x.k273, x.l273, ms_r (show 244 ≤ 244 ∧ 244 < 276 by omega), ms_r (show 244 ≤ 272 ∧ 272 < 276 by omega), ms_r (show 244 ≤ 271 ∧ 271 < 276 by omega), ms_r (show 244 ≤ 261 ∧ 261 < 276 by omega), ms_r (show 244 ≤ 273 ∧ 273 < 276 by omega), ms_w (show 244 ≤ 272 ∧ 272 < 276 by omega), ms_w (show 244 ≤ 271 ∧ 271 < 276 by omega), ms_w (show 244 ≤ 261 ∧ 261 < 276 by omega), ms_w (show 244 ≤ 273 ∧ 273 < 276 by omega), m1, sp_against x m0 hF12 ha, q1, sp_value x m0 hF12 ha, v1, Option.bind_some, Option.toList_some, Option.toList_none, List.singleton_append, List.nil_append, Int32.le_refl, if_true, hF, n8, e3, e4, e5, i32_10, if_false, b3, b4, e1, e2, i7, j7, hu_cell (show ¬ 271 = 272 by omega), hu_cell (show ¬ 261 = 271 by omega), hu_cell (show ¬ 261 = 272 by omega), hu_cell (show ¬ 273 = 261 by omega), hu_cell (show ¬ 273 = 271 by omega), hu_cell (show ¬ 273 = 272 by omega)]
theorem op_enter {a : Nat} {op : Int32} (w : IV L h0 h σ A False) (hAP : A + PH σ ≤ 492000) (hF : σ 244 29 = nI (F + 1)) (hF12 : F < 12) (ho : ¬ op = 23) (ha : a < 8) (m0 : σ 244 45 = nI (8 * F)) (m1 : σ 244 46 = nI a) :
    ACM L h0 h σ A F op 327 [.ref 5, .ref (106 + 11 * F), .ref (109 + 11 * F + a), .retAddr 0] 1142 [.ref 244, .int 1, .retAddr 0, .retAddr 0, .retAddr 0, .retAddr 0] := by
  obtain ⟨⟨ca, ra, hs, sp, c⟩, gc, gb, gf, hh, hA⟩ := id w
  have X := c.fx
  have f0 : ix (σ 244 29) = F + 1 := by rw [hF]; exact ix_nI (by omega)
  have ka := c.rk hF12 ha
  have ta := c.reg (f := F) (by omega) ha
  have n6 := gb.cr
  by_cases q1 : agV (σ 269 (8 * F + a)) 2 = 0
  · rw [agV_2.mp q1] at ta
    obtain ⟨n, s, v1, v2, v3, v4, v5, v6, v7, v8⟩ := ta.iscel
    obtain ⟨y1, y2, y3, y4, y5, y6, y7, y8⟩ := c.cel v2
    have ne : ¬ ca n = 0 := by omega
    have nn : n < 6000 := by omega
    have hC : ix (σ 244 17) ≤ 6000 := by omega
    have i7 : inb 7 9 = true := inb_lit (by decide) (by decide)
    have j7 : ix 7 = 7 := ix_lit (by decide)
    obtain ⟨hb, hb1, hb2, hb3⟩ := hh.1 F n hF12 nn
    have hbi : ix (σ 272 (6000 * F + n)) = hb := by rw [hb1]; exact ix_nI (by omega)
    -- the hold
    have key : ∀ (x : Nat) (g : HP) (hs' : Nat → List Nat) (sp' : List Nat), CR L h0 g σ ca ra hs' sp' → x ∈ hs' F → hp_a g x 0 = ca n → hp_i g x 2 = σ 272 (6000 * F + n) → hp_k g x = 3 → 276 ≤ x → pX 501 0 [.ref 10, .ref (106 + 11 * F), .ref (ca n), .retAddr 0] [] h = pX 501 24 [.ref 10, .ref (106 + 11 * F), .ref (ca n), .ref x] [] g → ACM L h0 h σ A F op 327 [.ref 5, .ref (106 + 11 * F), .ref (109 + 11 * F + a), .retAddr 0] 1142 [.ref 244, .int 1, .retAddr 0, .retAddr 0, .retAddr 0, .retAddr 0] := by
      intro x g hs' sp' cg hx hxk hxi kx x276 est
      have Xg := cg.fx
      have cm := cg.mon (a := σ 272 (6000 * F + n) + 1) (b := σ 271 F + 1) (c := σ 261 n + 1) (d := σ 273 7 + 1) (by omega) hF12 hx v2 hC hxk
      have g6 : hp_i g (106 + 11 * F) 6 = σ 271 F := cg.fi _ _ _ _ (CMR.holds hF12)
      have g7 : hp_i g 9 7 = σ 273 7 := cg.fi _ _ _ _ (CMR.counted (by omega))
      have xne : ¬ 106 + 11 * F = x := by omega
      have en : pX 501 0 [.ref 10, .ref (106 + 11 * F), .ref (ca n), .retAddr 0] [] h = some (none, hp_wi (hp_wi g x 2 (σ 272 (6000 * F + n) + 1)) (106 + 11 * F) 6 (σ 271 F + 1)) := by
        rw [est]
        simp only [x501_24, x501_25, x501_26, x501_29, x501_30, x501_31, x501_34, x501_35, x501_36, x501_39, x501_40, x501_41, x501_44, kx, hxi, hp_k_wi, Xg.fk F hF12, hp_i_wi, xne, false_and, if_false, g6]
      generalize hg2 : hp_wi (hp_wi g x 2 (σ 272 (6000 * F + n) + 1)) (106 + 11 * F) 6 (σ 271 F + 1) = g2 at en cm
      have X2 : FX L g2 := by rw [← hg2]; exact Xg.wi.wi
      have g27 : hp_i g2 9 7 = σ 273 7 := by
        rw [← hg2, hp_i_wi, if_neg (by omega), hp_i_wi, if_neg (by omega)]; exact g7
      rw [hb1, nI_1] at cm
      obtain ⟨iv, ph⟩ := mon_iv (k := n) (n := hb) (n' := hb + 1) (b := σ 271 F + 1) (c := σ 261 n + 1) (d := σ 273 7 + 1) w hF hF12 v2 nn hAP hbi (Nat.le_refl _) (fun s h1 h2 => by rw [h1, nI_1]; congr 1; omega) (fun s h1 h2 => by rw [h1, nI_1]; congr 1; omega) ⟨_, _, _, _, cm⟩
      refine ⟨0, 0, _, _, ?_, fun k x => ?_, monS_at (by omega) (by omega) (by omega) (by omega), fun j => monS_at (by omega) (by omega) (by omega) (by omega), Or.inl ⟨rfl, rfl, ho, A + 1, iv, ?_, by omega, by omega⟩⟩
      · simp only [x327_0, x327_1, x327_4, x327_5, x327_6, x327_14, x327_15, x327_18, x327_19, x327_20, x327_23, x327_24, x327_27, x327_30, x327_32, x327_33, x327_34, x327_35, x327_36, x327_37, x327_38, ka, v7, ne, if_false, X.k5, X.a5_3, X.k10, en, Option.bind_some, Option.toList_some, Option.toList_none, List.singleton_append, List.nil_append, X2.k5, X2.a5_2, X2.k7, X2.a7_1, X2.k9, X2.l9, i7, j7, g27]
      · have := sp_mon (e := 1) (F' := 0) x hF hF12 m0 m1 ha q1 v1 nn (Or.inr rfl) (fun z => absurd z (by decide))
        rw [hb1] at this
        simp only [i32_10, if_false, nI_1] at this
        exact this
      · rw [monS_at (by omega) (by omega) (by omega) (by omega)]; exact hF
    have okf : okr (106 + 11 * F) = true := by unfold okr; simp; omega
    rcases c.find hF hF12 v2 with ⟨x, x1, x2, x3, x4, x5, x6, x7⟩ | ⟨no, z0, zz⟩
    · refine key x h hs sp c x1 x2 x5 x6 x7 ?_
      have xz : ¬ x = 0 := by omega
      simp only [x501_0, x501_1, x501_4, x501_5, x501_6, x501_9, x501_10, x501_13, x501_14, y3, x3, xz, if_false, x6, x4, okf, if_true]
    · obtain ⟨x, g, hs', sp', r1, r2, r3, r4, r5, r6, r7⟩ := c.newHold hF hF12 v2 hC no z0
      refine key x g hs' sp' r2 r3 r4 (by rw [r5, z0]) r6 r7 ?_
      have st : pX 501 0 [.ref 10, .ref (106 + 11 * F), .ref (ca n), .retAddr 0] [] h = pX 501 17 [.ref 10, .ref (106 + 11 * F), .ref (ca n), .ref (hp_a h (ca n) 3)] [] h := by
        rcases zz with zz | ⟨z1, z2, g', z3, z4⟩
        · simp only [x501_0, x501_1, x501_4, x501_5, x501_6, y3, zz, if_true]
        · have xz : ¬ hp_a h (ca n) 3 = 0 := by omega
          have ok2 : okr (106 + 11 * g') = true := by unfold okr; simp; omega
          have ne2 : ¬ 106 + 11 * g' = 106 + 11 * F := by omega
          simp only [x501_0, x501_1, x501_4, x501_5, x501_6, x501_9, x501_10, x501_13, x501_14, y3, xz, if_false, z1, z4, okf, ok2, ne2]
      rw [st]
      simp only [x501_17, x501_18, x501_19, x501_20, x501_23, X.k10, r1, Option.bind_some, Option.toList_some, Option.toList_none, List.singleton_append, List.nil_append]
  · have q2 : ¬ σ 269 (8 * F + a) = 2 := fun z => q1 (agV_2.mpr z)
    refine LKS.ac w hF ho (LKS.ag _ 2 q1 c gb ?_ (fun k x => ?_))
    · simp [x327_0, x327_1, x327_4, x327_5, x327_6, x327_9, x327_10, x327_13, x327_14, x327_15, x327_18, x327_19, x327_20, x327_23, x327_24, x327_27, x327_30, x327_32, x327_33, x327_34, x327_35, x327_36, x327_37, x327_38, ka, ta.ncel q2, c.mis ka ta q2]
    · simp [x1142_0, x1142_1, x1142_2, x1142_5, x1142_6, x1142_9, x1142_10, x1142_11, x1142_14, x1142_15, x1142_16, x1142_17, x1142_18, x1142_21, x1142_24, x1142_25, x1142_26, x1142_29, x1142_30, x1142_31, x1142_33, x1142_34, x1142_37, x1142_38, x1142_41, x1142_44, x1142_46, x1142_47, x1142_48, x1142_49, x1142_50, x1142_53, x1142_55, x1142_56, x1142_57, x1142_60, x1142_61, x1142_64, x1142_65, x1142_67, x1142_68, x1142_71, x1142_74, x1142_76, x1142_77, x1142_78, x1142_79, x1142_80, x1142_81, x1142_83, x1142_84, x1142_85, x1142_86, x1142_89, x1142_91, x1142_92, x1142_93, x1142_95, x1142_96, x1142_97, x1142_98, x1142_101, x1142_102, x1142_103, x1142_104, x1142_106, x1142_107, x1142_108, x1142_109, x1142_112, x1142_114, x1142_115, x1142_116, x1142_117, x1142_120, x1142_121, x1142_124, x1142_125, x1142_126, x1142_127, x1142_128, hp_k_ms, hp_i_ms, x.k244, m1, sp_against x m0 hF12 ha, q1, agV_p]
end
