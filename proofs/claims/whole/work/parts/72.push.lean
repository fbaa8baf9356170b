/-! THE ENGINE, 17: a frame begins: the moving part -/
/-- the class's cells of a frame -/
def chg (F y : Nat) : Prop := y = 106 + 11 * F ∨ (108 + 11 * F ≤ y ∧ y ≤ 116 + 11 * F)
section
variable {n s : Nat} {K Ln : Nat → Nat} {P P' : Nat → Nat → Nat} {I I' S S' : SM} {ca ra : Nat → Nat} {hs : Nat → List Nat} {sp : List Nat}
/-- a frame that isn't begun is free; then it is begun -/
theorem RXo.push {F : Nat} (w : RXo n s K Ln P I S ca ra hs sp) (hF : ix (S 244 29) = F) (hF12 : F < 12) (hF' : ix (S' 244 29) = F + 1)
    (hS : ∀ p q, ¬ (p = 244 ∧ q = 29) → ¬ p = 261 → ¬ ((p = 266 ∨ p = 267) ∧ q = F) → ¬ p = 268 → ¬ p = 271 → S' p q = S p q)
    (hP : ∀ y q, ¬ chg F y ∨ (y = 106 + 11 * F ∧ ¬ q = 2) → P' y q = P y q) (hI : ∀ y q, ¬ chg F y → I' y q = I y q)
    (k1 : ∀ y, chg F y → K y = 2 ∨ K y = 9) (kf : ∀ f, f < 12 → K (106 + 11 * f) = 2) (k10 : K 10 = 6)
    (z1 : P' (106 + 11 * F) 2 = 16 + 9 * ix (S' 266 F)) (z2 : I' (106 + 11 * F) 4 = S' 267 F) (z3 : ∀ k, k < 8 → SLc P' I' S' ca ra (109 + 11 * F + k) (S' 269 (8 * F + k)) (S' 270 (8 * F + k))) (z4 : SLc P' I' S' ca ra (108 + 11 * F) (S' 269 (96 + F)) (S' 270 (96 + F)))
    (hz : ∀ k, k < ix (S 244 17) → S 272 (6000 * F + k) = 0) : RXo n s K Ln P' I' S' ca ra hs sp := by
  have hS' : ∀ p q, ((255 ≤ p ∧ p ≤ 260) ∨ (262 ≤ p ∧ p ≤ 265) ∨ p = 269 ∨ p = 270 ∨ p = 272 ∨ (p = 244 ∧ (q = 15 ∨ q = 16 ∨ q = 17 ∨ q = 23 ∨ q = 28))) → S' p q = S p q := fun p q h => hS p q (by omega) (by omega) (by omega) (by omega) (by omega)
  obtain ⟨w1, w2, w3, w4, w5, w6⟩ := w
  have e : EXT S ca ra S' ca ra := EXT.same (hS' _ _ (by omega)) (hS' _ _ (by omega)) (fun q => hS' _ _ (by omega)) (fun q => hS' _ _ (by omega))
  have sl : ∀ a A B, ¬ chg F a → SLc P I S ca ra a A B → SLc P' I' S' ca ra a A B := fun a A B h z => z.ext e (hP _ _ (Or.inl h)) (hP _ _ (Or.inl h)) (hI _ _ h) (hI _ _ h)
  have kc : ∀ y, ¬ K y = 2 → ¬ K y = 9 → ¬ chg F y := fun y h1 h2 h => (k1 y h).elim h1 h2
  refine ⟨⟨?_, fun k hk => ?_⟩, fun f hf => ?_, ⟨fun k hk => ?_, ?_, fun k hk => ?_⟩, ?_, ?_, ?_⟩
  · rw [hS' _ _ (by omega), hS' _ _ (by omega)]
    exact sl _ _ _ (by unfold chg; omega) w1.1
  · rw [hS' _ _ (by omega), hS' _ _ (by omega)]
    exact sl _ _ _ (by unfold chg; omega) (w1.2 k hk)
  · by_cases q : f = F
    · subst q
      exact ⟨z1, z2, z3, z4⟩
    · obtain ⟨y1, y2, y3, y4⟩ := w2 f (by omega)
      refine ⟨?_, ?_, fun k hk => ?_, ?_⟩
      · rw [hP _ _ (Or.inl (by unfold chg; omega)), hS _ _ (by omega) (by omega) (by omega) (by omega) (by omega)]; exact y1
      · rw [hI _ _ (by unfold chg; omega), hS _ _ (by omega) (by omega) (by omega) (by omega) (by omega)]; exact y2
      · rw [hS' _ _ (by omega), hS' _ _ (by omega)]
        exact sl _ _ _ (by unfold chg; omega) (y3 k hk)
      · rw [hS' _ _ (by omega), hS' _ _ (by omega)]
        exact sl _ _ _ (by unfold chg; omega) y4
  · rw [hS' _ _ (by omega)] at hk
    obtain ⟨y1, y2, y3, y4, y5, y6, y7, y8, y9⟩ := w3.1 k hk
    have c1 : ¬ chg F (ca k) := by unfold chg; omega
    rw [hS' 257 _ (by omega), hS' 258 _ (by omega), hS' 259 _ (by omega), hS' 260 _ (by omega), hI _ _ c1, hI _ _ c1, hP _ _ (Or.inl c1)]
    exact ⟨y1, y2, y3, y4, y5, y6, y7, y8, sl _ _ _ (by unfold chg; omega) y9⟩
  · rw [hS' _ _ (by omega)]; exact w3.2.1
  · rw [hS' _ _ (by omega)] at hk
    rw [hS' _ _ (by omega), hS' _ _ (by omega), hS' _ _ (by omega)]
    exact w3.2.2 k hk
  · exact w4.congr (Nat.le_refl _) (fun _ _ => ⟨rfl, rfl⟩) (fun y q _ h => hP _ _ (Or.inl (kc y (by omega) (by omega)))) (fun y q _ h => hI _ _ (kc y (by omega) (by omega))) (fun p q h => hS' p q (by omega))
  · obtain ⟨h1, h2, h3, h4, h5, h6, h7, h8, h9⟩ := w5
    have e17 : S' 244 17 = S 244 17 := hS' _ _ (by omega)
    have nil : hs F = [] := h2 F (by omega)
    have hp3 : ∀ f, f < 12 → ∀ y ∈ hs f, ∀ q, P' y q = P y q := fun f hf y hy q => hP _ _ (Or.inl (kc y (by have := (h4 y (allH_mem hf hy)).2.2; omega) (by have := (h4 y (allH_mem hf hy)).2.2; omega)))
    have hl : ∀ c g, g ≤ 12 → lat P' hs c g = lat P hs c g := fun c g hg => lat.congr (fun f hf => ⟨rfl, fun y hy => hp3 f (by omega) y hy 0⟩)
    refine ⟨fun f hf => ?_, fun f hf => h2 f (by omega), ?_, h4, h5, fun f hf x hx => ?_, fun f hf x hx y hy => ?_, fun f k hf hk hne => ?_, fun k hk => ?_⟩
    · have e5 : P' (106 + 11 * f) 5 = P (106 + 11 * f) 5 := by
        by_cases q : f = F
        · exact hP _ _ (Or.inr ⟨by rw [q], by omega⟩)
        · exact hP _ _ (Or.inl (by unfold chg; omega))
      rw [e5]
      exact chn.congr (fun y hy => hp3 f hf y hy 4) (h1 f hf)
    · rw [hP 10 0 (Or.inl (by unfold chg; omega))]
      exact chn.congr (fun y hy => hP _ _ (Or.inl (kc y (by have := (h4 y (allH_sp hy)).2.2; omega) (by have := (h4 y (allH_sp hy)).2.2; omega)))) h3
    · by_cases q : f = F
      · rw [q, nil] at hx; cases hx
      · obtain ⟨y1, k, y2, y3, y4, y5⟩ := h6 f (by omega) x hx
        have m := hp3 f (by omega) x hx
        have cx : ¬ chg F x := kc x (by have := (h4 x (allH_mem (show f < 12 by omega) hx)).2.2; omega) (by have := (h4 x (allH_mem (show f < 12 by omega) hx)).2.2; omega)
        rw [m, m, m, hI _ _ cx, e17]
        exact ⟨y1, k, y2, y3, by rw [hS' _ _ (by omega)]; exact y4, by rw [hl _ _ (by omega)]; exact y5⟩
    · by_cases q : f = F
      · rw [q, nil] at hx; cases hx
      · rw [hp3 f (by omega) x hx, hp3 f (by omega) y hy]
        exact h7 f (by omega) x hx y hy
    · rw [e17] at hk
      rw [hS' 272 _ (by omega)] at hne
      by_cases q : f = F
      · rw [q] at hne
        exact absurd (hz k hk) hne
      · obtain ⟨x, hx, e1⟩ := h8 f k (by omega) hk hne
        exact ⟨x, hx, by rw [hp3 f (by omega) x hx]; exact e1⟩
    · rw [e17] at hk
      obtain ⟨y1, y2, y3, _⟩ := w3.1 k hk
      rw [hP _ _ (Or.inl (kc _ (by omega) (by omega))), hF', hl _ _ (by omega), h9 k hk, hF]
      conv => rhs; unfold lat
      rw [nil]
      rfl
  · unfold RXn
    rw [hS' _ _ (by omega), hS' _ _ (by omega), hS' _ _ (by omega)]
    exact w6
end
/-- slots from a0 on become these -/
def bgH (a0 : Nat) (kd nm : Nat → Int32) (ce ro : Nat → Nat) (h : HP) : Nat → HP
  | 0 => h
  | k + 1 => slSet (bgH a0 kd nm ce ro h k) (a0 + k) (kd k) (nm k) (ce k) (ro k)
section
variable {a0 : Nat} {kd nm : Nat → Int32} {ce ro : Nat → Nat} {h : HP}
theorem bgH_k : ∀ k, hp_k (bgH a0 kd nm ce ro h k) = hp_k h ∧ hp_l (bgH a0 kd nm ce ro h k) = hp_l h ∧ hp_n (bgH a0 kd nm ce ro h k) = hp_n h ∧ hp_s (bgH a0 kd nm ce ro h k) = hp_s h
  | 0 => ⟨rfl, rfl, rfl, rfl⟩
  | k + 1 => by
    obtain ⟨a, b, c, d⟩ := bgH_k k
    show hp_k (slSet _ _ _ _ _ _) = _ ∧ hp_l (slSet _ _ _ _ _ _) = _ ∧ hp_n (slSet _ _ _ _ _ _) = _ ∧ hp_s (slSet _ _ _ _ _ _) = _
    rw [hp_k_sl, hp_l_sl, hp_n_sl, hp_s_sl]
    exact ⟨a, b, c, d⟩
theorem bgH_o {y q : Nat} : ∀ k, ¬ (a0 ≤ y ∧ y < a0 + k) → hp_i (bgH a0 kd nm ce ro h k) y q = hp_i h y q ∧ hp_a (bgH a0 kd nm ce ro h k) y q = hp_a h y q
  | 0, _ => ⟨rfl, rfl⟩
  | k + 1, hy => by
    obtain ⟨a, b⟩ := bgH_o (y := y) (q := q) k (by omega)
    show hp_i (slSet _ _ _ _ _ _) y q = _ ∧ hp_a (slSet _ _ _ _ _ _) y q = _
    rw [hp_i_sl, hp_a_sl, if_neg (by omega), if_neg (by omega), if_neg (by omega), if_neg (by omega)]
    exact ⟨a, b⟩
theorem bgH_s {j : Nat} : ∀ k, j < k → hp_i (bgH a0 kd nm ce ro h k) (a0 + j) 0 = kd j ∧ hp_i (bgH a0 kd nm ce ro h k) (a0 + j) 1 = nm j ∧ hp_a (bgH a0 kd nm ce ro h k) (a0 + j) 2 = ce j ∧ hp_a (bgH a0 kd nm ce ro h k) (a0 + j) 3 = ro j
  | 0, hj => absurd hj (by omega)
  | k + 1, hj => by
    show hp_i (slSet _ _ _ _ _ _) _ 0 = _ ∧ hp_i (slSet _ _ _ _ _ _) _ 1 = _ ∧ hp_a (slSet _ _ _ _ _ _) _ 2 = _ ∧ hp_a (slSet _ _ _ _ _ _) _ 3 = _
    rw [hp_i_sl, hp_i_sl, hp_a_sl, hp_a_sl]
    by_cases q : j = k
    · subst q
      rw [if_pos ⟨rfl, rfl⟩, if_neg (by omega), if_pos ⟨rfl, rfl⟩, if_pos ⟨rfl, rfl⟩, if_neg (by omega), if_pos ⟨rfl, rfl⟩]
      exact ⟨rfl, rfl, rfl, rfl⟩
    · rw [if_neg (by omega), if_neg (by omega), if_neg (by omega), if_neg (by omega), if_neg (by omega), if_neg (by omega), if_neg (by omega), if_neg (by omega)]
      exact bgH_s k (by omega)
end
theorem FX.bgH {L F : Nat} {kd nm : Nat → Int32} {ce ro : Nat → Nat} {h : HP} (x : FX L h) (hF : F < 12) : ∀ k, k ≤ 8 → FX L (bgH (109 + 11 * F) kd nm ce ro h k)
  | 0, _ => x
  | k + 1, hk => by
    have ih := FX.bgH (kd := kd) (nm := nm) (ce := ce) (ro := ro) x hF k (by omega)
    exact ih.sl (ih.frs F k hF (by omega))
theorem begin_loop {L F M gv Ln fi wn m : Nat} {gs : Nat → Nat} {g : HP} {l2 : Value} (X : FX L g) (hF : F < 12) (hM : M < 10) (hc : hp_a g (106 + 11 * F) 2 = 16 + 9 * M) (hw : hp_i g (16 + 9 * M) 0 = nI wn) (hwn : wn ≤ 3) (kg : hp_k g gv = 208) (lg : hp_l g gv = Ln) (hL : Ln ≤ 8) (hfi : fi < 8) (hgv : ∀ j, j < Ln → hp_a g gv j = gs j ∧ hp_k g (gs j) = 9 ∧ ¬ (109 + 11 * F ≤ gs j ∧ gs j < 117 + 11 * F)) (hgx : ¬ (109 + 11 * F ≤ gv ∧ gv < 117 + 11 * F)) (l1 : Value) :
    ∀ (n k : Nat), k + n = 8 → pX 101 25 [.ref (106 + 11 * F), l1, l2, .ref gv, .int (nI fi), .int (nI k)] [] (bgH (109 + 11 * F) (fun k => if k < wn ∧ fi + k < Ln then hp_i g (gs (fi + k)) 0 else -5) (fun k => if k < wn ∧ fi + k < Ln then hp_i g (gs (fi + k)) 1 else 0) (fun k => if k < wn ∧ fi + k < Ln then hp_a g (gs (fi + k)) 2 else 0) (fun k => if k < wn ∧ fi + k < Ln then hp_a g (gs (fi + k)) 3 else 0) g k) = some (none, bgH (109 + 11 * F) (fun k => if k < wn ∧ fi + k < Ln then hp_i g (gs (fi + k)) 0 else -5) (fun k => if k < wn ∧ fi + k < Ln then hp_i g (gs (fi + k)) 1 else 0) (fun k => if k < wn ∧ fi + k < Ln then hp_a g (gs (fi + k)) 2 else 0) (fun k => if k < wn ∧ fi + k < Ln then hp_a g (gs (fi + k)) 3 else 0) g 8) := by
  intro n
  generalize hkd : (fun k => if k < wn ∧ fi + k < Ln then hp_i g (gs (fi + k)) 0 else -5) = kd
  generalize hnm : (fun k => if k < wn ∧ fi + k < Ln then hp_i g (gs (fi + k)) 1 else 0) = nm
  generalize hce : (fun k => if k < wn ∧ fi + k < Ln then hp_a g (gs (fi + k)) 2 else 0) = ce
  generalize hro : (fun k => if k < wn ∧ fi + k < Ln then hp_a g (gs (fi + k)) 3 else 0) = ro
  induction n with
  | zero =>
    intro k hk
    obtain rfl : k = 8 := by omega
    simp only [x101_25, x101_27, x101_29, x101_90, show (8 : Int32) ≤ nI 8 from Int32.le_refl 8, if_true]
  | succ n ih =>
    intro k hk
    have Xk := X.bgH (kd := kd) (nm := nm) (ce := ce) (ro := ro) hF k (by omega)
    rw [← ih (k + 1) (by omega)]
    generalize hgk : bgH (109 + 11 * F) kd nm ce ro g k = gk at Xk
    obtain ⟨b1, b2, _, _⟩ := bgH_k (a0 := 109 + 11 * F) (kd := kd) (nm := nm) (ce := ce) (ro := ro) (h := g) k
    have bo : ∀ y q, ¬ (109 + 11 * F ≤ y ∧ y < 109 + 11 * F + k) → hp_i gk y q = hp_i g y q ∧ hp_a gk y q = hp_a g y q := by rw [← hgk]; exact fun y q => bgH_o k
    rw [hgk] at b1 b2
    have es : bgH (109 + 11 * F) kd nm ce ro g (k + 1) = slSet gk (109 + 11 * F + k) (kd k) (nm k) (ce k) (ro k) := by rw [← hgk]; rfl
    rw [es]
    have q8 : ¬ (8 : Int32) ≤ nI k := nI_nle2 (a := 8) (by omega) (by omega)
    have e1 : inb (nI k) 8 = true := inb_nI (by omega) (by omega)
    have e2 : ix (nI k) = k := ix_nI (by omega)
    have hc' : hp_a gk (106 + 11 * F) 2 = 16 + 9 * M := by rw [(bo _ _ (by omega)).2]; exact hc
    have hw' : hp_i gk (16 + 9 * M) 0 = nI wn := by rw [(bo _ _ (by omega)).1]; exact hw
    have ks := Xk.frs F k hF (by omega)
    have hlen : hp_l gk gv = Ln := by rw [b2]; exact lg
    have kgv : hp_k gk gv = 208 := by rw [b1]; exact kg
    have efk : nI fi + nI k = nI (fi + k) := nI_add _ _
    have i99 : 99 ≤ 208 := by omega
    have i200 : 200 ≤ 208 := by omega
    generalize hR : pX 101 25 [.ref (106 + 11 * F), l1, l2, .ref gv, .int (nI fi), .int (nI (k + 1))] [] (slSet gk (109 + 11 * F + k) (kd k) (nm k) (ce k) (ro k)) = R
    -- nothing
    have nth : ¬ (k < wn ∧ fi + k < Ln) → pX 101 25 [.ref (106 + 11 * F), l1, l2, .ref gv, .int (nI fi), .int (nI k)] [] gk = pX 101 74 [.ref (106 + 11 * F), l1, l2, .ref gv, .int (nI fi), .int (nI k)] [] gk → pX 101 25 [.ref (106 + 11 * F), l1, l2, .ref gv, .int (nI fi), .int (nI k)] [] gk = R := by
      intro hn e
      rw [e]
      have v0 : kd k = -5 := by rw [← hkd]; exact if_neg hn
      have v1 : nm k = 0 := by rw [← hnm]; exact if_neg hn
      have v2 : ce k = 0 := by rw [← hce]; exact if_neg hn
      have v3 : ro k = 0 := by rw [← hro]; exact if_neg hn
      rw [v0, v1, v2, v3] at hR
      simp only [x101_74, x101_75, x101_78, x101_80, x101_81, x101_84, Xk.fk F hF, Xk.fp0 F hF, Xk.frk F hF, Xk.frl F hF, i200, e1, e2, Xk.frp F k hF (by omega), ks, sp_nothing ks, Option.bind_some, Option.toList_some, Option.toList_none, List.singleton_append, List.nil_append, nI_1]
      rw [x101_87]
      exact hR
    by_cases c1 : k < wn
    · have q1 : ¬ nI wn ≤ nI k := nI_nle2 (by omega) (by omega)
      by_cases c2 : fi + k < Ln
      · have q2 : ¬ nI Ln ≤ nI (fi + k) := nI_nle2 (by omega) (by omega)
        have e3 : inb (nI (fi + k)) Ln = true := inb_nI c2 (by omega)
        have e4 : ix (nI (fi + k)) = fi + k := ix_nI (by omega)
        obtain ⟨g1, g2, g3⟩ := hgv (fi + k) c2
        have g1' : hp_a gk gv (fi + k) = gs (fi + k) := by rw [(bo _ _ (by omega)).2]; exact g1
        have g2' : hp_k gk (gs (fi + k)) = 9 := by rw [b1]; exact g2
        have v0 : kd k = hp_i gk (gs (fi + k)) 0 := by rw [(bo _ _ (by omega)).1, ← hkd]; exact if_pos ⟨c1, c2⟩
        have v1 : nm k = hp_i gk (gs (fi + k)) 1 := by rw [(bo _ _ (by omega)).1, ← hnm]; exact if_pos ⟨c1, c2⟩
        have v2 : ce k = hp_a gk (gs (fi + k)) 2 := by rw [(bo _ _ (by omega)).2, ← hce]; exact if_pos ⟨c1, c2⟩
        have v3 : ro k = hp_a gk (gs (fi + k)) 3 := by rw [(bo _ _ (by omega)).2, ← hro]; exact if_pos ⟨c1, c2⟩
        rw [v0, v1, v2, v3] at hR
        simp only [x101_25, x101_27, x101_29, x101_32, x101_34, x101_35, x101_38, x101_41, x101_44, x101_46, x101_48, x101_49, x101_50, x101_51, x101_54, x101_55, x101_58, x101_60, x101_61, x101_62, x101_64, x101_66, x101_67, x101_68, x101_71, x101_84, q8, if_false, Xk.fk F hF, hc', Xk.mk M hM, hw', q1, kgv, i99, hlen, efk, show Int32.ofNat Ln = nI Ln from rfl, q2, Xk.fp0 F hF, Xk.frk F hF, Xk.frl F hF, i200, e1, e2, Xk.frp F k hF (by omega), e3, e4, g1', ks, sp_copy ks g2', Option.bind_some, Option.toList_some, Option.toList_none, List.singleton_append, List.nil_append, nI_1]
        rw [x101_87]
        exact hR
      · have q2 : nI Ln ≤ nI (fi + k) := nI_le (by omega) (by omega)
        refine nth (fun z => c2 z.2) ?_
        simp only [x101_25, x101_27, x101_29, x101_32, x101_34, x101_35, x101_38, x101_41, x101_44, x101_46, x101_48, x101_49, x101_50, x101_51, q8, if_false, Xk.fk F hF, hc', Xk.mk M hM, hw', q1, kgv, i99, hlen, efk, show Int32.ofNat Ln = nI Ln from rfl, q2, if_true]
    · have q1 : nI wn ≤ nI k := nI_le (by omega) (by omega)
      refine nth (fun z => c1 z.1) ?_
      simp only [x101_25, x101_27, x101_29, x101_32, x101_34, x101_35, x101_38, x101_41, q8, if_false, Xk.fk F hF, hc', Xk.mk M hM, hw', q1, if_true]
