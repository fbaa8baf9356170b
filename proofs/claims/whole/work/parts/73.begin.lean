/-! THE ENGINE, 18: a frame begins -/
def trH (h : HP) (T : Nat) (x : Int32) : HP := if T = 100 then h else hp_wi (hp_wi h 15 T x) 5 11 (nI (T + 1))
def trS (σ : SM) (T : Nat) (x : Int32) : SM := if T = 100 then σ else hp_u (hp_u σ 274 T x) 244 41 (nI (T + 1))
theorem trS_at {σ : SM} {T b j : Nat} {x : Int32} (h1 : ¬ (b = 244 ∧ j = 41)) (h2 : ¬ b = 274) : trS σ T x b j = σ b j := by
  unfold trS
  by_cases q : T = 100
  · rw [if_pos q]
  · rw [if_neg q, hu_at, if_neg h1, hu_cell h2]
def pushS (σ : SM) (F m : Nat) (b c6 to : Int32) : SM := hp_u (hp_u (hp_u (hp_u (hp_u (hp_u (hp_u σ 250 m b) 266 F (nI m)) 267 F 0) 268 F to) 271 F 0) 244 29 (nI (F + 1))) 273 6 c6
theorem pushS_at {σ : SM} {F m b j : Nat} {v c6 to : Int32} (h1 : ¬ (b = 250 ∧ j = m)) (h2 : ¬ (b = 266 ∧ j = F)) (h3 : ¬ (b = 267 ∧ j = F)) (h4 : ¬ (b = 268 ∧ j = F)) (h5 : ¬ (b = 271 ∧ j = F)) (h6 : ¬ (b = 244 ∧ j = 29)) (h7 : ¬ (b = 273 ∧ j = 6)) : pushS σ F m v c6 to b j = σ b j := by
  unfold pushS
  rw [hu_at, if_neg h7, hu_at, if_neg h6, hu_at, if_neg h5, hu_at, if_neg h4, hu_at, if_neg h3, hu_at, if_neg h2, hu_at, if_neg h1]
theorem pushS_29 {σ : SM} {F m : Nat} {v c6 to : Int32} : pushS σ F m v c6 to 244 29 = nI (F + 1) := by
  unfold pushS
  rw [hu_cell (by omega), hu_same]
theorem pushS_266 {σ : SM} {F m : Nat} {v c6 to : Int32} : pushS σ F m v c6 to 266 F = nI m := by
  unfold pushS
  rw [hu_cell (by omega), hu_cell (by omega), hu_cell (by omega), hu_cell (by omega), hu_cell (by omega), hu_same]
theorem pushS_267 {σ : SM} {F m : Nat} {v c6 to : Int32} : pushS σ F m v c6 to 267 F = 0 := by
  unfold pushS
  rw [hu_cell (by omega), hu_cell (by omega), hu_cell (by omega), hu_cell (by omega), hu_same]
theorem pushS_268 {σ : SM} {F m : Nat} {v c6 to : Int32} : pushS σ F m v c6 to 268 F = to := by
  unfold pushS
  rw [hu_cell (by omega), hu_cell (by omega), hu_cell (by omega), hu_same]
theorem pushS_271 {σ : SM} {F m : Nat} {v c6 to : Int32} : pushS σ F m v c6 to 271 F = 0 := by
  unfold pushS
  rw [hu_cell (by omega), hu_cell (by omega), hu_same]
theorem pushS_273 {σ : SM} {F m : Nat} {v c6 to : Int32} : pushS σ F m v c6 to 273 6 = c6 := by
  unfold pushS
  rw [hu_same]
theorem pushS_250 {σ : SM} {F m : Nat} {v c6 to : Int32} : pushS σ F m v c6 to 250 m = v := by
  unfold pushS
  rw [hu_cell (by omega), hu_cell (by omega), hu_cell (by omega), hu_cell (by omega), hu_cell (by omega), hu_cell (by omega), hu_same]
theorem pushS_u {σ : SM} {F m a k : Nat} {v c6 to x : Int32} (h : (a = 274) ∨ (a = 244 ∧ k = 41)) : hp_u (pushS σ F m v c6 to) a k x = pushS (hp_u σ a k x) F m v c6 to := by
  funext b j
  rw [hu_at]
  by_cases q : b = a ∧ j = k
  · rw [if_pos q, pushS_at (by omega) (by omega) (by omega) (by omega) (by omega) (by omega) (by omega), hu_at, if_pos q]
  · rw [if_neg q]
    unfold pushS
    simp only [hu_at, if_neg q]
theorem pushS_tr {σ : SM} {F m T : Nat} {v c6 to x : Int32} : trS (pushS σ F m v c6 to) T x = pushS (trS σ T x) F m v c6 to := by
  unfold trS
  by_cases q : T = 100
  · rw [if_pos q, if_pos q]
  · rw [if_neg q, if_neg q, pushS_u (Or.inl rfl), pushS_u (Or.inr ⟨rfl, rfl⟩)]
section
variable {L : Nat} {h0 h : HP} {σ : SM} {ca ra : Nat → Nat} {hs : Nat → List Nat} {sp : List Nat} {A : Nat}
theorem sp_keep {T : Nat} {x : Int32} (X : FX L h) (f1 : hp_i h 5 11 = nI T) (hT : T ≤ 100) : pX 314 0 [.ref 5, .int x] [] h = some (none, trH h T x) := by
  unfold trH
  by_cases q : T = 100
  · subst q
    simp only [x314_0, x314_1, x314_4, x314_6, x314_29, X.k5, f1, show (100 : Int32) ≤ nI 100 from Int32.le_refl 100, if_true]
  · have q' : ¬ (100 : Int32) ≤ nI T := nI_nle2 (a := 100) (by omega) (by omega)
    have e1 : inb (nI T) 100 = true := inb_nI (by omega) (by omega)
    have e2 : ix (nI T) = T := ix_nI (by omega)
    simp only [x314_0, x314_1, x314_4, x314_6, x314_9, x314_10, x314_13, x314_14, x314_17, x314_18, x314_19, x314_20, x314_21, x314_24, x314_25, x314_26, x314_29, X.k5, f1, q, q', if_false, X.a5_10, X.k15, X.l15, e1, e2, hp_k_wi, hp_i_wi, Nat.reduceEqDiff, false_and, nI_1]
theorem sp_tr {k : HP} {T : Nat} {x : Int32} (y : FX L k) (t1 : σ 244 41 = nI T) (hT : T ≤ 100) : pX 1123 0 [.ref 244, .int x] [] (mset k σ) = some (none, mset k (trS σ T x)) := by
  unfold trS
  by_cases q : T = 100
  · subst q
    simp only [x1123_0, x1123_1, x1123_4, x1123_6, x1123_29, hp_k_ms, y.k244, ms_r (show 244 ≤ 244 ∧ 244 < 276 by omega), t1, show (100 : Int32) ≤ nI 100 from Int32.le_refl 100, if_true]
  · have q' : ¬ (100 : Int32) ≤ nI T := nI_nle2 (a := 100) (by omega) (by omega)
    have e1 : inb (nI T) 100 = true := inb_nI (by omega) (by omega)
    have e2 : ix (nI T) = T := ix_nI (by omega)
    simp only [x1123_0, x1123_1, x1123_4, x1123_6, x1123_9, x1123_10, x1123_13, x1123_14, x1123_17, x1123_18, x1123_19, x1123_20, x1123_21, x1123_24, x1123_25, x1123_26, x1123_29, hp_k_ms, hp_a_ms, hp_l_ms, y.k244, y.a244_40, y.k274, y.l274, ms_r (show 244 ≤ 244 ∧ 244 < 276 by omega), ms_w (show 244 ≤ 274 ∧ 274 < 276 by omega), ms_w (show 244 ≤ 244 ∧ 244 < 276 by omega), hu_cell (show ¬ 244 = 274 by omega), t1, q, q', if_false, e1, e2, nI_1]
theorem CR.tr {T : Nat} {x : Int32} (w : CR L h0 h σ ca ra hs sp) (hT : T ≤ 100) : CR L h0 (trH h T x) (trS σ T x) ca ra hs sp := by
  unfold trH trS
  by_cases q : T = 100
  · rw [if_pos q, if_pos q]; exact w
  · rw [if_neg q, if_neg q]
    exact (w.w (CMR.trace (by omega)) (by unfold depS; omega)).w CMR.traced (by unfold depS; omega)
theorem SLP.congr {S S' : SM} {a b j c i : Nat} (p : SLP S ca a b j c i) (e1 : S' 244 29 = S 244 29) (e2 : S' 244 17 = S 244 17) : SLP S' ca a b j c i := by
  unfold SLP at p ⊢
  rw [e1, e2]
  exact p
theorem thK.congr {S S' : SM} {K V : Int32} (e1 : ∀ q, S' 257 q = S 257 q) (e2 : ∀ q, S' 262 q = S 262 q) : thK S' K V = thK S K V := by
  unfold thK
  rw [e1, e2]
theorem okT.congr {S S' : SM} {K V : Int32} (w : okT S K V) (e1 : S' 244 17 = S 244 17) (e2 : S' 244 23 = S 244 23) : okT S' K V := by
  unfold okT at w ⊢
  rw [e1, e2]
  exact w
/-- the class's frame begins, on the heap -/
theorem sp_begin {F m wn fi Ln gv : Nat} {gs : Nat → Nat} (X : FX L h) (hF12 : F < 12) (hm : m < 10) (hw : hp_i h (16 + 9 * m) 0 = nI wn) (hwn : wn ≤ 3) (hL : Ln ≤ 8) (hfi : fi < 8) (hgv : ∀ g, FX L g → hp_k g gv = 208 ∧ hp_l g gv = Ln ∧ ∀ j, j < Ln → hp_a g gv j = gs j ∧ hp_k g (gs j) = 9) (hgs : ∀ j, j < Ln → ¬ chg F (gs j)) (hgx : ¬ chg F gv) :
    ∃ g, pX 101 0 [.ref (106 + 11 * F), .ref (16 + 9 * m), .int (nI m), .ref gv, .int (nI fi), .retAddr 0] [] h = some (none, g) ∧ FX L g ∧ hp_n g = hp_n h ∧ hp_s g = hp_s h ∧ hp_k g = hp_k h ∧ hp_l g = hp_l h ∧
      (∀ y q, ¬ chg F y → hp_i g y q = hp_i h y q ∧ hp_a g y q = hp_a h y q) ∧ (∀ q, ¬ q = 3 → ¬ q = 4 → hp_i g (106 + 11 * F) q = hp_i h (106 + 11 * F) q) ∧ (∀ q, ¬ q = 2 → hp_a g (106 + 11 * F) q = hp_a h (106 + 11 * F) q) ∧
      hp_i g (106 + 11 * F) 3 = nI m ∧ hp_i g (106 + 11 * F) 4 = 0 ∧ hp_a g (106 + 11 * F) 2 = 16 + 9 * m ∧
      (hp_i g (108 + 11 * F) 0 = -5 ∧ hp_i g (108 + 11 * F) 1 = 0 ∧ hp_a g (108 + 11 * F) 2 = 0 ∧ hp_a g (108 + 11 * F) 3 = 0) ∧
      (∀ k, k < 8 → hp_i g (109 + 11 * F + k) 0 = (if k < wn ∧ fi + k < Ln then hp_i h (gs (fi + k)) 0 else -5) ∧ hp_i g (109 + 11 * F + k) 1 = (if k < wn ∧ fi + k < Ln then hp_i h (gs (fi + k)) 1 else 0) ∧ hp_a g (109 + 11 * F + k) 2 = (if k < wn ∧ fi + k < Ln then hp_a h (gs (fi + k)) 2 else 0) ∧ hp_a g (109 + 11 * F + k) 3 = (if k < wn ∧ fi + k < Ln then hp_a h (gs (fi + k)) 3 else 0)) := by
  have kf := X.fk F hF12
  have kg := X.fgk F hF12
  generalize hg0 : hp_wi (hp_wi (hp_wa h (106 + 11 * F) 2 (16 + 9 * m)) (106 + 11 * F) 3 (nI m)) (106 + 11 * F) 4 0 = g0
  have X0 : FX L g0 := by
    rw [← hg0]
    refine FX.wi (FX.wi (FX.wa X ?_))
    exact Or.inr (Or.inr (Or.inr (Or.inr (Or.inr (Or.inr ⟨kf, by omega⟩)))))
  have k0 : hp_k g0 = hp_k h := by rw [← hg0]; rfl
  have i0 : ∀ y q, hp_i g0 y q = if y = 106 + 11 * F ∧ q = 4 then 0 else if y = 106 + 11 * F ∧ q = 3 then nI m else hp_i h y q := by
    intro y q
    rw [← hg0, hp_i_wi, hp_i_wi, hp_i_wa]
  have a0 : ∀ y q, hp_a g0 y q = if y = 106 + 11 * F ∧ q = 2 then 16 + 9 * m else hp_a h y q := by
    intro y q
    rw [← hg0, hp_a_wi, hp_a_wi, hp_a_wa]
  have kg0 : hp_k g0 (108 + 11 * F) = 9 := by rw [k0]; exact kg
  have nt := sp_nothing (h := g0) (a := 108 + 11 * F) kg0
  generalize hg1 : slSet g0 (108 + 11 * F) (-5) 0 0 0 = g1 at nt
  have X1 : FX L g1 := by rw [← hg1]; exact X0.sl kg0
  have k1 : hp_k g1 = hp_k h := by rw [← hg1, hp_k_sl]; exact k0
  have i1 : ∀ y q, hp_i g1 y q = if y = 108 + 11 * F ∧ q = 0 then -5 else if y = 108 + 11 * F ∧ q = 1 then 0 else hp_i g0 y q := by
    intro y q
    rw [← hg1, hp_i_sl]
  have a1 : ∀ y q, hp_a g1 y q = if y = 108 + 11 * F ∧ q = 2 then 0 else if y = 108 + 11 * F ∧ q = 3 then 0 else hp_a g0 y q := by
    intro y q
    rw [← hg1, hp_a_sl]
  have io : ∀ y q, ¬ chg F y → hp_i g1 y q = hp_i h y q := by
    intro y q hy
    unfold chg at hy
    rw [i1, if_neg (by omega), if_neg (by omega), i0, if_neg (by omega), if_neg (by omega)]
  have ao : ∀ y q, ¬ chg F y → hp_a g1 y q = hp_a h y q := by
    intro y q hy
    unfold chg at hy
    rw [a1, if_neg (by omega), if_neg (by omega), a0, if_neg (by omega)]
  obtain ⟨v1, v2, v3⟩ := hgv g1 X1
  have hc1 : hp_a g1 (106 + 11 * F) 2 = 16 + 9 * m := by rw [a1, if_neg (by omega), if_neg (by omega), a0, if_pos ⟨rfl, rfl⟩]
  have lo := begin_loop (F := F) (M := m) (gv := gv) (Ln := Ln) (fi := fi) (wn := wn) (m := m) (gs := gs) (g := g1) (l2 := .int (nI m)) X1 hF12 hm hc1 (by rw [io _ _ (by unfold chg; omega)]; exact hw) hwn v1 v2 hL hfi (fun j hj => ⟨(v3 j hj).1, (v3 j hj).2, by have := hgs j hj; unfold chg at this; omega⟩) (by unfold chg at hgx; omega) (.ref (16 + 9 * m)) 8 0 (by omega)
  obtain ⟨b1, b2, b3, b4⟩ := bgH_k (a0 := 109 + 11 * F) (kd := fun k => if k < wn ∧ fi + k < Ln then hp_i g1 (gs (fi + k)) 0 else -5) (nm := fun k => if k < wn ∧ fi + k < Ln then hp_i g1 (gs (fi + k)) 1 else 0) (ce := fun k => if k < wn ∧ fi + k < Ln then hp_a g1 (gs (fi + k)) 2 else 0) (ro := fun k => if k < wn ∧ fi + k < Ln then hp_a g1 (gs (fi + k)) 3 else 0) (h := g1) 8
  have bo : ∀ y q, ¬ (109 + 11 * F ≤ y ∧ y < 109 + 11 * F + 8) → _ := fun y q => bgH_o (y := y) (q := q) (a0 := 109 + 11 * F) (kd := fun k => if k < wn ∧ fi + k < Ln then hp_i g1 (gs (fi + k)) 0 else -5) (nm := fun k => if k < wn ∧ fi + k < Ln then hp_i g1 (gs (fi + k)) 1 else 0) (ce := fun k => if k < wn ∧ fi + k < Ln then hp_a g1 (gs (fi + k)) 2 else 0) (ro := fun k => if k < wn ∧ fi + k < Ln then hp_a g1 (gs (fi + k)) 3 else 0) (h := g1) 8
  have bs : ∀ j, j < 8 → _ := fun j => bgH_s (j := j) (a0 := 109 + 11 * F) (kd := fun k => if k < wn ∧ fi + k < Ln then hp_i g1 (gs (fi + k)) 0 else -5) (nm := fun k => if k < wn ∧ fi + k < Ln then hp_i g1 (gs (fi + k)) 1 else 0) (ce := fun k => if k < wn ∧ fi + k < Ln then hp_a g1 (gs (fi + k)) 2 else 0) (ro := fun k => if k < wn ∧ fi + k < Ln then hp_a g1 (gs (fi + k)) 3 else 0) (h := g1) 8
  have Xb := X1.bgH (kd := fun k => if k < wn ∧ fi + k < Ln then hp_i g1 (gs (fi + k)) 0 else -5) (nm := fun k => if k < wn ∧ fi + k < Ln then hp_i g1 (gs (fi + k)) 1 else 0) (ce := fun k => if k < wn ∧ fi + k < Ln then hp_a g1 (gs (fi + k)) 2 else 0) (ro := fun k => if k < wn ∧ fi + k < Ln then hp_a g1 (gs (fi + k)) 3 else 0) hF12 8 (Nat.le_refl 8)
  generalize bgH (109 + 11 * F) (fun k => if k < wn ∧ fi + k < Ln then hp_i g1 (gs (fi + k)) 0 else -5) (fun k => if k < wn ∧ fi + k < Ln then hp_i g1 (gs (fi + k)) 1 else 0) (fun k => if k < wn ∧ fi + k < Ln then hp_a g1 (gs (fi + k)) 2 else 0) (fun k => if k < wn ∧ fi + k < Ln then hp_a g1 (gs (fi + k)) 3 else 0) g1 8 = gb at lo b1 b2 b3 b4 bo bs Xb
  refine ⟨gb, ?_, Xb, ?_, ?_, b1.trans k1, ?_, fun y q hy => ⟨?_, ?_⟩, fun q h3 h4 => ?_, fun q h2 => ?_, ?_, ?_, ?_, ⟨?_, ?_, ?_, ?_⟩, fun k hk => ?_⟩
  · rw [← lo]
    show _ = pX 101 25 [.ref (106 + 11 * F), .ref (16 + 9 * m), .int (nI m), .ref gv, .int (nI fi), .int 0] [] g1
    generalize hR : pX 101 25 [.ref (106 + 11 * F), .ref (16 + 9 * m), .int (nI m), .ref gv, .int (nI fi), .int 0] [] g1 = R
    simp only [x101_0, x101_1, x101_2, x101_5, x101_6, x101_7, x101_10, x101_11, x101_12, x101_15, kf, hp_k_wi, hp_k_wa, hg0]
    rw [x101_16 (by rw [k0]; exact kf), X0.fp1 F hF12, x101_19 kg0, nt]
    simp only [Option.bind_some, Option.toList_some, Option.toList_none, List.singleton_append, List.nil_append]
    rw [x101_22, x101_23]
    exact hR
  · rw [b3, ← hg1, hp_n_sl, ← hg0]; rfl
  · rw [b4, ← hg1, hp_s_sl, ← hg0]; rfl
  · rw [b2, ← hg1, hp_l_sl, ← hg0]; rfl
  · rw [(bo y q (by unfold chg at hy; omega)).1]; exact io y q hy
  · rw [(bo y q (by unfold chg at hy; omega)).2]; exact ao y q hy
  · rw [(bo _ q (by omega)).1, i1, if_neg (by omega), if_neg (by omega), i0, if_neg (by omega), if_neg (by omega)]
  · rw [(bo _ q (by omega)).2, a1, if_neg (by omega), if_neg (by omega), a0, if_neg (by omega)]
  · rw [(bo _ _ (by omega)).1, i1, if_neg (by omega), if_neg (by omega), i0, if_neg (by omega), if_pos ⟨rfl, rfl⟩]
  · rw [(bo _ _ (by omega)).1, i1, if_neg (by omega), if_neg (by omega), i0, if_pos ⟨rfl, rfl⟩]
  · rw [(bo _ _ (by omega)).2]; exact hc1
  · rw [(bo _ _ (by omega)).1, i1, if_pos ⟨rfl, rfl⟩]
  · rw [(bo _ _ (by omega)).1, i1, if_neg (by omega), if_pos ⟨rfl, rfl⟩]
  · rw [(bo _ _ (by omega)).2, a1, if_pos ⟨rfl, rfl⟩]
  · rw [(bo _ _ (by omega)).2, a1, if_neg (by omega), if_pos ⟨rfl, rfl⟩]
  · obtain ⟨s1, s2, s3, s4⟩ := bs k hk
    rw [s1, s2, s3, s4]
    by_cases q : k < wn ∧ fi + k < Ln
    · have ng := hgs (fi + k) q.2
      simp only [if_pos q, io _ _ ng, ao _ _ ng, and_self]
    · simp only [if_neg q, and_self]
end
