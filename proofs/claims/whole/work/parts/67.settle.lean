/-! THE ENGINE, 12: a frame's place; traces; frames that are behind their acts -/
section
variable {n s : Nat} {K Ln : Nat → Nat} {P : Nat → Nat → Nat} {I S : SM} {ca ra : Nat → Nat} {hs : Nat → List Nat} {sp : List Nat}
theorem RXo.at {f : Nat} {V : Int32} (w : RXo n s K Ln P I S ca ra hs sp) (hf : f < ix (S 244 29)) (k14 : K 14 = 9) (ka : ∀ k, k < 3 → K (241 + k) = 9) (kg : ∀ f, f < 12 → K (108 + 11 * f) = 9) (kr : ∀ f k, f < 12 → k < 8 → K (109 + 11 * f + k) = 9) (kf : ∀ f, f < 12 → K (106 + 11 * f) = 2) (k10 : K 10 = 6) (hn : 276 ≤ n) (hF : ix (S 244 29) ≤ 12) :
    RXo n s K Ln P (hp_u I (106 + 11 * f) 4 V) (hp_u S 267 f V) ca ra hs sp := by
  obtain ⟨w1, w2, w3, w4, w5, w6⟩ := w
  have kk := kf f (by omega)
  have hS : ∀ p q, ¬ p = 267 → hp_u S 267 f V p q = S p q := fun p q h => hu_cell h
  have hI : ∀ x q, ¬ K x = 2 → hp_u I (106 + 11 * f) 4 V x q = I x q := fun x q h => hu_cell (fun e => h (by rw [e]; exact kk))
  have e : EXT S ca ra (hp_u S 267 f V) ca ra := EXT.same (hS _ _ (by omega)) (hS _ _ (by omega)) (fun q => hS _ _ (by omega)) (fun q => hS _ _ (by omega))
  have hsl : slk n K P P I (hp_u I (106 + 11 * f) 4 V) := fun x _ h => ⟨rfl, rfl, hI _ _ (by omega), hI _ _ (by omega)⟩
  refine ⟨w1.congr e hn hsl k14 ka (fun p q h => hS p q (by omega)), fun g hg => ?_, w3.congr e (Nat.le_refl _) (fun _ _ => rfl) hsl (fun x _ h => ⟨hI _ _ (by omega), hI _ _ (by omega), rfl⟩) (fun p q h => hS p q (by omega)), w4.congr (Nat.le_refl _) (fun _ _ => ⟨rfl, rfl⟩) (fun _ _ _ _ => rfl) (fun x q _ h => hI x q (by omega)) (fun p q h => hS p q (by omega)), w5.congr hF (fun k hk => ⟨(w3.1 k hk).2.2.1, by have := (w3.1 k hk).2.1; omega⟩) (Nat.le_refl _) hn (fun _ _ => rfl) kf k10 (fun _ _ _ _ => rfl) (fun x q _ h => hI x q (by omega)) (fun p q h => hS p q (by omega)), ?_⟩
  · rw [hS 244 _ (by omega)] at hg
    obtain ⟨z1, z2, z3, z4⟩ := w2 g hg
    refine ⟨?_, ?_, fun k hk => ?_, ?_⟩
    · rw [hS _ _ (by omega)]; exact z1
    · by_cases q : g = f
      · rw [q, hu_same, hu_same]
      · rw [hu_idx q, hu_cell (by omega)]; exact z2
    · rw [hS 269 _ (by omega), hS 270 _ (by omega)]
      have kq := kr g k (by omega) hk
      exact (z3 k hk).ext e rfl rfl (hI _ _ (by omega)) (hI _ _ (by omega))
    · rw [hS 269 _ (by omega), hS 270 _ (by omega)]
      have kq := kg g (by omega)
      exact z4.ext e rfl rfl (hI _ _ (by omega)) (hI _ _ (by omega))
  · unfold RXn
    rw [hS _ _ (by omega), hS _ _ (by omega), hS _ _ (by omega)]
    exact w6
end
theorem and7 (x : Int32) : ∃ n : Nat, x &&& 7 = nI n ∧ n < 8 := by
  refine ⟨(x &&& 7).toBitVec.toNat, Int32.toBitVec_inj.mp ?_, ?_⟩
  · show _ = BitVec.ofNat 32 _
    simp
  · have h1 : (x &&& 7).toBitVec = x.toBitVec &&& 7#32 := rfl
    rw [h1, BitVec.toNat_and]
    have h2 : x.toBitVec.toNat &&& (7#32).toNat ≤ (7#32).toNat := Nat.and_le_right
    have h3 : (7#32).toNat = 7 := rfl
    omega
theorem and7_nI {a : Nat} (h : a < 8) : nI a &&& 7 = nI a := by
  match a, h with
  | 0, _ => decide
  | 1, _ => decide
  | 2, _ => decide
  | 3, _ => decide
  | 4, _ => decide
  | 5, _ => decide
  | 6, _ => decide
  | 7, _ => decide
theorem sp_named2 {L : Nat} {h : HP} {f n : Nat} {x : Int32} (X : FX L h) (hf : f < 12) (e : x &&& 7 = nI n) (hn : n < 8) : pX 102 0 [.ref (106 + 11 * f), .int x] [] h = some (some (.ref (109 + 11 * f + n)), h) := by
  have e1 : inb (nI n) 8 = true := inb_nI hn (by omega)
  have e2 : ix (nI n) = n := ix_nI (by omega)
  simp only [x102_0, x102_1, x102_4, x102_5, x102_7, x102_8, x102_9, X.fk f hf, X.fp0 f hf, X.frk f hf, X.frl f hf, e, e1, e2, X.frp f n hf hn, show 200 ≤ 208 by omega]
section
variable {L : Nat} {h0 h : HP} {σ : SM} {ca ra : Nat → Nat} {hs : Nat → List Nat} {sp : List Nat} {A : Nat}
theorem CR.at {f : Nat} {V : Int32} (w : CR L h0 h σ ca ra hs sp) (hf : f < ix (σ 244 29)) : CR L h0 (hp_wi h (106 + 11 * f) 4 V) (hp_u σ 267 f V) ca ra hs sp := by
  have hF := w.hF
  obtain ⟨w1, w2, w3, w4, w6, w5⟩ := w
  refine ⟨w1, kp_wi w2 (by omega), w3, (w4.so (ncm_s (by omega))).wo (fun b j e => ?_), (by rw [hu_cell (by omega)]; exact w6), ?_⟩
  · have c1 := cm_b e
    omega
  · rw [hp_i_wiu, mI_n (by unfold dynI; omega), mS_n (by unfold depS; omega)]
    exact w5.at (by rw [mS_x (by omega)]; exact hf) w1.k14 w1.argk w1.fgk w1.frs w1.fk w1.k10 w1.n (by rw [mS_x (by omega)]; exact hF)
theorem op_trace {x : Int32} (w : CR L h0 h σ ca ra hs sp) (ht : nb (σ 244 41) 100) : ∃ h' σ', pX 314 0 [.ref 5, .int x] [] h = some (none, h') ∧ (∀ k, FX L k → pX 1123 0 [.ref 244, .int x] [] (mset k σ) = some (none, mset k σ')) ∧ CR L h0 h' σ' ca ra hs sp ∧ (∀ b j, ¬ (b = 244 ∧ j = 41) → ¬ b = 274 → σ' b j = σ b j) ∧ nb (σ' 244 41) 100 ∧ hp_i h' 5 9 = hp_i h 5 9 := by
  obtain ⟨T, t1, t2⟩ := ht
  have X := w.fx
  have f1 : hp_i h 5 11 = nI T := (w.fi _ _ _ _ CMR.traced).trans t1
  by_cases q : T = 100
  · subst q
    have q : (100 : Int32) ≤ nI 100 := Int32.le_refl 100
    refine ⟨h, σ, ?_, fun k y => ?_, w, fun _ _ _ _ => rfl, ⟨100, t1, t2⟩, rfl⟩
    · simp only [x314_0, x314_1, x314_4, x314_6, x314_29, X.k5, f1, q, if_true]
    · simp only [x1123_0, x1123_1, x1123_4, x1123_6, x1123_29, hp_k_ms, y.k244, ms_r (show 244 ≤ 244 ∧ 244 < 276 by omega), t1, q, if_true]
  · have q : ¬ (100 : Int32) ≤ nI T := nI_nle2 (a := 100) (by omega) (by omega)
    have e1 : inb (nI T) 100 = true := inb_nI (by omega) (by omega)
    have e2 : ix (nI T) = T := ix_nI (by omega)
    refine ⟨hp_wi (hp_wi h 15 T x) 5 11 (nI (T + 1)), hp_u (hp_u σ 274 T x) 244 41 (nI (T + 1)), ?_, fun k y => ?_, (w.w (CMR.trace (by omega)) (by unfold depS; omega)).w CMR.traced (by unfold depS; omega), fun b j h1 h2 => ?_, ⟨T + 1, hu_same, by omega⟩, ?_⟩
    · simp only [x314_0, x314_1, x314_4, x314_6, x314_9, x314_10, x314_13, x314_14, x314_17, x314_18, x314_19, x314_20, x314_21, x314_24, x314_25, x314_26, x314_29, X.k5, f1, q, if_false, X.a5_10, X.k15, X.l15, e1, e2, hp_k_wi, hp_i_wi, Nat.reduceEqDiff, false_and, nI_1]
    · simp only [x1123_0, x1123_1, x1123_4, x1123_6, x1123_9, x1123_10, x1123_13, x1123_14, x1123_17, x1123_18, x1123_19, x1123_20, x1123_21, x1123_24, x1123_25, x1123_26, x1123_29, hp_k_ms, hp_a_ms, hp_l_ms, y.k244, y.a244_40, y.k274, y.l274, ms_r (show 244 ≤ 244 ∧ 244 < 276 by omega), ms_w (show 244 ≤ 274 ∧ 274 < 276 by omega), ms_w (show 244 ≤ 244 ∧ 244 < 276 by omega), hu_cell (show ¬ 244 = 274 by omega), t1, q, if_false, e1, e2, nI_1]
    · rw [hu_at, if_neg h1, hu_cell h2]
    · rw [hp_i_wi, if_neg (by omega), hp_i_wi, if_neg (by omega)]
/-- is a frame behind its acts -/
theorem CR.behind {f r m a : Nat} (w : CR L h0 h σ ca ra hs sp) (hf : f < ix (σ 244 29)) (e1 : σ 266 f = nI r) (hr : r < 10) (e2 : σ 267 f = nI m) (e3 : σ 246 r = nI a) (hm : m < 2147483648) (ha : a < 2147483648) : pX 103 0 [.ref (106 + 11 * f)] [] h = some (some (.int (if m < a then 0 else 1)), h) := by
  have X := w.fx
  have hF := w.hF
  obtain ⟨z1, z2⟩ := w.frm hf
  rw [e1, ix_nI (by omega)] at z1
  rw [e2] at z2
  have f3 : hp_i h (16 + 9 * r) 2 = nI a := (w.fi _ _ _ _ (CMR.acts hr)).trans e3
  simp only [x103_0, x103_1, x103_4, x103_5, x103_8, x103_11, x103_14, x103_15, x103_18, X.fk f (by omega), z1, z2, X.mk r hr, f3]
  by_cases q : m < a
  · have q2 : nI m < nI a := nI_lt q ha
    simp only [q, q2, if_true, x103_19 (Or.inl rfl)]
  · have q2 : ¬ nI m < nI a := nI_nlt (by omega) hm
    simp only [q, q2, if_false, x103_19 (Or.inr rfl)]
/-- the frame at hand -/
theorem IV.top {F : Nat} {t : Prop} (w : IV L h0 h σ A t) (hF : σ 244 29 = nI (F + 1)) (hF12 : F < 12) : ∃ r m a : Nat, σ 266 F = nI r ∧ r < 10 ∧ σ 267 F = nI m ∧ σ 246 r = nI a ∧ a ≤ 40 ∧ m ≤ 40 ∧ (¬ t → m < a) ∧ ix (σ 244 29) = F + 1 := by
  obtain ⟨_, gc, gb, gf, hh, hA⟩ := w
  have f0 : ix (σ 244 29) = F + 1 := by rw [hF]; exact ix_nI (by omega)
  obtain ⟨r, m, h1, h2, h3, h4, h5⟩ := gf.2.1 F (by omega)
  obtain ⟨M, m1, m2⟩ := gc.1
  have r10 : r < 10 := by rw [m1, ix_nI (by omega)] at h2; omega
  obtain ⟨a, a1, a2⟩ := (gc.2.1 r r10).2.1
  rw [a1, ix_nI (by omega)] at h5
  exact ⟨r, m, a, h1, r10, h3, a1, a2, h4, fun q => h5 (Or.inr q), f0⟩
theorem popS_congr {σ1 : SM} {F b j : Nat} (hv : ∀ b j, ¬ (b = 267 ∧ j = F) → ¬ ((b = 269 ∨ b = 270) ∧ j = 96 + F) → σ1 b j = σ b j) (h1 : ¬ (b = 267 ∧ j = F)) (h2 : ¬ ((b = 269 ∨ b = 270) ∧ j = 96 + F)) : popS σ F b j = popS σ1 F b j := by
  unfold popS relS
  simp only [hu_at, Nat.reduceEqDiff, false_and, and_false, if_false]
  rw [hv 261 j (by omega) (by omega), hv 272 (6000 * F + j) (by omega) (by omega), hv 271 F (by omega) (by omega), hv 273 8 (by omega) (by omega), hv 244 17 (by omega) (by omega), hv b j h1 h2]
end
