/-! THE MOVING PART: what a change leaves as it was; a cell's number, a row's content -/
section
variable {n n' s : Nat} {K K' Ln : Nat → Nat} {P P' : Nat → Nat → Nat} {I I' S S' : SM} {ca ra ca' ra' : Nat → Nat} {hs : Nat → List Nat} {sp : List Nat}
/-- slots are as they were -/
def slk (n : Nat) (K : Nat → Nat) (P P' : Nat → Nat → Nat) (I I' : SM) : Prop := ∀ x, x < n → K x = 9 → P' x 2 = P x 2 ∧ P' x 3 = P x 3 ∧ I' x 0 = I x 0 ∧ I' x 1 = I x 1
theorem RXs.congr (w : RXs P I S ca ra) (e : EXT S ca ra S' ca' ra') (hn : 276 ≤ n) (hsl : slk n K P P' I I') (k14 : K 14 = 9) (ka : ∀ k, k < 3 → K (241 + k) = 9) (hS : ∀ p q, p = 255 ∨ p = 256 ∨ (p = 244 ∧ (q = 15 ∨ q = 16)) → S' p q = S p q) : RXs P' I' S' ca' ra' := by
  refine ⟨?_, fun k hk => ?_⟩
  · obtain ⟨a1, a2, a3, a4⟩ := hsl 14 (by omega) k14
    rw [hS _ _ (by omega), hS _ _ (by omega)]
    exact w.1.ext e a1 a2 a3 a4
  · obtain ⟨a1, a2, a3, a4⟩ := hsl (241 + k) (by omega) (ka k hk)
    rw [hS _ _ (by omega), hS _ _ (by omega)]
    exact (w.2 k hk).ext e a1 a2 a3 a4
theorem RXf.congr (w : RXf P I S ca ra) (e : EXT S ca ra S' ca' ra') (hn : 276 ≤ n) (hF : ix (S 244 29) ≤ 12) (hsl : slk n K P P' I I') (kg : ∀ f, f < 12 → K (108 + 11 * f) = 9) (kr : ∀ f k, f < 12 → k < 8 → K (109 + 11 * f + k) = 9) (hfr : ∀ f, f < 12 → P' (106 + 11 * f) 2 = P (106 + 11 * f) 2 ∧ I' (106 + 11 * f) 4 = I (106 + 11 * f) 4) (hS : ∀ p q, p = 266 ∨ p = 267 ∨ p = 269 ∨ p = 270 ∨ (p = 244 ∧ q = 29) → S' p q = S p q) : RXf P' I' S' ca' ra' := by
  intro f hf
  rw [hS _ _ (by omega)] at hf
  obtain ⟨z1, z2, z3, z4⟩ := w f hf
  have f12 : f < 12 := by omega
  refine ⟨?_, ?_, fun k hk => ?_, ?_⟩
  · rw [(hfr f f12).1, hS _ _ (by omega)]; exact z1
  · rw [(hfr f f12).2, hS _ _ (by omega)]; exact z2
  · obtain ⟨a1, a2, a3, a4⟩ := hsl (109 + 11 * f + k) (by omega) (kr f k f12 hk)
    rw [hS _ _ (by omega), hS _ _ (by omega)]
    exact (z3 k hk).ext e a1 a2 a3 a4
  · obtain ⟨a1, a2, a3, a4⟩ := hsl (108 + 11 * f) (by omega) (kg f f12)
    rw [hS _ _ (by omega), hS _ _ (by omega)]
    exact z4.ext e a1 a2 a3 a4
theorem RXc.congr (w : RXc n K P I S ca ra) (e : EXT S ca ra S' ca ra') (hn : n ≤ n') (hK : ∀ x, x < n → K' x = K x) (hsl : slk n K P P' I I') (hc : ∀ x, x < n → K x = 1 → I' x 0 = I x 0 ∧ I' x 2 = I x 2 ∧ P' x 1 = P x 1) (hS : ∀ p q, (257 ≤ p ∧ p ≤ 260) ∨ (p = 244 ∧ q = 17) → S' p q = S p q) : RXc n' K' P' I' S' ca ra' := by
  have s17 : S' 244 17 = S 244 17 := hS _ _ (by omega)
  refine ⟨fun k hk => ?_, ?_, fun k hk => ?_⟩
  · rw [s17] at hk
    obtain ⟨z1, z2, z3, z4, z5, z6, z7, z8, z9⟩ := w.1 k hk
    obtain ⟨c1, c2, c3⟩ := hc (ca k) (by omega) z3
    obtain ⟨a1, a2, a3, a4⟩ := hsl (ca k + 1) z2 z4
    rw [hS 257 _ (by omega), hS 258 _ (by omega), hS 259 _ (by omega), hS 260 _ (by omega), hK _ (by omega), hK _ (by omega), c1, c2, c3]
    exact ⟨z1, by omega, z3, z4, z5, z6, z7, z8, z9.ext e a1 a2 a3 a4⟩
  · rw [s17]; exact w.2.1
  · rw [s17] at hk
    rw [hS _ _ (by omega), hS _ _ (by omega), hS _ _ (by omega)]
    exact w.2.2 k hk
/-- a cell's number -/
theorem RXo.v {k : Nat} {V : Int32} (w : RXo n s K Ln P I S ca ra hs sp) (hk : k < ix (S 244 17)) (k14 : K 14 = 9) (ka : ∀ k, k < 3 → K (241 + k) = 9) (kg : ∀ f, f < 12 → K (108 + 11 * f) = 9) (kr : ∀ f k, f < 12 → k < 8 → K (109 + 11 * f + k) = 9) (kf : ∀ f, f < 12 → K (106 + 11 * f) = 2) (k10 : K 10 = 6) (hn : 276 ≤ n) (hF : ix (S 244 29) ≤ 12) :
    RXo n s K Ln P (hp_u I (ca k) 2 V) (hp_u S 258 k V) ca ra hs sp := by
  obtain ⟨w1, w2, w3, w4, w5, w6⟩ := w
  obtain ⟨c1, c2, c3, c4, c5, c6, c7, c8, c9⟩ := w3.1 k hk
  have hS : ∀ p q, ¬ p = 258 → hp_u S 258 k V p q = S p q := fun p q h => hu_cell h
  have hI : ∀ x q, ¬ K x = 1 → hp_u I (ca k) 2 V x q = I x q := fun x q h => hu_cell (fun e => h (by rw [e]; exact c3))
  have hI2 : ∀ x q, ¬ q = 2 → hp_u I (ca k) 2 V x q = I x q := fun x q h => hu_idx h
  have e : EXT S ca ra (hp_u S 258 k V) ca ra := EXT.same (hS _ _ (by omega)) (hS _ _ (by omega)) (fun q => hS _ _ (by omega)) (fun q => hS _ _ (by omega))
  have hsl : slk n K P P I (hp_u I (ca k) 2 V) := fun x _ _ => ⟨rfl, rfl, hI2 _ _ (by omega), hI2 _ _ (by omega)⟩
  refine ⟨w1.congr e hn hsl k14 ka (fun p q h => hS p q (by omega)), w2.congr e hn hF hsl kg kr (fun f hf => ⟨rfl, hI2 _ _ (by omega)⟩) (fun p q h => hS p q (by omega)), ⟨fun k' hk' => ?_, ?_, fun k' hk' => ?_⟩, ?_, ?_, ?_⟩
  · rw [hS _ _ (by omega)] at hk'
    obtain ⟨z1, z2, z3, z4, z5, z6, z7, z8, z9⟩ := w3.1 k' hk'
    rw [hS 257 _ (by omega), hS 259 _ (by omega), hS 260 _ (by omega), hI2 _ 0 (by omega)]
    refine ⟨z1, z2, z3, z4, z5, z6, ?_, z8, z9.ext e rfl rfl (hI2 _ _ (by omega)) (hI2 _ _ (by omega))⟩
    by_cases q : k' = k
    · subst q
      rw [hu_same, hu_same]
    · rw [hu_idx q, hu_cell (fun z => q (w3.2.1 _ _ hk' hk z))]
      exact z7
  · rw [hS _ _ (by omega)]; exact w3.2.1
  · rw [hS 244 _ (by omega)] at hk'
    rw [hS 259 _ (by omega), hS 260 _ (by omega), hu_idx (by omega)]
    exact w3.2.2 k' hk'
  · exact w4.congr (Nat.le_refl _) (fun _ _ => ⟨rfl, rfl⟩) (fun _ _ _ _ => rfl) (fun x q _ h => hI x q (by omega)) (fun p q h => hS p q (by omega))
  · exact w5.congr hF (fun k hk => ⟨(w3.1 k hk).2.2.1, by have := (w3.1 k hk).2.1; omega⟩) (Nat.le_refl _) hn (fun _ _ => rfl) kf k10 (fun _ _ _ _ => rfl) (fun x q _ h => hI x q (by omega)) (fun p q h => hS p q (by omega))
  · unfold RXn
    rw [hS _ _ (by omega), hS _ _ (by omega), hS _ _ (by omega)]
    exact w6
/-- a row's content -/
theorem RXo.cont {r j b z : Nat} {V : Int32} (w : RXo n s K Ln P I S ca ra hs sp) (hr : r < ix (S 244 23)) (hb : S 263 r = nI b) (hz : S 264 r = nI z) (hb2 : b < 2147483648) (hz2 : z < 2147483648) (hj : j < z) (hI : ∀ x q, ¬ (x = ra r + 1 ∧ q = j) → I' x q = I x q) (hP : ∀ x q, ¬ (x = ra r + 2 ∧ q = j) → P' x q = P x q) (hN : S 262 r ≠ 4 → I' (ra r + 1) j = V) (hR : S 262 r = 4 → (V = 0 ∧ P' (ra r + 2) j = 0) ∨ ∃ q : Nat, V = nI (q + 1) ∧ q < ix (S 244 23) ∧ S 262 q = 0 ∧ P' (ra r + 2) j = ra q)
    (k14 : K 14 = 9) (ka : ∀ k, k < 3 → K (241 + k) = 9) (kg : ∀ f, f < 12 → K (108 + 11 * f) = 9) (kr : ∀ f k, f < 12 → k < 8 → K (109 + 11 * f + k) = 9) (kf : ∀ f, f < 12 → K (106 + 11 * f) = 2) (k10 : K 10 = 6) (hn : 276 ≤ n) (hF : ix (S 244 29) ≤ 12) :
    RXo n s K Ln P' I' (hp_u S 265 (b + j) V) ca ra hs sp := by
  obtain ⟨w1, w2, w3, w4, w5, w6⟩ := w
  obtain ⟨y1, y2, y3, y4, y5, y6, y7, y8, y9, y10, ⟨b', z', y11, y12, y13⟩, y14, y15, y16, y17⟩ := w4.1 r hr
  have hS : ∀ p q, ¬ p = 265 → hp_u S 265 (b + j) V p q = S p q := fun p q h => hu_cell h
  have hI1 : ∀ x q, ¬ K x = 100 → I' x q = I x q := fun x q h => hI x q (fun e => h (by rw [e.1]; exact y4))
  have hP1 : ∀ x q, ¬ K x = 207 → P' x q = P x q := fun x q h => hP x q (fun e => h (by rw [e.1]; exact y5))
  have e : EXT S ca ra (hp_u S 265 (b + j) V) ca ra := EXT.same (hS _ _ (by omega)) (hS _ _ (by omega)) (fun q => hS _ _ (by omega)) (fun q => hS _ _ (by omega))
  have hsl : slk n K P P' I I' := fun x _ h => ⟨hP1 _ _ (by omega), hP1 _ _ (by omega), hI1 _ _ (by omega), hI1 _ _ (by omega)⟩
  refine ⟨w1.congr e hn hsl k14 ka (fun p q h => hS p q (by omega)), w2.congr e hn hF hsl kg kr (fun f hf => ⟨hP1 _ _ (by rw [kf f hf]; omega), hI1 _ _ (by rw [kf f hf]; omega)⟩) (fun p q h => hS p q (by omega)), w3.congr e (Nat.le_refl _) (fun _ _ => rfl) hsl (fun x _ h => ⟨hI1 _ _ (by omega), hI1 _ _ (by omega), hP1 _ _ (by omega)⟩) (fun p q h => hS p q (by omega)), ⟨fun k hk => ?_, ?_, ?_, fun q hq => ?_⟩, ?_, ?_⟩
  · rw [hS 244 _ (by omega)] at hk
    obtain ⟨q1, q2, q3, q4, q5, q6, q7, q8, q9, q10, ⟨bk, zk, q11, q12, q13⟩, q14, q15, q16, q17⟩ := w4.1 k hk
    have bl : bk < 2147483648 := by have := ix_lt (S 244 28); omega
    have zl : zk < 2147483648 := by have := ix_lt (S 244 28); omega
    have ne : ∀ j', j' < zk → ¬ (k = r ∧ j' = j) → ¬ bk + j' = b + j := by
      intro j' hj' hne
      by_cases q : k = r
      · subst q
        have : bk = b := by
          rw [hb] at q11
          exact ((nI_eq (by omega) (by omega)).mp q11).symm
        omega
      · rcases Nat.lt_or_ge k r with l | l
        · have := w4.2.2.1 k r l hr
          rw [q11, q12, hb, ix_nI bl, ix_nI zl, ix_nI hb2] at this
          omega
        · have := w4.2.2.1 r k (by omega) hk
          rw [q11, hb, hz, ix_nI bl, ix_nI hz2, ix_nI hb2] at this
          omega
    rw [hS 262 _ (by omega), hS 263 _ (by omega), hS 264 _ (by omega), hS 244 28 (by omega), hS 244 23 (by omega), hI1 (ra k) 0 (by omega), hI1 (ra k) 1 (by omega), hP1 (ra k) 2 (by omega), hP1 (ra k) 3 (by omega)]
    refine ⟨q1, q2, q3, q4, q5, q6, q7, q8, q9, q10, ⟨bk, zk, q11, q12, q13⟩, q14, q15, fun l4 j' hj' => ?_, fun l4 j' hj' => ?_⟩
    · rw [q11, ix_nI bl]
      rw [q12, ix_nI zl] at hj'
      have o := q16 l4 j' (by rw [q12, ix_nI zl]; exact hj')
      rw [q11, ix_nI bl] at o
      by_cases q : k = r ∧ j' = j
      · obtain ⟨rfl, rfl⟩ := q
        have : bk = b := by
          rw [hb] at q11
          exact ((nI_eq (by omega) (by omega)).mp q11).symm
        rw [this, hu_same]
        exact hN l4
      · rw [hu_idx (ne j' hj' q), hI]
        · exact o
        · rintro ⟨e1, e2⟩
          exact q ⟨w4.2.1 k r hk hr (by omega), e2⟩
    · rw [q11, ix_nI bl]
      rw [q12, ix_nI zl] at hj'
      have o := q17 l4 j' (by rw [q12, ix_nI zl]; exact hj')
      rw [q11, ix_nI bl] at o
      by_cases q : k = r ∧ j' = j
      · obtain ⟨rfl, rfl⟩ := q
        have : bk = b := by
          rw [hb] at q11
          exact ((nI_eq (by omega) (by omega)).mp q11).symm
        rw [this, hu_same]
        rcases hR l4 with o | ⟨p, o1, o2, o3, o4⟩
        · exact Or.inl o
        · exact Or.inr ⟨p, o1, o2, by rw [hS 262 _ (by omega)]; exact o3, o4⟩
      · rw [hu_idx (ne j' hj' q), hP]
        · rcases o with o | ⟨p, o1, o2, o3, o4⟩
          · exact Or.inl o
          · exact Or.inr ⟨p, o1, o2, by rw [hS 262 _ (by omega)]; exact o3, o4⟩
        · rintro ⟨e1, e2⟩
          exact q ⟨w4.2.1 k r hk hr (by omega), e2⟩
  · rw [hS _ _ (by omega)]; exact w4.2.1
  · intro k k'
    rw [hS 244 _ (by omega), hS 263 _ (by omega), hS 263 _ (by omega), hS 264 _ (by omega)]
    exact w4.2.2.1 k k'
  · rw [hS 244 _ (by omega)] at hq
    have hbz : b + z ≤ ix (S 244 28) := by
      rw [hb] at y11
      rw [hz] at y12
      have := ix_lt (S 244 28)
      have e1 := (nI_eq (by omega) (by omega)).mp y11
      have e2 := (nI_eq (by omega) (by omega)).mp y12
      omega
    rw [hu_idx (by omega)]
    exact w4.2.2.2 q hq
  · exact w5.congr hF (fun k hk => ⟨(w3.1 k hk).2.2.1, by have := (w3.1 k hk).2.1; omega⟩) (Nat.le_refl _) hn (fun _ _ => rfl) kf k10 (fun x q _ h => hP1 _ _ (by omega)) (fun x q _ h => hI1 x q (by omega)) (fun p q h => hS p q (by omega))
  · unfold RXn
    rw [hS _ _ (by omega), hS _ _ (by omega), hS _ _ (by omega)]
    exact w6
end
section
variable {L : Nat} {h0 h : HP} {σ : SM} {ca ra : Nat → Nat} {hs : Nat → List Nat} {sp : List Nat}
theorem CR.cv {k : Nat} {V : Int32} (w : CR L h0 h σ ca ra hs sp) (hk : k < ix (σ 244 17)) : CR L h0 (hp_wi h (ca k) 2 V) (hp_u σ 258 k V) ca ra hs sp := by
  have c := w.cel hk
  have hF := w.hF
  obtain ⟨w1, w2, w3, w4, w6, w5⟩ := w
  refine ⟨w1, kp_wi w2 (by omega), w3, (w4.so (ncm_s (by omega))).wo (fun b j e => by have := cm_lt e; omega), (by rw [hu_cell (by omega)]; exact w6), ?_⟩
  rw [hp_i_wiu, mI_n (by unfold dynI; omega), mS_n (by unfold depS; omega)]
  exact w5.v (by rw [mS_x (by omega)]; exact hk) w1.k14 w1.argk w1.fgk w1.frs w1.fk w1.k10 w1.n (by rw [mS_x (by omega)]; exact hF)
theorem CR.cn {r j b z : Nat} {V : Int32} (w : CR L h0 h σ ca ra hs sp) (hr : r < ix (σ 244 23)) (hb : σ 263 r = nI b) (hz : σ 264 r = nI z) (hb2 : b < 2147483648) (hz2 : z < 2147483648) (hj : j < z) (hl : ¬ σ 262 r = 4) : CR L h0 (hp_wi h (ra r + 1) j V) (hp_u σ 265 (b + j) V) ca ra hs sp := by
  have c := w.row hr
  have hF := w.hF
  obtain ⟨w1, w2, w3, w4, w6, w5⟩ := w
  refine ⟨w1, kp_wi w2 (by omega), w3, (w4.so (ncm_s (by omega))).wo (fun b j e => by have := cm_lt e; omega), (by rw [hu_cell (by omega)]; exact w6), ?_⟩
  rw [hp_i_wiu, mI_n (by unfold dynI; omega), mS_n (by unfold depS; omega)]
  refine w5.cont (r := r) (j := j) (b := b) (z := z) (by rw [mS_x (by omega)]; exact hr) (by rw [mS_m (by omega)]; exact hb) (by rw [mS_m (by omega)]; exact hz) hb2 hz2 hj (fun x q h => by rw [hu_at, if_neg h]) (fun _ _ _ => rfl) (fun _ => hu_same) (fun e => ?_) w1.k14 w1.argk w1.fgk w1.frs w1.fk w1.k10 w1.n (by rw [mS_x (by omega)]; exact hF)
  rw [mS_m (by omega)] at e
  exact absurd e hl
theorem CR.crw {r j b z : Nat} {V : Int32} {A : Nat} (w : CR L h0 h σ ca ra hs sp) (hr : r < ix (σ 244 23)) (hb : σ 263 r = nI b) (hz : σ 264 r = nI z) (hb2 : b < 2147483648) (hz2 : z < 2147483648) (hj : j < z) (hl : σ 262 r = 4) (hA : (V = 0 ∧ A = 0) ∨ ∃ q : Nat, V = nI (q + 1) ∧ q < ix (σ 244 23) ∧ σ 262 q = 0 ∧ A = ra q) : CR L h0 (hp_wa h (ra r + 2) j A) (hp_u σ 265 (b + j) V) ca ra hs sp := by
  have c := w.row hr
  have hF := w.hF
  obtain ⟨w1, w2, w3, w4, w6, w5⟩ := w
  refine ⟨w1.wa (by unfold mov; omega), w2, w3, (w4.so (ncm_s (by omega))).wa, (by rw [hu_cell (by omega)]; exact w6), ?_⟩
  show RXo _ _ _ _ (hp_u (hp_a h) (ra r + 2) j A) (mI (hp_i h)) _ _ _ _ _
  rw [mS_n (by unfold depS; omega)]
  refine w5.cont (r := r) (j := j) (b := b) (z := z) (by rw [mS_x (by omega)]; exact hr) (by rw [mS_m (by omega)]; exact hb) (by rw [mS_m (by omega)]; exact hz) hb2 hz2 hj (fun _ _ _ => rfl) (fun x q h => if_neg h) (fun e => ?_) (fun e => ?_) w1.k14 w1.argk w1.fgk w1.frs w1.fk w1.k10 w1.n (by rw [mS_x (by omega)]; exact hF)
  · rw [mS_m (by omega)] at e
    exact absurd hl e
  · have e0 : hp_u (hp_a h) (ra r + 2) j A (ra r + 2) j = A := if_pos ⟨rfl, rfl⟩
    rw [e0, mS_x (by omega)]
    rcases hA with o | ⟨p, o1, o2, o3, o4⟩
    · exact Or.inl o
    · exact Or.inr ⟨p, o1, o2, by rw [mS_m (by omega)]; exact o3, o4⟩
end
