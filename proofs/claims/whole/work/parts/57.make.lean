/-! THE MOVING PART: a new cell, a new row -/
theorem lat_none {P : Nat → Nat → Nat} {hs : Nat → List Nat} {c : Nat} : ∀ {g : Nat}, (∀ f, f < g → ∀ y ∈ hs f, ¬ P y 0 = c) → lat P hs c g = 0
  | 0, _ => rfl
  | g + 1, h => by
    have e1 := lat_none (c := c) (fun f (hf : f < g) => h f (by omega))
    have e2 : (hs g).find? (fun x => P x 0 == c) = none := by
      rw [List.find?_eq_none]
      intro y hy
      simp only [beq_iff_eq]
      exact h g (by omega) y hy
    unfold lat
    rw [e2, e1]
section
variable {n s : Nat} {K K' Ln Ln' : Nat → Nat} {P P' : Nat → Nat → Nat} {I I' S S' : SM} {ca ra : Nat → Nat} {hs : Nat → List Nat} {sp : List Nat}
theorem RXo.newCell {C s0 : Nat} (w : RXo n s K Ln P I S ca ra hs sp) (hC : S 244 17 = nI C) (hC2 : C < 6000) (hC' : S' 244 17 = nI (C + 1)) (hs0 : S' 257 C = nI s0) (hs3 : s0 ≤ 3) (hS : ∀ p q, ¬ (p = 244 ∧ q = 17) → ¬ (p = 257 ∧ q = C) → S' p q = S p q)
    (hK : ∀ x, x < n → K' x = K x ∧ Ln' x = Ln x) (hP : ∀ x q, x < n → P' x q = P x q) (hI : ∀ x q, x < n → I' x q = I x q) (k1 : K' n = 1) (k2 : K' (n + 1) = 9) (i1 : I' n 0 = nI s0) (i2 : I' n 2 = 0) (i3 : I' (n + 1) 0 = -5) (i4 : I' (n + 1) 1 = 0) (p1 : P' n 1 = n + 1) (p2 : P' n 3 = 0) (p3 : P' (n + 1) 2 = 0) (p4 : P' (n + 1) 3 = 0)
    (hz : ∀ f, f < ix (S 244 29) → S 272 (6000 * f + C) = 0)
    (k14 : K 14 = 9) (ka : ∀ k, k < 3 → K (241 + k) = 9) (kg : ∀ f, f < 12 → K (108 + 11 * f) = 9) (kr : ∀ f k, f < 12 → k < 8 → K (109 + 11 * f + k) = 9) (hn : 276 ≤ n) (hF : ix (S 244 29) ≤ 12) :
    RXo (n + 2) (s + 8) K' Ln' P' I' S' (fun k => if k = C then n else ca k) ra hs sp := by
  obtain ⟨w1, w2, w3, w4, w5, w6⟩ := w
  have c0 : ix (S 244 17) = C := by rw [hC]; exact ix_nI (by omega)
  have c1 : ix (S' 244 17) = C + 1 := by rw [hC']; exact ix_nI (by omega)
  have e29 : S' 244 29 = S 244 29 := hS _ _ (by omega) (by omega)
  have nca : ∀ k, k < C → (if k = C then n else ca k) = ca k := fun k hk => if_neg (by omega)
  have hca : ∀ k, k < C → ca k + 1 < n ∧ 276 ≤ ca k := fun k hk => ⟨(w3.1 k (by omega)).2.1, (w3.1 k (by omega)).1⟩
  have e : EXT S ca ra S' (fun k => if k = C then n else ca k) ra := by
    refine ⟨by omega, ?_, fun q hq => ⟨?_, nca q (by omega)⟩, fun q _ => ⟨hS _ _ (by omega) (by omega), rfl⟩⟩
    · rw [hS _ _ (by omega) (by omega)]; exact Nat.le_refl _
    · exact hS _ _ (by omega) (by omega)
  have hsl : slk n K P P' I I' := fun x hx _ => ⟨hP _ _ hx, hP _ _ hx, hI _ _ hx, hI _ _ hx⟩
  obtain ⟨h1, h2, h3, h4, h5, h6, h7, h8, h9⟩ := w5
  have hlt : ∀ f y, f < 12 → y ∈ hs f → y < n := fun f y hf hy => (h4 y (allH_mem hf hy)).2.1
  have hlat : ∀ k g, g ≤ 12 → lat P' hs k g = lat P hs k g := fun k g hg => lat.congr (fun f hf => ⟨rfl, fun y hy => hP _ _ (hlt f y (by omega) hy)⟩)
  refine ⟨w1.congr e hn hsl k14 ka (fun p q h => hS p q (by omega) (by omega)), w2.congr e hn hF hsl kg kr (fun f hf => ⟨hP _ _ (by omega), hI _ _ (by omega)⟩) (fun p q h => hS p q (by omega) (by omega)), ⟨fun k hk => ?_, fun k k' hk hk' => ?_, fun k hk => ?_⟩, ?_, ⟨fun f hf => ?_, ?_, ?_, fun x hx => ?_, h5, fun f hf x hx => ?_, fun f hf x hx y hy => ?_, fun f k hf hk hne => ?_, fun k hk => ?_⟩, ?_⟩
  · by_cases q : k = C
    · subst q
      simp only [if_true]
      obtain ⟨z1, z2, z3⟩ := w3.2.2 k (by omega)
      rw [hS 258 _ (by omega) (by omega), hS 259 _ (by omega) (by omega), hS 260 _ (by omega) (by omega), z1, z2, z3, hs0]
      exact ⟨hn, by omega, k1, k2, i1, ⟨s0, rfl, hs3⟩, i2, p1, i3, i4, p3, p4, Or.inl rfl⟩
    · have hk' : k < C := by omega
      simp only [if_neg q]
      obtain ⟨z1, z2, z3, z4, z5, z6, z7, z8, z9⟩ := w3.1 k (by omega)
      obtain ⟨a1, a2, a3, a4⟩ := hsl (ca k + 1) z2 z4
      rw [hS 257 _ (by omega) (by omega), hS 258 _ (by omega) (by omega), hS 259 _ (by omega) (by omega), hS 260 _ (by omega) (by omega), (hK _ (by omega)).1, (hK _ z2).1, hI _ _ (by omega), hI _ _ (by omega), hP _ _ (by omega)]
      exact ⟨z1, by omega, z3, z4, z5, z6, z7, z8, z9.ext e a1 a2 a3 a4⟩
  · rw [c1] at hk hk'
    intro ee
    dsimp only at ee
    by_cases q : k = C
    · by_cases q' : k' = C
      · omega
      · rw [if_pos q, if_neg q'] at ee
        have := hca k' (by omega)
        omega
    · by_cases q' : k' = C
      · rw [if_neg q, if_pos q'] at ee
        have := hca k (by omega)
        omega
      · rw [if_neg q, if_neg q'] at ee
        exact w3.2.1 k k' (by omega) (by omega) ee
  · rw [hS 258 _ (by omega) (by omega), hS 259 _ (by omega) (by omega), hS 260 _ (by omega) (by omega)]
    exact w3.2.2 k (by omega)
  · exact w4.congr (by omega) hK (fun x q hx _ => hP x q hx) (fun x q hx _ => hI x q hx) (fun p q h => hS p q (by omega) (by omega))
  · rw [hP _ _ (by omega)]
    exact chn.congr (fun y hy => hP _ _ (hlt f y hf hy)) (h1 f hf)
  · rw [e29]; exact h2
  · rw [hP _ _ (by omega)]
    exact chn.congr (fun y hy => hP _ _ (h4 y (allH_sp hy)).2.1) h3
  · obtain ⟨a1, a2, a3⟩ := h4 x hx
    exact ⟨a1, by omega, by rw [(hK x a2).1]; exact a3⟩
  · rw [e29] at hf
    have hx' := hlt f x (by omega) hx
    obtain ⟨z1, k, z2, z3, z4, z5⟩ := h6 f hf x hx
    rw [hP _ _ hx', hP _ _ hx', hP _ _ hx', hI _ _ hx']
    refine ⟨z1, k, by omega, ?_, ?_, ?_⟩
    · dsimp only
      rw [nca k (by omega)]; exact z3
    · rw [hS _ _ (by omega) (by omega)]; exact z4
    · dsimp only
      rw [nca k (by omega), hlat _ _ (by omega)]; exact z5
  · rw [e29] at hf
    rw [hP _ _ (hlt f x (by omega) hx), hP _ _ (hlt f y (by omega) hy)]
    exact h7 f hf x hx y hy
  · rw [e29] at hf
    rw [hS _ _ (by omega) (by omega)] at hne
    by_cases q : k = C
    · rw [q] at hne
      exact absurd (hz f hf) hne
    · obtain ⟨x, hx, e1⟩ := h8 f k hf (by omega) hne
      refine ⟨x, hx, ?_⟩
      dsimp only
      rw [hP _ _ (hlt f x (by omega) hx), nca k (by omega)]
      exact e1
  · rw [e29]
    by_cases q : k = C
    · simp only [if_pos q]
      rw [p2, hlat _ _ hF]
      refine (lat_none (fun f hf y hy ee => ?_)).symm
      obtain ⟨_, k', z2, z3, _⟩ := h6 f hf y hy
      have := hca k' (by omega)
      omega
    · simp only [if_neg q]
      have := hca k (by omega)
      rw [hP _ _ (by omega), hlat _ _ hF]
      exact h9 k (by omega)
  · obtain ⟨a1, a2, a3⟩ := w6
    unfold RXn
    rw [hS 244 23 (by omega) (by omega), hS 244 28 (by omega) (by omega), c1]
    rw [c0] at a1 a2
    exact ⟨by omega, by omega, a3⟩
theorem RXo.newRow {R T z l : Nat} (w : RXo n s K Ln P I S ca ra hs sp) (hR : S 244 23 = nI R) (hR2 : R < 6000) (hR' : S' 244 23 = nI (R + 1)) (hT : S 244 28 = nI T) (hT' : S' 244 28 = nI (T + z)) (hTz : T + z ≤ 6000) (hl : S' 262 R = nI l) (hl4 : l ≤ 4) (hb : S' 263 R = nI T) (hz : S' 264 R = nI z) (hS : ∀ p q, ¬ (p = 244 ∧ (q = 23 ∨ q = 28)) → ¬ (262 ≤ p ∧ p ≤ 264 ∧ q = R) → S' p q = S p q)
    (hK : ∀ x, x < n → K' x = K x ∧ Ln' x = Ln x) (hP : ∀ x q, x < n → P' x q = P x q) (hI : ∀ x q, x < n → I' x q = I x q) (k1 : K' n = 8) (k2 : K' (n + 1) = 100) (k3 : K' (n + 2) = 207) (i1 : I' n 0 = nI l) (i2 : I' n 1 = nI z) (i3 : ∀ j, I' (n + 1) j = 0) (p1 : P' n 2 = n + 1) (p2 : P' n 3 = n + 2) (p3 : ∀ j, P' (n + 2) j = 0) (l1 : Ln' (n + 1) = if l = 4 then 0 else z) (l2 : Ln' (n + 2) = if l = 4 then z else 0)
    (k14 : K 14 = 9) (ka : ∀ k, k < 3 → K (241 + k) = 9) (kg : ∀ f, f < 12 → K (108 + 11 * f) = 9) (kr : ∀ f k, f < 12 → k < 8 → K (109 + 11 * f + k) = 9) (kf : ∀ f, f < 12 → K (106 + 11 * f) = 2) (k10 : K 10 = 6) (hn : 276 ≤ n) (hF : ix (S 244 29) ≤ 12) :
    RXo (n + 3) (s + 4 + z) K' Ln' P' I' S' ca (fun k => if k = R then n else ra k) hs sp := by
  obtain ⟨w1, w2, w3, w4, w5, w6⟩ := w
  have r0 : ix (S 244 23) = R := by rw [hR]; exact ix_nI (by omega)
  have r1 : ix (S' 244 23) = R + 1 := by rw [hR']; exact ix_nI (by omega)
  have t0 : ix (S 244 28) = T := by rw [hT]; exact ix_nI (by omega)
  have t1 : ix (S' 244 28) = T + z := by rw [hT']; exact ix_nI (by omega)
  have nra : ∀ k, k < R → (if k = R then n else ra k) = ra k := fun k hk => if_neg (by omega)
  have hra : ∀ k, k < R → ra k + 2 < n ∧ 276 ≤ ra k := fun k hk => ⟨(w4.1 k (by omega)).2.1, (w4.1 k (by omega)).1⟩
  have e : EXT S ca ra S' ca (fun k => if k = R then n else ra k) := by
    refine ⟨?_, by omega, fun q _ => ⟨hS _ _ (by omega) (by omega), rfl⟩, fun q hq => ⟨?_, nra q (by omega)⟩⟩
    · rw [hS _ _ (by omega) (by omega)]; exact Nat.le_refl _
    · exact hS _ _ (by omega) (by omega)
  have hsl : slk n K P P' I I' := fun x hx _ => ⟨hP _ _ hx, hP _ _ hx, hI _ _ hx, hI _ _ hx⟩
  have l4 : ∀ l : Nat, l ≤ 4 → (nI l = 4 ↔ l = 4) := fun l h => nI_eq (a := l) (b := 4) (by omega) (by omega)
  refine ⟨w1.congr e hn hsl k14 ka (fun p q h => hS p q (by omega) (by omega)), w2.congr e hn hF hsl kg kr (fun f hf => ⟨hP _ _ (by omega), hI _ _ (by omega)⟩) (fun p q h => hS p q (by omega) (by omega)), w3.congr e (by omega) (fun x hx => (hK x hx).1) hsl (fun x hx _ => ⟨hI _ _ hx, hI _ _ hx, hP _ _ hx⟩) (fun p q h => hS p q (by omega) (by omega)), ⟨fun k hk => ?_, fun k k' hk hk' => ?_, fun k k' hk hk' => ?_, fun j hj => ?_⟩, ?_, ?_⟩
  · by_cases q : k = R
    · subst q
      simp only [if_true]
      rw [hl, hb, hz, t1, r1, ix_nI (show z < 2147483648 by omega), ix_nI (show T < 2147483648 by omega), l1, l2]
      refine ⟨hn, by omega, k1, k2, k3, i1, i2, p1, p2, ⟨l, rfl, hl4⟩, ⟨T, z, rfl, rfl, Nat.le_refl _⟩, ?_, ?_, fun h j hj => ?_, fun h j hj => ?_⟩
      · by_cases q : l = 4
        · rw [if_pos q, if_pos ((l4 l hl4).mpr q)]
        · rw [if_neg q, if_neg (fun z => q ((l4 l hl4).mp z))]
      · by_cases q : l = 4
        · rw [if_pos q, if_pos ((l4 l hl4).mpr q)]
        · rw [if_neg q, if_neg (fun z => q ((l4 l hl4).mp z))]
      · rw [i3, hS 265 _ (by omega) (by omega), w4.2.2.2 _ (by omega)]
      · rw [p3, hS 265 _ (by omega) (by omega), w4.2.2.2 _ (by omega)]
        exact Or.inl ⟨rfl, rfl⟩
    · have hk' : k < R := by omega
      simp only [if_neg q]
      obtain ⟨q1, q2, q3, q4, q5, q6, q7, q8, q9, q10, ⟨bk, zk, q11, q12, q13⟩, q14, q15, q16, q17⟩ := w4.1 k (by omega)
      rw [hS 262 _ (by omega) (by omega), hS 263 _ (by omega) (by omega), hS 264 _ (by omega) (by omega), (hK (ra k) (by omega)).1, (hK (ra k + 1) (by omega)).1, (hK (ra k + 2) (by omega)).1, (hK (ra k + 1) (by omega)).2, (hK (ra k + 2) (by omega)).2, hI (ra k) 0 (by omega), hI (ra k) 1 (by omega), hP (ra k) 2 (by omega), hP (ra k) 3 (by omega), t1, r1]
      refine ⟨q1, by omega, q3, q4, q5, q6, q7, q8, q9, q10, ⟨bk, zk, q11, q12, by omega⟩, q14, q15, fun l4 j hj => ?_, fun l4 j hj => ?_⟩
      · rw [hI _ _ (by omega), hS 265 _ (by omega) (by omega)]
        exact q16 l4 j hj
      · rw [hP _ _ (by omega), hS 265 _ (by omega) (by omega)]
        rcases q17 l4 j hj with o | ⟨p, o1, o2, o3, o4⟩
        · exact Or.inl o
        · refine Or.inr ⟨p, o1, by omega, ?_, ?_⟩
          · rw [hS 262 _ (by omega) (by omega)]; exact o3
          · rw [nra p (by omega)]; exact o4
  · rw [r1] at hk hk'
    intro ee
    dsimp only at ee
    by_cases q : k = R
    · by_cases q' : k' = R
      · omega
      · rw [if_pos q, if_neg q'] at ee
        have := hra k' (by omega)
        omega
    · by_cases q' : k' = R
      · rw [if_neg q, if_pos q'] at ee
        have := hra k (by omega)
        omega
      · rw [if_neg q, if_neg q'] at ee
        exact w4.2.1 k k' (by omega) (by omega) ee
  · rw [r1] at hk'
    rw [hS 263 k (by omega) (by omega), hS 264 k (by omega) (by omega)]
    by_cases q : k' = R
    · rw [q, hb, ix_nI (by omega)]
      obtain ⟨_, _, _, _, _, _, _, _, _, _, ⟨bk, zk, q11, q12, q13⟩, _⟩ := w4.1 k (by omega)
      rw [q11, q12, ix_nI (by omega), ix_nI (by omega)]
      omega
    · rw [hS 263 k' (by omega) (by omega)]
      exact w4.2.2.1 k k' hk (by omega)
  · rw [hS 265 _ (by omega) (by omega)]
    exact w4.2.2.2 j (by omega)
  · exact w5.congr hF (fun k hk => ⟨(w3.1 k hk).2.2.1, by have := (w3.1 k hk).2.1; omega⟩) (by omega) hn (fun x hx => (hK x hx).1) kf k10 (fun x q hx _ => hP x q hx) (fun x q hx _ => hI x q hx) (fun p q h => hS p q (by omega) (by omega))
  · obtain ⟨a1, a2, a3⟩ := w6
    unfold RXn
    rw [hS 244 17 (by omega) (by omega), r1, t1]
    rw [r0] at a1 a2
    rw [t0] at a2
    exact ⟨by omega, by omega, a3⟩
end
