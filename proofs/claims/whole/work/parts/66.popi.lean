/-! THE ENGINE, 11: what a frame that is over leaves; the stop -/
theorem GC.congr {σ σ' : SM} (g : GC σ) (h : ∀ b j, (b = 244 ∧ j = 0) ∨ (245 ≤ b ∧ b ≤ 249) ∨ b = 251 → σ' b j = σ b j) : GC σ' := by
  unfold GC GP
  have u245 : ∀ j, _ := fun j => h 245 j (by omega)
  have u246 : ∀ j, _ := fun j => h 246 j (by omega)
  have u247 : ∀ j, _ := fun j => h 247 j (by omega)
  have u248 : ∀ j, _ := fun j => h 248 j (by omega)
  have u249 : ∀ j, _ := fun j => h 249 j (by omega)
  have u251 : ∀ j, _ := fun j => h 251 j (by omega)
  simp only [h 244 0 (by omega), u245, u246, u247, u248, u249, u251]
  exact g
theorem GB.congr {σ σ' : SM} (g : GB σ) (h : ∀ j, j = 17 ∨ j = 23 ∨ j = 28 ∨ j = 37 ∨ j = 38 ∨ j = 41 → σ' 244 j = σ 244 j) : GB σ' := by
  unfold GB
  simp only [h 17 (by omega), h 23 (by omega), h 28 (by omega), h 37 (by omega), h 38 (by omega), h 41 (by omega)]
  exact g
theorem HH.congr {σ σ' : SM} {A : Nat} (g : HH σ A) (h : ∀ b j, b = 261 ∨ b = 271 ∨ b = 272 ∨ (b = 244 ∧ (j = 29 ∨ j = 17)) → σ' b j = σ b j) : HH σ' A := by
  unfold HH
  have u261 : ∀ j, _ := fun j => h 261 j (by omega)
  have u271 : ∀ j, _ := fun j => h 271 j (by omega)
  have u272 : ∀ j, _ := fun j => h 272 j (by omega)
  simp only [h 244 29 (by omega), h 244 17 (by omega), u261, u271, u272]
  exact g
theorem HH.up {σ : SM} {A B : Nat} (g : HH σ A) (h : A ≤ B) : HH σ B := by
  obtain ⟨g1, g2, g3⟩ := g
  refine ⟨fun f k hf hk => ?_, fun f hf => ⟨(g2 f hf).1, Nat.le_trans (g2 f hf).2 h⟩, fun k hk => ⟨(g3 k hk).1, Nat.le_trans (g3 k hk).2 h⟩⟩
  obtain ⟨n, n1, n2, n3⟩ := g1 f k hf hk
  exact ⟨n, n1, by omega, n3⟩
theorem HH.cells {σ σ' : SM} {A : Nat} (g : HH σ A) (h : ∀ b j, b = 261 ∨ b = 271 ∨ b = 272 ∨ (b = 244 ∧ j = 29) → σ' b j = σ b j) (hc : ix (σ 244 17) ≤ ix (σ' 244 17)) : HH σ' A := by
  obtain ⟨g1, g2, g3⟩ := g
  unfold HH
  have u261 : ∀ j, _ := fun j => h 261 j (by omega)
  have u271 : ∀ j, _ := fun j => h 271 j (by omega)
  have u272 : ∀ j, _ := fun j => h 272 j (by omega)
  simp only [h 244 29 (by omega), u261, u271, u272]
  refine ⟨fun f k hf hk => ?_, g2, g3⟩
  obtain ⟨n, n1, n2, n3⟩ := g1 f k hf hk
  exact ⟨n, n1, n2, fun q => n3 (by omega)⟩
theorem GF.congr {σ σ' : SM} {t : Prop} (g : GF σ t) (h : ∀ b j, (b = 244 ∧ (j = 0 ∨ j = 15 ∨ j = 29)) ∨ b = 246 ∨ b = 247 ∨ (266 ≤ b ∧ b ≤ 268) ∨ ((b = 269 ∨ b = 270) ∧ 96 ≤ j) → σ' b j = σ b j) : GF σ' t := by
  have e1 : ∀ f, σ' 269 (96 + f) = σ 269 (96 + f) := fun f => h _ _ (by omega)
  have e2 : ∀ f, σ' 270 (96 + f) = σ 270 (96 + f) := fun f => h _ _ (by omega)
  unfold GF
  have u246 : ∀ j, _ := fun j => h 246 j (by omega)
  have u247 : ∀ j, _ := fun j => h 247 j (by omega)
  have u266 : ∀ j, _ := fun j => h 266 j (by omega)
  have u267 : ∀ j, _ := fun j => h 267 j (by omega)
  have u268 : ∀ j, _ := fun j => h 268 j (by omega)
  simp only [h 244 0 (by omega), h 244 15 (by omega), h 244 29 (by omega), u246, u247, u266, u267, u268, e1, e2]
  exact g
theorem GF.weak {σ : SM} {t : Prop} (g : GF σ False) : GF σ t := by
  obtain ⟨g1, g2, g3⟩ := g
  refine ⟨g1, fun f hf => ?_, g3⟩
  obtain ⟨r, n, h1, h2, h3, h4, h5⟩ := g2 f hf
  exact ⟨r, n, h1, h2, h3, h4, fun _ => h5 (Or.inr id)⟩
theorem PH.congr {σ σ' : SM} (h29 : σ' 244 29 = σ 244 29) (h7 : ∀ j, σ' 267 j = σ 267 j) (hl : ix (σ' 244 38) ≤ ix (σ 244 38)) : PH σ' ≤ PH σ := by
  unfold PH
  simp only [h29, h7]
  omega
theorem sumN_upd {g g' : Nat → Nat} {F v : Nat} : ∀ {n : Nat}, F < n → g' F = v → (∀ f, f < n → ¬ f = F → g' f = g f) → sumN g' n + g F = sumN g n + v
  | 0, h, _, _ => absurd h (by omega)
  | n + 1, h, hv, he => by
    show sumN g' n + g' n + g F = sumN g n + g n + v
    by_cases q : F = n
    · subst q
      rw [hv, sumN_congr (fun f hf => he f (by omega) (by omega))]
      omega
    · have ih := sumN_upd (n := n) (by omega) hv (fun f hf hne => he f (by omega) hne)
      rw [he n (by omega) (fun e => q e.symm)]
      omega
theorem sumN_zero {g : Nat → Nat} : ∀ {n : Nat}, (∀ i, i < n → g i = 0) → sumN g n = 0
  | 0, _ => rfl
  | n + 1, h => by
    show sumN g n + g n = 0
    rw [sumN_zero (fun i hi => h i (by omega)), h n (by omega)]
theorem sumN_zero' {g : Nat → Nat} : ∀ {n : Nat}, sumN g n = 0 → ∀ i, i < n → g i = 0
  | 0, _, i, hi => absurd hi (by omega)
  | n + 1, h, i, hi => by
    have h' : sumN g n + g n = 0 := h
    by_cases q : i = n
    · rw [q]; omega
    · exact sumN_zero' (n := n) (by omega) i (by omega)
/-- what a frame that is over leaves -/
def kpF (σ σ' : SM) : Prop := ∀ b j, ¬ (b = 244 ∧ j = 29) → ¬ b = 261 → ¬ b = 271 → ¬ b = 272 → ¬ b = 273 → σ' b j = σ b j
theorem kpF.refl (σ : SM) : kpF σ σ := fun _ _ _ _ _ _ _ => rfl
theorem kpF.trans {σ σ1 σ2 : SM} (a : kpF σ σ1) (b : kpF σ1 σ2) : kpF σ σ2 := fun p q h1 h2 h3 h4 h5 => (b p q h1 h2 h3 h4 h5).trans (a p q h1 h2 h3 h4 h5)
theorem kpF.pop (σ : SM) (F : Nat) : kpF σ (popS σ F) := fun p q h1 h2 h3 h4 h5 => popS_at h1 h2 (fun e => h3 e.1) h4 (fun e => h5 e.1)
theorem kpF.gc {σ σ' : SM} (k : kpF σ σ') (g : GC σ) : GC σ' := g.congr (fun b j h => k b j (by omega) (by omega) (by omega) (by omega) (by omega))
theorem kpF.gb {σ σ' : SM} (k : kpF σ σ') (g : GB σ) : GB σ' := g.congr (fun j h => k 244 j (by omega) (by omega) (by omega) (by omega) (by omega))
theorem pop_gf {σ : SM} {F : Nat} {t : Prop} (g : GF σ t) (hF : σ 244 29 = nI (F + 1)) (hF12 : F < 12) : GF (popS σ F) False := by
  have k := kpF.pop σ F
  have f0 : ix (σ 244 29) = F + 1 := by rw [hF]; exact ix_nI (by omega)
  have f1 : ix (popS σ F 244 29) = F := by rw [popS_29]; exact ix_nI (by omega)
  obtain ⟨g1, g2, g3, g4, g5⟩ := g
  have e : ∀ b j, (b = 244 ∧ (j = 0 ∨ j = 15)) ∨ b = 246 ∨ b = 247 ∨ (266 ≤ b ∧ b ≤ 270) → popS σ F b j = σ b j := fun b j h => k b j (by omega) (by omega) (by omega) (by omega) (by omega)
  unfold GF
  have u246 : ∀ j, _ := fun j => e 246 j (by omega)
  have u247 : ∀ j, _ := fun j => e 247 j (by omega)
  have u266 : ∀ j, _ := fun j => e 266 j (by omega)
  have u267 : ∀ j, _ := fun j => e 267 j (by omega)
  have u268 : ∀ j, _ := fun j => e 268 j (by omega)
  have u269 : ∀ j, _ := fun j => e 269 j (by omega)
  have u270 : ∀ j, _ := fun j => e 270 j (by omega)
  simp only [e 244 0 (by omega), e 244 15 (by omega), u246, u247, u266, u267, u268, u269, u270, f1]
  refine ⟨⟨F, popS_29, by omega⟩, fun f hf => ?_, fun f h0 hf => g3 f h0 (by omega), fun q => g4 (by omega), g5⟩
  obtain ⟨r, n, h1, h2, h3, h4, h5⟩ := g2 f (by omega)
  exact ⟨r, n, h1, h2, h3, h4, fun _ => h5 (by omega)⟩
theorem pop_hh {σ : SM} {A F : Nat} (w : HH σ A) (hF : σ 244 29 = nI (F + 1)) (hF12 : F < 12) (hC : ix (σ 244 17) ≤ 6000) (hA : A ≤ 492000) : HH (popS σ F) A := by
  have hp : ∀ g k, g < 12 → k < 6000 → popS σ F 272 (6000 * g + k) = if g = F then 0 else σ 272 (6000 * g + k) := by
    intro g k hg hk
    rw [popS_272]
    by_cases q : g = F
    · rw [if_pos q]
      by_cases q2 : k < ix (σ 244 17)
      · rw [if_pos (by omega)]
      · rw [if_neg (by omega)]
        obtain ⟨n, n1, n2, n3⟩ := w.1 g k hg hk
        rw [n1, n3 (by omega)]
        rfl
    · rw [if_neg q, if_neg (by omega)]
  have f0 : ix (σ 244 29) = F + 1 := by rw [hF]; exact ix_nI (by omega)
  have f1 : ix (popS σ F 244 29) = F := by rw [popS_29]; exact ix_nI (by omega)
  have c1 : popS σ F 244 17 = σ 244 17 := kpF.pop σ F _ _ (by omega) (by omega) (by omega) (by omega) (by omega)
  obtain ⟨g1, g2, g3⟩ := w
  refine ⟨fun f k hf hk => ?_, fun f hf => ?_, fun k hk => ?_⟩
  · rw [f1, c1, hp f k hf hk]
    by_cases q : f = F
    · rw [if_pos q]; exact ⟨0, rfl, by omega, fun _ => rfl⟩
    · rw [if_neg q]
      obtain ⟨n, n1, n2, n3⟩ := g1 f k hf hk
      exact ⟨n, n1, n2, fun z => n3 (by omega)⟩
  · by_cases q : f = F
    · rw [q, popS_271]
      have e : sumN (fun k => ix (popS σ F 272 (6000 * F + k))) 6000 = 0 := sumN_zero (fun i hi => by
        show ix (popS σ F 272 (6000 * F + i)) = 0
        rw [hp F i hF12 hi, if_pos rfl]
        rfl)
      rw [e]
      exact ⟨rfl, by omega⟩
    · have e : sumN (fun k => ix (popS σ F 272 (6000 * f + k))) 6000 = sumN (fun k => ix (σ 272 (6000 * f + k))) 6000 := sumN_congr (fun i hi => by
        show ix (popS σ F 272 (6000 * f + i)) = _
        rw [hp f i hf hi, if_neg q])
      rw [e, popS_at (by omega) (by omega) (fun z => q z.2) (by omega) (by omega)]
      exact g2 f hf
  · have e := sumN_upd (g := fun f => ix (σ 272 (6000 * f + k))) (g' := fun f => ix (popS σ F 272 (6000 * f + k))) (F := F) (v := 0) (n := 12) hF12 (by
      show ix (popS σ F 272 (6000 * F + k)) = 0
      rw [hp F k hF12 hk, if_pos rfl]
      rfl) (fun f hf hne => by
      show ix (popS σ F 272 (6000 * f + k)) = _
      rw [hp f k hf hk, if_neg hne])
    obtain ⟨s1, s2⟩ := g3 k hk
    obtain ⟨n, n1, n2, n3⟩ := g1 F k hF12 hk
    refine ⟨?_, by omega⟩
    rw [popS_261]
    by_cases q : k < ix (σ 244 17)
    · rw [if_pos q, s1]
      have e2 : σ 272 (6000 * F + k) = nI (ix (σ 272 (6000 * F + k))) := by rw [n1, ix_nI (by omega)]
      rw [e2, nI_sub (by omega)]
      congr 1
      omega
    · rw [if_neg q, s1]
      have e2 : ix (σ 272 (6000 * F + k)) = 0 := by rw [n1, n3 (by omega)]; rfl
      congr 1
      omega
theorem pop_ph {σ : SM} {F : Nat} (hF : σ 244 29 = nI (F + 1)) (hF12 : F < 12) : PH (popS σ F) + (40 - ix (σ 267 F)) ≤ PH σ := by
  have f0 : ix (σ 244 29) = F + 1 := by rw [hF]; exact ix_nI (by omega)
  have f1 : ix (popS σ F 244 29) = F := by rw [popS_29]; exact ix_nI (by omega)
  have k := kpF.pop σ F
  have e : ∀ j, popS σ F 267 j = σ 267 j := fun j => k _ _ (by omega) (by omega) (by omega) (by omega) (by omega)
  unfold PH
  rw [f0, f1, k 244 38 (by omega) (by omega) (by omega) (by omega) (by omega)]
  simp only [e]
  show _ ≤ sumN (fun f => 40 - ix (σ 267 f)) F + (40 - ix (σ 267 F)) + _
  omega
/-- class and model beside each other, between acts; t: the latest frame may be behind its acts -/
def IV (L : Nat) (h0 h : HP) (σ : SM) (A : Nat) (t : Prop) : Prop := (∃ ca ra hs sp, CR L h0 h σ ca ra hs sp) ∧ GC σ ∧ GB σ ∧ GF σ t ∧ HH σ A ∧ A ≤ 492000
section
variable {L : Nat} {h0 h : HP} {σ : SM} {A : Nat} {t : Prop}
theorem GF.fr {σ : SM} {t : Prop} (g : GF σ t) : ∃ F : Nat, σ 244 29 = nI F ∧ F ≤ 12 ∧ ix (σ 244 29) = F := by
  obtain ⟨⟨F, f1, f2⟩, _⟩ := g
  exact ⟨F, f1, f2, by rw [f1]; exact ix_nI (by omega)⟩
theorem GF.zero {σ : SM} {t t' : Prop} (g : GF σ t) (h : σ 244 29 = nI 0) : GF σ t' := by
  obtain ⟨g1, g2, g3⟩ := g
  refine ⟨g1, fun f hf => ?_, g3⟩
  rw [h] at hf
  exact absurd hf (by rw [ix_nI (by omega)]; omega)
theorem HH.free {σ : SM} {A : Nat} (w : HH σ A) (hA : A ≤ 492000) {F C : Nat} (hF : F < 12) (hC : C ≤ 6000) : σ 271 F ≤ 0 → σ 271 F = 0 ∧ ∀ j, j < C → σ 272 (6000 * F + j) = 0 := by
  obtain ⟨g1, g2, g3⟩ := w
  obtain ⟨s1, s2⟩ := g2 F hF
  intro q
  rw [s1] at q
  have z : sumN (fun k => ix (σ 272 (6000 * F + k))) 6000 = 0 := by
    rcases Nat.eq_zero_or_pos (sumN (fun k => ix (σ 272 (6000 * F + k))) 6000) with z | z
    · exact z
    · exact absurd q (nI_nle z (by omega))
  refine ⟨by rw [s1, z]; rfl, fun j hj => ?_⟩
  have := sumN_zero' z j (by omega)
  obtain ⟨n, n1, n2, n3⟩ := g1 F j hF (by omega)
  have e : ix (σ 272 (6000 * F + j)) = 0 := this
  rw [n1, ix_nI (by omega)] at e
  rw [n1, e]
  rfl
theorem IV.pop {F : Nat} (w : IV L h0 h σ A t) (hF : σ 244 29 = nI (F + 1)) (hF12 : F < 12) : ∃ h', pX 309 0 [.ref 5, .retAddr 0] [] h = some (none, h') ∧ IV L h0 h' (popS σ F) A False ∧ PH (popS σ F) + (40 - ix (σ 267 F)) ≤ PH σ ∧ (∀ k, FX L k → pX 1124 0 [.ref 244, .int (nI F), .retAddr 0] [] (mset k (hp_u σ 244 29 (nI F))) = some (none, mset k (popS σ F))) ∧ hp_i h' 5 9 = hp_i h 5 9 := by
  obtain ⟨⟨ca, ra, hs, sp, c⟩, gc, gb, gf, hh, hA⟩ := w
  obtain ⟨C, c1, c2⟩ := gb.2.2.2.1
  have hC : ix (σ 244 17) ≤ 6000 := by rw [c1, ix_nI (by omega)]; exact c2
  obtain ⟨h', e1, e2, e3, e5⟩ := c.pop hF hF12 hC
  have k := kpF.pop σ F
  refine ⟨h', e1, ⟨⟨_, _, _, _, e2⟩, k.gc gc, k.gb gb, pop_gf gf hF hF12, pop_hh hh hF hF12 hC hA, hA⟩, pop_ph hF hF12, fun k x => ?_, e5⟩
  have fr := hh.free hA hF12 c2
  exact sp_release x hF12 (by rw [hu_idx (by omega)]; exact c1) c2 (by
    rw [hu_cell (by omega)]
    intro q
    obtain ⟨z1, z2⟩ := fr q
    exact ⟨z1, fun j hj => by rw [hu_cell (by omega)]; exact z2 j hj⟩)
theorem stop_loop : ∀ (F i : Nat) (h : HP) (σ : SM) (t : Prop), IV L h0 h σ A t → σ 244 29 = nI F → i + F ≤ 12 → ∃ h' σ' i', pX 313 2 [.ref 5, .int (nI i)] [] h = pX 313 25 [.ref 5, .int (nI i')] [] h' ∧ (∀ k, FX L k → ∀ v, pX 1126 0 [.ref 244, v] [] (mset k σ) = pX 1126 28 [.ref 244, v] [] (mset k σ')) ∧ IV L h0 h' σ' A False ∧ σ' 244 29 = nI 0 ∧ kpF σ σ' ∧ PH σ' ≤ PH σ := by
  intro F
  induction F with
  | zero =>
    intro i h σ t w hF hi
    have c := w.1
    obtain ⟨ca, ra, hs, sp, c⟩ := c
    have X := c.fx
    have fF : hp_i h 5 7 = nI 0 := (c.fi _ _ _ _ CMR.frames).trans hF
    refine ⟨h, σ, i, ?_, fun k x v => ?_, ⟨w.1, w.2.1, w.2.2.1, w.2.2.2.1.zero hF, w.2.2.2.2⟩, hF, kpF.refl σ, Nat.le_refl _⟩
    · by_cases q : (12 : Int32) ≤ nI i
      · simp only [x313_2, x313_3, x313_5, q, if_true]
      · simp only [x313_2, x313_3, x313_5, x313_8, x313_9, x313_12, q, if_false, X.k5, fF, show nI 0 ≤ 0 from Int32.le_refl 0, if_true]
    · simp only [x1126_0, x1126_1, x1126_4, hp_k_ms, x.k244, ms_r (show 244 ≤ 244 ∧ 244 < 276 by omega), hF, show nI 0 ≤ 0 from Int32.le_refl 0, if_true]
  | succ F ih =>
    intro i h σ t w hF hi
    have c := w.1
    obtain ⟨ca, ra, hs, sp, c⟩ := c
    have X := c.fx
    have fF : hp_i h 5 7 = nI (F + 1) := (c.fi _ _ _ _ CMR.frames).trans hF
    obtain ⟨h1, p1, p2, p3, p4, _⟩ := w.pop hF (by omega)
    obtain ⟨h', σ', i', r1, r2, r3, r4, r5, r6⟩ := ih (i + 1) h1 (popS σ F) False p2 popS_29 (by omega)
    refine ⟨h', σ', i', ?_, fun k x v => ?_, r3, r4, (kpF.pop σ F).trans r5, by omega⟩
    · rw [← r1]
      have q : ¬ (12 : Int32) ≤ nI i := nI_nle2 (a := 12) (by omega) (by omega)
      have q2 : ¬ nI (F + 1) ≤ 0 := nI_nle (by omega) (by omega)
      generalize hR : pX 313 2 [.ref 5, .int (nI (i + 1))] [] h1 = R
      simp only [x313_2, x313_3, x313_5, x313_8, x313_9, x313_12, x313_15, x313_16, x313_19, q, q2, if_false, X.k5, fF, p1, Option.bind_some, Option.toList_some, Option.toList_none, List.singleton_append, List.nil_append, nI_1]
      rw [x313_22]
      exact hR
    · rw [← r2 k x v]
      have q2 : ¬ nI (F + 1) ≤ 0 := nI_nle (by omega) (by omega)
      have n8 : nI (F + 1) - 1 = nI F := nI_pred F
      generalize hR : pX 1126 0 [.ref 244, v] [] (mset k (popS σ F)) = R
      simp only [x1126_0, x1126_1, x1126_4, x1126_7, x1126_8, x1126_9, x1126_12, x1126_13, x1126_14, x1126_17, x1126_18, x1126_19, x1126_22, hp_k_ms, x.k244, ms_r (show 244 ≤ 244 ∧ 244 < 276 by omega), ms_w (show 244 ≤ 244 ∧ 244 < 276 by omega), hF, n8, q2, if_false, hu_same, p4 k x, Option.bind_some, Option.toList_some, Option.toList_none, List.singleton_append, List.nil_append]
      rw [x1126_25]
      exact hR
/-- ints outside the moving part -/
theorem CR.ints {h' : HP} {σ' : SM} {ca ra : Nat → Nat} {hs : Nat → List Nat} {sp : List Nat} (w : CR L h0 h σ ca ra hs sp) (e : hp_n h' = hp_n h ∧ hp_s h' = hp_s h ∧ hp_k h' = hp_k h ∧ hp_l h' = hp_l h ∧ hp_a h' = hp_a h) (x : FX L h') (kp : ∀ a j, a < 4 ∨ (244 ≤ a ∧ a < 276) → hp_i h' a j = hp_i h a j) (hi : ∀ y q, dynI y q → hp_i h' y q = hp_i h y q) (hS : ∀ b j, depS b j → σ' b j = σ b j) (fi : FI h' σ') : CR L h0 h' σ' ca ra hs sp := by
  obtain ⟨w1, w2, w3, w4, w6, w5⟩ := w
  obtain ⟨e1, e2, e3, e4, e5⟩ := e
  refine ⟨x, fun a j ha => (kp a j ha).trans (w2 a j ha), w3, fi, ?_, ?_⟩
  · rw [hS 244 29 (by unfold depS; omega)]; exact w6
  · have a1 : mI (hp_i h') = mI (hp_i h) := by
      funext y q
      unfold mI
      by_cases z : dynI y q
      · rw [if_pos z, if_pos z]; exact hi y q z
      · rw [if_neg z, if_neg z]
    have a2 : mS σ' = mS σ := by
      funext y q
      unfold mS
      by_cases z : depS y q
      · rw [if_pos z, if_pos z]; exact hS y q z
      · rw [if_neg z, if_neg z]
    rw [e1, e2, e3, e4, e5, a1, a2]
    exact w5
def cpS (σ : SM) (s d i : Nat) : SM := fun b j => if b = d ∧ j < i then σ s j else σ b j
theorem CMR.pl {a k b j : Nat} (e : CMR a k b j) : (a = 11 ∧ b = 253 ∧ j = k ∧ k < 12) ∨ (a = 12 ∧ b = 254 ∧ j = k ∧ k < 12) ∨ (a ≠ 11 ∧ a ≠ 12 ∧ b ≠ 253 ∧ b ≠ 254) := by
  rcases e with e | e | e | ⟨_, e⟩ | e | e | ⟨_, e⟩ | ⟨_, e⟩ | ⟨_, e⟩ | ⟨_, e⟩ | ⟨_, e⟩ | ⟨_, e⟩ | ⟨_, e⟩ | ⟨_, e⟩ | ⟨_, e⟩ | ⟨_, _, _, e⟩ | ⟨_, _, _, e⟩ | ⟨_, e⟩ | ⟨_, e⟩ <;> omega
/-- a plan is kept -/
theorem CR.plan {ca ra : Nat → Nat} {hs : Nat → List Nat} {sp : List Nat} (w : CR L h0 h σ ca ra hs sp) {p q : Nat} (hp : (p = 11 ∧ q = 12) ∨ (p = 12 ∧ q = 11)) : CR L h0 (hp_cp h p 0 q 0 12) (cpS σ (242 + p) (242 + q) 12) ca ra hs sp := by
  refine w.ints ⟨rfl, rfl, rfl, rfl, rfl⟩ w.fx.cp (fun a j ha => ?_) (fun y z hy => ?_) (fun b j hb => ?_) (fun a k b j e => ?_)
  · rw [hp_i_cp, if_neg (by omega)]
  · rw [hp_i_cp, if_neg (by unfold dynI at hy; omega)]
  · unfold cpS
    rw [if_neg (by unfold depS at hb; omega)]
  · have fi := w.fi
    rw [hp_i_cp]
    unfold cpS
    rcases e.pl with z | z | z
    · obtain ⟨rfl, rfl, rfl, z⟩ := z
      rcases hp with ⟨rfl, rfl⟩ | ⟨rfl, rfl⟩
      · rw [if_neg (by omega), if_neg (by omega)]; exact fi _ _ _ _ e
      · rw [if_pos (by omega), if_pos (by omega)]
        rw [show 0 + (j - 0) = j by omega]
        exact fi _ _ _ _ (CMR.planWas z)
    · obtain ⟨rfl, rfl, rfl, z⟩ := z
      rcases hp with ⟨rfl, rfl⟩ | ⟨rfl, rfl⟩
      · rw [if_pos (by omega), if_pos (by omega)]
        rw [show 0 + (j - 0) = j by omega]
        exact fi _ _ _ _ (CMR.plan z)
      · rw [if_neg (by omega), if_neg (by omega)]; exact fi _ _ _ _ e
    · rw [if_neg (by omega), if_neg (by omega)]; exact fi _ _ _ _ e
theorem cpS_0 (σ : SM) (s d : Nat) : cpS σ s d 0 = σ := by
  funext b j
  unfold cpS
  rw [if_neg (by omega)]
theorem cpS_s {σ : SM} {s d i : Nat} (h : ¬ s = d) : hp_u (cpS σ s d i) d i (σ s i) = cpS σ s d (i + 1) := by
  funext b j
  unfold hp_u cpS
  by_cases h1 : b = d ∧ j = i
  · rw [if_pos h1, if_pos (by omega), h1.2]
  · rw [if_neg h1]
    by_cases h2 : b = d ∧ j < i
    · rw [if_pos h2, if_pos (by omega)]
    · rw [if_neg h2, if_neg (by omega)]
theorem cpS_at {σ : SM} {s d i b j : Nat} (h : ¬ b = d) : cpS σ s d i b j = σ b j := if_neg (fun z => h z.1)
theorem stops_cp {k : HP} (x : FX L k) : ∀ (n i : Nat), i + n = 12 → pX 1126 30 [.ref 244, .int (nI i)] [] (mset k (cpS σ 254 253 i)) = pX 1126 54 [.ref 244, .int (nI 12)] [] (mset k (cpS σ 254 253 12)) := by
  intro n
  induction n with
  | zero =>
    intro i hi
    obtain rfl : i = 12 := by omega
    simp only [x1126_30, x1126_31, x1126_33, show (12 : Int32) ≤ nI 12 from Int32.le_refl 12, if_true]
  | succ n ih =>
    intro i hi
    have q : ¬ (12 : Int32) ≤ nI i := nI_nle2 (a := 12) (by omega) (by omega)
    have e1 : inb (nI i) 12 = true := inb_nI (by omega) (by omega)
    have e2 : ix (nI i) = i := ix_nI (by omega)
    rw [← ih (i + 1) (by omega), ← cpS_s (by omega)]
    generalize hR : pX 1126 30 [.ref 244, .int (nI (i + 1))] [] (mset k (hp_u (cpS σ 254 253 i) 253 i (σ 254 i))) = R
    simp only [x1126_30, x1126_31, x1126_33, x1126_36, x1126_37, x1126_40, x1126_41, x1126_42, x1126_45, x1126_46, x1126_47, x1126_48, hp_k_ms, hp_a_ms, hp_l_ms, x.k244, x.a244_11, x.a244_12, x.k253, x.l253, x.k254, x.l254, ms_r (show 244 ≤ 254 ∧ 254 < 276 by omega), ms_w (show 244 ≤ 253 ∧ 253 < 276 by omega), q, if_false, e1, e2, cpS_at (show ¬ 254 = 253 by omega), nI_1]
    rw [x1126_51]
    exact hR
theorem slSet_self {h : HP} {a : Nat} {kd nm : Int32} {ce ro : Nat} (e0 : hp_i h a 0 = kd) (e1 : hp_i h a 1 = nm) (e2 : hp_a h a 2 = ce) (e3 : hp_a h a 3 = ro) : slSet h a kd nm ce ro = h := by
  refine hp_ext rfl rfl (fun _ => rfl) (fun _ => rfl) (fun b j => ?_) (fun b j => ?_)
  · rw [hp_i_sl]
    by_cases q : b = a ∧ j = 0
    · rw [if_pos q, q.1, q.2, e0]
    · rw [if_neg q]
      by_cases q : b = a ∧ j = 1
      · rw [if_pos q, q.1, q.2, e1]
      · rw [if_neg q]
  · rw [hp_a_sl]
    by_cases q : b = a ∧ j = 2
    · rw [if_pos q, q.1, q.2, e2]
    · rw [if_neg q]
      by_cases q : b = a ∧ j = 3
      · rw [if_pos q, q.1, q.2, e3]
      · rw [if_neg q]
/-- the result is nothing, and stays so -/
theorem CR.res0 {ca ra : Nat → Nat} {hs : Nat → List Nat} {sp : List Nat} (w : CR L h0 h σ ca ra hs sp) (h15 : σ 244 15 = 0) : CR L h0 h (hp_u (hp_u σ 244 15 0) 244 16 0) ca ra hs sp := by
  have p : SLP σ ca 14 244 15 244 16 := Or.inl ⟨rfl, rfl, rfl, rfl, rfl⟩
  obtain ⟨z1, z2, z3, z4, z5⟩ := w.at_ p
  have c := w.slot (K := 0) (V := 0) p (Or.inl rfl)
  rw [h15] at z1 z2 z3 z4
  have e := slSet_self (h := h) (a := 14) (kd := thK σ 0 0) (nm := if (0 : Int32) = 1 then 0 else 0) (ce := if (0 : Int32) = 2 then ca (ix 0) else 0) (ro := if (0 : Int32) = 3 then ra (ix 0) else 0) z1 z2 z3 z4
  rw [e] at c
  exact c
theorem op_stop (w : IV L h0 h σ A t) (h15 : σ 244 15 = 0) : ∃ h' σ', pX 313 0 [.ref 5, .retAddr 0] [] h = some (some (.int (-9)), h') ∧ (∀ k, FX L k → pX 1126 0 [.ref 244, .retAddr 0] [] (mset k σ) = some (none, mset k σ')) ∧ IV L h0 h' σ' A False ∧ σ' 244 29 = nI 0 ∧ σ' 244 44 = -9 ∧ PH σ' ≤ PH σ ∧ σ' 244 8 = σ 244 8 := by
  obtain ⟨F, f1, f2, f3⟩ := w.2.2.2.1.fr
  obtain ⟨h1, σ1, i', r1, r2, r3, r4, r5, r6⟩ := stop_loop F 0 h σ t w f1 (by omega)
  obtain ⟨⟨ca, ra, hs, sp, c⟩, gc, gb, gf, hh, hA⟩ := r3
  have X := c.fx
  have s15 : σ1 244 15 = 0 := by rw [r5 _ _ (by omega) (by omega) (by omega) (by omega) (by omega)]; exact h15
  have c1 := c.plan (p := 12) (q := 11) (Or.inr ⟨rfl, rfl⟩)
  have c2 := (c1.w (CMR.told (t := 2) (by omega) (by omega)) (x := σ1 275 2 + 1) (by unfold depS; omega))
  have s15' : hp_u (cpS σ1 (242 + 12) (242 + 11) 12) 275 2 (σ1 275 2 + 1) 244 15 = 0 := by rw [hu_cell (by omega), cpS_at (by omega)]; exact s15
  have c3 := (c2.res0 s15').agree (σ' := hp_u (hp_u (hp_u (hp_u (cpS σ1 254 253 12) 244 15 0) 244 16 0) 275 2 (σ1 275 2 + 1)) 244 44 (-9)) (fun p q h1 h2 h3 => by
    simp only [hu_at]
    by_cases z1 : p = 244 ∧ q = 44
    · exact absurd (Or.inl (by omega)) h3
    · rw [if_neg z1]
      by_cases z2 : p = 275 ∧ q = 2
      · rw [if_pos z2, if_neg (by omega), if_neg (by omega), if_pos z2]
      · rw [if_neg z2]
        by_cases z3 : p = 244 ∧ q = 16
        · rw [if_pos z3, if_pos z3]
        · rw [if_neg z3, if_neg z3]
          by_cases z4 : p = 244 ∧ q = 15
          · rw [if_pos z4, if_pos z4]
          · (rw [if_neg z4, if_neg z4, if_neg z2]) <;> rfl)
  generalize hσ3 : hp_u (hp_u (hp_u (hp_u (cpS σ1 254 253 12) 244 15 0) 244 16 0) 275 2 (σ1 275 2 + 1)) 244 44 (-9) = σ3 at c3
  have k3 : ∀ b j, ¬ (b = 244 ∧ (j = 15 ∨ j = 16 ∨ j = 44)) → ¬ b = 253 → ¬ b = 275 → σ3 b j = σ1 b j := by
    intro b j h1 h2 h3
    rw [← hσ3, hu_at, if_neg (by omega), hu_at, if_neg (by omega), hu_at, if_neg (by omega), hu_at, if_neg (by omega), cpS_at h2]
  have g15 : σ3 244 15 = 0 := by rw [← hσ3, hu_idx (by omega), hu_cell (by omega), hu_idx (by omega), hu_same]
  have i2 : inb 2 5 = true := inb_lit (by decide) (by decide)
  have i3 : ix 2 = 2 := ix_lit (by decide)
  have z0 : ix 0 = 0 := ix_lit (by decide)
  have z12 : ix 12 = 12 := ix_lit (by decide)
  have fp : hp_i h1 5 13 = σ1 275 2 := c.fi _ _ _ _ (CMR.told (t := 2) (by omega) (by omega))
  have e5 : hp_i (hp_cp h1 12 0 11 0 12) 5 13 = σ1 275 2 := by rw [hp_i_cp, if_neg (by omega)]; exact fp
  refine ⟨_, σ3, ?_, fun k x => ?_, ⟨⟨_, _, _, _, c3⟩, ?_, ?_, ?_, ?_, hA⟩, ?_, ?_, ?_, ?_⟩
  · have : pX 313 0 [.ref 5, .retAddr 0] [] h = pX 313 25 [.ref 5, .int (nI i')] [] h1 := by
      rw [← r1, x313_0, x313_1]
      rfl
    rw [this]
    simp only [x313_25, x313_26, x313_29, x313_30, x313_31, x313_34, x313_35, X.k5, X.a5_4, X.a5_5]
    rw [x313_37 X.k12 X.k11 (by decide) (by decide) (by decide) (by rw [z0, z12, X.l12]; omega) (by rw [z0, z12, X.l11]; omega), z0, z12]
    simp only [x313_40, x313_41, x313_42, x313_45, x313_46, x313_47, x313_50, x313_52, X.cp.k5, e5]
  · rw [r2 k x, x1126_28, x1126_29, show (Value.int 0) = .int (nI 0) from rfl]
    have lo := stops_cp (σ := σ1) x 12 0 (by omega)
    rw [cpS_0] at lo
    rw [lo, ← hσ3]
    simp only [x1126_54, x1126_55, x1126_56, x1126_59, x1126_60, x1126_61, x1126_64, x1126_65, x1126_68, x1126_69, x1126_70, x1126_71, x1126_72, x1126_73, x1126_74, x1126_75, x1126_77, x1126_80, hp_k_ms, hp_a_ms, hp_l_ms, x.k244, x.a244_43, x.k275, x.l275, ms_r (show 244 ≤ 275 ∧ 275 < 276 by omega), ms_w (show 244 ≤ 275 ∧ 275 < 276 by omega), ms_w (show 244 ≤ 244 ∧ 244 < 276 by omega), i2, i3, hu_cell (show ¬ 275 = 244 by omega), cpS_at (show ¬ 275 = 253 by omega)]
  · exact gc.congr (fun b j h => k3 b j (by omega) (by omega) (by omega))
  · exact gb.congr (fun j h => k3 244 j (by omega) (by omega) (by omega))
  · have e29 : σ3 244 29 = nI 0 := by rw [k3 _ _ (by omega) (by omega) (by omega)]; exact r4
    obtain ⟨g1, g2, g3, g4, g5⟩ := gf
    refine ⟨⟨0, e29, by omega⟩, fun f hf => ?_, fun f h0 hf => ?_, fun _ => g15, fun f hf => ?_⟩
    · rw [e29, ix_nI (by omega)] at hf; exact absurd hf (by omega)
    · rw [e29, ix_nI (by omega)] at hf; exact absurd hf (by omega)
    · rw [k3 _ _ (by omega) (by omega) (by omega), k3 _ _ (by omega) (by omega) (by omega)]
      exact g5 f hf
  · exact hh.congr (fun b j h => k3 b j (by omega) (by omega) (by omega))
  · rw [k3 _ _ (by omega) (by omega) (by omega)]; exact r4
  · rw [← hσ3, hu_same]
  · refine Nat.le_trans (PH.congr (k3 _ _ (by omega) (by omega) (by omega)) (fun j => k3 _ _ (by omega) (by omega) (by omega)) ?_) r6
    rw [k3 _ _ (by omega) (by omega) (by omega)]
    exact Nat.le_refl _
  · rw [k3 _ _ (by omega) (by omega) (by omega), r5 _ _ (by omega) (by omega) (by omega) (by omega) (by omega)]
end
