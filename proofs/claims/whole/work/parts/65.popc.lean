/-! THE ENGINE, 10: a frame is over, on both sides -/
theorem FX.lvF {L : Nat} : ∀ (l : List Nat) (h : HP), l.Nodup → lvOk h l → FX L h → FX L (l.foldl lvS h)
  | [], _, _, _, x => x
  | y :: l, h, hd, ok, x => by
    obtain ⟨a, b, c, d⟩ := ok.2 y (List.mem_cons_self ..)
    rw [List.foldl_cons]
    refine FX.lvF l (lvS h y) (List.nodup_cons.mp hd).2 (ok.tail hd).1 ?_
    unfold lvS
    refine FX.wa (FX.wa (FX.wa (FX.wa (FX.wa (FX.wa x ?_) ?_) ?_) ?_) ?_) ?_
    · exact Or.inr (Or.inr (Or.inl d))
    · exact Or.inr (Or.inl a)
    · exact Or.inr (Or.inl a)
    · exact Or.inr (Or.inl a)
    · exact Or.inr (Or.inl a)
    · exact Or.inr (Or.inr (Or.inr (Or.inr (Or.inr (Or.inl ok.1)))))
def popS (σ : SM) (F : Nat) : SM := relS (hp_u σ 244 29 (nI F)) F
theorem popS_at {σ : SM} {F b j : Nat} (h1 : ¬ (b = 244 ∧ j = 29)) (h2 : ¬ b = 261) (h3 : ¬ (b = 271 ∧ j = F)) (h4 : ¬ b = 272) (h5 : ¬ (b = 273 ∧ j = 8)) : popS σ F b j = σ b j := by
  unfold popS relS
  rw [if_neg (by omega), if_neg (by omega), if_neg h3, if_neg h5, hu_at, if_neg h1]
theorem popS_29 {σ : SM} {F : Nat} : popS σ F 244 29 = nI F := by
  unfold popS relS
  rw [if_neg (by omega), if_neg (by omega), if_neg (by omega), if_neg (by omega), hu_same]
theorem popS_271 {σ : SM} {F : Nat} : popS σ F 271 F = 0 := by
  unfold popS relS
  rw [if_neg (by omega), if_neg (by omega), if_pos ⟨rfl, rfl⟩]
theorem popS_273 {σ : SM} {F : Nat} : popS σ F 273 8 = σ 273 8 + σ 271 F := by
  unfold popS relS
  rw [if_neg (by omega), if_neg (by omega), if_neg (by omega), if_pos ⟨rfl, rfl⟩, hu_cell (by omega), hu_cell (by omega)]
theorem popS_272 {σ : SM} {F j : Nat} : popS σ F 272 j = if 6000 * F ≤ j ∧ j < 6000 * F + ix (σ 244 17) then 0 else σ 272 j := by
  unfold popS relS
  rw [if_neg (by omega), hu_idx (a := 244) (k := 29) (b := 244) (j := 17) (by omega)]
  by_cases q : 6000 * F ≤ j ∧ j < 6000 * F + ix (σ 244 17)
  · rw [if_pos ⟨rfl, q⟩, if_pos q]
  · rw [if_neg (fun z => q z.2), if_neg q, if_neg (by omega), if_neg (by omega), hu_cell (by omega)]
theorem popS_261 {σ : SM} {F j : Nat} : popS σ F 261 j = if j < ix (σ 244 17) then σ 261 j - σ 272 (6000 * F + j) else σ 261 j := by
  unfold popS relS
  rw [hu_idx (a := 244) (k := 29) (b := 244) (j := 17) (by omega)]
  by_cases q : j < ix (σ 244 17)
  · rw [if_pos ⟨rfl, q⟩, if_pos q, hu_cell (by omega), hu_cell (by omega)]
  · rw [if_neg (fun z => q z.2), if_neg q, if_neg (by omega), if_neg (by omega), if_neg (by omega), hu_cell (by omega)]
section
variable {L : Nat} {h0 h : HP} {σ : SM} {ca ra : Nat → Nat} {hs : Nat → List Nat} {sp : List Nat}
theorem CR.pop {F : Nat} (w : CR L h0 h σ ca ra hs sp) (hF : σ 244 29 = nI (F + 1)) (hF12 : F < 12) (hC : ix (σ 244 17) ≤ 6000) :
    ∃ h', pX 309 0 [.ref 5, .retAddr 0] [] h = some (none, h') ∧ CR L h0 h' (popS σ F) ca ra (fun g => if g = F then [] else hs g) ((hs F).reverse ++ sp) ∧ (∀ q, hp_i h' (108 + 11 * F) q = hp_i h (108 + 11 * F) q ∧ hp_a h' (108 + 11 * F) q = hp_a h (108 + 11 * F) q) ∧ hp_i h' 5 9 = hp_i h 5 9 := by
  have X := w.fx
  have hF' := w.hF
  have f29 : ix (σ 244 29) = F + 1 := by rw [hF]; exact ix_nI (by omega)
  have fF : hp_i h 5 7 = nI (F + 1) := (w.fi _ _ _ _ CMR.frames).trans hF
  have kF := X.fk F hF12
  obtain ⟨h1, h2, h3, h4, h5, h6, h7, h8, h9⟩ := w.hold
  have perm := allH_pop (hs := hs) (sp := sp) hF12
  have nd0 := perm.nodup_iff.mpr h5
  unfold allH at nd0
  have nd1 := (List.nodup_append.mp nd0).2.1
  have nd2 := List.nodup_append.mp nd1
  have nd : (hs F).Nodup := (List.reverse_perm (hs F)).nodup_iff.mp nd2.1
  have ok0 : lvOk h (hs F) := by
    refine ⟨X.k10, fun y hy => ?_⟩
    obtain ⟨a1, a2, a3⟩ := h4 y (allH_mem hF12 hy)
    obtain ⟨_, k, b2, b3, _⟩ := h6 F (by omega) y hy
    obtain ⟨c1, c2, c3, _⟩ := w.cel b2
    rw [b3]
    exact ⟨a3, a1, c1, c3⟩
  generalize hh1 : hp_wi h 9 8 (hp_i h 9 8 + hp_i h (106 + 11 * F) 6) = g1
  have ok1 : lvOk g1 (hs F) := by rw [← hh1]; exact ok0
  have a1 : hp_a g1 = hp_a h := by rw [← hh1]; rfl
  have k1 : hp_k g1 = hp_k h := by rw [← hh1]; rfl
  have ch1 : chn (hp_a g1) (hp_a g1 (106 + 11 * F) 5) (hs F) := by rw [a1]; exact h1 F hF12
  have X1 : FX L g1 := by rw [← hh1]; exact X.wi
  have la := sp_leaveAll (h := g1) (fr := 106 + 11 * F) (by rw [k1]; exact kF) ch1 nd ok1
  obtain ⟨p1, p2, p3, p4⟩ := lv_facts (hs F) g1 sp nd ok1 (by rw [a1]; exact h7 F (by omega)) (fun y hy => ⟨fun z => nd2.2.2 y (List.mem_reverse.mpr z) y hy rfl, by rw [k1]; exact (h4 y (allH_sp hy)).2.2, (h4 y (allH_sp hy)).1⟩) (by rw [a1]; exact h3)
  obtain ⟨r1, r2, r3, r4⟩ := lvF_r (hs F) g1
  have rk := lvF_k (hs F) g1
  generalize hg2 : (hs F).foldl lvS g1 = g2 at *
  have X2 : FX L g2 := by rw [← hg2]; exact FX.lvF _ _ nd ok1 X1
  have kg2 : hp_k g2 = hp_k h := rk.trans k1
  generalize hg3 : hp_wi (hp_wa g2 (106 + 11 * F) 5 0) (106 + 11 * F) 6 0 = g3 at la
  have X3 : FX L g3 := by
    rw [← hg3]
    refine FX.wi (FX.wa X2 ?_)
    exact Or.inr (Or.inr (Or.inr (Or.inr (Or.inr (Or.inr ⟨by rw [kg2]; exact kF, by omega⟩)))))
  have i3 : ∀ y q, hp_i g3 y q = if y = 106 + 11 * F ∧ q = 6 then 0 else if y = 9 ∧ q = 8 then hp_i h 9 8 + hp_i h (106 + 11 * F) 6 else hp_i h y q := by
    intro y q
    rw [← hg3, hp_i_wi, hp_i_wa, r1, ← hh1, hp_i_wi]
  have i57 : hp_i g3 5 7 = nI (F + 1) := by
    rw [i3, if_neg (by omega), if_neg (by omega)]
    exact fF
  have a3 : ∀ y q, hp_a g3 y q = if y = 106 + 11 * F ∧ q = 5 then 0 else hp_a g2 y q := by
    intro y q
    rw [← hg3, hp_a_wi, hp_a_wa]
  have ne : ∀ y, ¬ hp_k h y = 3 → y ∉ hs F := fun y h3 hy => h3 (ok0.2 y hy).1
  have n8 : nI (F + 1) - 1 = nI F := nI_pred F
  have i8 : inb 8 9 = true := inb_lit (by decide) (by decide)
  have i9 : ix 8 = 8 := ix_lit (by decide)
  have s8 : hp_i h 9 8 = σ 273 8 := w.fi _ _ _ _ (CMR.counted (by omega))
  have s1 : hp_i h (106 + 11 * F) 6 = σ 271 F := w.fi _ _ _ _ (CMR.holds hF12)
  have cel : ∀ k, k < ix (σ 244 17) → _ := fun k hk => w.cel hk
  have en : hp_n (hp_wi g3 5 7 (nI F)) = hp_n h := by rw [← hg3]; exact r2.trans (by rw [← hh1]; rfl)
  have es : hp_s (hp_wi g3 5 7 (nI F)) = hp_s h := by rw [← hg3]; exact r3.trans (by rw [← hh1]; rfl)
  have ek : hp_k (hp_wi g3 5 7 (nI F)) = hp_k h := by rw [← hg3]; exact kg2
  have el : hp_l (hp_wi g3 5 7 (nI F)) = hp_l h := by rw [← hg3]; exact r4.trans (by rw [← hh1]; rfl)
  obtain ⟨w1, w2, w3, w4, w6, w5⟩ := w
  refine ⟨hp_wi g3 5 7 (nI F), ?_, ⟨X3.wi, ?_, w3, ?_, ?_, ?_⟩, fun q => ⟨?_, ?_⟩, ?_⟩
  · simp only [x309_0, x309_1, x309_4, x309_5, x309_6, x309_9, x309_12, x309_14, x309_15, x309_16, x309_17, x309_20, x309_21, x309_22, x309_23, x309_26, x309_27, x309_30, x309_31, x309_32, x309_35, x309_36, x309_37, x309_40, X.k5, sp_top X fF hF12, Option.bind_some, Option.toList_some, Option.toList_none, List.singleton_append, List.nil_append, X.a5_2, X.k7, X.a7_1, X.k9, X.l9, X1.k5, X1.a5_3, X1.k10, kF, i8, i9, hh1, la, X3.k5, i57, n8]
  · intro a j ha
    rw [hp_i_wi, if_neg (by omega), i3, if_neg (by omega), if_neg (by omega)]
    exact w2 a j ha
  · have e1 := ((w4.w (CMR.counted (q := 8) (by omega)) (x := σ 273 8 + σ 271 F)).w (CMR.holds (f := F) hF12) (x := 0)).w CMR.frames (x := nI F)
    have e2 : FI (hp_wi g3 5 7 (nI F)) (hp_u (hp_u (hp_u σ 273 8 (σ 273 8 + σ 271 F)) 271 F 0) 244 29 (nI F)) := by
      intro a k b j e
      rw [← e1 a k b j e, hp_i_wi, hp_i_wi, i3, hp_i_wi, hp_i_wi, s8, s1]
    refine e2.eq (fun b j q1 q2 q3 q4 q5 => ?_)
    by_cases z1 : b = 244 ∧ j = 29
    · obtain ⟨rfl, rfl⟩ := z1
      rw [popS_29, hu_same]
    · rw [hu_at, if_neg z1]
      by_cases z2 : b = 271 ∧ j = F
      · obtain ⟨rfl, rfl⟩ := z2
        rw [popS_271, hu_same]
      · rw [hu_at, if_neg z2]
        by_cases z3 : b = 273 ∧ j = 8
        · obtain ⟨rfl, rfl⟩ := z3
          rw [popS_273, hu_same]
        · rw [hu_at, if_neg z3, popS_at z1 (by omega) z2 q5 z3]
  · rw [popS_29, ix_nI (by omega)]; omega
  · rw [en, es, ek, el]
    refine RXo.pop (f := F) w5 (by rw [mS_x (by omega)]; exact f29) (by rw [mS_x (by omega), popS_29]; exact ix_nI (by omega)) (fun p q z1 z2 z3 z4 z5 z6 z7 => ?_) (fun g k hg hk => ?_) (by rw [mS_x (by omega)]; exact hC) (fun y q hy => ?_) (fun g hg => ?_) (fun y q y1 y2 y3 y4 => ?_) (fun k hk => ?_) ?_ ?_ X.k14 X.argk X.fgk X.frs X.fk X.k10 X.n (by rw [mS_x (by omega)]; exact hF')
    · unfold mS
      by_cases z : depS p q
      · rw [if_pos z, if_pos z]
        refine popS_at z5 z1 (by omega) z4 (fun e => ?_)
        unfold depS at z
        omega
      · rw [if_neg z, if_neg z]
    · rw [mS_m (by omega), mS_m (by omega), popS_272, if_neg (by omega)]
    · unfold mI
      by_cases z : dynI y q
      · rw [if_pos z, if_pos z, hp_i_wi, if_neg (by unfold dynI at z; omega), i3, if_neg (fun e => hy (by rw [e.1]; exact kF)), if_neg (by unfold dynI at z; omega)]
      · rw [if_neg z, if_neg z]
    · have d : dynI (106 + 11 * g) 4 := by unfold dynI; omega
      rw [mI_at d, mI_at d, hp_i_wi, if_neg (by omega), i3, if_neg (by omega), if_neg (by omega)]
    · rw [hp_a_wi, a3, if_neg y3, p1 y q y1 (by rw [k1]; exact y2) y4, a1]
    · rw [mS_x (by omega)] at hk
      obtain ⟨c1, c2, c3, _⟩ := cel k hk
      rw [hp_a_wi, a3, if_neg (by omega)]
      cases hf : (hs F).find? (fun x => hp_a h x 0 == ca k) with
      | none =>
        rw [p3 (ca k) (by rw [k1]; exact c3) (fun x hx => by
          rw [a1]
          have := List.find?_eq_none.mp hf x hx
          simpa using this), a1, h9 k hk, f29]
        conv => lhs; unfold lat
        rw [hf]
      | some x =>
        have hx := List.mem_of_find?_eq_some hf
        have hc : hp_a h x 0 = ca k := by have := List.find?_some hf; simpa using this
        have e := p2 x hx
        rw [a1, hc] at e
        obtain ⟨_, k', z2, z3, z4, z5⟩ := h6 F (by omega) x hx
        rw [e, z5, ← z3, hc]
    · have e : hp_a (hp_wi g3 5 7 (nI F)) 10 0 = hp_a g2 10 0 := by rw [hp_a_wi, a3, if_neg (by omega)]
      rw [e]
      exact chn.congr (fun y hy => by rw [hp_a_wi, a3, if_neg (by omega)]) p4
    · rw [hp_a_wi, a3, if_pos ⟨rfl, rfl⟩]
  · rw [hp_i_wi, if_neg (by omega), i3, if_neg (by omega), if_neg (by omega)]
  · have kg := X.fgk F hF12
    rw [hp_a_wi, a3, if_neg (by omega), p1 _ _ (ne _ (by rw [kg]; decide)) (by rw [k1, kg]; omega) (by omega), a1]
  · rw [hp_i_wi, if_neg (by omega), i3, if_neg (by omega), if_neg (by omega)]
end
