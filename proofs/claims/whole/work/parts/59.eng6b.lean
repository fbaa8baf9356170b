/-! THE ENGINE, 6b: cell -/
section
variable {L : Nat} {h0 h : HP} {σ : SM} {ca ra : Nat → Nat} {hs : Nat → List Nat} {sp : List Nat} {f a b c : Nat}
theorem op_cell {s0 : Nat} (w : CR L h0 h σ ca ra hs sp) (g : GB σ) (gp : GP σ) (hz : ∀ f k, f < ix (σ 244 29) → ix (σ 244 17) ≤ k → k < 6000 → σ 272 (6000 * f + k) = 0) (hf : f < ix (σ 244 29)) (ha : a < 8) (hs3 : s0 ≤ 3) (m0 : σ 244 45 = nI (8 * f)) (m1 : σ 244 46 = nI a) (m2 : σ 244 47 = nI s0) :
    LKS L h0 h σ 321 [.ref 5, .ref (109 + 11 * f + a), .int (nI s0)] 1136 [.ref 244] := by
  have f12 : f < 12 := Nat.lt_of_lt_of_le hf w.hF
  have X := w.fx
  have i3 : inb 3 5 = true := inb_lit (by decide) (by decide)
  have i4 : ix 3 = 3 := ix_lit (by decide)
  rcases w.pays g gp (q := 3) (by omega) with ⟨p1, p2⟩ | ⟨h1, σ1, σ2, p1, p2, p3, p4, p5, p6, p7⟩
  · rw [show nI 3 = 3 from rfl] at p1
    refine LKS.stop w (SO.refl g) ?_ (fun k x => ?_)
    · simp [x321_0, x321_1, x321_4, x321_5, x321_8, x321_11, x321_13, x321_14, x321_15, x321_18, x321_19, x321_20, x321_23, x321_26, x321_27, X.k5, X.a5_2, X.k7, p1]
    · simp [x1136_0, x1136_1, x1136_2, x1136_5, x1136_6, x1136_7, x1136_8, x1136_11, x1136_14, x1136_16, x1136_17, x1136_18, x1136_21, x1136_22, x1136_23, x1136_24, x1136_25, x1136_26, x1136_27, x1136_28, x1136_31, x1136_32, x1136_35, x1136_36, x1136_39, x1136_40, x1136_41, x1136_42, x1136_45, x1136_46, x1136_47, x1136_50, x1136_51, x1136_52, x1136_53, x1136_56, x1136_57, x1136_58, x1136_61, x1136_62, hp_k_ms, hp_a_ms, hp_l_ms, hp_i_ms, x.k244, x.a244_7, x.k251, x.l251, i3, i4, p2 k x]
  · rw [show nI 3 = 3 from rfl] at p1
    have gc := p5.2.1
    obtain ⟨_, _, ⟨H, l1, l2⟩, ⟨C, c1, c2⟩, ⟨R, r1, r2⟩, ⟨T, t1, t2⟩, g7⟩ := gc
    obtain ⟨_, _, ⟨H0, l01, l02⟩, ⟨C0, c01, c02⟩, ⟨R0, r01, r02⟩, ⟨T0, t01, t02⟩, g07⟩ := g
    have eC : σ2 244 17 = σ 244 17 := by rw [p3, hu_cell (by omega)]; exact p7 _ _ (by omega) (by omega)
    have eR : σ2 244 23 = σ 244 23 := by rw [p3, hu_cell (by omega)]; exact p7 _ _ (by omega) (by omega)
    have eT : σ2 244 28 = σ 244 28 := by rw [p3, hu_cell (by omega)]; exact p7 _ _ (by omega) (by omega)
    have e29 : σ2 244 29 = σ 244 29 := p5.1 _ _ (by unfold hard; omega)
    have C6 : C < 6000 := by
      rw [← eC, ← eR, ← eT, c1, ix_nI (by omega)] at g07
      omega
    have nc := p4.newCell (s0 := s0) c1 C6 hs3 (fun f hf => by
      rw [p5.1 272 _ (by unfold hard; omega)]
      rw [e29] at hf
      exact hz f C hf (by rw [← eC, c1, ix_nI (by omega)]; exact Nat.le_refl _) C6)
    have e29' : ix (hp_u (hp_u σ2 257 C (nI s0)) 244 17 (nI (C + 1)) 244 29) = ix (σ 244 29) := by rw [hu_idx (by omega), hu_cell (by omega), e29]
    have ok : okT (hp_u (hp_u σ2 257 C (nI s0)) 244 17 (nI (C + 1))) 2 (nI C) := Or.inr (Or.inr (Or.inl ⟨rfl, C, rfl, by rw [hu_same, ix_nI (by omega)]; omega⟩))
    have fin := nc.regw (f := f) (r := a) (by rw [e29']; exact hf) ha ok
    have th : thK (hp_u (hp_u σ2 257 C (nI s0)) 244 17 (nI (C + 1))) 2 (nI C) = 1 + nI s0 := by
      unfold thK
      rw [ix_nI (by omega), hu_cell (by omega), hu_same]
      rfl
    rw [th, ix_nI (by omega)] at fin
    simp only [show ¬ (2 : Int32) = 1 by decide, show ¬ (2 : Int32) = 3 by decide, if_false, if_true] at fin
    have kn := nc.rk f12 ha
    have X1 := p4.fx
    have hn := X1.n
    have nz : ¬ hp_n h1 = 0 := by omega
    have nz1 : ¬ hp_n h1 + 1 = 0 := by omega
    have so : SO σ (hp_u (hp_u σ2 257 C (nI s0)) 244 17 (nI (C + 1))) := by
      refine ⟨fun b j hb => ?_, ?_, ?_, ?_⟩
      · rw [hu_at, if_neg (by unfold hard at hb; omega), hu_cell (by unfold hard at hb; omega)]
        exact p5.1 b j hb
      · obtain ⟨a1, a2, a3, a4, a5, a6, a7⟩ := p5.2.1
        unfold GB
        simp only [hu_at, Nat.reduceEqDiff, and_false, false_and, if_false, true_and, and_self, if_true]
        refine ⟨a1, a2, a3, ⟨C + 1, rfl, by omega⟩, a5, a6, ?_⟩
        rw [ix_nI (by omega), eR, eT]
        rw [← eC, c1, ix_nI (by omega)] at g07
        omega
      · rw [hu_idx (by omega), hu_cell (by omega)]
        exact p5.2.2.1
      · rw [hu_same, ix_nI (by omega), ← eC, c1, ix_nI (by omega)]
        omega
    refine LKS.done fin (so.reg f12 ha) ?_ (fun k x => ?_)
    · have i0 : pX 0 0 [.ref (hp_n h1), .int (nI s0)] [] (hp_mk h1 1 0 4) = some (none, cellH h1 s0) := by
        unfold cellH
        simp [x0_0, x0_1, x0_4, x0_5, x0_8, x0_9, x0_12, x0_15, x0_16, x0_17, x0_20, x800_0, x800_1, x800_4, x800_5, x800_7, x800_10, hp_n_mk, hp_k_wi, hp_k_wa, hp_k_mk, nz]
      have kc : hp_k (cellH h1 s0) (hp_n h1) = 1 := by
        rw [cellH_k, if_neg (by omega), if_pos rfl]
      have km : hp_k (hp_mk h1 1 0 4) (hp_n h1) = 1 := by rw [hp_k_mk, if_pos rfl]
      have bc := sp_cell kn kc
      have i5 : hp_i (cellH h1 s0) (hp_n h1) 0 = nI s0 := by
        rw [cellH_i, if_pos ⟨rfl, rfl⟩]
      rw [i5] at bc
      simp only [x321_0, x321_1, x321_4, x321_5, x321_8, x321_11, x321_13, x321_14, x321_15, x321_18, x321_19, x321_20, x321_23, x321_26, x321_27, X.k5, X.a5_2, X.k7, p1, i0, km, kn, bc, Option.bind_some, Option.toList_some, Option.toList_none, List.singleton_append, List.nil_append, i32_10, if_false]
    · have s45 : hp_u (hp_u σ2 257 C (nI s0)) 244 17 (nI (C + 1)) 244 45 = nI (8 * f) := by
        rw [hu_idx (by omega), hu_cell (by omega), p3, hu_cell (by omega), p7 _ _ (by omega) (by omega)]; exact m0
      have s46 : hp_u (hp_u σ2 257 C (nI s0)) 244 17 (nI (C + 1)) 244 46 = nI a := by
        rw [hu_idx (by omega), hu_cell (by omega), p3, hu_cell (by omega), p7 _ _ (by omega) (by omega)]; exact m1
      have s47 : σ1 244 47 = nI s0 := by rw [p7 _ _ (by omega) (by omega)]; exact m2
      have s17 : σ1 244 17 = nI C := by rw [← c1, p3, hu_cell (by omega)]
      have d1 : inb (nI C) 6000 = true := inb_nI (by omega) (by omega)
      have d2 : ix (nI C) = C := ix_nI (by omega)
      have d3 : inb 4 9 = true := inb_lit (by decide) (by decide)
      have d4 : ix 4 = 4 := ix_lit (by decide)
      have pe : nI (C + 1) - 1 = nI C := nI_pred C
      have mk := sp_makes (K := 2) (V := nI C) x s45 s46 f12 ha
      rw [p3] at mk ⊢
      simp [x1136_0, x1136_1, x1136_2, x1136_5, x1136_6, x1136_7, x1136_8, x1136_11, x1136_14, x1136_16, x1136_17, x1136_18, x1136_21, x1136_22, x1136_23, x1136_24, x1136_25, x1136_26, x1136_27, x1136_28, x1136_31, x1136_32, x1136_35, x1136_36, x1136_39, x1136_40, x1136_41, x1136_42, x1136_45, x1136_46, x1136_47, x1136_50, x1136_51, x1136_52, x1136_53, x1136_56, x1136_57, x1136_58, x1136_61, x1136_62, hp_k_ms, hp_a_ms, hp_l_ms, hp_i_ms, ms_w, hu_at, x.k244, x.a244_7, x.k251, x.l251, i3, i4, p2 k x, x.a244_39, x.k273, x.l273, d3, d4, x.a244_18, x.k257, x.l257, s17, s47, d1, d2, nI_1, pe, mk]
end
