/-! THE ENGINE, 14: frames behind their acts; handlers -/
section
variable {L : Nat} {h0 h : HP} {σ : SM} {A : Nat}
theorem settle_loop : ∀ (F i : Nat) (h : HP) (σ : SM) (v : Value), IV L h0 h σ A True → σ 244 29 = nI F → i + F ≤ 12 → ∃ h' σ' i' v', pX 310 2 [.ref 5, .int (nI i), v] [] h = pX 310 79 [.ref 5, i', v'] [] h' ∧ (∀ k, FX L k → pX 1151 0 [.ref 244] [] (mset k σ) = some (none, mset k σ')) ∧ IV L h0 h' σ' A False ∧ PH σ' ≤ PH σ ∧ σ' 244 8 = σ 244 8 ∧ (σ' 244 29 = nI 0 → (F = 0 ∧ σ' 244 44 = σ 244 44) ∨ σ' 244 44 = 0) := by
  intro F
  induction F with
  | zero =>
    intro i h σ v w hF hi
    obtain ⟨ca, ra, hs, sp, c⟩ := w.1
    have X := c.fx
    have fF : hp_i h 5 7 = nI 0 := (c.fi _ _ _ _ CMR.frames).trans hF
    refine ⟨h, σ, .int (nI i), v, ?_, fun k x => ?_, ⟨w.1, w.2.1, w.2.2.1, w.2.2.2.1.zero hF, w.2.2.2.2⟩, Nat.le_refl _, rfl, fun _ => Or.inl ⟨rfl, rfl⟩⟩
    · by_cases q : (12 : Int32) ≤ nI i
      · simp only [x310_2, x310_3, x310_5, q, if_true]
      · simp only [x310_2, x310_3, x310_5, x310_8, x310_9, x310_12, q, if_false, X.k5, fF, show nI 0 ≤ 0 from Int32.le_refl 0, if_true]
    · simp only [x1151_0, x1151_1, x1151_4, x1151_46, hp_k_ms, x.k244, ms_r (show 244 ≤ 244 ∧ 244 < 276 by omega), hF, show nI 0 ≤ 0 from Int32.le_refl 0, if_true]
  | succ F ih =>
    intro i h σ v w hF hi
    have hF12 : F < 12 := by omega
    obtain ⟨r, m, a, t1, t2, t3, t4, t5, t6, t7, t8⟩ := w.top hF hF12
    obtain ⟨⟨ca, ra, hs, sp, c⟩, gc, gb, gf, hh, hA⟩ := w
    have X := c.fx
    have fF : hp_i h 5 7 = nI (F + 1) := (c.fi _ _ _ _ CMR.frames).trans hF
    have q : ¬ (12 : Int32) ≤ nI i := nI_nle2 (a := 12) (by omega) (by omega)
    have q2 : ¬ nI (F + 1) ≤ 0 := nI_nle (by omega) (by omega)
    have bh := c.behind (f := F) (r := r) (m := m) (a := a) (by omega) t1 t2 t3 t4 (by omega) (by omega)
    have n8 : nI (F + 1) - 1 = nI F := nI_pred F
    have b3 : inb (nI F) 12 = true := inb_nI (by omega) (by omega)
    have b4 : ix (nI F) = F := ix_nI (by omega)
    have b5 : inb (nI r) 10 = true := inb_nI (by omega) (by omega)
    have b6 : ix (nI r) = r := ix_nI (by omega)
    by_cases hm : m < a
    · rw [if_pos hm] at bh
      refine ⟨h, σ, .int (nI i), v, ?_, fun k x => ?_, ⟨⟨_, _, _, _, c⟩, gc, gb, ?_, hh, hA⟩, Nat.le_refl _, rfl, fun z => ?_⟩
      · simp only [x310_2, x310_3, x310_5, x310_8, x310_9, x310_12, x310_15, x310_16, x310_19, x310_22, q, q2, if_false, X.k5, fF, sp_top X fF hF12, X.fk F hF12, bh, Option.bind_some, Option.toList_some, Option.toList_none, List.singleton_append, List.nil_append, if_true]
      · have q3 : nI m < nI a := nI_lt hm (by omega)
        simp only [x1151_0, x1151_1, x1151_4, x1151_7, x1151_8, x1151_11, x1151_12, x1151_15, x1151_16, x1151_17, x1151_18, x1151_19, x1151_22, x1151_23, x1151_26, x1151_27, x1151_30, x1151_31, x1151_32, x1151_33, x1151_34, x1151_46, hp_k_ms, hp_a_ms, hp_l_ms, x.k244, x.a244_31, x.k267, x.l267, x.a244_2, x.k246, x.l246, x.a244_30, x.k266, x.l266, ms_r (show 244 ≤ 244 ∧ 244 < 276 by omega), ms_r (show 244 ≤ 267 ∧ 267 < 276 by omega), ms_r (show 244 ≤ 266 ∧ 266 < 276 by omega), ms_r (show 244 ≤ 246 ∧ 246 < 276 by omega), hF, q2, if_false, n8, b3, b4, t1, t3, b5, b6, t4, q3, if_true]
      · obtain ⟨g1, g2, g3⟩ := gf
        refine ⟨g1, fun f hf => ?_, g3⟩
        obtain ⟨r', n', h1, h2, h3, h4, h5⟩ := g2 f hf
        refine ⟨r', n', h1, h2, h3, h4, fun _ => ?_⟩
        by_cases z : f + 1 < ix (σ 244 29)
        · exact h5 (Or.inl z)
        · obtain rfl : f = F := by omega
          rw [t1] at h1
          rw [t3] at h3
          have M10 : r' < 10 := by
            obtain ⟨M, m1, m2⟩ := gc.1
            rw [m1, ix_nI (by omega)] at h2
            omega
          have e1 := (nI_eq (by omega) (by omega)).mp h1
          subst e1
          rw [t4, ix_nI (by omega)]
          have e2 := (nI_eq (by omega) (by omega)).mp h3
          omega
      · rw [hF] at z
        have := (nI_eq (by omega) (by omega)).mp z
        omega
    · rw [if_neg hm] at bh
      obtain ⟨z1, z2⟩ := gf.2.2.2.2 F hF12
      obtain ⟨h1, σ1, r1, r2, r3, r4, r5, r6, r7⟩ := give_step (i := i) (v := v) c (σ := σ) (fun _ _ _ _ => rfl) z1 z2 gc gb gf hh hA hF hF12
      obtain ⟨h', σ', i', v', s1, s2, s3, s4, s5, s6⟩ := ih (i + 1) h1 σ1 (.ref (108 + 11 * F)) r3 r4 (by omega)
      refine ⟨h', σ', i', v', ?_, fun k x => ?_, s3, by omega, s5.trans r7, fun z => Or.inr ?_⟩
      · rw [← s1, ← r1]
        simp only [x310_2, x310_3, x310_5, x310_8, x310_9, x310_12, x310_15, x310_16, x310_19, x310_22, q, q2, if_false, X.k5, fF, sp_top X fF hF12, X.fk F hF12, bh, Option.bind_some, Option.toList_some, Option.toList_none, List.singleton_append, List.nil_append, i32_10]
      · rw [← s2 k x]
        have q3 : ¬ nI m < nI a := nI_nlt (by omega) (by omega)
        generalize hR : pX 1151 0 [.ref 244] [] (mset k σ1) = R
        simp only [x1151_0, x1151_1, x1151_4, x1151_7, x1151_8, x1151_11, x1151_12, x1151_15, x1151_16, x1151_17, x1151_18, x1151_19, x1151_22, x1151_23, x1151_26, x1151_27, x1151_30, x1151_31, x1151_32, x1151_33, x1151_34, x1151_37, x1151_38, x1151_39, x1151_40, hp_k_ms, hp_a_ms, hp_l_ms, x.k244, x.a244_31, x.k267, x.l267, x.a244_2, x.k246, x.l246, x.a244_30, x.k266, x.l266, ms_r (show 244 ≤ 244 ∧ 244 < 276 by omega), ms_r (show 244 ≤ 267 ∧ 267 < 276 by omega), ms_r (show 244 ≤ 266 ∧ 266 < 276 by omega), ms_r (show 244 ≤ 246 ∧ 246 < 276 by omega), hF, q2, if_false, n8, b3, b4, t1, t3, b5, b6, t4, q3, r2 k x, Option.bind_some, Option.toList_some, Option.toList_none, List.singleton_append, List.nil_append]
        rw [x1151_43]
        exact hR
      · rcases s6 z with ⟨e1, e2⟩ | e
        · rw [e2]; exact r5 e1
        · exact e
theorem op_settle {F : Nat} (w : IV L h0 h σ A True) (hF : σ 244 29 = nI F) (h1 : 0 < F) (h2 : F ≤ 12) : ∃ v h' σ', pX 310 0 [.ref 5, .retAddr 0, .retAddr 0] [] h = some (some (.int v), h') ∧ (∀ k, FX L k → pX 1151 0 [.ref 244] [] (mset k σ) = some (none, mset k σ')) ∧ IV L h0 h' σ' A False ∧ PH σ' ≤ PH σ ∧ σ' 244 8 = σ 244 8 ∧ ((v = 1 ∧ ¬ σ' 244 29 = nI 0) ∨ (v = 0 ∧ σ' 244 29 = nI 0 ∧ σ' 244 44 = 0)) := by
  obtain ⟨h', σ', i', v', r1, r2, r3, r4, r5, r6⟩ := settle_loop F 0 h σ (.retAddr 0) w hF (by omega)
  obtain ⟨ca, ra, hs, sp, c⟩ := r3.1
  have X := c.fx
  obtain ⟨G, g1, g2, g3⟩ := r3.2.2.2.1.fr
  have fF : hp_i h' 5 7 = nI G := (c.fi _ _ _ _ CMR.frames).trans g1
  have st : pX 310 0 [.ref 5, .retAddr 0, .retAddr 0] [] h = pX 310 79 [.ref 5, i', v'] [] h' := by
    rw [← r1, x310_0, x310_1]
    rfl
  rcases Nat.eq_zero_or_pos G with z | z
  · subst z
    refine ⟨0, h', σ', ?_, r2, r3, r4, r5, Or.inr ⟨rfl, g1, ?_⟩⟩
    · rw [st]
      simp only [x310_79, x310_80, x310_83, x310_90, x310_91, X.k5, fF, show nI 0 ≤ 0 from Int32.le_refl 0, if_true]
    · rcases r6 g1 with ⟨e, _⟩ | e
      · omega
      · exact e
  · refine ⟨1, h', σ', ?_, r2, r3, r4, r5, Or.inl ⟨rfl, fun e => ?_⟩⟩
    · rw [st]
      simp only [x310_79, x310_80, x310_83, x310_86, x310_87, x310_91, X.k5, fF, nI_nle z (by omega), if_false]
    · rw [g1] at e
      have := (nI_eq (by omega) (by omega)).mp e
      omega
/-! handlers -/
theorem sp_has {r n q : Nat} {ca ra : Nat → Nat} {hs : Nat → List Nat} {sp : List Nat} (c : CR L h0 h σ ca ra hs sp) (hr : r < 10) (hq : q < 6) : pX 403 0 [.ref (16 + 9 * r), .int (nI q), .int (nI n)] [] h = some (some (.int (if nI n < σ 249 (24 * r + 4 * q) ∨ σ 249 (24 * r + 4 * q + 1) ≤ nI n then 0 else 1)), h) := by
  have X := c.fx
  have e1 : inb (nI q) 6 = true := inb_nI hq (by omega)
  have e2 : ix (nI q) = q := ix_nI (by omega)
  have f0 : hp_i h (16 + 9 * r + 5) q = σ 249 (24 * r + 4 * q) := by
    have := c.fi _ _ _ _ (CMR.catching (i := r) (r := 0) (q := q) hr (by omega) hq)
    rw [show 21 + 9 * r + 0 = 16 + 9 * r + 5 by omega] at this
    exact this
  have f1 : hp_i h (16 + 9 * r + 6) q = σ 249 (24 * r + 4 * q + 1) := by
    have := c.fi _ _ _ _ (CMR.catching (i := r) (r := 1) (q := q) hr (by omega) hq)
    rw [show 21 + 9 * r + 1 = 16 + 9 * r + 6 by omega] at this
    exact this
  simp only [x403_0, x403_1, x403_4, x403_5, x403_6, x403_7, x403_10, x403_11, x403_12, x403_15, x403_16, x403_17, x403_20, x403_21, x403_24, X.mk r hr, X.mpb r 5 hr (by omega) (by omega), X.mpb r 6 hr (by omega) (by omega), X.mka r 5 hr (by omega) (by omega), X.mka r 6 hr (by omega) (by omega), X.mlb r 5 hr (by omega) (by omega), X.mlb r 6 hr (by omega) (by omega), e1, e2, f0, f1]
  by_cases h1 : nI n < σ 249 (24 * r + 4 * q) <;> by_cases h2 : σ 249 (24 * r + 4 * q + 1) ≤ nI n <;> simp [x403_25, h1, h2]
def FND (L : Nat) (h : HP) (σ : SM) (kd : Int32) (r n f H q : Nat) : Prop :=
    (∃ q', q' < H ∧ pX 404 2 [.ref (16 + 9 * r), .int (nI n), .int kd, .int (nI q)] [] h = some (some (.int (nI q')), h) ∧ ∀ k, FX L k → pX 1128 27 [.ref 244, .int kd, .int (nI f), .int (nI r), .int (nI (24 * r + 4 * q))] [] (mset k σ) = pX 1128 104 [.ref 244, .int kd, .int (nI f), .int (nI r), .int (nI (24 * r + 4 * q'))] [] (mset k σ)) ∨
    (pX 404 2 [.ref (16 + 9 * r), .int (nI n), .int kd, .int (nI q)] [] h = some (some (.int (-5)), h) ∧ ∀ k, FX L k → pX 1128 27 [.ref 244, .int kd, .int (nI f), .int (nI r), .int (nI (24 * r + 4 * q))] [] (mset k σ) = pX 1128 199 [.ref 244, .int kd, .int (nI f), .int (nI r), .int (nI (24 * r + 4 * H))] [] (mset k σ))
theorem find_loop {r n f H : Nat} {kd : Int32} {ca ra : Nat → Nat} {hs : Nat → List Nat} {sp : List Nat} (c : CR L h0 h σ ca ra hs sp) (hr : r < 10) (hf : f < 12) (hH : σ 248 r = nI H) (hH6 : H ≤ 6) (hn : σ 267 f = nI n) : ∀ m q, q + m = H → FND L h σ kd r n f H q := by
  have X := c.fx
  have f7 : hp_i h (16 + 9 * r) 7 = nI H := (c.fi _ _ _ _ (CMR.handlers hr)).trans hH
  have b3 : inb (nI f) 12 = true := inb_nI (by omega) (by omega)
  have b4 : ix (nI f) = f := ix_nI (by omega)
  have b5 : inb (nI r) 10 = true := inb_nI (by omega) (by omega)
  have b6 : ix (nI r) = r := ix_nI (by omega)
  have e24 : (24 : Int32) * nI r + 4 * nI H = nI (24 * r + 4 * H) := by rw [show (24 : Int32) = nI 24 from rfl, show (4 : Int32) = nI 4 from rfl, nI_mul, nI_mul, nI_add]
  intro m
  induction m with
  | zero =>
    intro q hq
    obtain rfl : q = H := by omega
    refine Or.inr ⟨?_, fun k x => ?_⟩
    · simp only [x404_2, x404_3, x404_4, x404_7, x404_46, x404_48, X.mk r hr, f7, Int32.le_refl, if_true]
    · simp only [x1128_27, x1128_29, x1128_31, x1128_32, x1128_33, x1128_34, x1128_35, x1128_38, x1128_39, x1128_40, x1128_41, x1128_42, hp_k_ms, hp_a_ms, hp_l_ms, x.k244, x.a244_4, x.k248, x.l248, ms_r (show 244 ≤ 248 ∧ 248 < 276 by omega), b5, b6, hH, e24, Int32.le_refl, if_true]
  | succ m ih =>
    intro q hq
    have q1 : ¬ nI H ≤ nI q := nI_nle2 (by omega) (by omega)
    have q2 : ¬ nI (24 * r + 4 * H) ≤ nI (24 * r + 4 * q) := nI_nle2 (by omega) (by omega)
    have e1 : inb (nI q) 6 = true := inb_nI (by omega) (by omega)
    have e2 : ix (nI q) = q := ix_nI (by omega)
    have hs := sp_has (n := n) c hr (show q < 6 by omega)
    have f2 : hp_i h (16 + 9 * r + 7) q = σ 249 (24 * r + 4 * q + 2) := by
      have := c.fi _ _ _ _ (CMR.catching (i := r) (r := 2) (q := q) hr (by omega) (by omega))
      rw [show 21 + 9 * r + 2 = 16 + 9 * r + 7 by omega] at this
      exact this
    have i0 : inb (nI (24 * r + 4 * q)) 240 = true := inb_nI (by omega) (by omega)
    have j0 : ix (nI (24 * r + 4 * q)) = 24 * r + 4 * q := ix_nI (by omega)
    have a1 : nI (24 * r + 4 * q) + 1 = nI (24 * r + 4 * q + 1) := nI_1 _
    have a2 : nI (24 * r + 4 * q) + 2 = nI (24 * r + 4 * q + 2) := nI_add _ 2
    have a4 : nI (24 * r + 4 * q) + 4 = nI (24 * r + 4 * (q + 1)) := by rw [show 24 * r + 4 * (q + 1) = 24 * r + 4 * q + 4 by omega]; exact nI_add _ 4
    have i1 : inb (nI (24 * r + 4 * q + 1)) 240 = true := inb_nI (by omega) (by omega)
    have j1 : ix (nI (24 * r + 4 * q + 1)) = 24 * r + 4 * q + 1 := ix_nI (by omega)
    have i2 : inb (nI (24 * r + 4 * q + 2)) 240 = true := inb_nI (by omega) (by omega)
    have j2 : ix (nI (24 * r + 4 * q + 2)) = 24 * r + 4 * q + 2 := ix_nI (by omega)
    -- not this one
    have no : (pX 404 2 [.ref (16 + 9 * r), .int (nI n), .int kd, .int (nI q)] [] h = pX 404 40 [.ref (16 + 9 * r), .int (nI n), .int kd, .int (nI q)] [] h) → (∀ k, FX L k → pX 1128 27 [.ref 244, .int kd, .int (nI f), .int (nI r), .int (nI (24 * r + 4 * q))] [] (mset k σ) = pX 1128 193 [.ref 244, .int kd, .int (nI f), .int (nI r), .int (nI (24 * r + 4 * q))] [] (mset k σ)) → FND L h σ kd r n f H q := by
      intro c1 c2
      have c1' : pX 404 2 [.ref (16 + 9 * r), .int (nI n), .int kd, .int (nI q)] [] h = pX 404 2 [.ref (16 + 9 * r), .int (nI n), .int kd, .int (nI (q + 1))] [] h := by
        rw [c1, x404_40, x404_43, nI_1]
      have c2' : ∀ k, FX L k → pX 1128 27 [.ref 244, .int kd, .int (nI f), .int (nI r), .int (nI (24 * r + 4 * q))] [] (mset k σ) = pX 1128 27 [.ref 244, .int kd, .int (nI f), .int (nI r), .int (nI (24 * r + 4 * (q + 1)))] [] (mset k σ) := by
        intro k x
        rw [c2 k x, x1128_193, x1128_196, a4]
      rcases ih (q + 1) (by omega) with ⟨q', y1, y2, y3⟩ | ⟨y1, y2⟩
      · exact Or.inl ⟨q', y1, c1'.trans y2, fun k x => (c2' k x).trans (y3 k x)⟩
      · exact Or.inr ⟨c1'.trans y1, fun k x => (c2' k x).trans (y2 k x)⟩
    by_cases h1 : nI n < σ 249 (24 * r + 4 * q)
    · refine no ?_ (fun k x => ?_)
      · simp only [x404_2, x404_3, x404_4, x404_7, x404_10, x404_11, x404_12, x404_13, x404_16, X.mk r hr, f7, q1, if_false, hs, h1, true_or, if_true, Option.bind_some, Option.toList_some, Option.toList_none, List.singleton_append, List.nil_append]
      · simp only [x1128_27, x1128_29, x1128_31, x1128_32, x1128_33, x1128_34, x1128_35, x1128_38, x1128_39, x1128_40, x1128_41, x1128_42, x1128_45, x1128_46, x1128_49, x1128_51, x1128_52, x1128_53, x1128_56, x1128_57, x1128_58, hp_k_ms, hp_a_ms, hp_l_ms, x.k244, x.a244_4, x.k248, x.l248, x.a244_5, x.k249, x.l249, x.a244_31, x.k267, x.l267, ms_r (show 244 ≤ 248 ∧ 248 < 276 by omega), ms_r (show 244 ≤ 249 ∧ 249 < 276 by omega), ms_r (show 244 ≤ 267 ∧ 267 < 276 by omega), b3, b4, b5, b6, hH, hn, e24, q2, if_false, i0, j0, h1, if_true]
    · by_cases h2 : σ 249 (24 * r + 4 * q + 1) ≤ nI n
      · refine no ?_ (fun k x => ?_)
        · simp only [x404_2, x404_3, x404_4, x404_7, x404_10, x404_11, x404_12, x404_13, x404_16, X.mk r hr, f7, q1, if_false, hs, h2, or_true, if_true, Option.bind_some, Option.toList_some, Option.toList_none, List.singleton_append, List.nil_append]
        · simp only [x1128_27, x1128_29, x1128_31, x1128_32, x1128_33, x1128_34, x1128_35, x1128_38, x1128_39, x1128_40, x1128_41, x1128_42, x1128_45, x1128_46, x1128_49, x1128_51, x1128_52, x1128_53, x1128_56, x1128_57, x1128_58, x1128_61, x1128_62, x1128_65, x1128_66, x1128_67, x1128_68, x1128_71, x1128_73, x1128_74, x1128_75, x1128_76, hp_k_ms, hp_a_ms, hp_l_ms, x.k244, x.a244_4, x.k248, x.l248, x.a244_5, x.k249, x.l249, x.a244_31, x.k267, x.l267, ms_r (show 244 ≤ 248 ∧ 248 < 276 by omega), ms_r (show 244 ≤ 249 ∧ 249 < 276 by omega), ms_r (show 244 ≤ 267 ∧ 267 < 276 by omega), b3, b4, b5, b6, hH, hn, e24, q2, if_false, i0, j0, h1, a1, i1, j1, h2, if_true]
      · have hs1 : (if nI n < σ 249 (24 * r + 4 * q) ∨ σ 249 (24 * r + 4 * q + 1) ≤ nI n then (0 : Int32) else 1) = 1 := if_neg (fun z => z.elim h1 h2)
        rw [hs1] at hs
        by_cases h3 : σ 249 (24 * r + 4 * q + 2) = 0
        · refine Or.inl ⟨q, by omega, ?_, fun k x => ?_⟩
          · simp only [x404_2, x404_3, x404_4, x404_7, x404_10, x404_11, x404_12, x404_13, x404_16, x404_19, x404_20, x404_23, x404_24, x404_25, x404_38, x404_39, X.mk r hr, f7, q1, if_false, hs, Option.bind_some, Option.toList_some, Option.toList_none, List.singleton_append, List.nil_append, i32_10, X.mpb r 7 hr (by omega) (by omega), X.mka r 7 hr (by omega) (by omega), X.mlb r 7 hr (by omega) (by omega), e1, e2, f2, h3, if_true]
          · simp only [x1128_27, x1128_29, x1128_31, x1128_32, x1128_33, x1128_34, x1128_35, x1128_38, x1128_39, x1128_40, x1128_41, x1128_42, x1128_45, x1128_46, x1128_49, x1128_51, x1128_52, x1128_53, x1128_56, x1128_57, x1128_58, x1128_61, x1128_62, x1128_65, x1128_66, x1128_67, x1128_68, x1128_71, x1128_73, x1128_74, x1128_75, x1128_76, x1128_79, x1128_80, x1128_83, x1128_85, x1128_86, x1128_87, x1128_88, hp_k_ms, hp_a_ms, hp_l_ms, x.k244, x.a244_4, x.k248, x.l248, x.a244_5, x.k249, x.l249, x.a244_31, x.k267, x.l267, ms_r (show 244 ≤ 248 ∧ 248 < 276 by omega), ms_r (show 244 ≤ 249 ∧ 249 < 276 by omega), ms_r (show 244 ≤ 267 ∧ 267 < 276 by omega), b3, b4, b5, b6, hH, hn, e24, q2, if_false, i0, j0, h1, a1, i1, j1, h2, a2, i2, j2, h3, if_true]
        · by_cases h4 : σ 249 (24 * r + 4 * q + 2) = kd
          · have h5 : ¬ kd = 0 := h4 ▸ h3
            refine Or.inl ⟨q, by omega, ?_, fun k x => ?_⟩
            · simp only [x404_2, x404_3, x404_4, x404_7, x404_10, x404_11, x404_12, x404_13, x404_16, x404_19, x404_20, x404_23, x404_24, x404_25, x404_28, x404_29, x404_32, x404_33, x404_34, x404_35, x404_38, x404_39, X.mk r hr, f7, q1, if_false, hs, Option.bind_some, Option.toList_some, Option.toList_none, List.singleton_append, List.nil_append, i32_10, X.mpb r 7 hr (by omega) (by omega), X.mka r 7 hr (by omega) (by omega), X.mlb r 7 hr (by omega) (by omega), e1, e2, f2, h4, h5, if_false, if_true]
            · simp only [x1128_27, x1128_29, x1128_31, x1128_32, x1128_33, x1128_34, x1128_35, x1128_38, x1128_39, x1128_40, x1128_41, x1128_42, x1128_45, x1128_46, x1128_49, x1128_51, x1128_52, x1128_53, x1128_56, x1128_57, x1128_58, x1128_61, x1128_62, x1128_65, x1128_66, x1128_67, x1128_68, x1128_71, x1128_73, x1128_74, x1128_75, x1128_76, x1128_79, x1128_80, x1128_83, x1128_85, x1128_86, x1128_87, x1128_88, x1128_91, x1128_92, x1128_95, x1128_97, x1128_98, x1128_99, x1128_100, x1128_101, hp_k_ms, hp_a_ms, hp_l_ms, x.k244, x.a244_4, x.k248, x.l248, x.a244_5, x.k249, x.l249, x.a244_31, x.k267, x.l267, ms_r (show 244 ≤ 248 ∧ 248 < 276 by omega), ms_r (show 244 ≤ 249 ∧ 249 < 276 by omega), ms_r (show 244 ≤ 267 ∧ 267 < 276 by omega), b3, b4, b5, b6, hH, hn, e24, q2, if_false, i0, j0, h1, a1, i1, j1, h2, a2, i2, j2, h4, h5, if_false, if_true]
          · refine no ?_ (fun k x => ?_)
            · simp only [x404_2, x404_3, x404_4, x404_7, x404_10, x404_11, x404_12, x404_13, x404_16, x404_19, x404_20, x404_23, x404_24, x404_25, x404_28, x404_29, x404_32, x404_33, x404_34, x404_35, X.mk r hr, f7, q1, if_false, hs, Option.bind_some, Option.toList_some, Option.toList_none, List.singleton_append, List.nil_append, i32_10, X.mpb r 7 hr (by omega) (by omega), X.mka r 7 hr (by omega) (by omega), X.mlb r 7 hr (by omega) (by omega), e1, e2, f2, h3, h4]
            · simp only [x1128_27, x1128_29, x1128_31, x1128_32, x1128_33, x1128_34, x1128_35, x1128_38, x1128_39, x1128_40, x1128_41, x1128_42, x1128_45, x1128_46, x1128_49, x1128_51, x1128_52, x1128_53, x1128_56, x1128_57, x1128_58, x1128_61, x1128_62, x1128_65, x1128_66, x1128_67, x1128_68, x1128_71, x1128_73, x1128_74, x1128_75, x1128_76, x1128_79, x1128_80, x1128_83, x1128_85, x1128_86, x1128_87, x1128_88, x1128_91, x1128_92, x1128_95, x1128_97, x1128_98, x1128_99, x1128_100, x1128_101, hp_k_ms, hp_a_ms, hp_l_ms, x.k244, x.a244_4, x.k248, x.l248, x.a244_5, x.k249, x.l249, x.a244_31, x.k267, x.l267, ms_r (show 244 ≤ 248 ∧ 248 < 276 by omega), ms_r (show 244 ≤ 249 ∧ 249 < 276 by omega), ms_r (show 244 ≤ 267 ∧ 267 < 276 by omega), b3, b4, b5, b6, hH, hn, e24, q2, if_false, i0, j0, h1, a1, i1, j1, h2, a2, i2, j2, h3, h4]
end
