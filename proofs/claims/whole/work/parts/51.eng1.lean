/-! THE ENGINE, 1: paying; what acts leave as it was; the model's registers -/
/-- what most acts leave -/
def hard (b j : Nat) : Prop := (b = 244 ∧ (j = 0 ∨ j = 8 ∨ j = 15 ∨ j = 16 ∨ j = 29)) ∨ (245 ≤ b ∧ b ≤ 249) ∨ b = 251 ∨ b = 261 ∨ (266 ≤ b ∧ b ≤ 268) ∨ ((b = 269 ∨ b = 270) ∧ 96 ≤ j) ∨ b = 271 ∨ b = 272
def GB (σ : SM) : Prop := nb (σ 244 41) 100 ∧ nb (σ 244 37) 1000 ∧ nb (σ 244 38) 6000 ∧ nb (σ 244 17) 6000 ∧ nb (σ 244 23) 6000 ∧ nb (σ 244 28) 6000 ∧ ix (σ 244 17) + ix (σ 244 23) + ix (σ 244 28) + ix (σ 244 38) ≤ 6000
def SO (σ σ' : SM) : Prop := (∀ b j, hard b j → σ' b j = σ b j) ∧ GB σ' ∧ ix (σ' 244 38) ≤ ix (σ 244 38) ∧ ix (σ 244 17) ≤ ix (σ' 244 17)
theorem SO.refl {σ : SM} (g : GB σ) : SO σ σ := ⟨fun _ _ _ => rfl, g, Nat.le_refl _, Nat.le_refl _⟩
theorem SO.trans {σ σ1 σ2 : SM} (s1 : SO σ σ1) (s2 : SO σ1 σ2) : SO σ σ2 := ⟨fun b j h => (s2.1 b j h).trans (s1.1 b j h), s2.2.1, Nat.le_trans s2.2.2.1 s1.2.2.1, Nat.le_trans s1.2.2.2 s2.2.2.2⟩
theorem GB.u {σ : SM} {b j : Nat} {x : Int32} (g : GB σ) (h4 : b = 244 → 42 ≤ j) : GB (hp_u σ b j x) := by
  have e : ∀ q, q < 42 → hp_u σ b j x 244 q = σ 244 q := fun q hq => if_neg (by omega)
  unfold GB
  simp only [e 41 (by omega), e 37 (by omega), e 38 (by omega), e 17 (by omega), e 23 (by omega), e 28 (by omega)]
  exact g
theorem SO.u {σ σ1 : SM} {b j : Nat} {x : Int32} (s : SO σ σ1) (hb : ¬ hard b j) (h4 : b = 244 → 42 ≤ j) : SO σ (hp_u σ1 b j x) := by
  have e : ∀ q, q < 42 → hp_u σ1 b j x 244 q = σ1 244 q := fun q hq => if_neg (by omega)
  refine ⟨fun b' j' h => ?_, s.2.1.u h4, ?_, ?_⟩
  · rw [hu_at, if_neg]
    · exact s.1 b' j' h
    · rintro ⟨rfl, rfl⟩; exact hb h
  · rw [e 38 (by omega)]; exact s.2.2.1
  · rw [e 17 (by omega)]; exact s.2.2.2
def GP (σ : SM) : Prop := ∀ k, k < 5 → ∃ n : Nat, σ 251 k = nI n ∧ 1 ≤ n ∧ n ≤ 9
theorem SO.gp {σ σ1 : SM} (s : SO σ σ1) (g : GP σ) : GP σ1 := by
  intro k hk
  rw [s.1 251 k (by unfold hard; omega)]
  exact g k hk
/-- prices are paid -/
def payS (σ : SM) (n : Int32) : SM := hp_u (hp_u (hp_u σ 244 37 (σ 244 37 - n)) 244 38 (σ 244 38 - n)) 273 0 (σ 273 0 + n)
def canPayS (σ : SM) (z : Int64) : Prop := ¬ (σ 244 37).toInt64 < z ∧ z ≤ (σ 244 38).toInt64
theorem sp_pays {L : Nat} {k : HP} {σ : SM} {z : Int64} (x : FX L k) : pX 1122 0 [.ref 244, .long z, .retAddr 0] [] (mset k σ) = some (@ite _ (canPayS σ z) (Classical.propDecidable _) (some (.int 1), mset k (payS σ z.toInt32)) (some (.int 0), mset k σ)) := by
  simp only [x1122_0, x1122_1, x1122_2, x1122_5, x1122_6, x1122_7, x1122_10, x1122_11, x1122_12, x1122_15, x1122_16, x1122_17, x1122_20, x1122_21, x1122_22, x1122_23, x1122_24, x1122_27, x1122_28, x1122_29, x1122_30, x1122_33, x1122_34, x1122_35, x1122_38, x1122_39, x1122_40, x1122_41, x1122_44, x1122_45, x1122_48, x1122_49, x1122_50, x1122_51, x1122_52, x1122_53, x1122_54, x1122_55, x1122_56, hp_k_ms, hp_l_ms, hp_a_ms, ms_r (show 244 ≤ 244 ∧ 244 < 276 by omega), ms_r (show 244 ≤ 273 ∧ 273 < 276 by omega), ms_w (show 244 ≤ 244 ∧ 244 < 276 by omega), ms_w (show 244 ≤ 273 ∧ 273 < 276 by omega), x.k244, x.a244_39, x.k273, x.l273, true_or, or_true, lg_cmp_le, lg_cmp_gt, inb_lit (show 0 < 9 by decide) (by decide), ix_lit (show 0 < 2147483648 by decide), hu_at, Nat.reduceEqDiff, and_false, false_and, if_false]
  unfold canPayS
  by_cases h1 : (σ 244 37).toInt64 < z <;> by_cases h2 : z ≤ (σ 244 38).toInt64 <;> simp [h1, h2, payS]
theorem nI_toInt64 {n : Nat} (h : n < 2147483648) : (nI n).toInt64.toInt = n := by
  rw [Int32.toInt_toInt64]
  exact nI_toInt h
theorem i64_nI {z : Int64} {N : Nat} (hz : z.toInt = N) (h : N < 2147483648) : z.toInt32 = nI N := by
  apply Int32.toInt_inj.mp
  rw [nI_toInt h, Int64.toInt_toInt32, hz]
  rw [Int.bmod_def]
  omega
theorem can_iff {σ : SM} {z : Int64} {N B H : Nat} (hz : z.toInt = N) (hb : σ 244 37 = nI B) (hB : B < 2147483648) (hl : σ 244 38 = nI H) (hH : H < 2147483648) : canPayS σ z ↔ N ≤ B ∧ N ≤ H := by
  unfold canPayS
  rw [Int64.lt_iff_toInt_lt, Int64.le_iff_toInt_le, hz, hb, hl, nI_toInt64 hB, nI_toInt64 hH]
  omega
section
variable {L : Nat} {h0 h : HP} {σ : SM} {ca ra : Nat → Nat} {hs : Nat → List Nat} {sp : List Nat}
/-- prices are paid on both sides, or on none -/
theorem CR.pay (w : CR L h0 h σ ca ra hs sp) (g : GB σ) {z : Int64} {N : Nat} (hz : z.toInt = N) :
    (pX 602 0 [.ref 7, .long z, .retAddr 0] [] h = some (some (.int 0), h) ∧ ¬ canPay h z ∧ ∀ k, FX L k → pX 1122 0 [.ref 244, .long z, .retAddr 0] [] (mset k σ) = some (some (.int 0), mset k σ)) ∨
    ∃ σ1, pX 602 0 [.ref 7, .long z, .retAddr 0] [] h = some (some (.int 1), payH h (nI N)) ∧ canPay h z ∧ (∀ k, FX L k → pX 1122 0 [.ref 244, .long z, .retAddr 0] [] (mset k σ) = some (some (.int 1), mset k σ1)) ∧ CR L h0 (payH h (nI N)) σ1 ca ra hs sp ∧ SO σ σ1 ∧ ix (σ1 244 38) + N = ix (σ 244 38) ∧ N ≤ 1000 ∧ (∀ b j, ¬ (b = 244 ∧ (j = 37 ∨ j = 38)) → ¬ b = 273 → σ1 b j = σ b j) := by
  obtain ⟨g1, ⟨B, b1, b2⟩, ⟨H, l1, l2⟩, ⟨C, c1, c2⟩, ⟨R, r1, r2⟩, ⟨T, t1, t2⟩, g7⟩ := g
  have f1 : hp_i h 7 2 = σ 244 37 := w.fi _ _ _ _ CMR.budget
  have f2 : hp_i h 7 3 = σ 244 38 := w.fi _ _ _ _ CMR.left
  have f3 : hp_i h 9 0 = σ 273 0 := w.fi _ _ _ _ (CMR.counted (by omega))
  have e := can_iff hz b1 (by omega) l1 (by omega)
  have e2 : canPay h z ↔ canPayS σ z := by unfold canPay canPayS; rw [f1, f2]
  by_cases q : canPayS σ z
  · have q2 := e.mp q
    have n1 : z.toInt32 = nI N := i64_nI hz (by omega)
    refine Or.inr ⟨payS σ (nI N), ?_, e2.mpr q, fun k x => ?_, ?_, ⟨fun b j hb => ?_, ?_, ?_, ?_⟩, ?_, by omega, fun b j h1 h2 => ?_⟩
    · have := e2.mpr q
      unfold canPay at this
      rw [sp_takes w.fx, if_pos this, n1]
    · rw [sp_pays x, if_pos q, n1]
    · unfold payH payS
      rw [f1, f2, f3]
      exact ((w.w CMR.budget (by unfold depS; omega)).w CMR.left (by unfold depS; omega)).w (CMR.counted (by omega)) (by unfold depS; omega)
    · unfold payS
      unfold hard at hb
      rw [hu_at, if_neg (by omega), hu_at, if_neg (by omega), hu_at, if_neg (by omega)]
    · unfold GB payS
      simp only [hu_at, Nat.reduceEqDiff, false_and, and_false, if_false, true_and, and_self, if_true]
      rw [l1, b1, nI_sub q2.1, nI_sub q2.2]
      rw [l1, c1, r1, t1, ix_nI (by omega), ix_nI (by omega), ix_nI (by omega), ix_nI (by omega)] at g7
      refine ⟨g1, ⟨_, rfl, by omega⟩, ⟨_, rfl, by omega⟩, ⟨C, c1, c2⟩, ⟨R, r1, r2⟩, ⟨T, t1, t2⟩, ?_⟩
      rw [c1, r1, t1, ix_nI (by omega), ix_nI (by omega), ix_nI (by omega), ix_nI (by omega)]
      omega
    · unfold payS
      simp only [hu_at, Nat.reduceEqDiff, false_and, and_false, if_false, true_and, and_self, if_true]
      rw [l1, nI_sub q2.2, ix_nI (by omega), ix_nI (by omega)]
      omega
    · unfold payS
      simp only [hu_at, Nat.reduceEqDiff, false_and, and_false, if_false]
      exact Nat.le_refl _
    · unfold payS
      simp only [hu_at, Nat.reduceEqDiff, false_and, and_false, if_false, true_and, and_self, if_true]
      rw [l1, nI_sub q2.2, ix_nI (by omega), ix_nI (by omega)]
      omega
    · unfold payS
      rw [hu_at, if_neg (by omega), hu_at, if_neg (by omega), hu_at, if_neg (by omega)]
  · have q1 : ¬ canPay h z := fun z => q (e2.mp z)
    refine Or.inl ⟨?_, q1, fun k x => ?_⟩
    · unfold canPay at q1
      rw [sp_takes w.fx, if_neg q1]
    · rw [sp_pays x, if_neg q]
/-- a price is paid and counted on both sides, or on none -/
theorem CR.pays (w : CR L h0 h σ ca ra hs sp) (g : GB σ) (gp : GP σ) {q : Nat} (hq : q < 5) :
    (pX 603 0 [.ref 7, .int (nI q)] [] h = some (some (.int 0), h) ∧ ∀ k, FX L k → pX 1122 0 [.ref 244, .long (σ 251 q).toInt64, .retAddr 0] [] (mset k σ) = some (some (.int 0), mset k σ)) ∨
    ∃ h' σ1 σ2, pX 603 0 [.ref 7, .int (nI q)] [] h = some (some (.int 1), h') ∧ (∀ k, FX L k → pX 1122 0 [.ref 244, .long (σ 251 q).toInt64, .retAddr 0] [] (mset k σ) = some (some (.int 1), mset k σ1)) ∧ σ2 = hp_u σ1 273 (q + 1) (σ1 273 (q + 1) + 1) ∧ CR L h0 h' σ2 ca ra hs sp ∧ SO σ σ2 ∧ ix (σ2 244 38) + 1 ≤ ix (σ 244 38) ∧ (∀ b j, ¬ (b = 244 ∧ (j = 37 ∨ j = 38)) → ¬ b = 273 → σ1 b j = σ b j) := by
  obtain ⟨N, n1, n2, n3⟩ := gp q hq
  have f1 : hp_i h 8 q = σ 251 q := w.fi _ _ _ _ (CMR.price hq)
  have hz : (σ 251 q).toInt64.toInt = N := by rw [n1]; exact nI_toInt64 (by omega)
  rcases w.pay g hz with ⟨p1, p2, p3⟩ | ⟨σ1, p1, p2, p3, p4, p5, p6, p7, p8⟩
  · refine Or.inl ⟨?_, p3⟩
    rw [sp_paysFor w.fx hq, f1, if_neg p2]
  · refine Or.inr ⟨paysH h q, σ1, _, ?_, p3, rfl, ?_, ?_, ?_, p8⟩
    · rw [sp_paysFor w.fx hq, f1, if_pos p2]
    · unfold paysH
      rw [f1, n1]
      have f2 : hp_i h 9 (q + 1) = σ1 273 (q + 1) := by
        have := p4.fi _ _ _ _ (CMR.counted (show q + 1 < 9 by omega))
        rw [← this]
        unfold payH
        rw [hp_i_wi, if_neg (by omega), hp_i_wi, if_neg (by omega), hp_i_wi, if_neg (by omega)]
      rw [f2]
      exact p4.w (CMR.counted (by omega)) (by unfold depS; omega)
    · exact p5.u (by unfold hard; omega) (by omega)
    · rw [hu_at, if_neg (by omega)]; omega
end
/-! the model's registers -/
def agV (K kd : Int32) : Int32 := if K = 0 then 1 else if K = kd then 0 else 3
section
variable {L : Nat} {k : HP} {σ : SM}
theorem sp_against {f r : Nat} {kd : Int32} (x : FX L k) (m0 : σ 244 45 = nI (8 * f)) (hf : f < 12) (hr : r < 8) : pX 1130 0 [.ref 244, .int (nI r), .int kd] [] (mset k σ) = some (some (.int (agV (σ 269 (8 * f + r)) kd)), mset k σ) := by
  have e1 : inb (nI (8 * f + r)) 96 = true := inb_nI (by omega) (by omega)
  have e2 : ix (nI (8 * f + r)) = 8 * f + r := ix_nI (by omega)
  simp only [x1130_0, x1130_1, x1130_4, x1130_5, x1130_8, x1130_9, x1130_10, x1130_11, x1130_14, x1130_15, x1130_18, x1130_19, x1130_22, x1130_23, x1130_26, x1130_27, x1130_28, x1130_29, x1130_30, x1130_33, x1130_34, x1130_37, x1130_38, hp_k_ms, hp_l_ms, hp_a_ms, ms_r (show 244 ≤ 244 ∧ 244 < 276 by omega), ms_r (show 244 ≤ 269 ∧ 269 < 276 by omega), x.k244, x.a244_33, x.k269, x.l269, m0, nI_add, e1, e2]
  unfold agV
  by_cases q1 : σ 269 (8 * f + r) = 0
  · simp [q1]
  · by_cases q2 : σ 269 (8 * f + r) = kd
    · have q3 : ¬ kd = 0 := q2 ▸ q1
      simp [q2, q3]
    · simp [q1, q2]
theorem sp_value {f r : Nat} (x : FX L k) (m0 : σ 244 45 = nI (8 * f)) (hf : f < 12) (hr : r < 8) : pX 1131 0 [.ref 244, .int (nI r)] [] (mset k σ) = some (some (.int (σ 270 (8 * f + r))), mset k σ) := by
  have e1 : inb (nI (8 * f + r)) 96 = true := inb_nI (by omega) (by omega)
  have e2 : ix (nI (8 * f + r)) = 8 * f + r := ix_nI (by omega)
  simp only [x1131_0, x1131_1, x1131_4, x1131_5, x1131_8, x1131_9, x1131_10, x1131_11, hp_k_ms, hp_l_ms, hp_a_ms, ms_r (show 244 ≤ 244 ∧ 244 < 276 by omega), ms_r (show 244 ≤ 270 ∧ 270 < 276 by omega), x.k244, x.a244_34, x.k270, x.l270, m0, nI_add, e1, e2]
/-- register r becomes a THING -/
def rgS (σ : SM) (r : Nat) (K V : Int32) : SM := hp_u (hp_u σ 269 r K) 270 r V
theorem sp_makes {f a : Nat} {K V : Int32} (x : FX L k) (m0 : σ 244 45 = nI (8 * f)) (m1 : σ 244 46 = nI a) (hf : f < 12) (ha : a < 8) : pX 1129 0 [.ref 244, .int K, .int V] [] (mset k σ) = some (none, mset k (rgS σ (8 * f + a) K V)) := by
  have e1 : inb (nI (8 * f + a)) 96 = true := inb_nI (by omega) (by omega)
  have e2 : ix (nI (8 * f + a)) = 8 * f + a := ix_nI (by omega)
  simp only [x1129_0, x1129_1, x1129_4, x1129_5, x1129_8, x1129_9, x1129_12, x1129_13, x1129_14, x1129_15, x1129_16, x1129_19, x1129_20, x1129_23, x1129_24, x1129_27, x1129_28, x1129_29, x1129_30, hp_k_ms, hp_l_ms, hp_a_ms, ms_r (show 244 ≤ 244 ∧ 244 < 276 by omega), ms_w (show 244 ≤ 269 ∧ 269 < 276 by omega), ms_w (show 244 ≤ 270 ∧ 270 < 276 by omega), x.k244, x.a244_33, x.k269, x.l269, x.a244_34, x.k270, x.l270, hu_at, Nat.reduceEqDiff, false_and, if_false, m0, m1, nI_add, e1, e2]
  rfl
end
