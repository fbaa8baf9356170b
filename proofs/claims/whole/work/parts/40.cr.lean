/-! THE CLASS'S HEAP AND THE MODEL'S MEMORY, apart -/
/-- the heap h, with the model's memory σ in it -/
def mset (h : HP) (σ : SM) : HP := (hp_n h, hp_s h, hp_k h, hp_l h, fun b j => if 244 ≤ b ∧ b < 276 then σ b j else hp_i h b j, hp_a h)
theorem hp_n_ms (h : HP) (σ : SM) : hp_n (mset h σ) = hp_n h := rfl
theorem hp_s_ms (h : HP) (σ : SM) : hp_s (mset h σ) = hp_s h := rfl
theorem hp_k_ms (h : HP) (σ : SM) : hp_k (mset h σ) = hp_k h := rfl
theorem hp_l_ms (h : HP) (σ : SM) : hp_l (mset h σ) = hp_l h := rfl
theorem hp_a_ms (h : HP) (σ : SM) : hp_a (mset h σ) = hp_a h := rfl
theorem hp_i_ms (h : HP) (σ : SM) (b j : Nat) : hp_i (mset h σ) b j = if 244 ≤ b ∧ b < 276 then σ b j else hp_i h b j := rfl
theorem ms_r {h : HP} {σ : SM} {b j : Nat} (hb : 244 ≤ b ∧ b < 276) : hp_i (mset h σ) b j = σ b j := if_pos hb
theorem ms_w {h : HP} {σ : SM} {b j : Nat} {x : Int32} (hb : 244 ≤ b ∧ b < 276) : hp_wi (mset h σ) b j x = mset h (hp_u σ b j x) := by
  refine hp_ext rfl rfl (fun _ => rfl) (fun _ => rfl) (fun c k => ?_) (fun _ _ => rfl)
  rw [hp_i_wi, hp_i_ms, hp_i_ms]
  unfold hp_u
  by_cases q : c = b ∧ k = j
  · rw [if_pos q, if_pos (by omega), if_pos q]
  · rw [if_neg q, if_neg q]
theorem ms_self {h h0 : HP} (e : ∀ a j, a < 4 ∨ (244 ≤ a ∧ a < 276) → hp_i h a j = hp_i h0 a j) : mset h (hp_i h0) = h := by
  refine hp_ext rfl rfl (fun _ => rfl) (fun _ => rfl) (fun c k => ?_) (fun _ _ => rfl)
  rw [hp_i_ms]
  by_cases q : 244 ≤ c ∧ c < 276
  · rw [if_pos q, e c k (Or.inr q)]
  · rw [if_neg q]
theorem FX.ms {L : Nat} {h : HP} {σ : SM} (w : FX L h) : FX L (mset h σ) := w
theorem hu_same {f : SM} {a k : Nat} {x : Int32} : hp_u f a k x a k = x := if_pos ⟨rfl, rfl⟩
theorem hu_cell {f : SM} {a k b j : Nat} {x : Int32} (h : ¬ b = a) : hp_u f a k x b j = f b j := if_neg (fun q => h q.1)
theorem hu_idx {f : SM} {a k b j : Nat} {x : Int32} (h : ¬ j = k) : hp_u f a k x b j = f b j := if_neg (fun q => h q.2)
theorem hu_at {f : SM} {a k b j : Nat} {x : Int32} : hp_u f a k x b j = if b = a ∧ j = k then x else f b j := rfl
/-- the moving part, opened -/
def RXo (n s : Nat) (K Ln : Nat → Nat) (P : Nat → Nat → Nat) (I S : SM) (ca ra : Nat → Nat) (hs : Nat → List Nat) (sp : List Nat) : Prop :=
  RXs P I S ca ra ∧ RXf P I S ca ra ∧ RXc n K P I S ca ra ∧ RXr n K Ln P I S ra ∧ RXh n K P I S ca hs sp ∧ RXn n s S hs sp
/-- the class's heap h, begun from h0, stands for the model's memory σ -/
def CR (L : Nat) (h0 h : HP) (σ : SM) (ca ra : Nat → Nat) (hs : Nat → List Nat) (sp : List Nat) : Prop :=
  FX L h ∧ (∀ a j, a < 4 ∨ (244 ≤ a ∧ a < 276) → hp_i h a j = hp_i h0 a j) ∧ (∀ j, hp_i h0 2 j = lookT j ∧ hp_i h0 3 j = makeT j) ∧ FI h σ ∧
  ix (σ 244 29) ≤ 12 ∧ RXo (hp_n h) (hp_s h) (hp_k h) (hp_l h) (hp_a h) (mI (hp_i h)) (mS σ) ca ra hs sp
section
variable {L : Nat} {h0 h : HP} {σ : SM} {ca ra : Nat → Nat} {hs : Nat → List Nat} {sp : List Nat}
theorem CR.fx (w : CR L h0 h σ ca ra hs sp) : FX L h := w.1
theorem CR.kp (w : CR L h0 h σ ca ra hs sp) : ∀ a j, a < 4 ∨ (244 ≤ a ∧ a < 276) → hp_i h a j = hp_i h0 a j := w.2.1
theorem CR.fi (w : CR L h0 h σ ca ra hs sp) : FI h σ := w.2.2.2.1
theorem CR.hF (w : CR L h0 h σ ca ra hs sp) : ix (σ 244 29) ≤ 12 := w.2.2.2.2.1
theorem CR.rx (w : CR L h0 h σ ca ra hs sp) : RXo (hp_n h) (hp_s h) (hp_k h) (hp_l h) (hp_a h) (mI (hp_i h)) (mS σ) ca ra hs sp := w.2.2.2.2.2
theorem CR.lk (w : CR L h0 h σ ca ra hs sp) (j : Nat) : hp_i h 2 j = lookT j := (w.2.1 2 j (by omega)).trans (w.2.2.1 j).1
theorem CR.mk (w : CR L h0 h σ ca ra hs sp) (j : Nat) : hp_i h 3 j = makeT j := (w.2.1 3 j (by omega)).trans (w.2.2.1 j).2
theorem CR.ms (w : CR L h0 h σ ca ra hs sp) : mset h (hp_i h0) = h := ms_self w.2.1
theorem RL.cr {xs : Nat → Int32} (w : RL xs L h) : ∃ ca ra hs sp, CR L h h (hp_i h) ca ra hs sp := by
  obtain ⟨w1, w2, w3, w4, w5, w6, ca, ra, hs, sp, w7⟩ := w
  refine ⟨ca, ra, hs, sp, w1, fun _ _ _ => rfl, w3, w4, ?_, w7⟩
  obtain ⟨_, _, _, _, _, _, _, _, ⟨F, g1, g2⟩, _⟩ := w5
  rw [mG_at (by unfold freeS; omega)] at g1
  rw [g1, ix_nI (by omega)]
  exact g2
theorem RL.of {xs : Nat → Int32} (w : RL xs L h0) (c : CR L h0 h σ ca ra hs sp) (g : RG σ) (hh : RH σ) : RL xs L (mset h σ) := by
  obtain ⟨c1, c2, c3, c4, c6, c5⟩ := c
  refine ⟨c1, fun j => ?_, fun j => ⟨?_, ?_⟩, ?_, ?_, ?_, ca, ra, hs, sp, ?_⟩
  · rw [hp_i_ms, if_neg (by omega), c2 _ _ (by omega)]; exact w.2.1 j
  · rw [hp_i_ms, if_neg (by omega), c2 _ _ (by omega)]; exact (c3 j).1
  · rw [hp_i_ms, if_neg (by omega), c2 _ _ (by omega)]; exact (c3 j).2
  · intro a k b j e
    have e1 := cm_lt e
    have e2 := cm_b e
    rw [hp_i_ms, if_neg (by omega), hp_i_ms, if_pos (by omega)]
    exact c4 a k b j e
  · have e : mG (hp_i (mset h σ)) = mG σ := by
      funext b j
      unfold mG
      by_cases q : freeS b j
      · rw [if_pos q, if_pos q]
      · rw [if_neg q, if_neg q, hp_i_ms, if_pos]
        unfold freeS at q
        omega
    show RGc _
    rw [e]; exact g
  · have e : mH (hp_i (mset h σ)) = mH σ := by
      funext b j
      unfold mH
      by_cases q : depH b j
      · rw [if_pos q, if_pos q, hp_i_ms, if_pos]
        unfold depH at q
        omega
      · rw [if_neg q, if_neg q]
    show RHc _
    rw [e]; exact hh
  · have e1 : mI (hp_i (mset h σ)) = mI (hp_i h) := by
      funext b j
      unfold mI
      by_cases q : dynI b j
      · rw [if_pos q, if_pos q, hp_i_ms, if_neg]
        unfold dynI at q
        omega
      · rw [if_neg q, if_neg q]
    have e2 : mS (hp_i (mset h σ)) = mS σ := by
      funext b j
      unfold mS
      by_cases q : depS b j
      · rw [if_pos q, if_pos q, hp_i_ms, if_pos]
        unfold depS at q
        omega
      · rw [if_neg q, if_neg q]
    rw [e1, e2]
    exact c5
/-- a call that class and model have both done -/
theorem pr_end {xs : Nat → Int32} {m1 m2 : Nat} {L1 L2 : List Value} {v : Int32} (w : RL xs L h0) (c1 : pX m1 0 L1 [] h0 = some (some (.int v), h)) (c : CR L h0 h σ ca ra hs sp) (g : RG σ) (hh : RH σ) (m : ∀ k, FX L k → pX m2 0 L2 [] (mset k (hp_i h0)) = some (some (.int v), mset k σ)) :
    ∃ (v : Int32) (h1 h2 : HP), pX m1 0 L1 [] h0 = some (some (.int v), h1) ∧ pX m2 0 L2 [] h1 = some (some (.int v), h2) ∧ FX L h1 ∧ (∀ j, hp_i h1 1 j = hp_i h0 1 j) ∧ RL xs L h2 := by
  refine ⟨v, h, mset h σ, c1, ?_, c.1, fun j => c.2.1 _ _ (by omega), w.of c g hh⟩
  have e := m h c.1
  rw [c.ms] at e
  exact e
/-- a call that changed nothing -/
theorem pr_same {xs : Nat → Int32} {m1 m2 : Nat} {L1 L2 : List Value} {v : Int32} (w : RL xs L h0) (c1 : pX m1 0 L1 [] h0 = some (some (.int v), h0)) (m : pX m2 0 L2 [] h0 = some (some (.int v), h0)) :
    ∃ (v : Int32) (h1 h2 : HP), pX m1 0 L1 [] h0 = some (some (.int v), h1) ∧ pX m2 0 L2 [] h1 = some (some (.int v), h2) ∧ FX L h1 ∧ (∀ j, hp_i h1 1 j = hp_i h0 1 j) ∧ RL xs L h2 := ⟨v, h0, h0, c1, m, w.fx, fun _ => rfl, w⟩
theorem kp_wi {a k : Nat} {x : Int32} (w : ∀ a j, a < 4 ∨ (244 ≤ a ∧ a < 276) → hp_i h a j = hp_i h0 a j) (ha : 4 ≤ a ∧ (a < 244 ∨ 276 ≤ a)) : ∀ b j, b < 4 ∨ (244 ≤ b ∧ b < 276) → hp_i (hp_wi h a k x) b j = hp_i h0 b j := by
  intro b j hb
  rw [hp_i_wi, if_neg (by omega)]
  exact w b j hb
/-- a fixed int of the class and its fellow -/
theorem CR.w {a k b j : Nat} {x : Int32} (w : CR L h0 h σ ca ra hs sp) (c : CMR a k b j) (hd : ¬ depS b j) : CR L h0 (hp_wi h a k x) (hp_u σ b j x) ca ra hs sp := by
  obtain ⟨w1, w2, w3, w4, w6, w5⟩ := w
  have ca := cm_lt c
  refine ⟨w1, kp_wi w2 (by omega), w3, w4.w c, (by rw [hu_at, if_neg (fun q => hd (Or.inr ⟨q.1.symm, by omega⟩))]; exact w6), ?_⟩
  rw [hp_i_wiu, mI_u (cm_ndyn c), mS_u hd]
  exact w5
/-- an int of the class that has no fellow -/
theorem CR.c {a k : Nat} {x : Int32} (w : CR L h0 h σ ca ra hs sp) (ha : 4 ≤ a ∧ a < 244) (c : ∀ b j, ¬ CMR a k b j) (hd : ¬ dynI a k) : CR L h0 (hp_wi h a k x) σ ca ra hs sp := by
  obtain ⟨w1, w2, w3, w4, w6, w5⟩ := w
  refine ⟨w1, kp_wi w2 (by omega), w3, w4.wo c, w6, ?_⟩
  rw [hp_i_wiu, mI_u hd]
  exact w5
/-- an int of the model that has no fellow -/
theorem CR.s {b j : Nat} {x : Int32} (w : CR L h0 h σ ca ra hs sp) (c : ∀ a k, ¬ CMR a k b j) (hd : ¬ depS b j) : CR L h0 h (hp_u σ b j x) ca ra hs sp := by
  obtain ⟨w1, w2, w3, w4, w6, w5⟩ := w
  refine ⟨w1, w2, w3, w4.so c, (by rw [hu_at, if_neg (fun q => hd (Or.inr ⟨q.1.symm, by omega⟩))]; exact w6), ?_⟩
  rw [mS_u hd]
  exact w5
end
theorem ncm_s {b j : Nat} (hb : (b = 244 ∧ (j ≠ 0 ∧ j ≠ 29 ∧ j ≠ 37 ∧ j ≠ 38 ∧ j ≠ 41)) ∨ b = 252 ∨ (255 ≤ b ∧ b ≤ 265) ∨ (267 ≤ b ∧ b ≤ 270) ∨ b = 272) : ∀ a k, ¬ CMR a k b j := by
  intro a k e
  rcases e with e | e | e | ⟨_, e⟩ | e | e | ⟨_, e⟩ | ⟨_, e⟩ | ⟨_, e⟩ | ⟨_, e⟩ | ⟨_, e⟩ | ⟨_, e⟩ | ⟨_, e⟩ | ⟨_, e⟩ | ⟨_, e⟩ | ⟨_, _, _, e⟩ | ⟨_, _, _, e⟩ | ⟨_, e⟩ | ⟨_, e⟩ <;> omega
theorem RG_u {σ : SM} {b j : Nat} {x : Int32} (g : RG σ) (hf : freeS b j) : RG (hp_u σ b j x) := by
  show RGc _
  rw [mG_u hf]; exact g
theorem RH_u {σ : SM} {b j : Nat} {x : Int32} (g : RH σ) (hf : ¬ depH b j) : RH (hp_u σ b j x) := by
  show RHc _
  rw [mH_u hf]; exact g
