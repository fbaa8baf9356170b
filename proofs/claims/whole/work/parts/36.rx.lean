/-! THE MOVING PART: slots, frames, cells, rows, holds -/
def SLc (P : Nat → Nat → Nat) (I S : SM) (ca ra : Nat → Nat) (a : Nat) (K V : Int32) : Prop := I a 0 = thK S K V ∧ I a 1 = (if K = 1 then V else 0) ∧ P a 2 = (if K = 2 then ca (ix V) else 0) ∧ P a 3 = (if K = 3 then ra (ix V) else 0) ∧ okT S K V
/-- a chain of holds, by their field 'beside' -/
def chn (P : Nat → Nat → Nat) : Nat → List Nat → Prop
  | x, [] => x = 0
  | x, y :: ys => x = y ∧ chn P (P y 4) ys
/-- the latest hold of cell c among the frames below g -/
def lat (P : Nat → Nat → Nat) (hs : Nat → List Nat) (c : Nat) : Nat → Nat
  | 0 => 0
  | g + 1 => match (hs g).find? (fun x => P x 0 == c) with
    | some x => x
    | none => lat P hs c g
/-- all holds that were ever made -/
def allH (hs : Nat → List Nat) (sp : List Nat) : List Nat := (List.range 12).flatMap hs ++ sp
def RXs (P : Nat → Nat → Nat) (I S : SM) (ca ra : Nat → Nat) : Prop :=
  SLc P I S ca ra 14 (S 244 15) (S 244 16) ∧ (∀ k, k < 3 → SLc P I S ca ra (241 + k) (S 255 k) (S 256 k))
def RXf (P : Nat → Nat → Nat) (I S : SM) (ca ra : Nat → Nat) : Prop :=
  ∀ f, f < ix (S 244 29) → P (106 + 11 * f) 2 = 16 + 9 * ix (S 266 f) ∧ I (106 + 11 * f) 4 = S 267 f ∧ (∀ k, k < 8 → SLc P I S ca ra (109 + 11 * f + k) (S 269 (8 * f + k)) (S 270 (8 * f + k))) ∧ SLc P I S ca ra (108 + 11 * f) (S 269 (96 + f)) (S 270 (96 + f))
def RXc (n : Nat) (K : Nat → Nat) (P : Nat → Nat → Nat) (I S : SM) (ca ra : Nat → Nat) : Prop :=
  (∀ k, k < ix (S 244 17) → 276 ≤ ca k ∧ ca k + 1 < n ∧ K (ca k) = 1 ∧ K (ca k + 1) = 9 ∧ I (ca k) 0 = S 257 k ∧ nb (S 257 k) 3 ∧ I (ca k) 2 = S 258 k ∧ P (ca k) 1 = ca k + 1 ∧ SLc P I S ca ra (ca k + 1) (S 259 k) (S 260 k)) ∧
  (∀ k k', k < ix (S 244 17) → k' < ix (S 244 17) → ca k = ca k' → k = k') ∧
  (∀ k, ix (S 244 17) ≤ k → S 258 k = 0 ∧ S 259 k = 0 ∧ S 260 k = 0)
def RXr (n : Nat) (K Ln : Nat → Nat) (P : Nat → Nat → Nat) (I S : SM) (ra : Nat → Nat) : Prop :=
  (∀ k, k < ix (S 244 23) → 276 ≤ ra k ∧ ra k + 2 < n ∧ K (ra k) = 8 ∧ K (ra k + 1) = 100 ∧ K (ra k + 2) = 207 ∧ I (ra k) 0 = S 262 k ∧ I (ra k) 1 = S 264 k ∧ P (ra k) 2 = ra k + 1 ∧ P (ra k) 3 = ra k + 2 ∧ nb (S 262 k) 4 ∧ (∃ b z : Nat, S 263 k = nI b ∧ S 264 k = nI z ∧ b + z ≤ ix (S 244 28)) ∧
    Ln (ra k + 1) = (if S 262 k = 4 then 0 else ix (S 264 k)) ∧ Ln (ra k + 2) = (if S 262 k = 4 then ix (S 264 k) else 0) ∧
    (S 262 k ≠ 4 → ∀ j, j < ix (S 264 k) → I (ra k + 1) j = S 265 (ix (S 263 k) + j)) ∧
    (S 262 k = 4 → ∀ j, j < ix (S 264 k) → (S 265 (ix (S 263 k) + j) = 0 ∧ P (ra k + 2) j = 0) ∨ ∃ q : Nat, S 265 (ix (S 263 k) + j) = nI (q + 1) ∧ q < ix (S 244 23) ∧ S 262 q = 0 ∧ P (ra k + 2) j = ra q)) ∧
  (∀ k k', k < ix (S 244 23) → k' < ix (S 244 23) → ra k = ra k' → k = k') ∧
  (∀ k k', k < k' → k' < ix (S 244 23) → ix (S 263 k) + ix (S 264 k) ≤ ix (S 263 k')) ∧
  (∀ j, ix (S 244 28) ≤ j → S 265 j = 0)
def RXh (n : Nat) (K : Nat → Nat) (P : Nat → Nat → Nat) (I S : SM) (ca : Nat → Nat) (hs : Nat → List Nat) (sp : List Nat) : Prop :=
  (∀ f, f < 12 → chn P (P (106 + 11 * f) 5) (hs f)) ∧ (∀ f, ix (S 244 29) ≤ f → hs f = []) ∧ chn P (P 10 0) sp ∧
  (∀ x ∈ allH hs sp, 276 ≤ x ∧ x < n ∧ K x = 3) ∧ (allH hs sp).Nodup ∧
  (∀ f, f < ix (S 244 29) → ∀ x ∈ hs f, P x 1 = 106 + 11 * f ∧ ∃ k, k < ix (S 244 17) ∧ P x 0 = ca k ∧ I x 2 = S 272 (6000 * f + k) ∧ P x 3 = lat P hs (ca k) f) ∧
  (∀ f, f < ix (S 244 29) → ∀ x ∈ hs f, ∀ y ∈ hs f, P x 0 = P y 0 → x = y) ∧
  (∀ f k, f < ix (S 244 29) → k < ix (S 244 17) → S 272 (6000 * f + k) ≠ 0 → ∃ x ∈ hs f, P x 0 = ca k) ∧
  (∀ k, k < ix (S 244 17) → P (ca k) 3 = lat P hs (ca k) (ix (S 244 29)))
def RXn (n s : Nat) (S : SM) (hs : Nat → List Nat) (sp : List Nat) : Prop :=
  n = 276 + 2 * ix (S 244 17) + 3 * ix (S 244 23) + (allH hs sp).length ∧ s = 131176 + 8 * ix (S 244 17) + 4 * ix (S 244 23) + ix (S 244 28) + 5 * (allH hs sp).length ∧ (allH hs sp).length ≤ 72000
def RXa (n s : Nat) (K Ln : Nat → Nat) (P : Nat → Nat → Nat) (I S : SM) : Prop := ∃ (ca ra : Nat → Nat) (hs : Nat → List Nat) (sp : List Nat), RXs P I S ca ra ∧ RXf P I S ca ra ∧ RXc n K P I S ca ra ∧ RXr n K Ln P I S ra ∧ RXh n K P I S ca hs sp ∧ RXn n s S hs sp
def RX (h : HP) (σ : SM) : Prop := RXa (hp_n h) (hp_s h) (hp_k h) (hp_l h) (hp_a h) (mI (hp_i h)) (mS σ)
/-- holdings, in the model's own numbers; A: the acts that were done in all -/
def depH (b j : Nat) : Prop := b = 261 ∨ b = 267 ∨ b = 271 ∨ b = 272 ∨ (b = 244 ∧ (j = 17 ∨ j = 29 ∨ j = 38))
noncomputable def mH (f : SM) : SM := fun a k => @ite _ (depH a k) (Classical.propDecidable _) (f a k) 0
theorem mH_u {f : SM} {a k : Nat} {x : Int32} (h : ¬ depH a k) : mH (hp_u f a k x) = mH f := by
  funext b j
  unfold mH hp_u
  by_cases q : depH b j
  · rw [if_pos q, if_pos q, if_neg]
    rintro ⟨rfl, rfl⟩
    exact h q
  · rw [if_neg q, if_neg q]
def sumN (f : Nat → Nat) : Nat → Nat
  | 0 => 0
  | n + 1 => sumN f n + f n
def RHc (σ : SM) : Prop := ∃ A : Nat, A + sumN (fun f => 40 - ix (σ 267 f)) (ix (σ 244 29)) + 82 * ix (σ 244 38) ≤ 492000 ∧
  (∀ f k, f < 12 → k < 6000 → ∃ n : Nat, σ 272 (6000 * f + k) = nI n ∧ n ≤ A ∧ (ix (σ 244 29) ≤ f ∨ ix (σ 244 17) ≤ k → n = 0)) ∧
  (∀ f, f < 12 → σ 271 f = nI (sumN (fun k => ix (σ 272 (6000 * f + k))) 6000) ∧ sumN (fun k => ix (σ 272 (6000 * f + k))) 6000 ≤ A) ∧
  (∀ k, k < 6000 → σ 261 k = nI (sumN (fun f => ix (σ 272 (6000 * f + k))) 12) ∧ sumN (fun f => ix (σ 272 (6000 * f + k))) 12 ≤ A)
def RH (σ : SM) : Prop := RHc (mH σ)
/-- class and model beside each other: between two calls -/
def RL (xs : Nat → Int32) (L : Nat) (h : HP) : Prop := FX L h ∧ (∀ j, hp_i h 1 j = xs j) ∧ (∀ j, hp_i h 2 j = lookT j ∧ hp_i h 3 j = makeT j) ∧ FI h (hp_i h) ∧ RG (hp_i h) ∧ RH (hp_i h) ∧ RX h (hp_i h)
theorem cm_ndyn {a k b j : Nat} (h : CMR a k b j) : ¬ dynI a k := by
  have h1 := cm_lt h
  intro q
  unfold dynI at q
  have h2 := (cm_b h).2.2
  omega
theorem ref_ndyn {b j : Nat} (h1 : 244 ≤ b) (h2 : b < 276) : ¬ dynI b j := by
  unfold dynI; omega
theorem cls_ndep {a k : Nat} (h1 : a < 244) : ¬ depS a k := by
  unfold depS; omega
theorem cls_ndepH {a k : Nat} (h1 : a < 244) : ¬ depH a k := by
  unfold depH; omega
theorem hp_i_wiu (h : HP) (a k : Nat) (x : Int32) : hp_i (hp_wi h a k x) = hp_u (hp_i h) a k x := rfl
/-- a fixed int of the class and its fellow in the model become x -/
theorem RL.pair {xs : Nat → Int32} {L : Nat} {h : HP} {a k b j : Nat} {x : Int32} (w : RL xs L h) (c : CMR a k b j) (hd : ¬ depS b j) (hh : ¬ depH b j) (hG : RG (hp_u (hp_i h) b j x)) : RL xs L (hp_wi (hp_wi h a k x) b j x) := by
  obtain ⟨w1, w2, w3, w4, w5, w6, w7⟩ := w
  have ca := cm_lt c
  have cb := cm_b c
  refine ⟨w1, fun q => ?_, fun q => ?_, ?_, ?_, ?_, ?_⟩
  · rw [hp_i_wi, if_neg (by omega), hp_i_wi, if_neg (by omega)]; exact w2 q
  · rw [hp_i_wi, if_neg (by omega), hp_i_wi, if_neg (by omega), hp_i_wi, if_neg (by omega), hp_i_wi, if_neg (by omega)]; exact w3 q
  · intro a' k' b' j' e'
    have ca' := cm_lt e'
    have cb' := cm_b e'
    rw [hp_i_wi, if_neg (by omega), hp_i_wi, hp_i_wi, hp_i_wi]
    by_cases q : b' = b ∧ j' = j
    · obtain ⟨rfl, rfl⟩ := q
      rw [if_pos (cm_inj e' c), if_pos ⟨rfl, rfl⟩]
    · rw [if_neg q, if_neg (fun z => by obtain ⟨rfl, rfl⟩ := z; exact q (CMR_fun e' c)), if_neg (by omega)]
      exact w4 a' k' b' j' e'
  · show RGc _
    have e1 : mG (hp_i (hp_wi (hp_wi h a k x) b j x)) = mG (hp_u (hp_i h) b j x) := by
      rw [hp_i_wiu, hp_i_wiu]
      funext p q
      unfold mG
      by_cases z0 : freeS p q
      · rw [if_pos z0, if_pos z0]
      · rw [if_neg z0, if_neg z0]
        unfold hp_u
        by_cases z : p = b ∧ q = j
        · rw [if_pos z, if_pos z]
        · rw [if_neg z, if_neg z, if_neg]
          rintro ⟨rfl, rfl⟩
          exact z0 (Or.inl (by omega))
    rw [e1]
    exact hG
  · show RHc _
    rw [hp_i_wiu, hp_i_wiu, mH_u hh, mH_u (cls_ndepH (by omega))]
    exact w6
  · show RXa _ _ _ _ _ (mI _) (mS _)
    rw [hp_i_wiu, hp_i_wiu, mI_u (ref_ndyn cb.1 cb.2.1), mI_u (cm_ndyn c), mS_u hd, mS_u (cls_ndep (by omega))]
    exact w7
