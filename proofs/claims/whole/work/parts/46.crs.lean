/-! SLOTS, CELLS, ROWS of the class, by the model's numbers -/
theorem mI_n {f : SM} {a k : Nat} {x : Int32} (h : dynI a k) : mI (hp_u f a k x) = hp_u (mI f) a k x := by
  funext b j
  unfold mI hp_u
  by_cases q : b = a ∧ j = k
  · obtain ⟨rfl, rfl⟩ := q
    rw [if_pos h, if_pos ⟨rfl, rfl⟩, if_pos ⟨rfl, rfl⟩]
  · rw [if_neg q, if_neg q]
theorem mS_n {f : SM} {a k : Nat} {x : Int32} (h : depS a k) : mS (hp_u f a k x) = hp_u (mS f) a k x := by
  funext b j
  unfold mS hp_u
  by_cases q : b = a ∧ j = k
  · obtain ⟨rfl, rfl⟩ := q
    rw [if_pos h, if_pos ⟨rfl, rfl⟩, if_pos ⟨rfl, rfl⟩]
  · rw [if_neg q, if_neg q]
theorem mS_m {σ : SM} {b j : Nat} (h : 255 ≤ b ∧ b ≤ 272) : mS σ b j = σ b j := mS_at (Or.inl h)
theorem mS_x {σ : SM} {j : Nat} (h : j = 15 ∨ j = 16 ∨ j = 17 ∨ j = 23 ∨ j = 28 ∨ j = 29) : mS σ 244 j = σ 244 j := mS_at (Or.inr ⟨rfl, h⟩)
theorem thK_m (σ : SM) (K V : Int32) : thK (mS σ) K V = thK σ K V := by
  unfold thK
  rw [mS_m (by omega), mS_m (by omega)]
theorem okT_m (σ : SM) (K V : Int32) : okT (mS σ) K V ↔ okT σ K V := by
  unfold okT
  rw [mS_x (by omega), mS_x (by omega)]
theorem SLP_m {σ : SM} {ca : Nat → Nat} {a b j c i : Nat} : SLP (mS σ) ca a b j c i ↔ SLP σ ca a b j c i := by
  unfold SLP
  rw [mS_x (by omega), mS_x (by omega)]
/-- a slot, in the model's numbers -/
def TH (h : HP) (σ : SM) (ca ra : Nat → Nat) (a : Nat) (K V : Int32) : Prop :=
  (K = 0 ∧ hp_i h a 0 = -5 ∧ hp_i h a 1 = 0 ∧ hp_a h a 2 = 0 ∧ hp_a h a 3 = 0) ∨
  (K = 1 ∧ hp_i h a 0 = 0 ∧ hp_i h a 1 = V ∧ hp_a h a 2 = 0 ∧ hp_a h a 3 = 0) ∨
  (∃ n s : Nat, K = 2 ∧ V = nI n ∧ n < ix (σ 244 17) ∧ σ 257 n = nI s ∧ s ≤ 3 ∧ hp_i h a 0 = nI (1 + s) ∧ hp_i h a 1 = 0 ∧ hp_a h a 2 = ca n ∧ hp_a h a 3 = 0) ∨
  (∃ n l : Nat, K = 3 ∧ V = nI n ∧ n < ix (σ 244 23) ∧ σ 262 n = nI l ∧ l ≤ 4 ∧ hp_i h a 0 = nI (5 + l) ∧ hp_i h a 1 = 0 ∧ hp_a h a 2 = 0 ∧ hp_a h a 3 = ra n)
def SLn (h : HP) (σ : SM) (ca ra : Nat → Nat) (a : Nat) (K V : Int32) : Prop := hp_i h a 0 = thK σ K V ∧ hp_i h a 1 = (if K = 1 then V else 0) ∧ hp_a h a 2 = (if K = 2 then ca (ix V) else 0) ∧ hp_a h a 3 = (if K = 3 then ra (ix V) else 0) ∧ okT σ K V
section
variable {L : Nat} {h0 h : HP} {σ : SM} {ca ra : Nat → Nat} {hs : Nat → List Nat} {sp : List Nat}
theorem CR.cel (w : CR L h0 h σ ca ra hs sp) {k : Nat} (hk : k < ix (σ 244 17)) : 276 ≤ ca k ∧ ca k + 1 < hp_n h ∧ hp_k h (ca k) = 1 ∧ hp_k h (ca k + 1) = 9 ∧ hp_i h (ca k) 0 = σ 257 k ∧ nb (σ 257 k) 3 ∧ hp_i h (ca k) 2 = σ 258 k ∧ hp_a h (ca k) 1 = ca k + 1 := by
  obtain ⟨z1, z2, z3, z4, z5, z6, z7, z8, z9⟩ := w.rx.2.2.1.1 k (by rw [mS_x (by omega)]; exact hk)
  rw [mI_at (by unfold dynI; omega), mS_m (by omega)] at z5
  rw [mI_at (by unfold dynI; omega), mS_m (by omega)] at z7
  rw [mS_m (by omega)] at z6
  exact ⟨z1, z2, z3, z4, z5, z6, z7, z8⟩
theorem SLP.dyn {a b j c i : Nat} (w : CR L h0 h σ ca ra hs sp) (p : SLP σ ca a b j c i) : hp_k h a = 9 ∧ 4 ≤ a ∧ (a < 244 ∨ 276 ≤ a) ∧ (∀ k, k < 4 → dynI a k) ∧ depS b j ∧ depS c i ∧ (∀ a k, ¬ CMR a k b j) ∧ (∀ a k, ¬ CMR a k c i) := by
  have hF := w.hF
  rcases p with ⟨rfl, rfl, rfl, rfl, rfl⟩ | ⟨k, hk, rfl, rfl, rfl, rfl, rfl⟩ | ⟨f, k, hf, hk, rfl, rfl, rfl, rfl, rfl⟩ | ⟨f, hf, rfl, rfl, rfl, rfl, rfl⟩ | ⟨k, hk, rfl, rfl, rfl, rfl, rfl⟩
  · exact ⟨w.fx.k14, by omega, by omega, fun _ _ => by unfold dynI; omega, by unfold depS; omega, by unfold depS; omega, ncm_s (by omega), ncm_s (by omega)⟩
  · exact ⟨w.fx.argk _ hk, by omega, by omega, fun _ _ => by unfold dynI; omega, by unfold depS; omega, by unfold depS; omega, ncm_s (by omega), ncm_s (by omega)⟩
  · exact ⟨w.fx.frs f k (by omega) hk, by omega, by omega, fun _ _ => by unfold dynI; omega, by unfold depS; omega, by unfold depS; omega, ncm_s (by omega), ncm_s (by omega)⟩
  · exact ⟨w.fx.fgk f (by omega), by omega, by omega, fun _ _ => by unfold dynI; omega, by unfold depS; omega, by unfold depS; omega, ncm_s (by omega), ncm_s (by omega)⟩
  · have z := w.cel hk
    exact ⟨z.2.2.2.1, by omega, by omega, fun _ _ => by unfold dynI; omega, by unfold depS; omega, by unfold depS; omega, ncm_s (by omega), ncm_s (by omega)⟩
theorem SLc.un {a : Nat} {K V : Int32} (w : SLc (hp_a h) (mI (hp_i h)) (mS σ) ca ra a K V) (hd : ∀ k, k < 4 → dynI a k) : SLn h σ ca ra a K V := by
  obtain ⟨z1, z2, z3, z4, z5⟩ := w
  rw [mI_at (hd 0 (by omega)), thK_m] at z1
  rw [mI_at (hd 1 (by omega))] at z2
  rw [okT_m] at z5
  exact ⟨z1, z2, z3, z4, z5⟩
theorem CR.at_ {a b j c i : Nat} (w : CR L h0 h σ ca ra hs sp) (p : SLP σ ca a b j c i) : SLn h σ ca ra a (σ b j) (σ c i) := by
  obtain ⟨_, _, _, d1, d2, d3, _⟩ := SLP.dyn w p
  rw [← mS_at (f := σ) d2, ← mS_at (f := σ) d3]
  refine SLc.un ?_ d1
  have r := w.rx
  rcases p with ⟨rfl, rfl, rfl, rfl, rfl⟩ | ⟨k, hk, rfl, rfl, rfl, rfl, rfl⟩ | ⟨f, k, hf, hk, rfl, rfl, rfl, rfl, rfl⟩ | ⟨f, hf, rfl, rfl, rfl, rfl, rfl⟩ | ⟨k, hk, rfl, rfl, rfl, rfl, rfl⟩
  · exact r.1.1
  · exact r.1.2 _ hk
  · exact (r.2.1 f (by rw [mS_x (by omega)]; exact hf)).2.2.1 k hk
  · exact (r.2.1 f (by rw [mS_x (by omega)]; exact hf)).2.2.2
  · exact (r.2.2.1.1 _ (by rw [mS_x (by omega)]; exact hk)).2.2.2.2.2.2.2.2
theorem CR.row (w : CR L h0 h σ ca ra hs sp) {k : Nat} (hk : k < ix (σ 244 23)) : 276 ≤ ra k ∧ ra k + 2 < hp_n h ∧ hp_k h (ra k) = 8 ∧ hp_k h (ra k + 1) = 100 ∧ hp_k h (ra k + 2) = 207 ∧ hp_i h (ra k) 0 = σ 262 k ∧ hp_i h (ra k) 1 = σ 264 k ∧ hp_a h (ra k) 2 = ra k + 1 ∧ hp_a h (ra k) 3 = ra k + 2 ∧ nb (σ 262 k) 4 ∧ (∃ b z : Nat, σ 263 k = nI b ∧ σ 264 k = nI z ∧ b + z ≤ ix (σ 244 28)) ∧
    hp_l h (ra k + 1) = (if σ 262 k = 4 then 0 else ix (σ 264 k)) ∧ hp_l h (ra k + 2) = (if σ 262 k = 4 then ix (σ 264 k) else 0) ∧
    (σ 262 k ≠ 4 → ∀ j, j < ix (σ 264 k) → hp_i h (ra k + 1) j = σ 265 (ix (σ 263 k) + j)) ∧
    (σ 262 k = 4 → ∀ j, j < ix (σ 264 k) → (σ 265 (ix (σ 263 k) + j) = 0 ∧ hp_a h (ra k + 2) j = 0) ∨ ∃ q : Nat, σ 265 (ix (σ 263 k) + j) = nI (q + 1) ∧ q < ix (σ 244 23) ∧ σ 262 q = 0 ∧ hp_a h (ra k + 2) j = ra q) := by
  have z := w.rx.2.2.2.1.1 k (by rw [mS_x (by omega)]; exact hk)
  rw [mS_m (σ := σ) (b := 262) (by omega), mS_m (σ := σ) (b := 263) (by omega), mS_m (σ := σ) (b := 264) (by omega), mS_x (σ := σ) (j := 28) (by omega), mS_x (σ := σ) (j := 23) (by omega)] at z
  obtain ⟨z1, z2, z3, z4, z5, z6, z7, z8, z9, z10, z11, z12, z13, z14, z15⟩ := z
  rw [mI_at (by unfold dynI; omega)] at z6 z7
  refine ⟨z1, z2, z3, z4, z5, z6, z7, z8, z9, z10, z11, z12, z13, fun q j hj => ?_, fun q j hj => ?_⟩
  · have := z14 q j hj
    rw [mI_at (by unfold dynI; omega), mS_m (by omega)] at this
    exact this
  · have := z15 q j hj
    rw [mS_m (σ := σ) (b := 265) (by omega)] at this
    rcases this with y | ⟨p, y1, y2, y3, y4⟩
    · exact Or.inl y
    · rw [mS_m (by omega)] at y3
      exact Or.inr ⟨p, y1, y2, y3, y4⟩
theorem CR.th_ {a : Nat} {K V : Int32} (w : CR L h0 h σ ca ra hs sp) (z : SLn h σ ca ra a K V) : TH h σ ca ra a K V := by
  obtain ⟨z1, z2, z3, z4, z5⟩ := z
  have f1 := ix_lt (σ 244 17)
  have f2 := ix_lt (σ 244 23)
  rcases z5 with rfl | rfl | ⟨rfl, n, rfl, hn⟩ | ⟨rfl, n, rfl, hn⟩
  · exact Or.inl ⟨rfl, z1, z2, z3, z4⟩
  · exact Or.inr (Or.inl ⟨rfl, z1, z2, z3, z4⟩)
  · obtain ⟨s, hs1, hs2⟩ := (w.cel hn).2.2.2.2.2.1
    rw [ix_nI (by omega)] at z3
    refine Or.inr (Or.inr (Or.inl ⟨n, s, rfl, rfl, hn, hs1, hs2, ?_, z2, z3, z4⟩))
    rw [z1]
    unfold thK
    rw [ix_nI (by omega), hs1, if_neg (by decide), if_neg (by decide), if_pos rfl]
    exact nI_add 1 s
  · obtain ⟨l, hl1, hl2⟩ := (w.row hn).2.2.2.2.2.2.2.2.2.1
    rw [ix_nI (by omega)] at z4
    refine Or.inr (Or.inr (Or.inr ⟨n, l, rfl, rfl, hn, hl1, hl2, ?_, z2, z3, z4⟩))
    rw [z1]
    unfold thK
    rw [ix_nI (by omega), hl1, if_neg (by decide), if_neg (by decide), if_neg (by decide)]
    exact nI_add 5 l
theorem CR.th {a b j c i : Nat} (w : CR L h0 h σ ca ra hs sp) (p : SLP σ ca a b j c i) : TH h σ ca ra a (σ b j) (σ c i) := w.th_ (w.at_ p)
theorem CR.frm (w : CR L h0 h σ ca ra hs sp) {f : Nat} (hf : f < ix (σ 244 29)) : hp_a h (106 + 11 * f) 2 = 16 + 9 * ix (σ 266 f) ∧ hp_i h (106 + 11 * f) 4 = σ 267 f := by
  have hF := w.hF
  obtain ⟨z1, z2, _⟩ := w.rx.2.1 f (by rw [mS_x (by omega)]; exact hf)
  rw [mS_m (by omega)] at z1 z2
  rw [mI_at (by unfold dynI; omega)] at z2
  exact ⟨z1, z2⟩
theorem FX.sl {a : Nat} {kd nm : Int32} {ce ro : Nat} (x : FX L h) (hk : hp_k h a = 9) : FX L (slSet h a kd nm ce ro) := by
  unfold slSet
  refine FX.wa (FX.wa ?_ (Or.inl hk)) (Or.inl hk)
  exact x
/-- a slot becomes a THING -/
theorem CR.slot {a b j c i : Nat} {K V : Int32} (w : CR L h0 h σ ca ra hs sp) (p : SLP σ ca a b j c i) (ok : okT σ K V) : CR L h0 (slSet h a (thK σ K V) (if K = 1 then V else 0) (if K = 2 then ca (ix V) else 0) (if K = 3 then ra (ix V) else 0)) (hp_u (hp_u σ b j K) c i V) ca ra hs sp := by
  obtain ⟨d1, d2, d3, d4, d5, d6, d7, d8⟩ := SLP.dyn w p
  have hF := w.hF
  obtain ⟨w1, w2, w3, w4, w6, w5⟩ := w
  refine ⟨w1.sl d1, ?_, w3, ?_, ?_, ?_⟩
  · exact kp_wi (kp_wi w2 ⟨d2, d3⟩) ⟨d2, d3⟩
  · unfold slSet
    refine FI.wa (FI.wa (FI.so (FI.so (FI.wo (FI.wo w4 ?_) ?_) d7) d8))
    · exact fun b j e => cm_ndyn e (d4 0 (by omega))
    · exact fun b j e => cm_ndyn e (d4 1 (by omega))
  · have := (SLP.free p (p := 244) (q := 29) (by omega))
    rw [hu_at, if_neg this.2, hu_at, if_neg this.1]
    exact w6
  · have e1 : mI (hp_i (slSet h a (thK σ K V) (if K = 1 then V else 0) (if K = 2 then ca (ix V) else 0) (if K = 3 then ra (ix V) else 0))) = hp_u (hp_u (mI (hp_i h)) a 0 (thK (mS σ) K V)) a 1 (if K = 1 then V else 0) := by
      rw [thK_m, ← mI_n (d4 0 (by omega)), ← mI_n (d4 1 (by omega))]
      rfl
    rw [e1, mS_n d6, mS_n d5]
    exact w5.slot (SLP_m.mpr p) ((okT_m σ K V).mpr ok) d1 w1.fk w1.k10 w1.n (by rw [mS_x (by omega)]; exact hF)
end
