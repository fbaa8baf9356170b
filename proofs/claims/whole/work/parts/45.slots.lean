/-! SLOTS: what a change leaves as it was; a slot becomes a THING -/
theorem ix_lt (x : Int32) : ix x < 2147483648 := by
  have h1 := Int32.toInt_lt x
  show x.toInt.toNat < _
  omega
def EXT (S : SM) (ca ra : Nat → Nat) (S' : SM) (ca' ra' : Nat → Nat) : Prop :=
  ix (S 244 17) ≤ ix (S' 244 17) ∧ ix (S 244 23) ≤ ix (S' 244 23) ∧ (∀ q, q < ix (S 244 17) → S' 257 q = S 257 q ∧ ca' q = ca q) ∧ (∀ q, q < ix (S 244 23) → S' 262 q = S 262 q ∧ ra' q = ra q)
theorem EXT.same {S S' : SM} {ca ra : Nat → Nat} (e1 : S' 244 17 = S 244 17) (e2 : S' 244 23 = S 244 23) (e3 : ∀ q, S' 257 q = S 257 q) (e4 : ∀ q, S' 262 q = S 262 q) : EXT S ca ra S' ca ra := by
  refine ⟨?_, ?_, fun q _ => ⟨e3 q, rfl⟩, fun q _ => ⟨e4 q, rfl⟩⟩
  · rw [e1]; exact Nat.le_refl _
  · rw [e2]; exact Nat.le_refl _
theorem EXT.th {S S' : SM} {ca ra ca' ra' : Nat → Nat} {K V : Int32} (e : EXT S ca ra S' ca' ra') (w : okT S K V) : thK S' K V = thK S K V ∧ (if K = 2 then ca' (ix V) else 0) = (if K = 2 then ca (ix V) else 0) ∧ (if K = 3 then ra' (ix V) else 0) = (if K = 3 then ra (ix V) else 0) ∧ okT S' K V := by
  obtain ⟨e1, e2, e3, e4⟩ := e
  have f1 := ix_lt (S 244 17)
  have f2 := ix_lt (S 244 23)
  have d1 : ¬ (2 : Int32) = 0 := by decide
  have d2 : ¬ (2 : Int32) = 1 := by decide
  have d3 : ¬ (3 : Int32) = 0 := by decide
  have d4 : ¬ (3 : Int32) = 1 := by decide
  have d5 : ¬ (3 : Int32) = 2 := by decide
  have d6 : ¬ (2 : Int32) = 3 := by decide
  rcases w with rfl | rfl | ⟨rfl, n, rfl, hn⟩ | ⟨rfl, n, rfl, hn⟩
  · exact ⟨rfl, rfl, rfl, Or.inl rfl⟩
  · exact ⟨rfl, rfl, rfl, Or.inr (Or.inl rfl)⟩
  · unfold thK
    rw [ix_nI (by omega), (e3 n hn).1, (e3 n hn).2, if_neg d6, if_neg d6]
    exact ⟨rfl, rfl, rfl, Or.inr (Or.inr (Or.inl ⟨rfl, n, rfl, by omega⟩))⟩
  · unfold thK
    rw [ix_nI (by omega), (e4 n hn).1, (e4 n hn).2, if_neg d5, if_neg d5]
    exact ⟨by rw [if_neg d3, if_neg d4], rfl, rfl, Or.inr (Or.inr (Or.inr ⟨rfl, n, rfl, by omega⟩))⟩
theorem SLc.ext {P P' : Nat → Nat → Nat} {I I' S S' : SM} {ca ra ca' ra' : Nat → Nat} {a : Nat} {K V : Int32} (w : SLc P I S ca ra a K V) (e : EXT S ca ra S' ca' ra') (p2 : P' a 2 = P a 2) (p3 : P' a 3 = P a 3) (i0 : I' a 0 = I a 0) (i1 : I' a 1 = I a 1) : SLc P' I' S' ca' ra' a K V := by
  obtain ⟨w0, w1, w2, w3, w4⟩ := w
  obtain ⟨t1, t2, t3, t4⟩ := e.th w4
  refine ⟨?_, ?_, ?_, ?_, t4⟩
  · rw [i0, t1]; exact w0
  · rw [i1]; exact w1
  · rw [p2, t2]; exact w2
  · rw [p3, t3]; exact w3
/-- the places of slots: a in the class; (b j), (c i) in the model -/
def SLP (S : SM) (ca : Nat → Nat) (a b j c i : Nat) : Prop :=
  (a = 14 ∧ b = 244 ∧ j = 15 ∧ c = 244 ∧ i = 16) ∨ (∃ k, k < 3 ∧ a = 241 + k ∧ b = 255 ∧ j = k ∧ c = 256 ∧ i = k) ∨
  (∃ f k, f < ix (S 244 29) ∧ k < 8 ∧ a = 109 + 11 * f + k ∧ b = 269 ∧ j = 8 * f + k ∧ c = 270 ∧ i = 8 * f + k) ∨
  (∃ f, f < ix (S 244 29) ∧ a = 108 + 11 * f ∧ b = 269 ∧ j = 96 + f ∧ c = 270 ∧ i = 96 + f) ∨
  (∃ k, k < ix (S 244 17) ∧ a = ca k + 1 ∧ b = 259 ∧ j = k ∧ c = 260 ∧ i = k)
theorem SLP.eq {S : SM} {ca : Nat → Nat} {a b j c i a' b' j' c' i' : Nat} (hF : ix (S 244 29) ≤ 12) (h1 : ∀ k, k < ix (S 244 17) → 276 ≤ ca k) (h2 : ∀ k k', k < ix (S 244 17) → k' < ix (S 244 17) → ca k = ca k' → k = k') (w : SLP S ca a b j c i) (w' : SLP S ca a' b' j' c' i') : (a' = a → b' = b ∧ j' = j ∧ c' = c ∧ i' = i) ∧ (¬ a' = a → ¬ (b' = b ∧ j' = j) ∧ ¬ (c' = c ∧ i' = i)) ∧ ¬ (b' = c ∧ j' = i) ∧ ¬ (c' = b ∧ i' = j) := by
  rcases w with ⟨rfl, rfl, rfl, rfl, rfl⟩ | ⟨k, hk, rfl, rfl, rfl, rfl, rfl⟩ | ⟨f, k, hf, hk, rfl, rfl, rfl, rfl, rfl⟩ | ⟨f, hf, rfl, rfl, rfl, rfl, rfl⟩ | ⟨k, hk, rfl, rfl, rfl, rfl, rfl⟩ <;>
  rcases w' with ⟨rfl, rfl, rfl, rfl, rfl⟩ | ⟨k', hk', rfl, rfl, rfl, rfl, rfl⟩ | ⟨f', k', hf', hk', rfl, rfl, rfl, rfl, rfl⟩ | ⟨f', hf', rfl, rfl, rfl, rfl, rfl⟩ | ⟨k', hk', rfl, rfl, rfl, rfl, rfl⟩
  all_goals first
    | omega
    | (have := h1 _ hk; omega)
    | (have := h1 _ hk'; omega)
    | (refine ⟨fun e => ?_, fun e => ?_, by omega, by omega⟩
       · have := h2 _ _ hk' hk (by omega); omega
       · constructor
         · rintro ⟨-, rfl⟩; exact e rfl
         · rintro ⟨-, rfl⟩; exact e rfl)
theorem SLP.free {S : SM} {ca : Nat → Nat} {a b j c i p q : Nat} (w : SLP S ca a b j c i) (h : p = 257 ∨ p = 258 ∨ (261 ≤ p ∧ p ≤ 268) ∨ 271 ≤ p ∨ (p = 244 ∧ q ≠ 15 ∧ q ≠ 16) ∨ ((p = 259 ∨ p = 260) ∧ ix (S 244 17) ≤ q)) : ¬ (p = b ∧ q = j) ∧ ¬ (p = c ∧ q = i) := by
  rcases w with ⟨rfl, rfl, rfl, rfl, rfl⟩ | ⟨k, hk, rfl, rfl, rfl, rfl, rfl⟩ | ⟨f, k, hf, hk, rfl, rfl, rfl, rfl, rfl⟩ | ⟨f, hf, rfl, rfl, rfl, rfl, rfl⟩ | ⟨k, hk, rfl, rfl, rfl, rfl, rfl⟩ <;> omega
theorem chn.congr {P P' : Nat → Nat → Nat} : ∀ {l : List Nat} {x : Nat}, (∀ y ∈ l, P' y 4 = P y 4) → chn P x l → chn P' x l
  | [], _, _, h => h
  | y :: ys, _, hl, ⟨h1, h2⟩ => ⟨h1, by rw [hl y (List.mem_cons_self ..)]; exact chn.congr (fun z hz => hl z (List.mem_cons_of_mem _ hz)) h2⟩
theorem find_congr {α : Type} {p q : α → Bool} : ∀ {l : List α}, (∀ y ∈ l, p y = q y) → l.find? p = l.find? q
  | [], _ => rfl
  | y :: ys, h => by
    rw [List.find?_cons, List.find?_cons, h y (List.mem_cons_self ..), find_congr (fun z hz => h z (List.mem_cons_of_mem _ hz))]
theorem lat.congr {P P' : Nat → Nat → Nat} {hs hs' : Nat → List Nat} {c : Nat} : ∀ {g : Nat}, (∀ f, f < g → hs' f = hs f ∧ ∀ y ∈ hs f, P' y 0 = P y 0) → lat P' hs' c g = lat P hs c g
  | 0, _ => rfl
  | g + 1, h => by
    have e1 := lat.congr (c := c) (fun f (hf : f < g) => h f (by omega))
    have e2 : (hs' g).find? (fun x => P' x 0 == c) = (hs g).find? (fun x => P x 0 == c) := by
      rw [(h g (by omega)).1]
      exact find_congr (fun y hy => by rw [(h g (by omega)).2 y hy])
    unfold lat
    rw [e1, e2]
theorem allH_mem {hs : Nat → List Nat} {sp : List Nat} {f x : Nat} (hf : f < 12) (hx : x ∈ hs f) : x ∈ allH hs sp := by
  unfold allH
  rw [List.mem_append, List.mem_flatMap]
  exact Or.inl ⟨f, List.mem_range.mpr hf, hx⟩
theorem allH_sp {hs : Nat → List Nat} {sp : List Nat} {x : Nat} (hx : x ∈ sp) : x ∈ allH hs sp := by
  unfold allH
  rw [List.mem_append]
  exact Or.inr hx
theorem RXr.congr {n n' : Nat} {K K' Ln Ln' : Nat → Nat} {P P' : Nat → Nat → Nat} {I I' S S' : SM} {ra : Nat → Nat} (w : RXr n K Ln P I S ra) (hn : n ≤ n') (hK : ∀ x, x < n → K' x = K x ∧ Ln' x = Ln x) (hP : ∀ x q, x < n → K x = 8 ∨ K x = 207 → P' x q = P x q) (hI : ∀ x q, x < n → K x = 8 ∨ K x = 100 → I' x q = I x q) (hS : ∀ p q, (262 ≤ p ∧ p ≤ 265) ∨ (p = 244 ∧ (q = 23 ∨ q = 28)) → S' p q = S p q) : RXr n' K' Ln' P' I' S' ra := by
  have e1 : S' 244 23 = S 244 23 := hS _ _ (by omega)
  have e2 : S' 244 28 = S 244 28 := hS _ _ (by omega)
  have e3 : ∀ q, S' 262 q = S 262 q := fun q => hS _ _ (by omega)
  have e4 : ∀ q, S' 263 q = S 263 q := fun q => hS _ _ (by omega)
  have e5 : ∀ q, S' 264 q = S 264 q := fun q => hS _ _ (by omega)
  have e6 : ∀ q, S' 265 q = S 265 q := fun q => hS _ _ (by omega)
  unfold RXr
  simp only [e1, e2, e3, e4, e5, e6]
  refine ⟨fun k hk => ?_, w.2⟩
  obtain ⟨a1, a2, a3, a4, a5, a6, a7, a8, a9, a10, a11, a12, a13, a14, a15⟩ := w.1 k hk
  rw [(hK (ra k) (by omega)).1, (hK (ra k + 1) (by omega)).1, (hK (ra k + 2) (by omega)).1, (hK (ra k + 1) (by omega)).2, (hK (ra k + 2) (by omega)).2, hI _ _ (by omega) (Or.inl a3), hI _ _ (by omega) (Or.inl a3), hP _ _ (by omega) (Or.inl a3), hP _ _ (by omega) (Or.inl a3)]
  refine ⟨a1, by omega, a3, a4, a5, a6, a7, a8, a9, a10, a11, a12, a13, fun z j hj => ?_, fun z j hj => ?_⟩
  · rw [hI _ _ (by omega) (Or.inr a4)]; exact a14 z j hj
  · rw [hP _ _ (by omega) (Or.inr a5)]; exact a15 z j hj
theorem RXh.congr {n n' : Nat} {K K' : Nat → Nat} {P P' : Nat → Nat → Nat} {I I' S S' : SM} {ca : Nat → Nat} {hs : Nat → List Nat} {sp : List Nat} (w : RXh n K P I S ca hs sp) (hF : ix (S 244 29) ≤ 12) (hc : ∀ k, k < ix (S 244 17) → K (ca k) = 1 ∧ ca k < n) (hn : n ≤ n') (h276 : 276 ≤ n) (hK : ∀ x, x < n → K' x = K x) (kf : ∀ f, f < 12 → K (106 + 11 * f) = 2) (k10 : K 10 = 6)
    (hP : ∀ x q, x < n → K x = 3 ∨ K x = 1 ∨ (K x = 2 ∧ q = 5) ∨ K x = 6 → P' x q = P x q) (hI : ∀ x q, x < n → K x = 3 → I' x q = I x q) (hS : ∀ p q, p = 272 ∨ (p = 244 ∧ (q = 17 ∨ q = 29)) → S' p q = S p q) : RXh n' K' P' I' S' ca hs sp := by
  have e1 : S' 244 17 = S 244 17 := hS _ _ (by omega)
  have e2 : S' 244 29 = S 244 29 := hS _ _ (by omega)
  have e3 : ∀ q, S' 272 q = S 272 q := fun q => hS _ _ (by omega)
  obtain ⟨h1, h2, h3, h4, h5, h6, h7, h8, h9⟩ := w
  have m : ∀ f, f < 12 → ∀ x ∈ hs f, ∀ q, P' x q = P x q := fun f hf x hx q => hP x q (h4 x (allH_mem hf hx)).2.1 (Or.inl (h4 x (allH_mem hf hx)).2.2)
  have hl : ∀ c g, g ≤ 12 → lat P' hs c g = lat P hs c g := fun c g hg => lat.congr (fun f hf => ⟨rfl, fun y hy => m f (by omega) y hy 0⟩)
  unfold RXh
  simp only [e1, e2, e3]
  refine ⟨fun f hf => ?_, h2, ?_, fun x hx => ?_, h5, fun f hf x hx => ?_, fun f hf x hx y hy => ?_, fun f k hf hk hz => ?_, fun k hk => ?_⟩
  · rw [hP _ _ (by omega) (Or.inr (Or.inr (Or.inl ⟨kf f hf, rfl⟩)))]
    exact chn.congr (fun y hy => m f hf y hy 4) (h1 f hf)
  · rw [hP _ _ (by omega) (Or.inr (Or.inr (Or.inr k10)))]
    exact chn.congr (fun y hy => hP y 4 (h4 y (allH_sp hy)).2.1 (Or.inl (h4 y (allH_sp hy)).2.2)) h3
  · obtain ⟨z1, z2, z3⟩ := h4 x hx
    exact ⟨z1, by omega, by rw [hK x z2]; exact z3⟩
  · obtain ⟨z1, k, z2, z3, z4, z5⟩ := h6 f hf x hx
    have mm := m f (by omega) x hx
    obtain ⟨y1, y2, y3⟩ := h4 x (allH_mem (f := f) (by omega) hx)
    rw [mm, mm, mm]
    refine ⟨z1, k, z2, z3, ?_, ?_⟩
    · rw [hI x 2 y2 y3]; exact z4
    · rw [hl _ _ (by omega)]; exact z5
  · rw [m f (by omega) x hx, m f (by omega) y hy]; exact h7 f hf x hx y hy
  · obtain ⟨x, hx, z⟩ := h8 f k hf hk hz
    exact ⟨x, hx, by rw [m f (by omega) x hx]; exact z⟩
  · rw [hP _ _ (hc k hk).2 (Or.inr (Or.inl (hc k hk).1)), hl _ _ hF]
    exact h9 k hk
section
variable {n s : Nat} {Kt Ln : Nat → Nat} {P : Nat → Nat → Nat} {I S : SM} {ca ra : Nat → Nat} {hs : Nat → List Nat} {sp : List Nat}
/-- a slot becomes a THING -/
theorem RXo.slot {a b j c i : Nat} {K V : Int32} (w : RXo n s Kt Ln P I S ca ra hs sp) (hp : SLP S ca a b j c i) (ok : okT S K V) (ka : Kt a = 9) (kf : ∀ f, f < 12 → Kt (106 + 11 * f) = 2) (k10 : Kt 10 = 6) (hn : 276 ≤ n) (hF : ix (S 244 29) ≤ 12) :
    RXo n s Kt Ln (hp_u (hp_u P a 2 (if K = 2 then ca (ix V) else 0)) a 3 (if K = 3 then ra (ix V) else 0)) (hp_u (hp_u I a 0 (thK S K V)) a 1 (if K = 1 then V else 0)) (hp_u (hp_u S b j K) c i V) ca ra hs sp := by
  generalize hP' : hp_u (hp_u P a 2 (if K = 2 then ca (ix V) else 0)) a 3 (if K = 3 then ra (ix V) else 0) = P'
  generalize hI' : hp_u (hp_u I a 0 (thK S K V)) a 1 (if K = 1 then V else 0) = I'
  generalize hS' : hp_u (hp_u S b j K) c i V = S'
  obtain ⟨w1, w2, w3, w4, w5, w6⟩ := w
  have nP : ∀ x q, ¬ x = a → P' x q = P x q := by
    intro x q hx
    rw [← hP']
    unfold hp_u
    rw [if_neg (fun z => hx z.1), if_neg (fun z => hx z.1)]
  have nI' : ∀ x q, ¬ x = a → I' x q = I x q := by
    intro x q hx
    rw [← hI']
    unfold hp_u
    rw [if_neg (fun z => hx z.1), if_neg (fun z => hx z.1)]
  have nS : ∀ p q, ¬ (p = b ∧ q = j) → ¬ (p = c ∧ q = i) → S' p q = S p q := by
    intro p q h1 h2
    rw [← hS']
    unfold hp_u
    rw [if_neg h2, if_neg h1]
  have fS : ∀ p q, p = 257 ∨ p = 258 ∨ (261 ≤ p ∧ p ≤ 268) ∨ 271 ≤ p ∨ (p = 244 ∧ q ≠ 15 ∧ q ≠ 16) ∨ ((p = 259 ∨ p = 260) ∧ ix (S 244 17) ≤ q) → S' p q = S p q := fun p q h => nS p q (hp.free h).1 (hp.free h).2
  have s17 : S' 244 17 = S 244 17 := fS _ _ (by omega)
  have s23 : S' 244 23 = S 244 23 := fS _ _ (by omega)
  have s28 : S' 244 28 = S 244 28 := fS _ _ (by omega)
  have s29 : S' 244 29 = S 244 29 := fS _ _ (by omega)
  have ex : EXT S ca ra S' ca ra := EXT.same s17 s23 (fun q => fS _ _ (by omega)) (fun q => fS _ _ (by omega))
  have h1 : ∀ k, k < ix (S 244 17) → 276 ≤ ca k := fun k hk => (w3.1 k hk).1
  have sl : ∀ a' b' j' c' i', SLP S ca a' b' j' c' i' → SLc P I S ca ra a' (S b' j') (S c' i') → SLc P' I' S' ca ra a' (S' b' j') (S' c' i') := by
    intro a' b' j' c' i' hp' hw
    obtain ⟨q1, q2, q3, q4⟩ := SLP.eq hF h1 w3.2.1 hp hp'
    by_cases e : a' = a
    · obtain ⟨rfl, rfl, rfl, rfl⟩ := q1 e
      subst e
      have v1 : S' b' j' = K := by
        rw [← hS']
        unfold hp_u
        rw [if_neg q3, if_pos ⟨rfl, rfl⟩]
      have v2 : S' c' i' = V := by
        rw [← hS']
        unfold hp_u
        rw [if_pos ⟨rfl, rfl⟩]
      obtain ⟨t1, t2, t3, t4⟩ := ex.th ok
      rw [v1, v2]
      refine ⟨?_, ?_, ?_, ?_, t4⟩
      · rw [← hI', t1]; unfold hp_u; rw [if_neg (by omega), if_pos ⟨rfl, rfl⟩]
      · rw [← hI']; unfold hp_u; rw [if_pos ⟨rfl, rfl⟩]
      · rw [← hP']; unfold hp_u; rw [if_neg (by omega), if_pos ⟨rfl, rfl⟩]
      · rw [← hP']; unfold hp_u; rw [if_pos ⟨rfl, rfl⟩]
    · rw [nS b' j' (q2 e).1 q3, nS c' i' q4 (q2 e).2]
      exact hw.ext ex (nP _ _ e) (nP _ _ e) (nI' _ _ e) (nI' _ _ e)
  have tg : ∀ x, ¬ Kt x = 9 → ¬ x = a := fun x hx e => hx (by rw [e]; exact ka)
  refine ⟨⟨?_, fun k hk => ?_⟩, fun f hf => ?_, ⟨fun k hk => ?_, ?_, fun k hk => ?_⟩, ?_, ?_, ?_⟩
  · exact sl _ _ _ _ _ (Or.inl ⟨rfl, rfl, rfl, rfl, rfl⟩) w1.1
  · exact sl _ _ _ _ _ (Or.inr (Or.inl ⟨k, hk, rfl, rfl, rfl, rfl, rfl⟩)) (w1.2 k hk)
  · rw [s29] at hf
    obtain ⟨z1, z2, z3, z4⟩ := w2 f hf
    have ne := tg (106 + 11 * f) (by rw [kf f (by omega)]; decide)
    rw [nP _ _ ne, nI' _ _ ne, fS 266 f (by omega), fS 267 f (by omega)]
    refine ⟨z1, z2, fun k hk => ?_, ?_⟩
    · exact sl _ _ _ _ _ (Or.inr (Or.inr (Or.inl ⟨f, k, hf, hk, rfl, rfl, rfl, rfl, rfl⟩))) (z3 k hk)
    · exact sl _ _ _ _ _ (Or.inr (Or.inr (Or.inr (Or.inl ⟨f, hf, rfl, rfl, rfl, rfl, rfl⟩)))) z4
  · rw [s17] at hk
    obtain ⟨z1, z2, z3, z4, z5, z6, z7, z8, z9⟩ := w3.1 k hk
    have ne := tg (ca k) (by rw [z3]; decide)
    rw [nP _ _ ne, nI' _ _ ne, nI' _ _ ne, fS 257 k (by omega), fS 258 k (by omega)]
    exact ⟨z1, z2, z3, z4, z5, z6, z7, z8, sl _ _ _ _ _ (Or.inr (Or.inr (Or.inr (Or.inr ⟨k, hk, rfl, rfl, rfl, rfl, rfl⟩)))) z9⟩
  · rw [s17]; exact w3.2.1
  · rw [s17] at hk
    rw [fS 258 k (by omega), fS 259 k (by omega), fS 260 k (by omega)]
    exact w3.2.2 k hk
  · refine w4.congr (Nat.le_refl _) (fun _ _ => ⟨rfl, rfl⟩) (fun x q _ hx => nP _ _ (tg x (by omega))) (fun x q _ hx => nI' _ _ (tg x (by omega))) (fun p q h => fS p q (by omega))
  · refine w5.congr hF (fun k hk => ⟨(w3.1 k hk).2.2.1, by have := (w3.1 k hk).2.1; omega⟩) (Nat.le_refl _) hn (fun _ _ => rfl) kf k10 (fun x q _ hx => nP _ _ (tg x (by omega))) (fun x q _ hx => nI' _ _ (tg x (by omega))) (fun p q h => fS p q (by omega))
  · unfold RXn
    rw [s17, s23, s28]
    exact w6
end
