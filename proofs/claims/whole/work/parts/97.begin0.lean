/-! THE BEGINNING: class and model, just made, stand side by side -/
/-- the class's cells, made; F: the heap before the model is made -/
def CF (xs : Nat → Int32) (L : Nat) (F : HP) : Prop := hp_n F = 244 ∧ hp_s F = 2817 ∧
  (hp_k F 1 = 99 ∧ hp_k F 2 = 99 ∧ hp_k F 3 = 99 ∧ hp_l F 1 = L ∧ hp_l F 2 = 28 ∧ hp_l F 3 = 28 ∧ (∀ j, hp_i F 1 j = xs j) ∧ (∀ j, hp_i F 2 j = lookT j ∧ hp_i F 3 j = makeT j)) ∧
  (hp_k F 4 = 11 ∧ hp_a F 4 0 = 5 ∧ hp_a F 4 1 = 238 ∧ hp_a F 4 2 = 240) ∧ MC F ∧
  (hp_k F 238 = 10 ∧ hp_a F 238 0 = 239 ∧ hp_k F 239 = 100 ∧ hp_l F 239 = 40 ∧ hp_k F 240 = 208 ∧ hp_l F 240 = 3) ∧
  (∀ k, k < 3 → hp_a F 240 k = 241 + k ∧ hp_k F (241 + k) = 9 ∧ hp_i F (241 + k) 0 = -5 ∧ hp_i F (241 + k) 1 = 0 ∧ hp_a F (241 + k) 2 = 0 ∧ hp_a F (241 + k) 3 = 0)
theorem MC.to {g F : HP} (w : MC g) (hk : ∀ y, 5 ≤ y → y < 238 → hp_k F y = hp_k g y) (hl : ∀ y, 5 ≤ y → y < 238 → hp_l F y = hp_l g y) (hi : ∀ y j, 5 ≤ y → y < 238 → hp_i F y j = hp_i g y j) (ha : ∀ y j, 5 ≤ y → y < 238 → hp_a F y j = hp_a g y j) : MC F := by
  obtain ⟨⟨k5, a50, a52, a53, a54, a55, a56, a58, a510, i5⟩, ⟨k6, l6, k7, a70, a71, i7, k8, l8, i8⟩, ⟨k9, l9, i9, k10, a10, k11, l11, i11, k12, l12, i12⟩, ⟨k13, l13, k14, i140, i141, a142, a143, k15, l15, i15⟩, mb, fb⟩ := w
  refine ⟨⟨(hk _ (by omega) (by omega)).trans k5, (ha _ _ (by omega) (by omega)).trans a50, (ha _ _ (by omega) (by omega)).trans a52, (ha _ _ (by omega) (by omega)).trans a53, (ha _ _ (by omega) (by omega)).trans a54, (ha _ _ (by omega) (by omega)).trans a55, (ha _ _ (by omega) (by omega)).trans a56, (ha _ _ (by omega) (by omega)).trans a58, (ha _ _ (by omega) (by omega)).trans a510, fun j => (hi _ _ (by omega) (by omega)).trans (i5 j)⟩,
    ⟨(hk _ (by omega) (by omega)).trans k6, (hl _ (by omega) (by omega)).trans l6, (hk _ (by omega) (by omega)).trans k7, (ha _ _ (by omega) (by omega)).trans a70, (ha _ _ (by omega) (by omega)).trans a71, fun j => (hi _ _ (by omega) (by omega)).trans (i7 j), (hk _ (by omega) (by omega)).trans k8, (hl _ (by omega) (by omega)).trans l8, fun j hj => (hi _ _ (by omega) (by omega)).trans (i8 j hj)⟩,
    ⟨(hk _ (by omega) (by omega)).trans k9, (hl _ (by omega) (by omega)).trans l9, fun j => (hi _ _ (by omega) (by omega)).trans (i9 j), (hk _ (by omega) (by omega)).trans k10, (ha _ _ (by omega) (by omega)).trans a10, (hk _ (by omega) (by omega)).trans k11, (hl _ (by omega) (by omega)).trans l11, fun j => (hi _ _ (by omega) (by omega)).trans (i11 j), (hk _ (by omega) (by omega)).trans k12, (hl _ (by omega) (by omega)).trans l12, fun j => (hi _ _ (by omega) (by omega)).trans (i12 j)⟩,
    ⟨(hk _ (by omega) (by omega)).trans k13, (hl _ (by omega) (by omega)).trans l13, (hk _ (by omega) (by omega)).trans k14, (hi _ _ (by omega) (by omega)).trans i140, (hi _ _ (by omega) (by omega)).trans i141, (ha _ _ (by omega) (by omega)).trans a142, (ha _ _ (by omega) (by omega)).trans a143, (hk _ (by omega) (by omega)).trans k15, (hl _ (by omega) (by omega)).trans l15, fun j => (hi _ _ (by omega) (by omega)).trans (i15 j)⟩, fun q hq => ?_, fun q hq => ?_⟩
  · obtain ⟨e, w1, w2, w3, w4, w5, w6, w7⟩ := mb q hq
    exact ⟨(ha _ _ (by omega) (by omega)).trans e, (hk _ (by omega) (by omega)).trans w1, fun j h1 h2 => (hk _ (by omega) (by omega)).trans (w2 j h1 h2), fun j h1 h2 => (hl _ (by omega) (by omega)).trans (w3 j h1 h2), fun j h1 h2 => (hl _ (by omega) (by omega)).trans (w4 j h1 h2), fun j h1 h2 => (ha _ _ (by omega) (by omega)).trans (w5 j h1 h2), fun j h1 h2 => (ha _ _ (by omega) (by omega)).trans (w6 j h1 h2), fun c j hc => (hi _ _ (by omega) (by omega)).trans (w7 c j hc)⟩
  · obtain ⟨e, w1, w2, w3, w4, w5, w6, w7, w8, w9, w10⟩ := fb q hq
    exact ⟨(ha _ _ (by omega) (by omega)).trans e, (hk _ (by omega) (by omega)).trans w1, (ha _ _ (by omega) (by omega)).trans w2, (ha _ _ (by omega) (by omega)).trans w3, (hk _ (by omega) (by omega)).trans w4, (hl _ (by omega) (by omega)).trans w5, (hk _ (by omega) (by omega)).trans w6, fun k h => (ha _ _ (by omega) (by omega)).trans (w7 k h), fun k h => (hk _ (by omega) (by omega)).trans (w8 k h), (ha _ _ (by omega) (by omega)).trans w9, fun j => (hi _ _ (by omega) (by omega)).trans (w10 j)⟩
theorem faceI (xs : Nat → Int32) (L : Nat) : ∃ F, pX 1000 0 [.ref 4, .retAddr 0] [] (hp_mk (h00 xs L) 11 0 3) = some (none, F) ∧ CF xs L F := by
  generalize hx : hp_mk (hp_mk (h00 xs L) 11 0 3) 4 0 16 = x
  have xn : hp_n x = 6 := by rw [← hx]; rfl
  have xs_ : hp_s x = 19 := by rw [← hx]; rfl
  have xk5 : hp_k x 5 = 4 := by rw [← hx]; rfl
  have xk4 : hp_k x 4 = 11 := by rw [← hx]; rfl
  have xk1 : hp_k x 1 = 99 := by rw [← hx]; rfl
  have xk2 : hp_k x 2 = 99 := by rw [← hx]; rfl
  have xk3 : hp_k x 3 = 99 := by rw [← hx]; rfl
  have xl1 : hp_l x 1 = L := by rw [← hx]; rfl
  have xl2 : hp_l x 2 = 28 := by rw [← hx]; rfl
  have xl3 : hp_l x 3 = 28 := by rw [← hx]; rfl
  have xi1 : ∀ j, hp_i x 1 j = xs j := by intro j; rw [← hx]; rfl
  have xi2 : ∀ j, hp_i x 2 j = lookT j := by intro j; rw [← hx]; rfl
  have xi3 : ∀ j, hp_i x 3 j = makeT j := by intro j; rw [← hx]; rfl
  have xi5 : ∀ j, hp_i x 5 j = 0 := by intro j; rw [← hx]; rfl
  obtain ⟨g, g1, g2, g3, g4, g5⟩ := machI xn xk5 xi5
  have gk4 : hp_k (hp_wa g 4 0 5) 4 = 11 := by rw [hp_k_wa, (g5 4 (by omega)).1, xk4]
  obtain ⟨F, f1, f2, f3, f4, f5, f6, f7⟩ := faceB (g := hp_wa g 4 0 5) (by rw [hp_n_wa, g2]) gk4
  have Fk : ∀ y, y < 238 → hp_k F y = hp_k g y := by
    intro y hy
    have q : ∀ c, 238 ≤ c → ¬ y = c := by intro c hc; omega
    rw [f4, if_neg (q _ (by omega)), if_neg (q _ (by omega)), if_neg (q _ (by omega)), if_neg (q _ (by omega)), if_neg (q _ (by omega)), if_neg (q _ (by omega)), hp_k_wa]
  have Fl : ∀ y, y < 238 → hp_l F y = hp_l g y := by
    intro y hy
    have q : ∀ c, 238 ≤ c → ¬ y = c := by intro c hc; omega
    rw [f5, if_neg (q _ (by omega)), if_neg (q _ (by omega)), if_neg (q _ (by omega)), if_neg (q _ (by omega)), if_neg (q _ (by omega)), if_neg (q _ (by omega)), hp_l_wa]
  have Fi : ∀ y j, y < 238 → hp_i F y j = hp_i g y j := by
    intro y j hy
    have q : ∀ c, 238 ≤ c → ¬ y = c := by intro c hc; omega
    rw [f6]
    simp only [q 243 (by omega), q 242 (by omega), q 241 (by omega), q 240 (by omega), q 239 (by omega), q 238 (by omega), false_and, if_false, hp_i_wa]
  have Fa : ∀ y j, 5 ≤ y → y < 238 → hp_a F y j = hp_a g y j := by
    intro y j h5 hy
    have q : ∀ c, 238 ≤ c → ¬ y = c := by intro c hc; omega
    have q4 : ¬ y = 4 := by omega
    rw [f7]
    simp only [q 243 (by omega), q 242 (by omega), q 241 (by omega), q 240 (by omega), q 239 (by omega), q 238 (by omega), q4, false_and, if_false, hp_a_wa]
  refine ⟨F, ?_, f2, ?_, ⟨?_, ?_, ?_, ?_, ?_, ?_, fun j => ?_, fun j => ⟨?_, ?_⟩⟩, ⟨?_, ?_, ?_, ?_⟩, g4.to (fun y _ h => Fk y h) (fun y _ h => Fl y h) (fun y j _ h => Fi y j h) Fa, ⟨?_, ?_, ?_, ?_, ?_, ?_⟩, fun k hk => ?_⟩
  · rw [← f1]
    generalize hR : pX 1000 15 [.ref 4, .retAddr 0] [] (hp_wa g 4 0 5) = R
    have n5 : hp_n (hp_mk (h00 xs L) 11 0 3) = 5 := rfl
    simp only [x1000_0, x1000_1, x1000_4, x1000_5, x1000_8, x1000_9, x1000_12, show ¬ 4 = 0 from by omega, not_false_eq_true, n5, hx, xk5, g1, (g5 4 (by omega)).1, xk4, Option.bind_some, Option.toList_some, Option.toList_none, List.singleton_append, List.nil_append, List.cons_append]
    exact hR
  · rw [f3, hp_s_wa, g3, xs_]
  · rw [Fk _ (by omega), (g5 1 (by omega)).1, xk1]
  · rw [Fk _ (by omega), (g5 2 (by omega)).1, xk2]
  · rw [Fk _ (by omega), (g5 3 (by omega)).1, xk3]
  · rw [Fl _ (by omega), (g5 1 (by omega)).2.1, xl1]
  · rw [Fl _ (by omega), (g5 2 (by omega)).2.1, xl2]
  · rw [Fl _ (by omega), (g5 3 (by omega)).2.1, xl3]
  · rw [Fi _ _ (by omega), (g5 1 (by omega)).2.2, xi1]
  · rw [Fi _ _ (by omega), (g5 2 (by omega)).2.2, xi2]
  · rw [Fi _ _ (by omega), (g5 3 (by omega)).2.2, xi3]
  · rw [Fk _ (by omega), (g5 4 (by omega)).1, xk4]
  · rw [f7]; simp [hp_a_wa]
  · rw [f7]; simp
  · rw [f7]; simp
  · rw [f4]; simp
  · rw [f7]; simp
  · rw [f4]; simp
  · rw [f5]; simp
  · rw [f4]; simp
  · rw [f5]; simp
  · rw [f4, f6, f6, f7, f7, f7]
    have : k = 0 ∨ k = 1 ∨ k = 2 := by omega
    rcases this with rfl | rfl | rfl <;> simp
/-- all made -/
theorem lawI (xs : Nat → Int32) (L : Nat) : ∃ F, CF xs L F ∧ pX 1200 0 [.ref 1, .retAddr 0, .retAddr 0, .retAddr 0] [] (h00 xs L) = pX 1200 18 [.ref 1, .ref 4, .ref 244, .int (nI 0)] [] (mdH (hp_mk F 12 0 49)) := by
  obtain ⟨F, e, c⟩ := faceI xs L
  refine ⟨F, c, ?_⟩
  have n4 : hp_n (h00 xs L) = 4 := rfl
  have k4 : hp_k (hp_mk (h00 xs L) 11 0 3) 4 = 11 := rfl
  have mi := modI (h := hp_mk F 12 0 49) (by rw [hp_n_mk, c.1]) (by rw [hp_k_mk, c.1, if_pos rfl])
  have k244 : hp_k (hp_mk F 12 0 49) 244 = 12 := by rw [hp_k_mk, c.1, if_pos rfl]
  generalize hR : pX 1200 18 [.ref 1, .ref 4, .ref 244, .int (nI 0)] [] (mdH (hp_mk F 12 0 49)) = R
  simp only [x1200_0, x1200_3, x1200_4, x1200_7, x1200_8, x1200_11, x1200_12, x1200_15, x1200_16, x1200_17, n4, k4, e, c.1, k244, mi, Option.bind_some, Option.toList_some, Option.toList_none, List.singleton_append, List.nil_append, List.cons_append]
  exact hR
