/-! THE CONSTRUCTORS: the class's -/
/-- below N all stays as it was, but for place k of cell e -/
def SE (h h' : HP) (N e k : Nat) : Prop := ∀ y, y < N → hp_k h' y = hp_k h y ∧ hp_l h' y = hp_l h y ∧ (∀ j, hp_i h' y j = hp_i h y j) ∧ (∀ j, ¬ (y = e ∧ j = k) → hp_a h' y j = hp_a h y j)
def MB (h : HP) (a : Nat) : Prop := hp_k h a = 5 ∧ (∀ j, 1 ≤ j → j ≤ 8 → hp_k h (a + j) = 100) ∧ (∀ j, 1 ≤ j → j ≤ 4 → hp_l h (a + j) = 40) ∧ (∀ j, 5 ≤ j → j ≤ 8 → hp_l h (a + j) = 6) ∧ (∀ j, 1 ≤ j → j ≤ 4 → hp_a h a (j + 2) = a + j) ∧ (∀ j, 5 ≤ j → j ≤ 8 → hp_a h a (j + 3) = a + j) ∧ (∀ c j, c ≤ 8 → hp_i h (a + c) j = 0)
def FB (h : HP) (a : Nat) : Prop := hp_k h a = 2 ∧ hp_a h a 0 = a + 1 ∧ hp_a h a 1 = a + 2 ∧ hp_k h (a + 1) = 208 ∧ hp_l h (a + 1) = 8 ∧ hp_k h (a + 2) = 9 ∧ (∀ k, k < 8 → hp_a h (a + 1) k = a + 3 + k) ∧ (∀ k, k < 8 → hp_k h (a + 3 + k) = 9) ∧ hp_a h a 5 = 0 ∧ (∀ j, hp_i h a j = 0)
theorem SE.trans {h h1 h2 : HP} {N e k : Nat} (w : SE h h1 N e k) (w2 : SE h1 h2 N e k) : SE h h2 N e k := fun y hy => by
  obtain ⟨a1, a2, a3, a4⟩ := w y hy
  obtain ⟨b1, b2, b3, b4⟩ := w2 y hy
  exact ⟨b1.trans a1, b2.trans a2, fun j => (b3 j).trans (a3 j), fun j hj => (b4 j hj).trans (a4 j hj)⟩
theorem SE.lt {h h1 : HP} {N N' e k : Nat} (w : SE h h1 N e k) (hn : N' ≤ N) : SE h h1 N' e k := fun y hy => w y (by omega)
theorem SE.far {h h1 : HP} {N e k e' k' : Nat} (w : SE h h1 N e k) (he : N ≤ e) : SE h h1 N e' k' := fun y hy => by
  obtain ⟨a1, a2, a3, a4⟩ := w y hy
  exact ⟨a1, a2, a3, fun j _ => a4 j (by omega)⟩
theorem SE.mk {h : HP} {t l s e k : Nat} : SE h (hp_mk h t l s) (hp_n h) e k := fun y hy => by
  refine ⟨?_, ?_, fun j => ?_, fun j _ => ?_⟩
  · rw [hp_k_mk, if_neg (by omega)]
  · rw [hp_l_mk, if_neg (by omega)]
  · rw [hp_i_mk, if_neg (by omega)]
  · rw [hp_a_mk, if_neg (by omega)]
theorem SE.wa {h : HP} {e k v N : Nat} : SE h (hp_wa h e k v) N e k := fun y _ => by
  refine ⟨by rw [hp_k_wa], by rw [hp_l_wa], fun j => by rw [hp_i_wa], fun j hj => ?_⟩
  rw [hp_a_wa, if_neg hj]
theorem MB.se {h h' : HP} {a N e k : Nat} (w : MB h a) (s : SE h h' N e k) (hN : a + 8 < N) (he : e < a ∨ a + 8 < e) : MB h' a := by
  obtain ⟨w1, w2, w3, w4, w5, w6, w7⟩ := w
  refine ⟨(s a (by omega)).1.trans w1, fun j h1 h2 => (s _ (by omega)).1.trans (w2 j h1 h2), fun j h1 h2 => (s _ (by omega)).2.1.trans (w3 j h1 h2), fun j h1 h2 => (s _ (by omega)).2.1.trans (w4 j h1 h2), fun j h1 h2 => ((s a (by omega)).2.2.2 _ (by omega)).trans (w5 j h1 h2), fun j h1 h2 => ((s a (by omega)).2.2.2 _ (by omega)).trans (w6 j h1 h2), fun c j hc => ((s _ (by omega)).2.2.1 j).trans (w7 c j hc)⟩
theorem FB.se {h h' : HP} {a N e k : Nat} (w : FB h a) (s : SE h h' N e k) (hN : a + 10 < N) (he : e < a ∨ a + 10 < e) : FB h' a := by
  obtain ⟨w1, w2, w3, w4, w5, w6, w7, w8, w9, w10⟩ := w
  refine ⟨(s a (by omega)).1.trans w1, ((s a (by omega)).2.2.2 _ (by omega)).trans w2, ((s a (by omega)).2.2.2 _ (by omega)).trans w3, (s _ (by omega)).1.trans w4, (s _ (by omega)).2.1.trans w5, (s _ (by omega)).1.trans w6, fun k hk => ((s _ (by omega)).2.2.2 _ (by omega)).trans (w7 k hk), fun k hk => (s _ (by omega)).1.trans (w8 k hk), ((s a (by omega)).2.2.2 _ (by omega)).trans w9, fun j => ((s a (by omega)).2.2.1 j).trans (w10 j)⟩
/-- an array of ints for place k of cell a -/
def stA (h : HP) (a k l : Nat) : HP := hp_wa (hp_mk h 100 l l) a k (hp_n h)
theorem stA_n (h : HP) (a k l : Nat) : hp_n (stA h a k l) = hp_n h + 1 := rfl
theorem stA_s (h : HP) (a k l : Nat) : hp_s (stA h a k l) = hp_s h + l := rfl
theorem stA_k (h : HP) (a k l y : Nat) : hp_k (stA h a k l) y = if y = hp_n h then 100 else hp_k h y := rfl
theorem stA_l (h : HP) (a k l y : Nat) : hp_l (stA h a k l) y = if y = hp_n h then l else hp_l h y := rfl
theorem stA_i (h : HP) (a k l y j : Nat) : hp_i (stA h a k l) y j = if y = hp_n h then 0 else hp_i h y j := rfl
theorem stA_a (h : HP) (a k l y j : Nat) : hp_a (stA h a k l) y j = if y = a ∧ j = k then hp_n h else if y = hp_n h then 0 else hp_a h y j := rfl
theorem sp_slotI {h : HP} {a : Nat} (hk : hp_k h a = 9) (h0 : ¬ a = 0) : pX 800 0 [.ref a] [] h = some (none, hp_wi h a 0 (-5)) := by
  simp only [x800_0, x800_1, x800_4, x800_5, x800_7, x800_10, h0, hk, not_false_eq_true]
def mbH (h : HP) (a : Nat) : HP := stA (stA (stA (stA (stA (stA (stA (stA h a 3 40) a 4 40) a 5 40) a 6 40) a 8 6) a 9 6) a 10 6) a 11 6
theorem sp_memI {h : HP} {a : Nat} (hk : hp_k h a = 5) (h0 : ¬ a = 0) (hn : a < hp_n h) : pX 400 0 [.ref a] [] h = some (none, mbH h a) := by
  have e40 : ix (40 : Int32) = 40 := ix_nI (n := 40) (by omega)
  have e6 : ix (6 : Int32) = 6 := ix_nI (n := 6) (by omega)
  have st : ∀ (x : HP) (k l : Nat), hp_wa (hp_mk x 100 l l) a k (hp_n x) = stA x a k l := fun _ _ _ => rfl
  have g : ∀ (x : HP) (l : Nat), hp_k x a = 5 ∧ a < hp_n x → hp_k (hp_mk x 100 l l) a = 5 := fun x l hx => by rw [hp_k_mk, if_neg (by omega)]; exact hx.1
  have f : ∀ (x : HP) (k l : Nat), hp_k x a = 5 ∧ a < hp_n x → hp_k (stA x a k l) a = 5 ∧ a < hp_n (stA x a k l) := fun x k l hx => ⟨by rw [stA_k, if_neg (by omega)]; exact hx.1, by rw [stA_n]; omega⟩
  have z40 : (0 : Int32) ≤ 40 := by decide
  have z6 : (0 : Int32) ≤ 6 := by decide
  have f0 : hp_k h a = 5 ∧ a < hp_n h := ⟨hk, hn⟩
  have f1 := f _ 3 40 f0
  have f2 := f _ 4 40 f1
  have f3 := f _ 5 40 f2
  have f4 := f _ 6 40 f3
  have f5 := f _ 8 6 f4
  have f6 := f _ 9 6 f5
  have f7 := f _ 10 6 f6
  have g0 := g _ 40 f0
  have g1 := g _ 40 f1
  have g2 := g _ 40 f2
  have g3 := g _ 40 f3
  have g4 := g _ 6 f4
  have g5 := g _ 6 f5
  have g6 := g _ 6 f6
  have g7 := g _ 6 f7
  simp only [x400_0, x400_1, x400_4, x400_5, x400_7, x400_9, x400_12, x400_13, x400_15, x400_17, x400_20, x400_21, x400_23, x400_25, x400_28, x400_29, x400_31, x400_33, x400_36, x400_37, x400_39, x400_41, x400_44, x400_45, x400_47, x400_49, x400_52, x400_53, x400_55, x400_57, x400_60, x400_61, x400_63, x400_65, x400_68, h0, not_false_eq_true, e40, e6, z40, z6, show 40 ≤ 134217728 from by omega, show 6 ≤ 134217728 from by omega, st, g0, g1, g2, g3, g4, g5, g6, g7]
  rfl
theorem mbH_f {h : HP} {a : Nat} (hk : hp_k h a = 5) (hn : hp_n h = a + 1) (hi : ∀ j, hp_i h a j = 0) : MB (mbH h a) a ∧ hp_n (mbH h a) = a + 9 ∧ hp_s (mbH h a) = hp_s h + 184 ∧ ∀ e k, SE h (mbH h a) a e k := by
  refine ⟨⟨?_, ?_, ?_, ?_, ?_, ?_, ?_⟩, ?_, ?_, ?_⟩
  · simp only [mbH, stA_k, stA_n, hn, Nat.add_assoc, Nat.reduceAdd]
    simp [hk]
  · intro j h1 h2
    have : j = 1 ∨ j = 2 ∨ j = 3 ∨ j = 4 ∨ j = 5 ∨ j = 6 ∨ j = 7 ∨ j = 8 := by omega
    rcases this with rfl | rfl | rfl | rfl | rfl | rfl | rfl | rfl <;> simp [mbH, stA_k, stA_n, hn, Nat.add_assoc]
  · intro j h1 h2
    have : j = 1 ∨ j = 2 ∨ j = 3 ∨ j = 4 := by omega
    rcases this with rfl | rfl | rfl | rfl <;> simp [mbH, stA_l, stA_n, hn, Nat.add_assoc]
  · intro j h1 h2
    have : j = 5 ∨ j = 6 ∨ j = 7 ∨ j = 8 := by omega
    rcases this with rfl | rfl | rfl | rfl <;> simp [mbH, stA_l, stA_n, hn, Nat.add_assoc]
  · intro j h1 h2
    have : j = 1 ∨ j = 2 ∨ j = 3 ∨ j = 4 := by omega
    rcases this with rfl | rfl | rfl | rfl <;> simp [mbH, stA_a, stA_n, hn, Nat.add_assoc]
  · intro j h1 h2
    have : j = 5 ∨ j = 6 ∨ j = 7 ∨ j = 8 := by omega
    rcases this with rfl | rfl | rfl | rfl <;> simp [mbH, stA_a, stA_n, hn, Nat.add_assoc]
  · intro c j hc
    have : c = 0 ∨ c = 1 ∨ c = 2 ∨ c = 3 ∨ c = 4 ∨ c = 5 ∨ c = 6 ∨ c = 7 ∨ c = 8 := by omega
    rcases this with rfl | rfl | rfl | rfl | rfl | rfl | rfl | rfl | rfl <;> simp [mbH, stA_i, stA_n, hn, Nat.add_assoc, hi]
  · simp [mbH, stA_n, hn, Nat.add_assoc]
  · simp [mbH, stA_s, Nat.add_assoc]
  · intro e k y hy
    have q : ∀ c, ¬ y = a + c := by intro c; omega
    have q0 : ¬ y = a := by omega
    refine ⟨?_, ?_, fun j => ?_, fun j _ => ?_⟩
    · simp only [mbH, stA_k, stA_n, hn, Nat.add_assoc, q, if_false]
    · simp only [mbH, stA_l, stA_n, hn, Nat.add_assoc, q, if_false]
    · simp only [mbH, stA_i, stA_n, hn, Nat.add_assoc, q, if_false]
    · simp only [mbH, stA_a, stA_n, hn, Nat.add_assoc, q, q0, if_false, false_and]
/-- the frame's registers -/
theorem fr_loop {a c : Nat} : ∀ (n q : Nat) (h : HP), q + n = 8 → 1 ≤ a → hp_n h = a + 3 + q → hp_k h a = 2 → hp_a h a 0 = a + 1 → hp_k h (a + 1) = 208 → hp_l h (a + 1) = 8 → (∀ k, k < q → hp_a h (a + 1) k = a + 3 + k ∧ hp_k h (a + 3 + k) = 9) →
    ∃ h', pX 100 31 [.ref a, .ref c, .int (nI q)] [] h = some (none, h') ∧ hp_n h' = a + 11 ∧ hp_s h' = hp_s h + 4 * n ∧ (∀ k, k < 8 → hp_a h' (a + 1) k = a + 3 + k ∧ hp_k h' (a + 3 + k) = 9) ∧ (∀ y, y < a + 3 → hp_k h' y = hp_k h y ∧ hp_l h' y = hp_l h y ∧ (∀ j, hp_i h' y j = hp_i h y j) ∧ (y ≠ a + 1 → ∀ j, hp_a h' y j = hp_a h y j)) := by
  intro n
  induction n with
  | zero =>
    intro q h hq h1 hn k1 a1 k2 l2 fs
    have hq2 : q = 8 := by omega
    subst hq2
    refine ⟨h, ?_, by omega, by omega, fs, fun y _ => ⟨rfl, rfl, fun _ => rfl, fun _ _ => rfl⟩⟩
    simp only [x100_31, x100_32, x100_34, x100_56, show (8 : Int32) ≤ nI 8 from by decide, if_true]
  | succ n ih =>
    intro q h hq h1 hn k1 a1 k2 l2 fs
    have l1 : ¬ (8 : Int32) ≤ nI q := fun z => by have := (vle (a := 8) (b := q) (by omega) (by omega)).mp z; omega
    have e1 : inb (nI q) 8 = true := inb_nI (by omega) (by omega)
    have e2 : ix (nI q) = q := ix_nI (by omega)
    have et : nI q + 1 = nI (q + 1) := nI_add q 1
    have s9 : pX 800 0 [.ref (a + 3 + q)] [] (hp_mk h 9 0 4) = some (none, hp_wi (hp_mk h 9 0 4) (a + 3 + q) 0 (-5)) := sp_slotI (by rw [hp_k_mk, hn, if_pos rfl]) (by omega)
    generalize hg : hp_wa (hp_wi (hp_mk h 9 0 4) (a + 3 + q) 0 (-5)) (a + 1) q (a + 3 + q) = g
    have gk : ∀ y, hp_k g y = if y = a + 3 + q then 9 else hp_k h y := by intro y; rw [← hg, hp_k_wa, hp_k_wi, hp_k_mk, hn]
    have gl : ∀ y, hp_l g y = if y = a + 3 + q then 0 else hp_l h y := by intro y; rw [← hg, hp_l_wa, hp_l_wi, hp_l_mk, hn]
    have gi : ∀ y j, y ≠ a + 3 + q → hp_i g y j = hp_i h y j := by intro y j hy; rw [← hg, hp_i_wa, hp_i_wi, if_neg (by omega), hp_i_mk, hn, if_neg hy]
    have ga : ∀ y j, hp_a g y j = if y = a + 1 ∧ j = q then a + 3 + q else if y = a + 3 + q then 0 else hp_a h y j := by intro y j; rw [← hg, hp_a_wa, hp_a_wi, hp_a_mk, hn]
    have gn : hp_n g = a + 3 + q + 1 := by rw [← hg, hp_n_wa, hp_n_wi, hp_n_mk, hn]
    have gs : hp_s g = hp_s h + 4 := by rw [← hg, hp_s_wa, hp_s_wi, hp_s_mk]
    obtain ⟨h', p1, p2, p3, p4, p5⟩ := ih (q + 1) g (by omega) h1 (by omega) (by rw [gk, if_neg (by omega), k1]) (by rw [ga, if_neg (by omega), if_neg (by omega), a1]) (by rw [gk, if_neg (by omega), k2]) (by rw [gl, if_neg (by omega), l2]) (by
      intro k hk
      rw [ga, gk]
      by_cases z : k = q
      · rw [if_pos ⟨rfl, z⟩, z, if_pos rfl]; exact ⟨rfl, rfl⟩
      · rw [if_neg (by omega), if_neg (by omega), if_neg (by omega)]; exact fs k (by omega))
    refine ⟨h', ?_, p2, by omega, p4, fun y hy => ?_⟩
    · rw [← p1]
      generalize hR : pX 100 31 [.ref a, .ref c, .int (nI (q + 1))] [] g = R
      have q1 : ¬ a = a + 3 + q := by omega
      have q2 : ¬ a + 1 = a + 3 + q := by omega
      simp only [x100_31, x100_32, x100_34, x100_37, x100_38, x100_41, x100_42, x100_45, x100_46, x100_49, x100_50, l1, if_false, k1, a1, hn, s9, hp_k_mk, hp_k_wi, hp_l_mk, hp_l_wi, q2, k2, l2, e1, e2, et, if_true, show 200 ≤ 208 from by omega, show 9 + 199 = 208 from rfl, or_true, hg, Option.bind_some, Option.toList_some, Option.toList_none, List.singleton_append, List.nil_append, List.cons_append]
      rw [x100_53]
      exact hR
    · obtain ⟨u1, u2, u3, u4⟩ := p5 y hy
      refine ⟨by rw [u1, gk, if_neg (by omega)], by rw [u2, gl, if_neg (by omega)], fun j => by rw [u3 j, gi y j (by omega)], fun hy2 j => ?_⟩
      rw [u4 hy2 j, ga, if_neg (by omega), if_neg (by omega)]
theorem sp_frI {a c : Nat} {h : HP} (h1 : 1 ≤ a) (hn : hp_n h = a + 1) (hk : hp_k h a = 2) (hi : ∀ j, hp_i h a j = 0) (ha : ∀ j, hp_a h a j = 0) :
    ∃ h', pX 100 0 [.ref a, .ref c, .retAddr 0] [] h = some (none, h') ∧ hp_n h' = a + 11 ∧ hp_s h' = hp_s h + 44 ∧ FB h' a ∧ ∀ e k, SE h h' a e k := by
  have h0 : ¬ a = 0 := by omega
  have e8 : ix (8 : Int32) = 8 := ix_nI (n := 8) (by omega)
  have z8 : (0 : Int32) ≤ 8 := by decide
  have s9 : pX 800 0 [.ref (a + 2)] [] (hp_mk (hp_wa (hp_mk h 208 8 8) a 0 (a + 1)) 9 0 4) = some (none, hp_wi (hp_mk (hp_wa (hp_mk h 208 8 8) a 0 (a + 1)) 9 0 4) (a + 2) 0 (-5)) := sp_slotI (by rw [hp_k_mk, hp_n_wa, hp_n_mk, hn, if_pos rfl]) (by omega)
  generalize hg : hp_wa (hp_wa (hp_wi (hp_mk (hp_wa (hp_mk h 208 8 8) a 0 (a + 1)) 9 0 4) (a + 2) 0 (-5)) a 1 (a + 2)) a 2 c = g
  have gk : ∀ y, hp_k g y = if y = a + 2 then 9 else if y = a + 1 then 208 else hp_k h y := by intro y; rw [← hg, hp_k_wa, hp_k_wa, hp_k_wi, hp_k_mk, hp_n_wa, hp_n_mk, hn, hp_k_wa, hp_k_mk, hn]
  have gl : ∀ y, hp_l g y = if y = a + 2 then 0 else if y = a + 1 then 8 else hp_l h y := by intro y; rw [← hg, hp_l_wa, hp_l_wa, hp_l_wi, hp_l_mk, hp_n_wa, hp_n_mk, hn, hp_l_wa, hp_l_mk, hn]
  have gi : ∀ y j, y ≤ a → hp_i g y j = hp_i h y j := by intro y j hy; rw [← hg, hp_i_wa, hp_i_wa, hp_i_wi, if_neg (by omega), hp_i_mk, hp_n_wa, hp_n_mk, hn, if_neg (by omega), hp_i_wa, hp_i_mk, hn, if_neg (by omega)]
  have ga : ∀ y j, hp_a g y j = if y = a ∧ j = 2 then c else if y = a ∧ j = 1 then a + 2 else if y = a + 2 then 0 else if y = a ∧ j = 0 then a + 1 else if y = a + 1 then 0 else hp_a h y j := by intro y j; rw [← hg, hp_a_wa, hp_a_wa, hp_a_wi, hp_a_mk, hp_n_wa, hp_n_mk, hn, hp_a_wa, hp_a_mk, hn]
  have gn : hp_n g = a + 3 := by rw [← hg, hp_n_wa, hp_n_wa, hp_n_wi, hp_n_mk, hp_n_wa, hp_n_mk, hn]
  have gs : hp_s g = hp_s h + 12 := by rw [← hg, hp_s_wa, hp_s_wa, hp_s_wi, hp_s_mk, hp_s_wa, hp_s_mk]
  obtain ⟨h', p1, p2, p3, p4, p5⟩ := fr_loop (a := a) (c := c) 8 0 g (by omega) h1 (by omega) (by rw [gk, if_neg (by omega), if_neg (by omega), hk]) (by rw [ga, if_neg (by omega), if_neg (by omega), if_neg (by omega), if_pos ⟨rfl, rfl⟩]) (by rw [gk, if_neg (by omega), if_pos rfl]) (by rw [gl, if_neg (by omega), if_pos rfl]) (fun k hk => absurd hk (by omega))
  refine ⟨h', ?_, p2, by omega, ?_, fun e k y hy => ?_⟩
  · rw [← p1]
    generalize hR : pX 100 31 [.ref a, .ref c, .int (nI 0)] [] g = R
    have q1 : ¬ a = a + 1 := by omega
    have q2 : ¬ a = a + 1 + 1 := by omega
    have q3 : ¬ a = a + 2 := by omega
    simp only [x100_0, x100_1, x100_4, x100_5, x100_7, x100_10, x100_13, x100_14, x100_17, x100_18, x100_21, x100_24, x100_25, x100_26, x100_29, x100_30, h0, not_false_eq_true, e8, z8, show 8 ≤ 134217728 from by omega, hn, hp_n_wa, hp_n_mk, hp_k_mk, hp_k_wa, hp_k_wi, q1, q2, q3, if_false, if_true, hk, show a + 1 + 1 = a + 2 from rfl, s9, hg, Option.bind_some, Option.toList_some, Option.toList_none, List.singleton_append, List.nil_append, List.cons_append]
    exact hR
  · obtain ⟨u1, u2, u3, u4⟩ := p5 a (by omega)
    obtain ⟨v1, v2, v3, v4⟩ := p5 (a + 1) (by omega)
    obtain ⟨w1, w2, w3, w4⟩ := p5 (a + 2) (by omega)
    refine ⟨?_, ?_, ?_, ?_, ?_, ?_, fun k hk => (p4 k hk).1, fun k hk => (p4 k hk).2, ?_, fun j => ?_⟩
    · rw [u1, gk, if_neg (by omega), if_neg (by omega), hk]
    · rw [u4 (by omega), ga, if_neg (by omega), if_neg (by omega), if_neg (by omega), if_pos ⟨rfl, rfl⟩]
    · rw [u4 (by omega), ga, if_neg (by omega), if_pos ⟨rfl, rfl⟩]
    · rw [v1, gk, if_neg (by omega), if_pos rfl]
    · rw [v2, gl, if_neg (by omega), if_pos rfl]
    · rw [w1, gk, if_pos rfl]
    · rw [u4 (by omega), ga, if_neg (by omega), if_neg (by omega), if_neg (by omega), if_neg (by omega), if_neg (by omega), ha]
    · rw [u3 j, gi a j (by omega), hi]
  · obtain ⟨u1, u2, u3, u4⟩ := p5 y (by omega)
    refine ⟨by rw [u1, gk, if_neg (by omega), if_neg (by omega)], by rw [u2, gl, if_neg (by omega), if_neg (by omega)], fun j => by rw [u3 j, gi y j (by omega)], fun j _ => ?_⟩
    rw [u4 (by omega) j, ga, if_neg (by omega), if_neg (by omega), if_neg (by omega), if_neg (by omega), if_neg (by omega)]
