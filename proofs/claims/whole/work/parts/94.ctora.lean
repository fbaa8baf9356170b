/-! THE CONSTRUCTORS: the machine, the face -/
/-- below N all stays as it was, but for the references of cell e -/
def S1 (h h' : HP) (N e : Nat) : Prop := ∀ y, y < N → hp_k h' y = hp_k h y ∧ hp_l h' y = hp_l h y ∧ (∀ j, hp_i h' y j = hp_i h y j) ∧ (y ≠ e → ∀ j, hp_a h' y j = hp_a h y j)
theorem S1.trans {h h1 h2 : HP} {N e : Nat} (w : S1 h h1 N e) (w2 : S1 h1 h2 N e) : S1 h h2 N e := fun y hy => by
  obtain ⟨a1, a2, a3, a4⟩ := w y hy
  obtain ⟨b1, b2, b3, b4⟩ := w2 y hy
  exact ⟨b1.trans a1, b2.trans a2, fun j => (b3 j).trans (a3 j), fun he j => (b4 he j).trans (a4 he j)⟩
theorem SE.s1 {h h1 : HP} {N e k : Nat} (w : SE h h1 N e k) : S1 h h1 N e := fun y hy => by
  obtain ⟨a1, a2, a3, a4⟩ := w y hy
  exact ⟨a1, a2, a3, fun he j => a4 j (fun q => he q.1)⟩
theorem S1.lt {h h1 : HP} {N N' e : Nat} (w : S1 h h1 N e) (hn : N' ≤ N) : S1 h h1 N' e := fun y hy => w y (by omega)
theorem mem_loop : ∀ (n i : Nat) (h : HP), i + n = 10 → hp_n h = 16 + 9 * i → hp_k h 5 = 4 → hp_a h 5 0 = 6 → hp_k h 6 = 204 → hp_l h 6 = 10 → (∀ q, q < i → hp_a h 6 q = 16 + 9 * q ∧ MB h (16 + 9 * q)) →
    ∃ h', pX 300 81 [.ref 5, .int (nI i)] [] h = pX 300 106 [.ref 5, .int (nI 10)] [] h' ∧ hp_n h' = 106 ∧ hp_s h' = hp_s h + 196 * n ∧ (∀ q, q < 10 → hp_a h' 6 q = 16 + 9 * q ∧ MB h' (16 + 9 * q)) ∧ S1 h h' 16 6 := by
  intro n
  induction n with
  | zero =>
    intro i h hi hn k5 a5 k6 l6 fs
    have hi2 : i = 10 := by omega
    subst hi2
    refine ⟨h, ?_, by omega, by omega, fs, fun y _ => ⟨rfl, rfl, fun _ => rfl, fun _ _ => rfl⟩⟩
    simp only [x300_81, x300_82, x300_84, show (10 : Int32) ≤ nI 10 from by decide, if_true]
  | succ n ih =>
    intro i h hi hn k5 a5 k6 l6 fs
    have l1 : ¬ (10 : Int32) ≤ nI i := fun z => by have := (vle (a := 10) (b := i) (by omega) (by omega)).mp z; omega
    have e1 : inb (nI i) 10 = true := inb_nI (by omega) (by omega)
    have e2 : ix (nI i) = i := ix_nI (by omega)
    have et : nI i + 1 = nI (i + 1) := nI_add i 1
    have mI := sp_memI (h := hp_mk h 5 0 12) (a := 16 + 9 * i) (by rw [hp_k_mk, hn, if_pos rfl]) (by omega) (by rw [hp_n_mk]; omega)
    have mf := mbH_f (h := hp_mk h 5 0 12) (a := 16 + 9 * i) (by rw [hp_k_mk, hn, if_pos rfl]) (by rw [hp_n_mk]; omega) (fun j => by rw [hp_i_mk, hn, if_pos rfl])
    generalize mbH (hp_mk h 5 0 12) (16 + 9 * i) = g at mI mf
    obtain ⟨m1, m2, m3, m4⟩ := mf
    have s0 : SE h (hp_mk h 5 0 12) (16 + 9 * i) 6 i := by rw [← hn]; exact SE.mk
    have s1 := s0.trans (m4 6 i)
    have s2 : SE h (hp_wa g 6 i (16 + 9 * i)) (16 + 9 * i) 6 i := s1.trans SE.wa
    have sA : SE g (hp_wa g 6 i (16 + 9 * i)) (16 + 9 * i + 9) 6 i := SE.wa
    obtain ⟨h', p1, p2, p3, p4, p5⟩ := ih (i + 1) (hp_wa g 6 i (16 + 9 * i)) (by omega) (by rw [hp_n_wa, m2]; omega) ((s2 5 (by omega)).1.trans k5) (((s2 5 (by omega)).2.2.2 0 (by omega)).trans a5) ((s2 6 (by omega)).1.trans k6) ((s2 6 (by omega)).2.1.trans l6) (by
      intro q hq
      by_cases z : q = i
      · subst z
        exact ⟨by rw [hp_a_wa, if_pos ⟨rfl, rfl⟩], m1.se sA (by omega) (by omega)⟩
      · obtain ⟨f1, f2⟩ := fs q (by omega)
        exact ⟨((s2 6 (by omega)).2.2.2 q (by omega)).trans f1, f2.se s2 (by omega) (by omega)⟩)
    refine ⟨h', ?_, p2, ?_, p4, (s2.lt (by omega)).s1.trans p5⟩
    · rw [← p1]
      generalize hR : pX 300 81 [.ref 5, .int (nI (i + 1))] [] _ = R
      have q1 : ¬ 5 = 16 + 9 * i := by omega
      simp only [x300_81, x300_82, x300_84, x300_87, x300_88, x300_91, x300_92, x300_95, x300_96, x300_99, x300_100, l1, if_false, k5, a5, hn, hp_k_mk, if_true, mI, (s1 6 (by omega)).1, (s1 6 (by omega)).2.1, k6, l6, m1.1, e1, e2, et, show 200 ≤ 204 from by omega, show 5 + 199 = 204 from rfl, or_true, Option.bind_some, Option.toList_some, Option.toList_none, List.singleton_append, List.nil_append, List.cons_append]
      rw [x300_103]
      exact hR
    · rw [p3, hp_s_wa, m3, hp_s_mk]; omega
theorem fra_loop : ∀ (n i : Nat) (h : HP), i + n = 12 → hp_n h = 106 + 11 * i → hp_k h 5 = 4 → hp_a h 5 0 = 6 → hp_k h 6 = 204 → hp_l h 6 = 10 → hp_a h 6 0 = 16 → hp_a h 5 6 = 13 → hp_k h 13 = 201 → hp_l h 13 = 12 → (∀ q, q < i → hp_a h 13 q = 106 + 11 * q ∧ FB h (106 + 11 * q)) →
    ∃ h', pX 300 108 [.ref 5, .int (nI i)] [] h = some (none, h') ∧ hp_n h' = 238 ∧ hp_s h' = hp_s h + 51 * n ∧ (∀ q, q < 12 → hp_a h' 13 q = 106 + 11 * q ∧ FB h' (106 + 11 * q)) ∧ S1 h h' 106 13 := by
  intro n
  induction n with
  | zero =>
    intro i h hi hn k5 a5 k6 l6 a6 a56 k13 l13 fs
    have hi2 : i = 12 := by omega
    subst hi2
    refine ⟨h, ?_, by omega, by omega, fs, fun y _ => ⟨rfl, rfl, fun _ => rfl, fun _ _ => rfl⟩⟩
    simp only [x300_108, x300_109, x300_111, x300_139, show (12 : Int32) ≤ nI 12 from by decide, if_true]
  | succ n ih =>
    intro i h hi hn k5 a5 k6 l6 a6 a56 k13 l13 fs
    have l1 : ¬ (12 : Int32) ≤ nI i := fun z => by have := (vle (a := 12) (b := i) (by omega) (by omega)).mp z; omega
    have e1 : inb (nI i) 12 = true := inb_nI (by omega) (by omega)
    have e2 : ix (nI i) = i := ix_nI (by omega)
    have et : nI i + 1 = nI (i + 1) := nI_add i 1
    have i0 : inb (0 : Int32) 10 = true := inb_nI (n := 0) (by omega) (by omega)
    have x0 : ix (0 : Int32) = 0 := ix_nI (n := 0) (by omega)
    obtain ⟨g, f1, f2, f3, f4, f5⟩ := sp_frI (h := hp_mk h 2 0 7) (a := 106 + 11 * i) (c := 16) (by omega) (by rw [hp_n_mk, hn]) (by rw [hp_k_mk, hn, if_pos rfl]) (fun j => by rw [hp_i_mk, hn, if_pos rfl]) (fun j => by rw [hp_a_mk, hn, if_pos rfl])
    have s0 : SE h (hp_mk h 2 0 7) (106 + 11 * i) 13 i := by rw [← hn]; exact SE.mk
    have s1 := s0.trans (f5 13 i)
    have s2 : SE h (hp_wa g 13 i (106 + 11 * i)) (106 + 11 * i) 13 i := s1.trans SE.wa
    have sA : SE g (hp_wa g 13 i (106 + 11 * i)) (106 + 11 * i + 11) 13 i := SE.wa
    obtain ⟨h', p1, p2, p3, p4, p5⟩ := ih (i + 1) (hp_wa g 13 i (106 + 11 * i)) (by omega) (by rw [hp_n_wa, f2]; omega) ((s2 5 (by omega)).1.trans k5) (((s2 5 (by omega)).2.2.2 0 (by omega)).trans a5) ((s2 6 (by omega)).1.trans k6) ((s2 6 (by omega)).2.1.trans l6) (((s2 6 (by omega)).2.2.2 0 (by omega)).trans a6) (((s2 5 (by omega)).2.2.2 6 (by omega)).trans a56) ((s2 13 (by omega)).1.trans k13) ((s2 13 (by omega)).2.1.trans l13) (by
      intro q hq
      by_cases z : q = i
      · subst z
        exact ⟨by rw [hp_a_wa, if_pos ⟨rfl, rfl⟩], f4.se sA (by omega) (by omega)⟩
      · obtain ⟨g1, g2⟩ := fs q (by omega)
        exact ⟨((s2 13 (by omega)).2.2.2 q (by omega)).trans g1, g2.se s2 (by omega) (by omega)⟩)
    refine ⟨h', ?_, p2, ?_, p4, (s2.lt (by omega)).s1.trans p5⟩
    · rw [← p1]
      generalize hR : pX 300 108 [.ref 5, .int (nI (i + 1))] [] _ = R
      have q5 : ¬ 5 = 106 + 11 * i := by omega
      have q6 : ¬ 6 = 106 + 11 * i := by omega
      simp only [x300_108, x300_109, x300_111, x300_114, x300_115, x300_118, x300_119, x300_122, x300_123, x300_124, x300_127, x300_128, x300_129, x300_132, x300_133, l1, if_false, k5, a5, a56, hn, hp_k_mk, hp_a_mk, hp_l_mk, q5, q6, k6, l6, a6, i0, x0, if_true, f1, (s1 13 (by omega)).1, (s1 13 (by omega)).2.1, k13, l13, f4.1, e1, e2, et, show 200 ≤ 204 from by omega, show 200 ≤ 201 from by omega, show 2 + 199 = 201 from rfl, or_true, Option.bind_some, Option.toList_some, Option.toList_none, List.singleton_append, List.nil_append, List.cons_append]
      rw [x300_136]
      exact hR
    · rw [p3, hp_s_wa, f3, hp_s_mk]; omega
/-- the purse -/
theorem sp_purI {x : HP} (hn : hp_n x = 8) (hk : hp_k x 7 = 7) : ∃ g, pX 600 0 [.ref 7] [] x = some (none, g) ∧ hp_n g = 10 ∧ hp_s g = hp_s x + 14 ∧
    (∀ y, hp_k g y = if y = 9 then 100 else if y = 8 then 100 else hp_k x y) ∧ (∀ y, hp_l g y = if y = 9 then 9 else if y = 8 then 5 else hp_l x y) ∧
    (∀ y j, hp_i g y j = if y = 7 ∧ j = 3 then 6000 else if y = 9 then 0 else if y = 8 ∧ j = 4 then 1 else if y = 8 ∧ j = 3 then 1 else if y = 8 ∧ j = 2 then 1 else if y = 8 ∧ j = 1 then 1 else if y = 8 ∧ j = 0 then 1 else if y = 8 then 0 else hp_i x y j) ∧
    (∀ y j, hp_a g y j = if y = 7 ∧ j = 1 then 9 else if y = 9 then 0 else if y = 7 ∧ j = 0 then 8 else if y = 8 then 0 else hp_a x y j) := by
  have e5 : ix (5 : Int32) = 5 := ix_nI (n := 5) (by omega)
  have e9 : ix (9 : Int32) = 9 := ix_nI (n := 9) (by omega)
  have z5 : (0 : Int32) ≤ 5 := by decide
  have z9 : (0 : Int32) ≤ 9 := by decide
  have x0 : ix (0 : Int32) = 0 := ix_nI (n := 0) (by omega)
  have x1 : ix (1 : Int32) = 1 := ix_nI (n := 1) (by omega)
  have x2 : ix (2 : Int32) = 2 := ix_nI (n := 2) (by omega)
  have x3 : ix (3 : Int32) = 3 := ix_nI (n := 3) (by omega)
  have x4 : ix (4 : Int32) = 4 := ix_nI (n := 4) (by omega)
  have i0 : inb (0 : Int32) 5 = true := inb_nI (n := 0) (by omega) (by omega)
  have i1 : inb (1 : Int32) 5 = true := inb_nI (n := 1) (by omega) (by omega)
  have i2 : inb (2 : Int32) 5 = true := inb_nI (n := 2) (by omega) (by omega)
  have i3 : inb (3 : Int32) 5 = true := inb_nI (n := 3) (by omega) (by omega)
  have i4 : inb (4 : Int32) 5 = true := inb_nI (n := 4) (by omega) (by omega)
  refine ⟨hp_wi (hp_wa (hp_mk (hp_wa (hp_wi (hp_wi (hp_wi (hp_wi (hp_wi (hp_mk x 100 5 5) 8 0 1) 8 1 1) 8 2 1) 8 3 1) 8 4 1) 7 0 8) 100 9 9) 7 1 9) 7 3 6000, ?_, ?_, ?_, ?_, ?_, ?_, ?_⟩
  · simp only [x600_0, x600_1, x600_4, x600_5, x600_6, x600_8, x600_9, x600_10, x600_11, x600_12, x600_13, x600_14, x600_15, x600_16, x600_17, x600_18, x600_19, x600_20, x600_21, x600_22, x600_23, x600_24, x600_25, x600_26, x600_27, x600_28, x600_31, x600_32, x600_34, x600_36, x600_39, x600_40, x600_43, x600_46, show ¬ 7 = 0 from by omega, not_false_eq_true, e5, e9, z5, z9, x0, x1, x2, x3, x4, i0, i1, i2, i3, i4, show 5 ≤ 134217728 from by omega, show 9 ≤ 134217728 from by omega, hn, hp_n_mk, hp_n_wa, hp_n_wi, hp_k_mk, hp_k_wa, hp_k_wi, hp_l_mk, hp_l_wi, hk, if_true, if_false, show ¬ 7 = 8 from by omega, show ¬ 7 = 9 from by omega, show 8 + 1 = 9 from rfl]
  · simp only [hp_n_mk, hp_n_wa, hp_n_wi, hn]
  · simp only [hp_s_mk, hp_s_wa, hp_s_wi]
  · intro y; simp only [hp_n_mk, hp_n_wa, hp_n_wi, hp_k_mk, hp_k_wa, hp_k_wi, hn]
  · intro y; simp only [hp_n_mk, hp_n_wa, hp_n_wi, hp_l_mk, hp_l_wa, hp_l_wi, hn]
  · intro y j; simp only [hp_n_mk, hp_n_wa, hp_n_wi, hp_i_mk, hp_i_wa, hp_i_wi, hn]
  · intro y j; simp only [hp_n_mk, hp_n_wa, hp_n_wi, hp_a_mk, hp_a_wa, hp_a_wi, hn]
theorem machA {h : HP} (hn : hp_n h = 6) (hk : hp_k h 5 = 4) : ∃ g, pX 300 0 [.ref 5, .retAddr 0] [] h = pX 300 24 [.ref 5, .retAddr 0] [] g ∧ hp_n g = 10 ∧ hp_s g = hp_s h + 28 ∧
    (∀ y, hp_k g y = if y = 9 then 100 else if y = 8 then 100 else if y = 7 then 7 else if y = 6 then 204 else hp_k h y) ∧ (∀ y, hp_l g y = if y = 9 then 9 else if y = 8 then 5 else if y = 7 then 0 else if y = 6 then 10 else hp_l h y) ∧
    (∀ y j, hp_i g y j = if y = 7 ∧ j = 3 then 6000 else if y = 9 then 0 else if y = 8 ∧ j = 4 then 1 else if y = 8 ∧ j = 3 then 1 else if y = 8 ∧ j = 2 then 1 else if y = 8 ∧ j = 1 then 1 else if y = 8 ∧ j = 0 then 1 else if y = 8 then 0 else if y = 7 then 0 else if y = 6 then 0 else hp_i h y j) ∧
    (∀ y j, hp_a g y j = if y = 5 ∧ j = 2 then 7 else if y = 7 ∧ j = 1 then 9 else if y = 9 then 0 else if y = 7 ∧ j = 0 then 8 else if y = 8 then 0 else if y = 7 then 0 else if y = 5 ∧ j = 0 then 6 else if y = 6 then 0 else hp_a h y j) := by
  have e10 : ix (10 : Int32) = 10 := ix_nI (n := 10) (by omega)
  have z10 : (0 : Int32) ≤ 10 := by decide
  obtain ⟨g, p1, p2, p3, p4, p5, p6, p7⟩ := sp_purI (x := hp_mk (hp_wa (hp_mk h 204 10 10) 5 0 6) 7 0 4) (by rw [hp_n_mk, hp_n_wa, hp_n_mk, hn]) (by rw [hp_k_mk, hp_n_wa, hp_n_mk, hn, if_pos rfl])
  have k5 : hp_k g 5 = 4 := by rw [p4, if_neg (by omega), if_neg (by omega), hp_k_mk, hp_n_wa, hp_n_mk, hn, if_neg (by omega), hp_k_wa, hp_k_mk, hn, if_neg (by omega), hk]
  refine ⟨hp_wa g 5 2 7, ?_, by rw [hp_n_wa, p2], ?_, fun y => ?_, fun y => ?_, fun y j => ?_, fun y j => ?_⟩
  · simp only [x300_0, x300_1, x300_4, x300_5, x300_7, x300_10, x300_13, x300_14, x300_17, x300_18, x300_21, show ¬ 5 = 0 from by omega, not_false_eq_true, e10, z10, show 10 ≤ 134217728 from by omega, hn, hp_n_mk, hp_n_wa, hp_k_mk, hp_k_wa, hk, if_true, if_false, show ¬ 5 = 6 from by omega, show 6 + 1 = 7 from rfl, p1, k5, Option.bind_some, Option.toList_some, Option.toList_none, List.singleton_append, List.nil_append, List.cons_append]
  · rw [hp_s_wa, p3, hp_s_mk, hp_s_wa, hp_s_mk]
  · rw [hp_k_wa, p4, hp_k_mk, hp_n_wa, hp_n_mk, hn, hp_k_wa, hp_k_mk, hn]
  · rw [hp_l_wa, p5, hp_l_mk, hp_n_wa, hp_n_mk, hn, hp_l_wa, hp_l_mk, hn]
  · rw [hp_i_wa, p6, hp_i_mk, hp_n_wa, hp_n_mk, hn, hp_i_wa, hp_i_mk, hn]
  · rw [hp_a_wa, p7, hp_a_mk, hp_n_wa, hp_n_mk, hn, hp_a_wa, hp_a_mk, hn]
theorem machB {x : HP} (hn : hp_n x = 10) (hk : hp_k x 5 = 4) : ∃ g, pX 300 24 [.ref 5, .retAddr 0] [] x = pX 300 81 [.ref 5, .int (nI 0)] [] g ∧ hp_n g = 16 ∧ hp_s g = hp_s x + 141 ∧
    (∀ y, hp_k g y = if y = 15 then 100 else if y = 14 then 9 else if y = 13 then 201 else if y = 12 then 100 else if y = 11 then 100 else if y = 10 then 6 else hp_k x y) ∧ (∀ y, hp_l g y = if y = 15 then 100 else if y = 14 then 0 else if y = 13 then 12 else if y = 12 then 12 else if y = 11 then 12 else if y = 10 then 0 else hp_l x y) ∧
    (∀ y j, hp_i g y j = if y = 15 then 0 else if y = 14 ∧ j = 0 then -5 else if y = 14 then 0 else if y = 13 then 0 else if y = 12 then 0 else if y = 11 then 0 else if y = 10 then 0 else hp_i x y j) ∧
    (∀ y j, hp_a g y j = if y = 5 ∧ j = 10 then 15 else if y = 15 then 0 else if y = 5 ∧ j = 8 then 14 else if y = 14 then 0 else if y = 5 ∧ j = 6 then 13 else if y = 13 then 0 else if y = 5 ∧ j = 5 then 12 else if y = 12 then 0 else if y = 5 ∧ j = 4 then 11 else if y = 11 then 0 else if y = 5 ∧ j = 3 then 10 else if y = 10 then 0 else hp_a x y j) := by
  have e12 : ix (12 : Int32) = 12 := ix_nI (n := 12) (by omega)
  have z12 : (0 : Int32) ≤ 12 := by decide
  have e100 : ix (100 : Int32) = 100 := ix_nI (n := 100) (by omega)
  have z100 : (0 : Int32) ≤ 100 := by decide
  have mo : ∀ y : HP, pX 500 0 [.ref 10] [] y = some (none, y) := by
    intro y
    simp only [x500_0, x500_1, x500_4, show ¬ 10 = 0 from by omega, not_false_eq_true]
  have so : ∀ y : HP, hp_k y 14 = 9 → pX 800 0 [.ref 14] [] y = some (none, hp_wi y 14 0 (-5)) := fun y hy => sp_slotI hy (by omega)
  have so1 := so (hp_mk (hp_wa (hp_mk (hp_wa (hp_mk (hp_wa (hp_mk (hp_wa (hp_mk x 6 0 1) 5 3 10) 100 12 12) 5 4 11) 100 12 12) 5 5 12) 201 12 12) 5 6 13) 9 0 4) (by simp only [hp_k_mk, hp_n_mk, hp_n_wa, hn, if_true])
  refine ⟨hp_wa (hp_mk (hp_wa (hp_wi (hp_mk (hp_wa (hp_mk (hp_wa (hp_mk (hp_wa (hp_mk (hp_wa (hp_mk x 6 0 1) 5 3 10) 100 12 12) 5 4 11) 100 12 12) 5 5 12) 201 12 12) 5 6 13) 9 0 4) 14 0 (-5)) 5 8 14) 100 100 100) 5 10 15, ?_, ?_, ?_, ?_, ?_, ?_, ?_⟩
  · generalize hR : pX 300 81 [.ref 5, .int (nI 0)] [] _ = R
    simp only [x300_24, x300_25, x300_28, x300_29, x300_32, x300_35, x300_36, x300_38, x300_40, x300_43, x300_44, x300_46, x300_48, x300_51, x300_52, x300_54, x300_57, x300_60, x300_61, x300_64, x300_65, x300_68, x300_71, x300_72, x300_74, x300_76, x300_79, x300_80, e12, z12, e100, z100, show 12 ≤ 134217728 from by omega, show 100 ≤ 134217728 from by omega, hn, hp_n_mk, hp_n_wa, hp_n_wi, hp_k_mk, hp_k_wa, hp_k_wi, hk, mo, so1, if_true, if_false, Nat.reduceAdd, show ¬ 5 = 10 from by omega, show ¬ 5 = 11 from by omega, show ¬ 5 = 12 from by omega, show ¬ 5 = 13 from by omega, show ¬ 5 = 14 from by omega, show ¬ 5 = 15 from by omega, Option.bind_some, Option.toList_some, Option.toList_none, List.singleton_append, List.nil_append, List.cons_append]
    exact hR
  · simp only [hp_n_mk, hp_n_wa, hp_n_wi, hn]
  · simp only [hp_s_mk, hp_s_wa, hp_s_wi, Nat.add_assoc]
  · intro y; simp only [hp_n_mk, hp_n_wa, hp_n_wi, hp_k_mk, hp_k_wa, hp_k_wi, hn]
  · intro y; simp only [hp_n_mk, hp_n_wa, hp_n_wi, hp_l_mk, hp_l_wa, hp_l_wi, hn]
  · intro y j; simp only [hp_n_mk, hp_n_wa, hp_n_wi, hp_i_mk, hp_i_wa, hp_i_wi, hn]
  · intro y j; simp only [hp_n_mk, hp_n_wa, hp_n_wi, hp_a_mk, hp_a_wa, hp_a_wi, hn]
