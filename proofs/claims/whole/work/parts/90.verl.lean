/-! VERIFY: looked -/
theorem lkd_z {σ : SM} {M : Nat} {op va vb vc : Int32} (h : ¬ op = 23) (e : lookT (ix op) = 0) : lkd σ M op va vb vc = 0 := by
  unfold lkd
  rw [if_neg h, e, if_pos (by decide), if_pos (by decide), if_pos (by decide)]
  simp only [Int32.zero_or, Int32.or_zero]
theorem lkd_a {σ : SM} {M : Nat} {op va vb vc : Int32} (h : ¬ op = 23) (e : lookT (ix op) = 1) : lkd σ M op va vb vc = (1 : Int32) <<< (va &&& 31) := by
  unfold lkd
  rw [if_neg h, e, if_neg (by decide), if_pos (by decide), if_pos (by decide)]
  simp only [Int32.zero_or, Int32.or_zero]
theorem lkd_b {σ : SM} {M : Nat} {op va vb vc : Int32} (h : ¬ op = 23) (e : lookT (ix op) = 2) : lkd σ M op va vb vc = (1 : Int32) <<< (vb &&& 31) := by
  unfold lkd
  rw [if_neg h, e, if_pos (by decide), if_neg (by decide), if_pos (by decide)]
  simp only [Int32.zero_or, Int32.or_zero]
theorem lkd_ab {σ : SM} {M : Nat} {op va vb vc : Int32} (h : ¬ op = 23) (e : lookT (ix op) = 3) : lkd σ M op va vb vc = (1 : Int32) <<< (va &&& 31) ||| (1 : Int32) <<< (vb &&& 31) := by
  unfold lkd
  rw [if_neg h, e, if_neg (by decide), if_neg (by decide), if_pos (by decide)]
  simp only [Int32.zero_or, Int32.or_zero]
theorem lkd_ac {σ : SM} {M : Nat} {op va vb vc : Int32} (h : ¬ op = 23) (e : lookT (ix op) = 5) : lkd σ M op va vb vc = (1 : Int32) <<< (va &&& 31) ||| (1 : Int32) <<< (vc &&& 31) := by
  unfold lkd
  rw [if_neg h, e, if_neg (by decide), if_pos (by decide), if_neg (by decide)]
  simp only [Int32.zero_or, Int32.or_zero]
theorem lkd_bc {σ : SM} {M : Nat} {op va vb vc : Int32} (h : ¬ op = 23) (e : lookT (ix op) = 6) : lkd σ M op va vb vc = (1 : Int32) <<< (vb &&& 31) ||| (1 : Int32) <<< (vc &&& 31) := by
  unfold lkd
  rw [if_neg h, e, if_pos (by decide), if_neg (by decide), if_neg (by decide)]
  simp only [Int32.zero_or, Int32.or_zero]
theorem lkd_abc {σ : SM} {M : Nat} {op va vb vc : Int32} (h : ¬ op = 23) (e : lookT (ix op) = 7) : lkd σ M op va vb vc = (1 : Int32) <<< (va &&& 31) ||| (1 : Int32) <<< (vb &&& 31) ||| (1 : Int32) <<< (vc &&& 31) := by
  unfold lkd
  rw [if_neg h, e, if_neg (by decide), if_neg (by decide), if_neg (by decide)]
  simp only [Int32.zero_or, Int32.or_zero]
theorem look_sw {σ : SM} {M n : Nat} (hn : n ≤ 27) (hn23 : n ≠ 23) {va vb vc : Int32} {l0 l1 l6 l7 l8 : Value} {h : HP} (ha : lookT n &&& 1 ≠ 0 → va &&& 7 = va) (hb : lookT n &&& 2 ≠ 0 → vb &&& 7 = vb) (hc : lookT n &&& 4 ≠ 0 → vc &&& 7 = vc) :
    pX 1111 52 [l0, l1, .int (nI n), .int (1 <<< ((va &&& 7) &&& 31)), .int (1 <<< ((vb &&& 7) &&& 31)), .int (1 <<< ((vc &&& 7) &&& 31)), l6, l7, l8] [.int (nI n)] h = some (some (.int (lkd σ M (nI n) va vb vc)), h) := by
  by_cases c0 : n = 0
  · subst c0
    simp only [show nI 0 = (0 : Int32) from rfl, x1111_52_0, x1111_180, x1111_181]
    rw [lkd_z (by decide) (by decide)]
  by_cases c1 : n = 1
  · subst c1
    simp only [show nI 1 = (1 : Int32) from rfl, x1111_52_1, x1111_182, x1111_184]
    rw [lkd_b (by decide) (by decide), hb (by decide)]
  by_cases c2 : n = 2
  · subst c2
    simp only [show nI 2 = (2 : Int32) from rfl, x1111_52_2, x1111_295, x1111_297, x1111_299, x1111_300]
    rw [lkd_bc (by decide) (by decide), hb (by decide), hc (by decide)]
  by_cases c3 : n = 3
  · subst c3
    simp only [show nI 3 = (3 : Int32) from rfl, x1111_52_3, x1111_295, x1111_297, x1111_299, x1111_300]
    rw [lkd_bc (by decide) (by decide), hb (by decide), hc (by decide)]
  by_cases c4 : n = 4
  · subst c4
    simp only [show nI 4 = (4 : Int32) from rfl, x1111_52_4, x1111_295, x1111_297, x1111_299, x1111_300]
    rw [lkd_bc (by decide) (by decide), hb (by decide), hc (by decide)]
  by_cases c5 : n = 5
  · subst c5
    simp only [show nI 5 = (5 : Int32) from rfl, x1111_52_5, x1111_295, x1111_297, x1111_299, x1111_300]
    rw [lkd_bc (by decide) (by decide), hb (by decide), hc (by decide)]
  by_cases c6 : n = 6
  · subst c6
    simp only [show nI 6 = (6 : Int32) from rfl, x1111_52_6, x1111_295, x1111_297, x1111_299, x1111_300]
    rw [lkd_bc (by decide) (by decide), hb (by decide), hc (by decide)]
  by_cases c7 : n = 7
  · subst c7
    simp only [show nI 7 = (7 : Int32) from rfl, x1111_52_7, x1111_295, x1111_297, x1111_299, x1111_300]
    rw [lkd_bc (by decide) (by decide), hb (by decide), hc (by decide)]
  by_cases c8 : n = 8
  · subst c8
    simp only [show nI 8 = (8 : Int32) from rfl, x1111_52_8, x1111_295, x1111_297, x1111_299, x1111_300]
    rw [lkd_bc (by decide) (by decide), hb (by decide), hc (by decide)]
  by_cases c9 : n = 9
  · subst c9
    simp only [show nI 9 = (9 : Int32) from rfl, x1111_52_9, x1111_180, x1111_181]
    rw [lkd_z (by decide) (by decide)]
  by_cases c10 : n = 10
  · subst c10
    simp only [show nI 10 = (10 : Int32) from rfl, x1111_52_10, x1111_185, x1111_186]
    rw [lkd_a (by decide) (by decide), ha (by decide)]
  by_cases c11 : n = 11
  · subst c11
    simp only [show nI 11 = (11 : Int32) from rfl, x1111_52_11, x1111_182, x1111_184]
    rw [lkd_b (by decide) (by decide), hb (by decide)]
  by_cases c12 : n = 12
  · subst c12
    simp only [show nI 12 = (12 : Int32) from rfl, x1111_52_12, x1111_180, x1111_181]
    rw [lkd_z (by decide) (by decide)]
  by_cases c13 : n = 13
  · subst c13
    simp only [show nI 13 = (13 : Int32) from rfl, x1111_52_13, x1111_187, x1111_188, x1111_190, x1111_191, x1111_193, x1111_194]
    rw [lkd_abc (by decide) (by decide), ha (by decide), hb (by decide), hc (by decide)]
  by_cases c14 : n = 14
  · subst c14
    simp only [show nI 14 = (14 : Int32) from rfl, x1111_52_14, x1111_295, x1111_297, x1111_299, x1111_300]
    rw [lkd_bc (by decide) (by decide), hb (by decide), hc (by decide)]
  by_cases c15 : n = 15
  · subst c15
    simp only [show nI 15 = (15 : Int32) from rfl, x1111_52_15, x1111_182, x1111_184]
    rw [lkd_b (by decide) (by decide), hb (by decide)]
  by_cases c16 : n = 16
  · subst c16
    simp only [show nI 16 = (16 : Int32) from rfl, x1111_52_16, x1111_182, x1111_184]
    rw [lkd_b (by decide) (by decide), hb (by decide)]
  by_cases c17 : n = 17
  · subst c17
    simp only [show nI 17 = (17 : Int32) from rfl, x1111_52_17, x1111_195, x1111_196, x1111_198, x1111_199]
    rw [lkd_ac (by decide) (by decide), ha (by decide), hc (by decide)]
  by_cases c18 : n = 18
  · subst c18
    simp only [show nI 18 = (18 : Int32) from rfl, x1111_52_18, x1111_182, x1111_184]
    rw [lkd_b (by decide) (by decide), hb (by decide)]
  by_cases c19 : n = 19
  · subst c19
    simp only [show nI 19 = (19 : Int32) from rfl, x1111_52_19, x1111_185, x1111_186]
    rw [lkd_a (by decide) (by decide), ha (by decide)]
  by_cases c20 : n = 20
  · subst c20
    simp only [show nI 20 = (20 : Int32) from rfl, x1111_52_20, x1111_185, x1111_186]
    rw [lkd_a (by decide) (by decide), ha (by decide)]
  by_cases c21 : n = 21
  · subst c21
    simp only [show nI 21 = (21 : Int32) from rfl, x1111_52_21, x1111_185, x1111_186]
    rw [lkd_a (by decide) (by decide), ha (by decide)]
  by_cases c22 : n = 22
  · subst c22
    simp only [show nI 22 = (22 : Int32) from rfl, x1111_52_22, x1111_185, x1111_186]
    rw [lkd_a (by decide) (by decide), ha (by decide)]
  by_cases c24 : n = 24
  · subst c24
    simp only [show nI 24 = (24 : Int32) from rfl, x1111_52_24, x1111_185, x1111_186]
    rw [lkd_a (by decide) (by decide), ha (by decide)]
  by_cases c25 : n = 25
  · subst c25
    simp only [show nI 25 = (25 : Int32) from rfl, x1111_52_25, x1111_200, x1111_201, x1111_203, x1111_204]
    rw [lkd_ab (by decide) (by decide), ha (by decide), hb (by decide)]
  by_cases c26 : n = 26
  · subst c26
    simp only [show nI 26 = (26 : Int32) from rfl, x1111_52_26, x1111_182, x1111_184]
    rw [lkd_b (by decide) (by decide), hb (by decide)]
  by_cases c27 : n = 27
  · subst c27
    simp only [show nI 27 = (27 : Int32) from rfl, x1111_52_27, x1111_182, x1111_184]
    rw [lkd_b (by decide) (by decide), hb (by decide)]
  omega
def blw (C : Nat) : Nat → Int32
  | 0 => 0
  | k + 1 => if C + k < 8 then blw C k ||| 1 <<< (nI (C + k) &&& 31) else blw C k
theorem blw_eq {C W : Nat} (hC : C ≤ 7) (hW : W ≤ 3) : blw C W = (((1 <<< (nI W &&& 31)) - 1) <<< (nI C &&& 31)) &&& 255 := by
  have : ∀ (c : Fin 8) (w : Fin 4), blw c.val w.val = ((((1 : Int32) <<< (nI w.val &&& 31)) - 1) <<< (nI c.val &&& 31)) &&& 255 := by decide
  exact this ⟨C, by omega⟩ ⟨W, by omega⟩
theorem blw_up {C k : Nat} (h : ¬ C + k < 8) : ∀ d, blw C (k + d) = blw C k
  | 0 => rfl
  | d + 1 => by
    show (if C + (k + d) < 8 then _ else blw C (k + d)) = _
    rw [if_neg (by omega)]
    exact blw_up h d
section
variable {L m A H M : Nat} {k : HP} {s : SM}
theorem vcall_loop (X : FX L k) (hm : m < 10) {t : Nat} (ht : t < 40) {v : Nat → Int32} {c : Int32} {C W : Nat} (hC : s 247 (160 * m + 4 * t + 3) = nI C) (hC7 : C ≤ 7) (hW : W ≤ 3) {l2 l3 l4 l5 : Value} : ∀ n q, q + n = W →
    pX 1111 245 [.ref 244, .int (nI (160 * m + 4 * t)), l2, l3, l4, l5, .int (blw C q), .int (nI W), .int (nI q)] [] (MH k s v c) = some (some (.int (blw C W)), MH k s v c) := by
  have e3 : inb (nI (160 * m + 4 * t + 3)) 1600 = true := inb_nI (by omega) (by omega)
  have e4 : ix (nI (160 * m + 4 * t + 3)) = 160 * m + 4 * t + 3 := ix_nI (by omega)
  have et : nI (160 * m + 4 * t) + 3 = nI (160 * m + 4 * t + 3) := nI_add _ 3
  intro n
  induction n with
  | zero =>
    intro q hq
    have hq2 : q = W := by omega
    subst hq2
    have l1 : nI q ≤ nI q := (vle (by omega) (by omega)).mpr (Nat.le_refl q)
    simp only [x1111_245, x1111_247, x1111_249, x1111_292, x1111_294, l1, if_true]
  | succ n ih =>
    intro q hq
    have l1 : ¬ nI W ≤ nI q := fun z => by have := (vle (by omega) (by omega)).mp z; omega
    have eq1 : nI q + 1 = nI (q + 1) := nI_add q 1
    have ec : nI C + nI q = nI (C + q) := nI_add C q
    by_cases z : C + q < 8
    · have l2 : ¬ (8 : Int32) ≤ nI (C + q) := fun y => by have := (vle (a := 8) (b := C + q) (by omega) (by omega)).mp y; omega
      have hb : blw C (q + 1) = blw C q ||| 1 <<< (nI (C + q) &&& 31) := if_pos z
      rw [← ih (q + 1) (by omega), hb]
      generalize hR : pX 1111 245 [.ref 244, .int (nI (160 * m + 4 * t)), _, _, _, _, .int (blw C q ||| 1 <<< (nI (C + q) &&& 31)), .int (nI W), .int (nI (q + 1))] [] (MH k s v c) = R
      simp only [x1111_245, x1111_247, x1111_249, x1111_252, x1111_253, x1111_256, x1111_257, x1111_258, x1111_259, x1111_260, x1111_262, x1111_263, x1111_265, x1111_268, x1111_270, x1111_271, x1111_272, x1111_275, x1111_276, x1111_277, x1111_278, x1111_279, x1111_281, x1111_282, x1111_283, x1111_284, x1111_286, MH_k, MH_l, MH_a, MH_247, X.k244, X.a244_3, X.k247, X.l247, l1, if_false, et, e3, e4, hC, ec, l2, eq1]
      rw [x1111_289]
      exact hR
    · have l2 : (8 : Int32) ≤ nI (C + q) := (vle (a := 8) (b := C + q) (by omega) (by omega)).mpr (by omega)
      have hb : blw C W = blw C q := by rw [← hq]; exact blw_up z (n + 1)
      rw [hb]
      simp only [x1111_245, x1111_247, x1111_249, x1111_252, x1111_253, x1111_256, x1111_257, x1111_258, x1111_259, x1111_260, x1111_262, x1111_263, x1111_265, x1111_292, x1111_294, MH_k, MH_l, MH_a, MH_247, X.k244, X.a244_3, X.k247, X.l247, l1, if_false, et, e3, e4, hC, ec, l2, if_true]
theorem look_pre (X : FX L k) (hm : m < 10) {t : Nat} (ht : t < 40) {v : Nat → Int32} {c : Int32} :
    pX 1111 0 [.ref 244, .int (nI (160 * m + 4 * t)), .retAddr 0, .retAddr 0, .retAddr 0, .retAddr 0, .retAddr 0, .retAddr 0, .retAddr 0] [] (MH k s v c) =
      pX 1111 52 [.ref 244, .int (nI (160 * m + 4 * t)), .int (s 247 (160 * m + 4 * t)), .int (1 <<< ((s 247 (160 * m + 4 * t + 1) &&& 7) &&& 31)), .int (1 <<< ((s 247 (160 * m + 4 * t + 2) &&& 7) &&& 31)), .int (1 <<< ((s 247 (160 * m + 4 * t + 3) &&& 7) &&& 31)), .retAddr 0, .retAddr 0, .retAddr 0] [.int (s 247 (160 * m + 4 * t))] (MH k s v c) := by
  have e1 : inb (nI (160 * m + 4 * t)) 1600 = true := inb_nI (by omega) (by omega)
  have e2 : ix (nI (160 * m + 4 * t)) = 160 * m + 4 * t := ix_nI (by omega)
  have e3 : inb (nI (160 * m + 4 * t + 1)) 1600 = true := inb_nI (by omega) (by omega)
  have e4 : ix (nI (160 * m + 4 * t + 1)) = 160 * m + 4 * t + 1 := ix_nI (by omega)
  have et : nI (160 * m + 4 * t) + 1 = nI (160 * m + 4 * t + 1) := nI_add _ 1
  have f3 : inb (nI (160 * m + 4 * t + 2)) 1600 = true := inb_nI (by omega) (by omega)
  have f4 : ix (nI (160 * m + 4 * t + 2)) = 160 * m + 4 * t + 2 := ix_nI (by omega)
  have ft : nI (160 * m + 4 * t) + 2 = nI (160 * m + 4 * t + 2) := nI_add _ 2
  have g3 : inb (nI (160 * m + 4 * t + 3)) 1600 = true := inb_nI (by omega) (by omega)
  have g4 : ix (nI (160 * m + 4 * t + 3)) = 160 * m + 4 * t + 3 := ix_nI (by omega)
  have gt : nI (160 * m + 4 * t) + 3 = nI (160 * m + 4 * t + 3) := nI_add _ 3
  simp only [x1111_0, x1111_1, x1111_4, x1111_5, x1111_6, x1111_7, x1111_8, x1111_9, x1111_12, x1111_13, x1111_14, x1111_15, x1111_16, x1111_18, x1111_19, x1111_20, x1111_21, x1111_22, x1111_23, x1111_26, x1111_27, x1111_28, x1111_29, x1111_30, x1111_32, x1111_33, x1111_34, x1111_36, x1111_37, x1111_38, x1111_41, x1111_42, x1111_43, x1111_44, x1111_45, x1111_47, x1111_48, x1111_49, x1111_51, MH_k, MH_l, MH_a, MH_247, X.k244, X.a244_3, X.k247, X.l247, e1, e2, e3, e4, et, f3, f4, ft, g3, g4, gt]
theorem nb7 {x : Int32} (h : nb x 7) : x &&& 7 = x := by
  obtain ⟨n, rfl, hn⟩ := h
  exact and7_nI (by omega)
theorem look_or {n : Nat} (hn : n ≤ 27) : (lookT n &&& 1 ≠ 0 → (lookT n ||| makeT n) &&& 1 ≠ 0) ∧ (lookT n &&& 2 ≠ 0 → (lookT n ||| makeT n) &&& 2 ≠ 0) ∧ (lookT n &&& 4 ≠ 0 → (lookT n ||| makeT n) &&& 4 ≠ 0) := by
  have : ∀ k : Fin 28, (lookT k.val &&& 1 ≠ 0 → (lookT k.val ||| makeT k.val) &&& 1 ≠ 0) ∧ (lookT k.val &&& 2 ≠ 0 → (lookT k.val ||| makeT k.val) &&& 2 ≠ 0) ∧ (lookT k.val &&& 4 ≠ 0 → (lookT k.val ||| makeT k.val) &&& 4 ≠ 0) := by decide
  exact this ⟨n, by omega⟩
theorem sp_vlook (X : FX L k) (hm : m < 10) {t : Nat} (ht : t < 40) {v : Nat → Int32} {c : Int32} (hM : s 244 0 = nI M) (hM10 : M ≤ 10) (hW : ∀ i, i < 10 → nb (s 245 i) 3) (ka : okAct (s 247 (160 * m + 4 * t)) (s 247 (160 * m + 4 * t + 1)) (s 247 (160 * m + 4 * t + 2)) (s 247 (160 * m + 4 * t + 3))) :
    pX 1111 0 [.ref 244, .int (nI (160 * m + 4 * t)), .retAddr 0, .retAddr 0, .retAddr 0, .retAddr 0, .retAddr 0, .retAddr 0, .retAddr 0] [] (MH k s v c) = some (some (.int (lks s M m t)), MH k s v c) ∧ lw (lks s M m t) := by
  rw [look_pre X hm ht]
  obtain ⟨⟨n, hn, hn27⟩, h1, h2, h4, _⟩ := ka
  rw [hn, ix_nI (by omega)] at h1 h2 h4
  obtain ⟨o1, o2, o4⟩ := look_or hn27
  unfold lks
  by_cases c23 : n = 23
  · subst c23
    obtain ⟨C, hC, hC7⟩ := h4 (by decide)
    have f3 : inb (nI (160 * m + 4 * t + 2)) 1600 = true := inb_nI (by omega) (by omega)
    have f4 : ix (nI (160 * m + 4 * t + 2)) = 160 * m + 4 * t + 2 := ix_nI (by omega)
    have ft : nI (160 * m + 4 * t) + 2 = nI (160 * m + 4 * t + 2) := nI_add _ 2
    have im := sp_isMember (h := MH k s v c) (m := s 247 (160 * m + 4 * t + 2)) (M := M) X.k244 (MH_0.trans hM) hM10
    unfold lkd
    rw [hn, show nI 23 = (23 : Int32) from rfl, if_pos rfl]
    rcases mem_cases (s 247 (160 * m + 4 * t + 2)) M hM10 with q | ⟨b, hb, hbM, q⟩
    · rw [if_pos q] at im ⊢
      refine ⟨?_, by unfold lw; decide⟩
      have cl := vcall_loop (s := s) X hm ht (v := v) (c := c) hC hC7 (W := 0) (by omega) (l2 := .int 23) (l3 := .int (1 <<< ((s 247 (160 * m + 4 * t + 1) &&& 7) &&& 31))) (l4 := .int (1 <<< ((s 247 (160 * m + 4 * t + 2) &&& 7) &&& 31))) (l5 := .int (1 <<< ((s 247 (160 * m + 4 * t + 3) &&& 7) &&& 31))) 0 0 rfl
      rw [show (0 : Int32) = blw C 0 from rfl, ← cl]
      generalize hR : pX 1111 245 _ [] (MH k s v c) = R
      simp only [show nI 23 = (23 : Int32) from rfl, x1111_52_23, x1111_205, x1111_206, x1111_208, x1111_209, x1111_210, x1111_213, x1111_214, x1111_215, x1111_216, x1111_217, x1111_220, x1111_239, x1111_240, x1111_242, x1111_243, MH_k, MH_l, MH_a, MH_247, X.k244, X.a244_3, X.k247, X.l247, f3, f4, ft, im, if_true, Option.bind_some, Option.toList_some, Option.toList_none, List.singleton_append, List.nil_append]
      exact hR
    · obtain ⟨W, hW1, hW3⟩ := hW b (by omega)
      have e5 : inb (nI b) 10 = true := inb_nI (by omega) (by omega)
      have e6 : ix (nI b) = b := ix_nI (by omega)
      rw [hb] at im
      rw [if_neg q] at im
      rw [if_neg (by rw [hb]; exact q), hb, e6, hW1, hC]
      refine ⟨?_, ?_⟩
      · rw [← blw_eq hC7 hW3]
        have cl := vcall_loop (s := s) X hm ht (v := v) (c := c) hC hC7 hW3 (l2 := .int 23) (l3 := .int (1 <<< ((s 247 (160 * m + 4 * t + 1) &&& 7) &&& 31))) (l4 := .int (1 <<< ((nI b &&& 7) &&& 31))) (l5 := .int (1 <<< ((nI C &&& 7) &&& 31))) W 0 (by omega)
        rw [← cl]
        generalize hR : pX 1111 245 _ [] (MH k s v c) = R
        simp only [show nI 23 = (23 : Int32) from rfl, x1111_52_23, x1111_205, x1111_206, x1111_208, x1111_209, x1111_210, x1111_213, x1111_214, x1111_215, x1111_216, x1111_217, x1111_220, x1111_223, x1111_224, x1111_227, x1111_228, x1111_231, x1111_232, x1111_233, x1111_234, x1111_235, x1111_236, x1111_240, x1111_242, x1111_243, MH_k, MH_l, MH_a, MH_247, MH_245, X.k244, X.a244_3, X.k247, X.l247, X.a244_1, X.k245, X.l245, f3, f4, ft, hb, e5, e6, hW1, im, show ¬ (1 : Int32) = 0 from by decide, if_false, Option.bind_some, Option.toList_some, Option.toList_none, List.singleton_append, List.nil_append]
        exact hR
      · have : ∀ (c : Fin 8) (w : Fin 4), (((((1 : Int32) <<< (nI w.val &&& 31)) - 1) <<< (nI c.val &&& 31)) &&& 255) &&& 255 = ((((1 : Int32) <<< (nI w.val &&& 31)) - 1) <<< (nI c.val &&& 31)) &&& 255 := by decide
        exact this ⟨C, by omega⟩ ⟨W, by omega⟩
  · rw [hn]
    refine ⟨look_sw hn27 c23 (fun q => nb7 (h1 (o1 q))) (fun q => nb7 (h2 (o2 q))) (fun q => nb7 (h4 (o4 q))), ?_⟩
    have z0 : lw 0 := by unfold lw; decide
    have g : ∀ {x : Int32}, nb x 7 → lw ((1 : Int32) <<< (x &&& 31)) := by
      rintro _ ⟨n, rfl, hn⟩
      exact lw_sh hn
    unfold lkd
    have c23' : ¬ nI n = (23 : Int32) := fun q => c23 ((nI_eq (a := n) (b := 23) (by omega) (by omega)).mp q)
    rw [if_neg c23', ix_nI (by omega)]
    refine lw_or (lw_or (lw_or z0 ?_) ?_) ?_
    · split
      · exact z0
      · next q => exact g (h1 (o1 q))
    · split
      · exact z0
      · next q => exact g (h2 (o2 q))
    · split
      · exact z0
      · next q => exact g (h4 (o4 q))
end
