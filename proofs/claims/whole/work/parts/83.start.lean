/-! THE ENGINE, 27: a run begins -/
def zrH (h : HP) : Nat → HP
  | 0 => h
  | i + 1 => hp_wi (zrH h i) 9 i 0
def zrS (σ : SM) : Nat → SM
  | 0 => σ
  | i + 1 => hp_u (zrS σ i) 273 i 0
theorem zrS_if {σ : SM} {b j : Nat} : ∀ i, zrS σ i b j = if b = 273 ∧ j < i then 0 else σ b j
  | 0 => by rw [if_neg (by omega)]; rfl
  | i + 1 => by
    show hp_u (zrS σ i) 273 i 0 b j = _
    rw [hu_at]
    by_cases q : b = 273 ∧ j = i
    · rw [if_pos q, if_pos (by omega)]
    · rw [if_neg q, zrS_if i]
      by_cases q2 : b = 273 ∧ j < i
      · rw [if_pos q2, if_pos (by omega)]
      · rw [if_neg q2, if_neg (by omega)]
theorem zrH_r (h : HP) : ∀ i, hp_k (zrH h i) = hp_k h ∧ hp_a (zrH h i) = hp_a h ∧ hp_l (zrH h i) = hp_l h
  | 0 => ⟨rfl, rfl, rfl⟩
  | i + 1 => by
    obtain ⟨a, b, c⟩ := zrH_r h i
    show hp_k (hp_wi (zrH h i) 9 i 0) = _ ∧ hp_a (hp_wi (zrH h i) 9 i 0) = _ ∧ hp_l (hp_wi (zrH h i) 9 i 0) = _
    rw [hp_k_wi, hp_a_wi, hp_l_wi]
    exact ⟨a, b, c⟩
section
variable {L : Nat} {h0 h : HP} {σ : SM} {ca ra : Nat → Nat} {hs : Nat → List Nat} {sp : List Nat} {A F : Nat}
theorem CR.zr (w : CR L h0 h σ ca ra hs sp) : ∀ i, i ≤ 9 → CR L h0 (zrH h i) (zrS σ i) ca ra hs sp
  | 0, _ => w
  | i + 1, hi => (CR.zr w i (by omega)).w (CMR.counted (by omega)) (by unfold depS; omega)
theorem open_loop {v : Value} (X : FX L h) : ∀ n i, i + n = 9 → pX 601 7 [.ref 7, v, .int (nI i)] [] (zrH h i) = some (none, zrH h 9) := by
  intro n
  induction n with
  | zero =>
    intro i hi
    obtain rfl : i = 9 := by omega
    simp only [x601_7, x601_8, x601_10, x601_26, show (9 : Int32) ≤ nI 9 from Int32.le_refl 9, if_true]
  | succ n ih =>
    intro i hi
    obtain ⟨a, b, c⟩ := zrH_r h i
    have q : ¬ (9 : Int32) ≤ nI i := nI_nle2 (a := 9) (by omega) (by omega)
    have e1 : inb (nI i) 9 = true := inb_nI (by omega) (by omega)
    have e2 : ix (nI i) = i := ix_nI (by omega)
    rw [← ih (i + 1) (by omega)]
    show _ = pX 601 7 [.ref 7, v, .int (nI (i + 1))] [] (hp_wi (zrH h i) 9 i 0)
    generalize hR : pX 601 7 [.ref 7, v, .int (nI (i + 1))] [] (hp_wi (zrH h i) 9 i 0) = R
    simp only [x601_7, x601_8, x601_10, x601_13, x601_14, x601_17, x601_18, x601_19, x601_20, q, if_false, a, b, c, X.k7, X.a7_1, X.k9, X.l9, e1, e2, nI_1]
    rw [x601_23]
    exact hR
theorem sp_open {b : Int32} (X : FX L h) : pX 601 0 [.ref 7, .int b, .retAddr 0] [] h = some (none, zrH (hp_wi h 7 2 b) 9) := by
  rw [← open_loop (h := hp_wi h 7 2 b) (v := .int b) X.wi 9 0 (by omega)]
  show _ = pX 601 7 [.ref 7, .int b, .int (nI 0)] [] (hp_wi h 7 2 b)
  simp only [x601_0, x601_1, x601_2 X.k7, x601_5, x601_6]
  rfl
theorem st_zr {k : HP} {l1 l2 : Value} (x : FX L k) : ∀ n i, i + n = 9 → pX 1153 37 [.ref 244, l1, l2, .int (nI i)] [] (mset k (zrS σ i)) = pX 1153 56 [.ref 244, l1, l2, .int (nI 9)] [] (mset k (zrS σ 9)) := by
  intro n
  induction n with
  | zero =>
    intro i hi
    obtain rfl : i = 9 := by omega
    simp only [x1153_37, x1153_38, x1153_40, show (9 : Int32) ≤ nI 9 from Int32.le_refl 9, if_true]
  | succ n ih =>
    intro i hi
    have q : ¬ (9 : Int32) ≤ nI i := nI_nle2 (a := 9) (by omega) (by omega)
    have e1 : inb (nI i) 9 = true := inb_nI (by omega) (by omega)
    have e2 : ix (nI i) = i := ix_nI (by omega)
    rw [← ih (i + 1) (by omega)]
    show _ = pX 1153 37 [.ref 244, l1, l2, .int (nI (i + 1))] [] (mset k (hp_u (zrS σ i) 273 i 0))
    generalize hR : pX 1153 37 [.ref 244, l1, l2, .int (nI (i + 1))] [] (mset k (hp_u (zrS σ i) 273 i 0)) = R
    simp only [x1153_37, x1153_38, x1153_40, x1153_43, x1153_44, x1153_47, x1153_48, x1153_49, x1153_50, q, if_false, hp_k_ms, hp_a_ms, hp_l_ms, x.k244, x.a244_39, x.k273, x.l273, ms_w (show 244 ≤ 273 ∧ 273 < 276 by omega), e1, e2, nI_1]
    rw [x1153_53]
    exact hR
theorem st_cp {k : HP} {l1 l2 : Value} (x : FX L k) : ∀ n i, i + n = 12 → pX 1153 58 [.ref 244, l1, l2, .int (nI i)] [] (mset k (cpS σ 253 254 i)) = pX 1153 82 [.ref 244, l1, l2, .int (nI 12)] [] (mset k (cpS σ 253 254 12)) := by
  intro n
  induction n with
  | zero =>
    intro i hi
    obtain rfl : i = 12 := by omega
    simp only [x1153_58, x1153_59, x1153_61, show (12 : Int32) ≤ nI 12 from Int32.le_refl 12, if_true]
  | succ n ih =>
    intro i hi
    have q : ¬ (12 : Int32) ≤ nI i := nI_nle2 (a := 12) (by omega) (by omega)
    have e1 : inb (nI i) 12 = true := inb_nI (by omega) (by omega)
    have e2 : ix (nI i) = i := ix_nI (by omega)
    rw [← ih (i + 1) (by omega), ← cpS_s (by omega)]
    generalize hR : pX 1153 58 [.ref 244, l1, l2, .int (nI (i + 1))] [] (mset k (hp_u (cpS σ 253 254 i) 254 i (σ 253 i))) = R
    simp only [x1153_58, x1153_59, x1153_61, x1153_64, x1153_65, x1153_68, x1153_69, x1153_70, x1153_73, x1153_74, x1153_75, x1153_76, q, if_false, hp_k_ms, hp_a_ms, hp_l_ms, x.k244, x.a244_11, x.a244_12, x.k253, x.l253, x.k254, x.l254, ms_r (show 244 ≤ 253 ∧ 253 < 276 by omega), ms_w (show 244 ≤ 254 ∧ 254 < 276 by omega), e1, e2, cpS_at (show ¬ 253 = 254 by omega), nI_1]
    rw [x1153_79]
    exact hR
theorem st_fl {k : HP} {l2 : Value} {m wn : Nat} (x : FX L k) (hm : m < 10) (hw : σ 245 m = nI wn) (hwn : wn ≤ 3) : ∀ n i, i + n = 8 → pX 1153 84 [.ref 244, .int (nI m), l2, .int (nI i)] [] (mset k (flS σ 0 255 0 wn 0 3 i)) = pX 1153 148 [.ref 244, .int (nI m), l2, .int (nI 8)] [] (mset k (flS σ 0 255 0 wn 0 3 8)) := by
  intro n
  induction n with
  | zero =>
    intro i hi
    obtain rfl : i = 8 := by omega
    simp only [x1153_84, x1153_85, x1153_87, show (8 : Int32) ≤ nI 8 from Int32.le_refl 8, if_true]
  | succ n ih =>
    intro i hi
    have q8 : ¬ (8 : Int32) ≤ nI i := nI_nle2 (a := 8) (by omega) (by omega)
    have b1 : inb (nI m) 10 = true := inb_nI hm (by omega)
    have b2 : ix (nI m) = m := ix_nI (by omega)
    have e1 : inb (nI i) 96 = true := inb_nI (by omega) (by omega)
    have e2 : ix (nI i) = i := ix_nI (by omega)
    have o : ∀ b j, ¬ (b = 269 ∨ b = 270) → flS σ 0 255 0 wn 0 3 i b j = σ b j := fun b j z => flS_at (by omega)
    have u1 := o 245 m (by omega)
    rw [hw] at u1
    rw [← ih (i + 1) (by omega), ← flS_s]
    simp only [Nat.mul_zero, Nat.zero_add]
    by_cases c1 : i < wn
    · have q1 : ¬ nI wn ≤ nI i := nI_nle2 (by omega) (by omega)
      have i3 : inb (nI i) 3 = true := inb_nI (by omega) (by omega)
      rw [if_pos ⟨c1, by omega⟩, if_pos ⟨c1, by omega⟩]
      have u2 := o 255 i (by omega)
      have u3 := o 256 i (by omega)
      generalize hτ : flS σ 0 255 0 wn 0 3 i = τ at *
      show _ = pX 1153 84 [.ref 244, .int (nI m), l2, .int (nI (i + 1))] [] (mset k (hp_u (hp_u τ 269 i (σ 255 i)) 270 i (σ 256 i)))
      generalize hR : pX 1153 84 [.ref 244, .int (nI m), l2, .int (nI (i + 1))] [] (mset k (hp_u (hp_u τ 269 i (σ 255 i)) 270 i (σ 256 i))) = R
      simp only [x1153_84, x1153_85, x1153_87, x1153_90, x1153_91, x1153_94, x1153_95, x1153_96, x1153_97, x1153_100, x1153_101, x1153_102, x1153_105, x1153_106, x1153_109, x1153_110, x1153_111, x1153_115, x1153_116, x1153_117, x1153_120, x1153_121, x1153_122, x1153_123, x1153_126, x1153_127, x1153_128, x1153_131, x1153_132, x1153_135, x1153_136, x1153_137, x1153_141, x1153_142, q8, if_false, hp_k_ms, hp_a_ms, hp_l_ms, x.k244, x.a244_33, x.k269, x.l269, x.a244_34, x.k270, x.l270, x.a244_1, x.k245, x.l245, x.a244_13, x.k255, x.l255, x.a244_14, x.k256, x.l256, ms_r (show 244 ≤ 245 ∧ 245 < 276 by omega), ms_r (show 244 ≤ 255 ∧ 255 < 276 by omega), ms_r (show 244 ≤ 256 ∧ 256 < 276 by omega), ms_w (show 244 ≤ 269 ∧ 269 < 276 by omega), ms_w (show 244 ≤ 270 ∧ 270 < 276 by omega), b1, b2, u1, u2, u3, q1, i3, e1, e2, hu_cell (show ¬ 245 = 269 by omega), hu_cell (show ¬ 256 = 269 by omega), nI_1]
      rw [x1153_145]
      exact hR
    · have q1 : nI wn ≤ nI i := nI_le (by omega) (by omega)
      rw [if_neg (by omega), if_neg (by omega)]
      generalize hτ : flS σ 0 255 0 wn 0 3 i = τ at *
      generalize hR : pX 1153 84 [.ref 244, .int (nI m), l2, .int (nI (i + 1))] [] (mset k (hp_u (hp_u τ 269 i 0) 270 i 0)) = R
      simp only [x1153_84, x1153_85, x1153_87, x1153_90, x1153_91, x1153_94, x1153_95, x1153_96, x1153_97, x1153_100, x1153_101, x1153_102, x1153_114, x1153_115, x1153_116, x1153_117, x1153_120, x1153_121, x1153_122, x1153_123, x1153_126, x1153_127, x1153_128, x1153_140, x1153_141, x1153_142, q8, if_false, hp_k_ms, hp_a_ms, hp_l_ms, x.k244, x.a244_33, x.k269, x.l269, x.a244_34, x.k270, x.l270, x.a244_1, x.k245, x.l245, ms_r (show 244 ≤ 245 ∧ 245 < 276 by omega), ms_w (show 244 ≤ 269 ∧ 269 < 276 by omega), ms_w (show 244 ≤ 270 ∧ 270 < 276 by omega), b1, b2, u1, q1, if_true, e1, e2, hu_cell (show ¬ 245 = 269 by omega), nI_1]
      rw [x1153_145]
      exact hR
/-- the heap as a run begins -/
def stH (h : HP) (t b : Int32) : HP := hp_cp (slSet (hp_wi (zrH (hp_wi (hp_wi h 5 12 t) 7 2 b) 9) 5 11 0) 14 (-5) 0 0 0) 11 0 12 0 12
theorem st_e0 {m b : Nat} (X : FX L h) : pX 305 0 [.ref 5, .int (nI m), .int (nI b), .ref 240] [] h = pX 305 15 [.ref 5, .int (nI m), .int (nI b), .ref 240] [.int (nI b), .ref 7] (hp_wi h 5 12 (hp_i h 5 12 + 1)) := by
  simp only [x305_0, x305_1, x305_2, x305_5, x305_6, x305_7, x305_10, x305_11, x305_14, X.k5, hp_k_wi, hp_a_wi, X.a5_2]
theorem st_e1 {m b : Nat} (X : FX L h) : pX 305 15 [.ref 5, .int (nI m), .int (nI b), .ref 240] [.int (nI b), .ref 7] h = pX 305 18 [.ref 5, .int (nI m), .int (nI b), .ref 240] [] (zrH (hp_wi h 7 2 (nI b)) 9) := by
  have op := sp_open (b := nI b) X
  generalize zrH (hp_wi h 7 2 (nI b)) 9 = g at op ⊢
  simp only [x305_15, X.k7, op, Option.bind_some, Option.toList_some, Option.toList_none, List.singleton_append, List.nil_append]
theorem st_e2 {m b : Nat} (k5 : hp_k h 5 = 4) (a58 : hp_a h 5 8 = 14) (k14 : hp_k h 14 = 9) : pX 305 18 [.ref 5, .int (nI m), .int (nI b), .ref 240] [] h = pX 305 30 [.ref 5, .int (nI m), .int (nI b), .ref 240] [] (slSet (hp_wi h 5 11 0) 14 (-5) 0 0 0) := by
  have nt := sp_nothing (h := hp_wi h 5 11 0) (a := 14) (by rw [hp_k_wi]; exact k14)
  generalize slSet (hp_wi h 5 11 0) 14 (-5) 0 0 0 = g at nt ⊢
  simp only [x305_18, x305_19, x305_20, x305_23, x305_24, x305_27, k5, hp_k_wi, hp_a_wi, a58, k14, nt, Option.bind_some, Option.toList_some, Option.toList_none, List.singleton_append, List.nil_append]
theorem st_e3 {m b : Nat} (k5' : hp_k h 5 = 4) (k11' : hp_k h 11 = 100) (k12' : hp_k h 12 = 100) (l11' : hp_l h 11 = 12) (l12' : hp_l h 12 = 12) (a54' : hp_a h 5 4 = 11) (a55' : hp_a h 5 5 = 12) : pX 305 30 [.ref 5, .int (nI m), .int (nI b), .ref 240] [] h = pX 305 49 [.ref 5, .int (nI m), .int (nI b), .ref 240] [.int 0, .ref 240, .int (nI m), .ref 5] (hp_cp h 11 0 12 0 12) := by
  have z0 : ix 0 = 0 := ix_lit (by decide)
  have z12 : ix 12 = 12 := ix_lit (by decide)
  have e := x305_42 (L := [.ref 5, .int (nI m), .int (nI b), .ref 240]) (x0 := 12) (x1 := 0) (x2 := 0) k11' k12' (by decide) (by decide) (by decide) (by rw [z0, z12, l11']; omega) (by rw [z0, z12, l12']; omega)
  rw [z0, z12] at e
  simp only [x305_30, x305_31, x305_34, x305_35, x305_36, x305_39, x305_40, x305_45, x305_46, x305_47, x305_48, k5', a54', a55', e]
theorem start_ex {m b : Nat} (X : FX L h) : pX 305 0 [.ref 5, .int (nI m), .int (nI b), .ref 240] [] h = pX 305 49 [.ref 5, .int (nI m), .int (nI b), .ref 240] [.int 0, .ref 240, .int (nI m), .ref 5] (stH h (hp_i h 5 12 + 1) (nI b)) := by
  unfold stH
  rw [st_e0 X]
  have X1 : FX L (hp_wi h 5 12 (hp_i h 5 12 + 1)) := X.wi
  generalize hp_wi h 5 12 (hp_i h 5 12 + 1) = g1 at X1 ⊢
  rw [st_e1 X1]
  have X2 : FX L (hp_wi g1 7 2 (nI b)) := X1.wi
  generalize hp_wi g1 7 2 (nI b) = g2 at X2 ⊢
  obtain ⟨r1, r2, r3⟩ := zrH_r g2 9
  have k5 : hp_k (zrH g2 9) 5 = 4 := by rw [r1]; exact X2.k5
  have a58 : hp_a (zrH g2 9) 5 8 = 14 := by rw [r2]; exact X2.a5_8
  have k14 : hp_k (zrH g2 9) 14 = 9 := by rw [r1]; exact X2.k14
  have k11 : hp_k (zrH g2 9) 11 = 100 := by rw [r1]; exact X2.k11
  have k12 : hp_k (zrH g2 9) 12 = 100 := by rw [r1]; exact X2.k12
  have l11 : hp_l (zrH g2 9) 11 = 12 := by rw [r3]; exact X2.l11
  have l12 : hp_l (zrH g2 9) 12 = 12 := by rw [r3]; exact X2.l12
  have a54 : hp_a (zrH g2 9) 5 4 = 11 := by rw [r2]; exact X2.a5_4
  have a55 : hp_a (zrH g2 9) 5 5 = 12 := by rw [r2]; exact X2.a5_5
  generalize zrH g2 9 = g3 at k5 a58 k14 k11 k12 l11 l12 a54 a55 ⊢
  rw [st_e2 k5 a58 k14]
  refine st_e3 ?_ ?_ ?_ ?_ ?_ ?_ ?_
  · rw [hp_k_sl, hp_k_wi]; exact k5
  · rw [hp_k_sl, hp_k_wi]; exact k11
  · rw [hp_k_sl, hp_k_wi]; exact k12
  · rw [hp_l_sl, hp_l_wi]; exact l11
  · rw [hp_l_sl, hp_l_wi]; exact l12
  · rw [hp_a_sl, if_neg (by omega), if_neg (by omega), hp_a_wi]; exact a54
  · rw [hp_a_sl, if_neg (by omega), if_neg (by omega), hp_a_wi]; exact a55
theorem start_cr {b : Nat} (c : CR L h0 h σ ca ra hs sp) : CR L h0 (stH h (σ 275 1 + 1) (nI b)) (cpS (hp_u (hp_u (hp_u (zrS (hp_u (hp_u σ 275 1 (σ 275 1 + 1)) 244 37 (nI b)) 9) 244 41 0) 244 15 0) 244 16 0) 253 254 12) ca ra hs sp := by
  unfold stH
  have d1 : CR L h0 (hp_wi h 5 12 (σ 275 1 + 1)) (hp_u σ 275 1 (σ 275 1 + 1)) ca ra hs sp := c.w (CMR.told (t := 1) (by omega) (by omega)) (by unfold depS; omega)
  generalize hp_wi h 5 12 (σ 275 1 + 1) = g1 at d1 ⊢
  generalize hp_u σ 275 1 (σ 275 1 + 1) = s1 at d1 ⊢
  have d2 := d1.w CMR.budget (x := nI b) (by unfold depS; omega)
  generalize hp_wi g1 7 2 (nI b) = g2 at d2 ⊢
  generalize hp_u s1 244 37 (nI b) = s2 at d2 ⊢
  have d3 := d2.zr 9 (Nat.le_refl _)
  generalize zrH g2 9 = g3 at d3 ⊢
  generalize zrS s2 9 = s3 at d3 ⊢
  have d4 := d3.w CMR.traced (x := 0) (by unfold depS; omega)
  generalize hp_wi g3 5 11 0 = g4 at d4 ⊢
  generalize hp_u s3 244 41 0 = s4 at d4 ⊢
  have d5 := d4.slot (K := 0) (V := 0) (Or.inl ⟨rfl, rfl, rfl, rfl, rfl⟩) (Or.inl rfl)
  have tz : thK s4 0 0 = -5 := by unfold thK; rw [if_pos rfl]
  rw [tz, if_neg (show ¬ (0 : Int32) = 1 by decide), if_neg (show ¬ (0 : Int32) = 2 by decide), if_neg (show ¬ (0 : Int32) = 3 by decide)] at d5
  exact d5.plan (p := 11) (q := 12) (Or.inl ⟨rfl, rfl⟩)
theorem start_cls {m b : Nat} (c : CR L h0 h σ ca ra hs sp) : ∃ g6, pX 305 0 [.ref 5, .int (nI m), .int (nI b), .ref 240] [] h = pX 305 49 [.ref 5, .int (nI m), .int (nI b), .ref 240] [.int 0, .ref 240, .int (nI m), .ref 5] g6 ∧ CR L h0 g6 (cpS (hp_u (hp_u (hp_u (zrS (hp_u (hp_u σ 275 1 (σ 275 1 + 1)) 244 37 (nI b)) 9) 244 41 0) 244 15 0) 244 16 0) 253 254 12) ca ra hs sp := by
  have f12 : hp_i h 5 12 = σ 275 1 := c.fi _ _ _ _ (CMR.told (t := 1) (by omega) (by omega))
  have e := start_ex (m := m) (b := b) c.fx
  rw [f12] at e
  exact ⟨_, e, start_cr c⟩
def stS (σ : SM) (b : Int32) : SM := hp_u (hp_u (hp_u (hp_u (hp_u (hp_u σ 244 37 b) 244 15 0) 244 16 0) 275 1 (σ 275 1 + 1)) 244 41 0) 244 29 0
theorem start_eq {b : Nat} (hF : σ 244 29 = nI 0) : ∀ p q, zrS (stS σ (nI b)) 9 p q = (hp_u (hp_u (hp_u (zrS (hp_u (hp_u σ 275 1 (σ 275 1 + 1)) 244 37 (nI b)) 9) 244 41 0) 244 15 0) 244 16 0) p q := by
  intro p q
  rw [zrS_if]
  unfold stS
  simp only [hu_at, zrS_if]
  by_cases y1 : p = 244
  · rw [if_neg (by omega), if_neg (show ¬ (p = 275 ∧ q = 1) by omega), if_neg (show ¬ (p = 273 ∧ q < 9) by omega), if_neg (show ¬ (p = 275 ∧ q = 1) by omega)]
    by_cases y2 : q = 29
    · rw [if_pos ⟨y1, y2⟩, if_neg (by omega), if_neg (by omega), if_neg (by omega), if_neg (by omega), y1, y2, hF]
      rfl
    · rw [if_neg (fun z => y2 z.2)]
      by_cases y3 : q = 41
      · rw [if_pos ⟨y1, y3⟩, if_neg (by omega), if_neg (by omega), if_pos ⟨y1, y3⟩]
      · rw [if_neg (fun z => y3 z.2), if_neg (show ¬ (p = 244 ∧ q = 41) from fun z => y3 z.2)]
  · by_cases y2 : p = 273 ∧ q < 9
    · rw [if_pos y2, if_neg (by omega), if_neg (by omega), if_neg (by omega), if_pos y2]
    · rw [if_neg y2, if_neg (by omega), if_neg (by omega), if_neg y2, if_neg (show ¬ (p = 244 ∧ q = 16) by omega), if_neg (show ¬ (p = 244 ∧ q = 15) by omega), if_neg (show ¬ (p = 244 ∧ q = 37) by omega), if_neg (show ¬ (p = 244 ∧ q = 16) by omega), if_neg (show ¬ (p = 244 ∧ q = 15) by omega), if_neg (show ¬ (p = 244 ∧ q = 41) by omega), if_neg (show ¬ (p = 244 ∧ q = 37) by omega)]
theorem start_mod {k : HP} {m b wn : Nat} (x : FX L k) (m10 : m < 10) (w1 : σ 245 m = nI wn) (w2 : wn ≤ 3) : pX 1153 0 [.ref 244, .int (nI m), .int (nI b), .retAddr 0] [] (mset k σ) = pX 1153 148 [.ref 244, .int (nI m), .int (nI b), .int (nI 8)] [] (mset k (flS (cpS (zrS (stS σ (nI b)) 9) 253 254 12) 0 255 0 wn 0 3 8)) := by
  have i1 : inb 1 5 = true := inb_lit (by decide) (by decide)
  have j1 : ix 1 = 1 := ix_lit (by decide)
  have p1 : pX 1153 0 [.ref 244, .int (nI m), .int (nI b), .retAddr 0] [] (mset k σ) = pX 1153 37 [.ref 244, .int (nI m), .int (nI b), .int 0] [] (mset k (stS σ (nI b))) := by
    unfold stS
    simp only [x1153_0, x1153_1, x1153_2, x1153_5, x1153_6, x1153_7, x1153_10, x1153_11, x1153_12, x1153_15, x1153_16, x1153_19, x1153_20, x1153_21, x1153_22, x1153_23, x1153_24, x1153_25, x1153_26, x1153_27, x1153_30, x1153_31, x1153_32, x1153_35, x1153_36, hp_k_ms, hp_a_ms, hp_l_ms, x.k244, x.a244_43, x.k275, x.l275, ms_r (show 244 ≤ 275 ∧ 275 < 276 by omega), ms_w (show 244 ≤ 244 ∧ 244 < 276 by omega), ms_w (show 244 ≤ 275 ∧ 275 < 276 by omega), i1, j1, hu_cell (show ¬ 275 = 244 by omega)]
  have ws : cpS (zrS (stS σ (nI b)) 9) 253 254 12 245 m = nI wn := by
    rw [cpS_at (by omega), zrS_if, if_neg (by omega)]
    unfold stS
    rw [hu_cell (by omega), hu_cell (by omega), hu_cell (by omega), hu_cell (by omega), hu_cell (by omega), hu_cell (by omega)]
    exact w1
  generalize stS σ (nI b) = s1 at p1 ws
  have p2 := st_zr (σ := s1) (l1 := .int (nI m)) (l2 := .int (nI b)) x 9 0 (by omega)
  rw [show zrS s1 0 = s1 from rfl, show nI 0 = 0 from rfl] at p2
  generalize zrS s1 9 = s2 at p2 ws
  have p3 := st_cp (σ := s2) (l1 := .int (nI m)) (l2 := .int (nI b)) x 12 0 (by omega)
  rw [cpS_0, show nI 0 = 0 from rfl] at p3
  generalize cpS s2 253 254 12 = s3 at p3 ws
  have p4 := st_fl (σ := s3) (l2 := .int (nI b)) (m := m) (wn := wn) x m10 ws w2 8 0 (by omega)
  rw [flS_0, show nI 0 = 0 from rfl] at p4
  rw [p1, p2, x1153_56, x1153_57, p3, x1153_82, x1153_83, p4]
theorem op_start {m b : Nat} (w : IV L h0 h σ A False) (hF : σ 244 29 = nI 0) (hm : m < ix (σ 244 0)) (hb : b ≤ 1000) : ∃ v h' σ', pX 305 0 [.ref 5, .int (nI m), .int (nI b), .ref 240] [] h = some (some (.int v), h') ∧ (∀ k, FX L k → pX 1153 0 [.ref 244, .int (nI m), .int (nI b), .retAddr 0] [] (mset k σ) = some (none, mset k σ')) ∧ IV L h0 h' σ' A False ∧ PH σ' ≤ PH σ ∧ σ' 244 8 = σ 244 8 ∧ ((v = 1 ∧ ¬ σ' 244 29 = nI 0) ∨ (¬ v = 1 ∧ σ' 244 29 = nI 0 ∧ σ' 244 44 = v)) := by
  obtain ⟨⟨ca, ra, hs, sp, c⟩, gc, gb, gf, hh, hA⟩ := w
  have X := c.fx
  obtain ⟨M, M1, M2⟩ := gc.1
  have m10 : m < 10 := by rw [M1, ix_nI (by omega)] at hm; omega
  obtain ⟨wn, w1, w2⟩ := (gc.2.1 m m10).1
  obtain ⟨g6, cst, d6⟩ := start_cls (m := m) (b := b) c
  have X6 := d6.fx
  -- the model's
  have se := start_eq (b := b) hF
  have sm := fun k (x : FX L k) => start_mod (σ := σ) (b := b) (m := m) (wn := wn) x m10 w1 w2
  generalize hs1 : stS σ (nI b) = s1 at se sm
  generalize hs3 : cpS (zrS s1 9) 253 254 12 = s3
  have k3 : ∀ p q, ¬ (p = 244 ∧ (q = 15 ∨ q = 16 ∨ q = 29 ∨ q = 37 ∨ q = 41)) → ¬ p = 254 → ¬ p = 273 → ¬ p = 275 → s3 p q = σ p q := by
    intro p q h1 h2 h3 h4
    rw [← hs3, cpS_at h2, zrS_if, if_neg (fun z => h3 z.1), ← hs1, stS, hu_at, if_neg (by omega), hu_at, if_neg (by omega), hu_at, if_neg (by omega), hu_at, if_neg (by omega), hu_at, if_neg (by omega), hu_at, if_neg (by omega)]
  have s29 : s3 244 29 = nI 0 := by
    rw [← hs3, cpS_at (by omega), zrS_if, if_neg (by omega), ← hs1, stS, hu_same]
    rfl
  have s15 : s3 244 15 = 0 := by
    rw [← hs3, cpS_at (by omega), zrS_if, if_neg (by omega), ← hs1, stS, hu_idx (by omega), hu_idx (by omega), hu_cell (by omega), hu_idx (by omega), hu_same]
  have c3 : CR L h0 g6 s3 ca ra hs sp := by
    refine d6.agree (fun p q y1 y2 y3 => ?_)
    rw [← hs3]
    unfold cpS
    rw [se, se]
  rw [hs3] at sm
  have mst := sm
  have kf : ∀ p q, ¬ ((p = 269 ∨ p = 270) ∧ q < 8) → flS s3 0 255 0 wn 0 3 8 p q = s3 p q := fun p q z => flS_at (by omega)
  have fv : ∀ k, k < 8 → flS s3 0 255 0 wn 0 3 8 269 (8 * 0 + k) = (if k < wn ∧ 0 + k < 3 then s3 255 (0 + (0 + k)) else 0) ∧ flS s3 0 255 0 wn 0 3 8 270 (8 * 0 + k) = (if k < wn ∧ 0 + k < 3 then s3 (255 + 1) (0 + (0 + k)) else 0) := by
    intro k hk
    unfold flS
    rw [if_pos (show (269 = 269 ∨ 269 = 270) ∧ 8 * 0 ≤ 8 * 0 + k ∧ 8 * 0 + k < 8 * 0 + 8 by omega), if_pos (show (270 = 269 ∨ 270 = 270) ∧ 8 * 0 ≤ 8 * 0 + k ∧ 8 * 0 + k < 8 * 0 + 8 by omega), show 8 * 0 + k - 8 * 0 = k by omega, if_pos (show 269 = 269 from rfl), if_neg (show ¬ 270 = 269 by omega)]
    exact ⟨rfl, rfl⟩
  generalize hs4 : flS s3 0 255 0 wn 0 3 8 = s4 at mst kf fv
  have c4 := c3.agree (σ' := s4) (fun p q y1 y2 y3 => kf p q (fun z => y3 (by rw [s29, ix_nI (by omega)]; unfold dead; omega)))
  have gc4 : GC s4 := gc.congr (fun p q h => by rw [kf p q (by omega), k3 p q (by omega) (by omega) (by omega) (by omega)])
  have gb4 : GB s4 := by
    obtain ⟨y1, y2, y3, y4, y5, y6, y7⟩ := gb
    unfold GB
    rw [kf 244 41 (by omega), kf 244 37 (by omega), kf 244 38 (by omega), kf 244 17 (by omega), kf 244 23 (by omega), kf 244 28 (by omega), k3 244 38 (by omega) (by omega) (by omega) (by omega), k3 244 17 (by omega) (by omega) (by omega) (by omega), k3 244 23 (by omega) (by omega) (by omega) (by omega), k3 244 28 (by omega) (by omega) (by omega) (by omega)]
    refine ⟨⟨0, ?_, by omega⟩, ⟨b, ?_, hb⟩, y3, y4, y5, y6, y7⟩
    · rw [← hs3, cpS_at (by omega), zrS_if, if_neg (by omega), ← hs1, stS, hu_idx (by omega), hu_same]
      rfl
    · rw [← hs3, cpS_at (by omega), zrS_if, if_neg (by omega), ← hs1, stS, hu_idx (by omega), hu_idx (by omega), hu_cell (by omega), hu_idx (by omega), hu_idx (by omega), hu_same]
  have f4 : s4 244 29 = nI 0 := by rw [kf _ _ (by omega)]; exact s29
  have gf4 : GF s4 False := by
    obtain ⟨y1, y2, y3, y4, y5⟩ := gf
    refine ⟨⟨0, f4, by omega⟩, fun f hf => ?_, fun f hf0 hf => ?_, fun hf => ?_, fun f hf => ?_⟩
    · rw [f4, ix_nI (by omega)] at hf; exact absurd hf (by omega)
    · rw [f4, ix_nI (by omega)] at hf; exact absurd hf (by omega)
    · rw [f4, ix_nI (by omega)] at hf; exact absurd hf (by omega)
    · rw [kf _ _ (by omega), kf _ _ (by omega), k3 _ _ (by omega) (by omega) (by omega) (by omega), k3 _ _ (by omega) (by omega) (by omega) (by omega)]
      exact y5 f hf
  have hh4 : HH s4 A := hh.congr (fun p q h => by
    rw [kf p q (by omega)]
    by_cases z : p = 244 ∧ q = 29
    · rw [z.1, z.2, s29, hF]
    · exact k3 p q (by omega) (by omega) (by omega) (by omega))
  have ph4 : PH s4 ≤ PH σ := by
    unfold PH
    rw [f4, hF, kf 244 38 (by omega), k3 244 38 (by omega) (by omega) (by omega) (by omega), ix_nI (by omega)]
    have e1 : ∀ g : Nat → Nat, sumN g 0 = 0 := fun g => rfl
    have a1 := e1 (fun f => 40 - ix (s4 267 f))
    have a2 := e1 (fun f => 40 - ix (σ 267 f))
    omega
  have e84 : s4 244 8 = σ 244 8 := by rw [kf _ _ (by omega), k3 _ _ (by omega) (by omega) (by omega) (by omega)]
  have h154 : s4 244 15 = 0 := by rw [kf _ _ (by omega)]; exact s15
  have bg := op_begin (F := 0) (m := m) (wn := wn) (fi := 0) (Ln := 3) (gv := 240) (xb := 255) (yb := 0) (gs := fun j => 241 + j) (to := 0) c4 gc4 gb4 gf4 hh4 hA f4 (by omega) (by rw [kf _ _ (by omega), k3 _ _ (by omega) (by omega) (by omega) (by omega)]; exact hm) (by rw [kf _ _ (by omega), k3 _ _ (by omega) (by omega) (by omega) (by omega)]; exact w1) w2 (by omega) (by omega) h154 (fun z => absurd z (by omega)) (fun g y => ⟨y.k240, y.l240, fun j hj => ⟨y.arg j hj, y.argk j hj⟩⟩) (fun j hj => by unfold chg; omega) (by unfold chg; omega) (Or.inl rfl) (fun j hj => by rw [Nat.zero_add]; exact Or.inr (Or.inl ⟨j, hj, rfl, rfl, rfl, rfl, rfl⟩)) (fun k hk => by
    obtain ⟨y1, y2⟩ := fv k hk
    rw [y1, y2]
    by_cases z : k < wn ∧ 0 + k < 3
    · rw [if_pos z, if_pos z, if_pos z, if_pos z, kf 255 _ (by omega), kf (255 + 1) _ (by omega)]
      exact ⟨rfl, rfl⟩
    · rw [if_neg z, if_neg z, if_neg z, if_neg z]
      exact ⟨rfl, rfl⟩)
  rcases bg with ⟨z1, z2⟩ | ⟨h1, σ1, z1, z2, z3, z4, z5, z6, z7⟩
  · obtain ⟨h'', σ', q1, q2, q3, q4, q5, q6, q7⟩ := op_stop (t := False) ⟨⟨_, _, _, _, c4⟩, gc4, gb4, gf4, hh4, hA⟩ h154
    refine ⟨-9, h'', σ', ?_, fun k x => ?_, q3, by omega, q7.trans e84, Or.inr ⟨by decide, q4, q5⟩⟩
    · rw [cst]
      have z1' : pX 308 0 [.ref 5, .int (nI m), .ref 240, .int 0, .retAddr 0] [] g6 = some (some (.int 0), g6) := z1
      simp only [x305_49, x305_52, x305_62, x305_63, x305_66, X6.k5, z1', Option.bind_some, Option.toList_some, Option.toList_none, List.singleton_append, List.nil_append, if_true, q1]
    · rw [mst k x]
      simp only [x1153_148, x1153_149, x1153_150, x1153_151, x1153_154, x1153_157, x1153_158, x1153_161, x1153_162, x1153_165, hp_k_ms, x.k244, z2 k x, Option.bind_some, Option.toList_some, Option.toList_none, List.singleton_append, List.nil_append, if_true, q2 k x, settle0 x q4]
  · obtain ⟨v, h', σ', q1, q2, q3, q4, q5, q6⟩ := op_settle z3 z4 (by omega) (by omega)
    obtain ⟨ca1, ra1, hs1', sp1, c1⟩ := z3.1
    refine ⟨v, h', σ', ?_, fun k x => ?_, q3, by omega, (q5.trans z6).trans e84, ?_⟩
    · rw [cst]
      have z1' : pX 308 0 [.ref 5, .int (nI m), .ref 240, .int 0, .retAddr 0] [] g6 = some (some (.int 1), h1) := z1
      simp only [x305_49, x305_52, x305_55, x305_56, x305_59, x305_66, X6.k5, z1', Option.bind_some, Option.toList_some, Option.toList_none, List.singleton_append, List.nil_append, i32_10, if_false, c1.fx.k5, q1]
    · rw [mst k x]
      simp only [x1153_148, x1153_149, x1153_150, x1153_151, x1153_154, x1153_161, x1153_162, x1153_165, hp_k_ms, x.k244, z2 k x, Option.bind_some, Option.toList_some, Option.toList_none, List.singleton_append, List.nil_append, i32_10, if_false, q2 k x]
    · rcases q6 with ⟨y1, y2⟩ | ⟨y1, y2, y3⟩
      · exact Or.inl ⟨y1, y2⟩
      · exact Or.inr ⟨by rw [y1]; decide, y2, by rw [y3, y1]⟩
end
