/-! THE CONSTRUCTORS: the model's -/
def mfF (i : Nat) : Nat := ([1, 2, 3, 4, 5, 6, 7, 9, 11, 12, 13, 14, 18, 19, 20, 21, 22, 24, 25, 26, 27, 30, 31, 32, 33, 34, 35, 36, 39, 40, 43] : List Nat).getD i 0
def mfL (i : Nat) : Nat := ([10, 10, 1600, 10, 240, 10, 5, 41, 12, 12, 3, 3, 6000, 6000, 6000, 6000, 6000, 6000, 6000, 6000, 6000, 12, 12, 12, 96, 96, 12, 72000, 9, 100, 5] : List Nat).getD i 0
def mfI (j : Nat) : Nat := if j < 44 then ([0, 1, 2, 3, 4, 5, 6, 7, 0, 8, 0, 9, 10, 11, 12, 0, 0, 0, 13, 14, 15, 16, 17, 0, 18, 19, 20, 21, 0, 0, 22, 23, 24, 25, 26, 27, 28, 0, 0, 29, 30, 0, 0, 31] : List Nat).getD j 0 else 0
def mfS : Nat → Nat
  | 0 => 0
  | n + 1 => mfS n + mfL n
/-- with i arrays made -/
def mfH (h : HP) (i : Nat) : HP := (hp_n h + i, hp_s h + mfS i, fun y => if 245 ≤ y ∧ y < 245 + i then 100 else hp_k h y, fun y => if 245 ≤ y ∧ y < 245 + i then mfL (y - 245) else hp_l h y, fun y j => if 245 ≤ y ∧ y < 245 + i then 0 else hp_i h y j, fun y j => if y = 244 ∧ 1 ≤ mfI j ∧ mfI j ≤ i then 244 + mfI j else if 245 ≤ y ∧ y < 245 + i then 0 else hp_a h y j)
theorem mf_n (h : HP) (i : Nat) : hp_n (mfH h i) = hp_n h + i := rfl
theorem mf_s (h : HP) (i : Nat) : hp_s (mfH h i) = hp_s h + mfS i := rfl
theorem mf_k (h : HP) (i y : Nat) : hp_k (mfH h i) y = if 245 ≤ y ∧ y < 245 + i then 100 else hp_k h y := rfl
theorem mf_l (h : HP) (i y : Nat) : hp_l (mfH h i) y = if 245 ≤ y ∧ y < 245 + i then mfL (y - 245) else hp_l h y := rfl
theorem mf_i (h : HP) (i y j : Nat) : hp_i (mfH h i) y j = if 245 ≤ y ∧ y < 245 + i then 0 else hp_i h y j := rfl
theorem mf_a (h : HP) (i y j : Nat) : hp_a (mfH h i) y j = if y = 244 ∧ 1 ≤ mfI j ∧ mfI j ≤ i then 244 + mfI j else if 245 ≤ y ∧ y < 245 + i then 0 else hp_a h y j := rfl
theorem mfI_F {i : Nat} (h : i < 31) : mfI (mfF i) = i + 1 := by
  have : ∀ k : Fin 31, mfI (mfF k.val) = k.val + 1 := by decide
  exact this ⟨i, h⟩
theorem mfF_I {i j : Nat} (h : mfI j = i + 1) : j = mfF i := by
  by_cases q : j < 44
  · have : ∀ k : Fin 44, mfI k.val ≠ 0 → k.val = mfF (mfI k.val - 1) := by decide
    have := this ⟨j, q⟩ (by show mfI j ≠ 0; omega)
    rw [show mfI (⟨j, q⟩ : Fin 44).val = i + 1 from h] at this
    exact this
  · unfold mfI at h
    rw [if_neg q] at h
    omega
theorem mf_0 {h : HP} : mfH h 0 = h := by
  refine hp_ext (by rw [mf_n]; omega) (by rw [mf_s]; rfl) (fun y => ?_) (fun y => ?_) (fun y j => ?_) (fun y j => ?_)
  · rw [mf_k, if_neg (by omega)]
  · rw [mf_l, if_neg (by omega)]
  · rw [mf_i, if_neg (by omega)]
  · rw [mf_a, if_neg (by omega), if_neg (by omega)]
theorem mf_st {h : HP} {i : Nat} (hn : hp_n h = 245) (hi : i < 31) : stA (mfH h i) 244 (mfF i) (mfL i) = mfH h (i + 1) := by
  refine hp_ext ?_ ?_ (fun y => ?_) (fun y => ?_) (fun y j => ?_) (fun y j => ?_)
  · rw [stA_n, mf_n, mf_n]; omega
  · rw [stA_s, mf_s, mf_s]; show _ = hp_s h + (mfS i + mfL i); omega
  · rw [stA_k, mf_k, mf_k, mf_n, hn]
    by_cases q : y = 245 + i
    · rw [if_pos q, if_pos (by omega)]
    · rw [if_neg q]
      by_cases z : 245 ≤ y ∧ y < 245 + i
      · rw [if_pos z, if_pos (by omega)]
      · rw [if_neg z, if_neg (by omega)]
  · rw [stA_l, mf_l, mf_l, mf_n, hn]
    by_cases q : y = 245 + i
    · rw [if_pos q, if_pos (by omega), q, show 245 + i - 245 = i by omega]
    · rw [if_neg q]
      by_cases z : 245 ≤ y ∧ y < 245 + i
      · rw [if_pos z, if_pos (by omega)]
      · rw [if_neg z, if_neg (by omega)]
  · rw [stA_i, mf_i, mf_i, mf_n, hn]
    by_cases q : y = 245 + i
    · rw [if_pos q, if_pos (by omega)]
    · rw [if_neg q]
      by_cases z : 245 ≤ y ∧ y < 245 + i
      · rw [if_pos z, if_pos (by omega)]
      · rw [if_neg z, if_neg (by omega)]
  · rw [stA_a, mf_a, mf_a, mf_n, hn]
    by_cases p : y = 244 ∧ j = mfF i
    · have e := mfI_F hi
      rw [if_pos p, p.2, e, if_pos (by omega)]; omega
    · rw [if_neg p]
      by_cases y4 : y = 244
      · have e : mfI j ≠ i + 1 := fun z => p ⟨y4, mfF_I z⟩
        rw [if_neg (by omega)]
        by_cases z : 1 ≤ mfI j ∧ mfI j ≤ i
        · rw [if_pos ⟨y4, z⟩, if_pos (by omega)]
        · rw [if_neg (fun x => z x.2), if_neg (by omega), if_neg (by omega), if_neg (by omega)]
      · have n1 : ¬ (y = 244 ∧ 1 ≤ mfI j ∧ mfI j ≤ i) := fun x => y4 x.1
        have n2 : ¬ (y = 244 ∧ 1 ≤ mfI j ∧ mfI j ≤ i + 1) := fun x => y4 x.1
        rw [if_neg n1, if_neg n2]
        by_cases q : y = 245 + i
        · rw [if_pos q, if_pos (by omega)]
        · rw [if_neg q]
          by_cases z : 245 ≤ y ∧ y < 245 + i
          · rw [if_pos z, if_pos (by omega)]
          · rw [if_neg z, if_neg (by omega)]
section
variable {h : HP} {l1 : Value}
theorem mf_pk (hn : hp_n h = 245) (hk : hp_k h 244 = 12) (i c : Nat) : hp_k (hp_mk (mfH h i) 100 c c) 244 = 12 := by
  rw [hp_k_mk, mf_n, hn, if_neg (by omega), mf_k, if_neg (by omega), hk]
theorem mi_0 (hn : hp_n h = 245) (hk : hp_k h 244 = 12) : pX 1100 4 [.ref 244, l1] [] (mfH h 0) = pX 1100 12 [.ref 244, l1] [] (mfH h 1) := by
  simp only [x1100_4, x1100_5, x1100_7, x1100_9, show ix (10 : Int32) = 10 from ix_nI (n := 10) (by omega), show (0 : Int32) ≤ 10 from by decide, show 10 ≤ 134217728 from by omega, mf_pk hn hk]
  exact congrArg (fun z => pX 1100 12 [.ref 244, l1] [] z) (mf_st (i := 0) hn (by omega))
theorem mi_1 (hn : hp_n h = 245) (hk : hp_k h 244 = 12) : pX 1100 12 [.ref 244, l1] [] (mfH h 1) = pX 1100 20 [.ref 244, l1] [] (mfH h 2) := by
  simp only [x1100_12, x1100_13, x1100_15, x1100_17, show ix (10 : Int32) = 10 from ix_nI (n := 10) (by omega), show (0 : Int32) ≤ 10 from by decide, show 10 ≤ 134217728 from by omega, mf_pk hn hk]
  exact congrArg (fun z => pX 1100 20 [.ref 244, l1] [] z) (mf_st (i := 1) hn (by omega))
theorem mi_2 (hn : hp_n h = 245) (hk : hp_k h 244 = 12) : pX 1100 20 [.ref 244, l1] [] (mfH h 2) = pX 1100 29 [.ref 244, l1] [] (mfH h 3) := by
  simp only [x1100_20, x1100_21, x1100_24, x1100_26, show ix (1600 : Int32) = 1600 from ix_nI (n := 1600) (by omega), show (0 : Int32) ≤ 1600 from by decide, show 1600 ≤ 134217728 from by omega, mf_pk hn hk]
  exact congrArg (fun z => pX 1100 29 [.ref 244, l1] [] z) (mf_st (i := 2) hn (by omega))
theorem mi_3 (hn : hp_n h = 245) (hk : hp_k h 244 = 12) : pX 1100 29 [.ref 244, l1] [] (mfH h 3) = pX 1100 37 [.ref 244, l1] [] (mfH h 4) := by
  simp only [x1100_29, x1100_30, x1100_32, x1100_34, show ix (10 : Int32) = 10 from ix_nI (n := 10) (by omega), show (0 : Int32) ≤ 10 from by decide, show 10 ≤ 134217728 from by omega, mf_pk hn hk]
  exact congrArg (fun z => pX 1100 37 [.ref 244, l1] [] z) (mf_st (i := 3) hn (by omega))
theorem mi_4 (hn : hp_n h = 245) (hk : hp_k h 244 = 12) : pX 1100 37 [.ref 244, l1] [] (mfH h 4) = pX 1100 46 [.ref 244, l1] [] (mfH h 5) := by
  simp only [x1100_37, x1100_38, x1100_41, x1100_43, show ix (240 : Int32) = 240 from ix_nI (n := 240) (by omega), show (0 : Int32) ≤ 240 from by decide, show 240 ≤ 134217728 from by omega, mf_pk hn hk]
  exact congrArg (fun z => pX 1100 46 [.ref 244, l1] [] z) (mf_st (i := 4) hn (by omega))
theorem mi_5 (hn : hp_n h = 245) (hk : hp_k h 244 = 12) : pX 1100 46 [.ref 244, l1] [] (mfH h 5) = pX 1100 54 [.ref 244, l1] [] (mfH h 6) := by
  simp only [x1100_46, x1100_47, x1100_49, x1100_51, show ix (10 : Int32) = 10 from ix_nI (n := 10) (by omega), show (0 : Int32) ≤ 10 from by decide, show 10 ≤ 134217728 from by omega, mf_pk hn hk]
  exact congrArg (fun z => pX 1100 54 [.ref 244, l1] [] z) (mf_st (i := 5) hn (by omega))
theorem mi_6 (hn : hp_n h = 245) (hk : hp_k h 244 = 12) : pX 1100 54 [.ref 244, l1] [] (mfH h 6) = pX 1100 61 [.ref 244, l1] [] (mfH h 7) := by
  simp only [x1100_54, x1100_55, x1100_56, x1100_58, show ix (5 : Int32) = 5 from ix_nI (n := 5) (by omega), show (0 : Int32) ≤ 5 from by decide, show 5 ≤ 134217728 from by omega, mf_pk hn hk]
  exact congrArg (fun z => pX 1100 61 [.ref 244, l1] [] z) (mf_st (i := 6) hn (by omega))
theorem mi_7 (hn : hp_n h = 245) (hk : hp_k h 244 = 12) : pX 1100 61 [.ref 244, l1] [] (mfH h 7) = pX 1100 69 [.ref 244, l1] [] (mfH h 8) := by
  simp only [x1100_61, x1100_62, x1100_64, x1100_66, show ix (41 : Int32) = 41 from ix_nI (n := 41) (by omega), show (0 : Int32) ≤ 41 from by decide, show 41 ≤ 134217728 from by omega, mf_pk hn hk]
  exact congrArg (fun z => pX 1100 69 [.ref 244, l1] [] z) (mf_st (i := 7) hn (by omega))
theorem mi_8 (hn : hp_n h = 245) (hk : hp_k h 244 = 12) : pX 1100 69 [.ref 244, l1] [] (mfH h 8) = pX 1100 77 [.ref 244, l1] [] (mfH h 9) := by
  simp only [x1100_69, x1100_70, x1100_72, x1100_74, show ix (12 : Int32) = 12 from ix_nI (n := 12) (by omega), show (0 : Int32) ≤ 12 from by decide, show 12 ≤ 134217728 from by omega, mf_pk hn hk]
  exact congrArg (fun z => pX 1100 77 [.ref 244, l1] [] z) (mf_st (i := 8) hn (by omega))
theorem mi_9 (hn : hp_n h = 245) (hk : hp_k h 244 = 12) : pX 1100 77 [.ref 244, l1] [] (mfH h 9) = pX 1100 85 [.ref 244, l1] [] (mfH h 10) := by
  simp only [x1100_77, x1100_78, x1100_80, x1100_82, show ix (12 : Int32) = 12 from ix_nI (n := 12) (by omega), show (0 : Int32) ≤ 12 from by decide, show 12 ≤ 134217728 from by omega, mf_pk hn hk]
  exact congrArg (fun z => pX 1100 85 [.ref 244, l1] [] z) (mf_st (i := 9) hn (by omega))
theorem mi_10 (hn : hp_n h = 245) (hk : hp_k h 244 = 12) : pX 1100 85 [.ref 244, l1] [] (mfH h 10) = pX 1100 92 [.ref 244, l1] [] (mfH h 11) := by
  simp only [x1100_85, x1100_86, x1100_87, x1100_89, show ix (3 : Int32) = 3 from ix_nI (n := 3) (by omega), show (0 : Int32) ≤ 3 from by decide, show 3 ≤ 134217728 from by omega, mf_pk hn hk]
  exact congrArg (fun z => pX 1100 92 [.ref 244, l1] [] z) (mf_st (i := 10) hn (by omega))
theorem mi_11 (hn : hp_n h = 245) (hk : hp_k h 244 = 12) : pX 1100 92 [.ref 244, l1] [] (mfH h 11) = pX 1100 99 [.ref 244, l1] [] (mfH h 12) := by
  simp only [x1100_92, x1100_93, x1100_94, x1100_96, show ix (3 : Int32) = 3 from ix_nI (n := 3) (by omega), show (0 : Int32) ≤ 3 from by decide, show 3 ≤ 134217728 from by omega, mf_pk hn hk]
  exact congrArg (fun z => pX 1100 99 [.ref 244, l1] [] z) (mf_st (i := 11) hn (by omega))
theorem mi_12 (hn : hp_n h = 245) (hk : hp_k h 244 = 12) : pX 1100 99 [.ref 244, l1] [] (mfH h 12) = pX 1100 108 [.ref 244, l1] [] (mfH h 13) := by
  simp only [x1100_99, x1100_100, x1100_103, x1100_105, show ix (6000 : Int32) = 6000 from ix_nI (n := 6000) (by omega), show (0 : Int32) ≤ 6000 from by decide, show 6000 ≤ 134217728 from by omega, mf_pk hn hk]
  exact congrArg (fun z => pX 1100 108 [.ref 244, l1] [] z) (mf_st (i := 12) hn (by omega))
theorem mi_13 (hn : hp_n h = 245) (hk : hp_k h 244 = 12) : pX 1100 108 [.ref 244, l1] [] (mfH h 13) = pX 1100 117 [.ref 244, l1] [] (mfH h 14) := by
  simp only [x1100_108, x1100_109, x1100_112, x1100_114, show ix (6000 : Int32) = 6000 from ix_nI (n := 6000) (by omega), show (0 : Int32) ≤ 6000 from by decide, show 6000 ≤ 134217728 from by omega, mf_pk hn hk]
  exact congrArg (fun z => pX 1100 117 [.ref 244, l1] [] z) (mf_st (i := 13) hn (by omega))
theorem mi_14 (hn : hp_n h = 245) (hk : hp_k h 244 = 12) : pX 1100 117 [.ref 244, l1] [] (mfH h 14) = pX 1100 126 [.ref 244, l1] [] (mfH h 15) := by
  simp only [x1100_117, x1100_118, x1100_121, x1100_123, show ix (6000 : Int32) = 6000 from ix_nI (n := 6000) (by omega), show (0 : Int32) ≤ 6000 from by decide, show 6000 ≤ 134217728 from by omega, mf_pk hn hk]
  exact congrArg (fun z => pX 1100 126 [.ref 244, l1] [] z) (mf_st (i := 14) hn (by omega))
theorem mi_15 (hn : hp_n h = 245) (hk : hp_k h 244 = 12) : pX 1100 126 [.ref 244, l1] [] (mfH h 15) = pX 1100 135 [.ref 244, l1] [] (mfH h 16) := by
  simp only [x1100_126, x1100_127, x1100_130, x1100_132, show ix (6000 : Int32) = 6000 from ix_nI (n := 6000) (by omega), show (0 : Int32) ≤ 6000 from by decide, show 6000 ≤ 134217728 from by omega, mf_pk hn hk]
  exact congrArg (fun z => pX 1100 135 [.ref 244, l1] [] z) (mf_st (i := 15) hn (by omega))
theorem mi_16 (hn : hp_n h = 245) (hk : hp_k h 244 = 12) : pX 1100 135 [.ref 244, l1] [] (mfH h 16) = pX 1100 144 [.ref 244, l1] [] (mfH h 17) := by
  simp only [x1100_135, x1100_136, x1100_139, x1100_141, show ix (6000 : Int32) = 6000 from ix_nI (n := 6000) (by omega), show (0 : Int32) ≤ 6000 from by decide, show 6000 ≤ 134217728 from by omega, mf_pk hn hk]
  exact congrArg (fun z => pX 1100 144 [.ref 244, l1] [] z) (mf_st (i := 16) hn (by omega))
theorem mi_17 (hn : hp_n h = 245) (hk : hp_k h 244 = 12) : pX 1100 144 [.ref 244, l1] [] (mfH h 17) = pX 1100 153 [.ref 244, l1] [] (mfH h 18) := by
  simp only [x1100_144, x1100_145, x1100_148, x1100_150, show ix (6000 : Int32) = 6000 from ix_nI (n := 6000) (by omega), show (0 : Int32) ≤ 6000 from by decide, show 6000 ≤ 134217728 from by omega, mf_pk hn hk]
  exact congrArg (fun z => pX 1100 153 [.ref 244, l1] [] z) (mf_st (i := 17) hn (by omega))
theorem mi_18 (hn : hp_n h = 245) (hk : hp_k h 244 = 12) : pX 1100 153 [.ref 244, l1] [] (mfH h 18) = pX 1100 162 [.ref 244, l1] [] (mfH h 19) := by
  simp only [x1100_153, x1100_154, x1100_157, x1100_159, show ix (6000 : Int32) = 6000 from ix_nI (n := 6000) (by omega), show (0 : Int32) ≤ 6000 from by decide, show 6000 ≤ 134217728 from by omega, mf_pk hn hk]
  exact congrArg (fun z => pX 1100 162 [.ref 244, l1] [] z) (mf_st (i := 18) hn (by omega))
theorem mi_19 (hn : hp_n h = 245) (hk : hp_k h 244 = 12) : pX 1100 162 [.ref 244, l1] [] (mfH h 19) = pX 1100 171 [.ref 244, l1] [] (mfH h 20) := by
  simp only [x1100_162, x1100_163, x1100_166, x1100_168, show ix (6000 : Int32) = 6000 from ix_nI (n := 6000) (by omega), show (0 : Int32) ≤ 6000 from by decide, show 6000 ≤ 134217728 from by omega, mf_pk hn hk]
  exact congrArg (fun z => pX 1100 171 [.ref 244, l1] [] z) (mf_st (i := 19) hn (by omega))
theorem mi_20 (hn : hp_n h = 245) (hk : hp_k h 244 = 12) : pX 1100 171 [.ref 244, l1] [] (mfH h 20) = pX 1100 180 [.ref 244, l1] [] (mfH h 21) := by
  simp only [x1100_171, x1100_172, x1100_175, x1100_177, show ix (6000 : Int32) = 6000 from ix_nI (n := 6000) (by omega), show (0 : Int32) ≤ 6000 from by decide, show 6000 ≤ 134217728 from by omega, mf_pk hn hk]
  exact congrArg (fun z => pX 1100 180 [.ref 244, l1] [] z) (mf_st (i := 20) hn (by omega))
theorem mi_21 (hn : hp_n h = 245) (hk : hp_k h 244 = 12) : pX 1100 180 [.ref 244, l1] [] (mfH h 21) = pX 1100 188 [.ref 244, l1] [] (mfH h 22) := by
  simp only [x1100_180, x1100_181, x1100_183, x1100_185, show ix (12 : Int32) = 12 from ix_nI (n := 12) (by omega), show (0 : Int32) ≤ 12 from by decide, show 12 ≤ 134217728 from by omega, mf_pk hn hk]
  exact congrArg (fun z => pX 1100 188 [.ref 244, l1] [] z) (mf_st (i := 21) hn (by omega))
theorem mi_22 (hn : hp_n h = 245) (hk : hp_k h 244 = 12) : pX 1100 188 [.ref 244, l1] [] (mfH h 22) = pX 1100 196 [.ref 244, l1] [] (mfH h 23) := by
  simp only [x1100_188, x1100_189, x1100_191, x1100_193, show ix (12 : Int32) = 12 from ix_nI (n := 12) (by omega), show (0 : Int32) ≤ 12 from by decide, show 12 ≤ 134217728 from by omega, mf_pk hn hk]
  exact congrArg (fun z => pX 1100 196 [.ref 244, l1] [] z) (mf_st (i := 22) hn (by omega))
theorem mi_23 (hn : hp_n h = 245) (hk : hp_k h 244 = 12) : pX 1100 196 [.ref 244, l1] [] (mfH h 23) = pX 1100 204 [.ref 244, l1] [] (mfH h 24) := by
  simp only [x1100_196, x1100_197, x1100_199, x1100_201, show ix (12 : Int32) = 12 from ix_nI (n := 12) (by omega), show (0 : Int32) ≤ 12 from by decide, show 12 ≤ 134217728 from by omega, mf_pk hn hk]
  exact congrArg (fun z => pX 1100 204 [.ref 244, l1] [] z) (mf_st (i := 23) hn (by omega))
theorem mi_24 (hn : hp_n h = 245) (hk : hp_k h 244 = 12) : pX 1100 204 [.ref 244, l1] [] (mfH h 24) = pX 1100 212 [.ref 244, l1] [] (mfH h 25) := by
  simp only [x1100_204, x1100_205, x1100_207, x1100_209, show ix (96 : Int32) = 96 from ix_nI (n := 96) (by omega), show (0 : Int32) ≤ 96 from by decide, show 96 ≤ 134217728 from by omega, mf_pk hn hk]
  exact congrArg (fun z => pX 1100 212 [.ref 244, l1] [] z) (mf_st (i := 24) hn (by omega))
theorem mi_25 (hn : hp_n h = 245) (hk : hp_k h 244 = 12) : pX 1100 212 [.ref 244, l1] [] (mfH h 25) = pX 1100 220 [.ref 244, l1] [] (mfH h 26) := by
  simp only [x1100_212, x1100_213, x1100_215, x1100_217, show ix (96 : Int32) = 96 from ix_nI (n := 96) (by omega), show (0 : Int32) ≤ 96 from by decide, show 96 ≤ 134217728 from by omega, mf_pk hn hk]
  exact congrArg (fun z => pX 1100 220 [.ref 244, l1] [] z) (mf_st (i := 25) hn (by omega))
theorem mi_26 (hn : hp_n h = 245) (hk : hp_k h 244 = 12) : pX 1100 220 [.ref 244, l1] [] (mfH h 26) = pX 1100 228 [.ref 244, l1] [] (mfH h 27) := by
  simp only [x1100_220, x1100_221, x1100_223, x1100_225, show ix (12 : Int32) = 12 from ix_nI (n := 12) (by omega), show (0 : Int32) ≤ 12 from by decide, show 12 ≤ 134217728 from by omega, mf_pk hn hk]
  exact congrArg (fun z => pX 1100 228 [.ref 244, l1] [] z) (mf_st (i := 26) hn (by omega))
theorem mi_27 (hn : hp_n h = 245) (hk : hp_k h 244 = 12) : pX 1100 228 [.ref 244, l1] [] (mfH h 27) = pX 1100 236 [.ref 244, l1] [] (mfH h 28) := by
  simp only [x1100_228, x1100_229, x1100_231, x1100_233, show ix (72000 : Int32) = 72000 from ix_nI (n := 72000) (by omega), show (0 : Int32) ≤ 72000 from by decide, show 72000 ≤ 134217728 from by omega, mf_pk hn hk]
  exact congrArg (fun z => pX 1100 236 [.ref 244, l1] [] z) (mf_st (i := 27) hn (by omega))
theorem mi_28 (hn : hp_n h = 245) (hk : hp_k h 244 = 12) : pX 1100 236 [.ref 244, l1] [] (mfH h 28) = pX 1100 244 [.ref 244, l1] [] (mfH h 29) := by
  simp only [x1100_236, x1100_237, x1100_239, x1100_241, show ix (9 : Int32) = 9 from ix_nI (n := 9) (by omega), show (0 : Int32) ≤ 9 from by decide, show 9 ≤ 134217728 from by omega, mf_pk hn hk]
  exact congrArg (fun z => pX 1100 244 [.ref 244, l1] [] z) (mf_st (i := 28) hn (by omega))
theorem mi_29 (hn : hp_n h = 245) (hk : hp_k h 244 = 12) : pX 1100 244 [.ref 244, l1] [] (mfH h 29) = pX 1100 252 [.ref 244, l1] [] (mfH h 30) := by
  simp only [x1100_244, x1100_245, x1100_247, x1100_249, show ix (100 : Int32) = 100 from ix_nI (n := 100) (by omega), show (0 : Int32) ≤ 100 from by decide, show 100 ≤ 134217728 from by omega, mf_pk hn hk]
  exact congrArg (fun z => pX 1100 252 [.ref 244, l1] [] z) (mf_st (i := 29) hn (by omega))
theorem mi_30 (hn : hp_n h = 245) (hk : hp_k h 244 = 12) : pX 1100 252 [.ref 244, l1] [] (mfH h 30) = pX 1100 259 [.ref 244, l1] [] (mfH h 31) := by
  simp only [x1100_252, x1100_253, x1100_254, x1100_256, show ix (5 : Int32) = 5 from ix_nI (n := 5) (by omega), show (0 : Int32) ≤ 5 from by decide, show 5 ≤ 134217728 from by omega, mf_pk hn hk]
  exact congrArg (fun z => pX 1100 259 [.ref 244, l1] [] z) (mf_st (i := 30) hn (by omega))
theorem mi_all (hn : hp_n h = 245) (hk : hp_k h 244 = 12) : pX 1100 4 [.ref 244, l1] [] h = pX 1100 259 [.ref 244, l1] [] (mfH h 31) := by
  have e := mi_0 (l1 := l1) hn hk
  rw [mf_0] at e
  rw [e]
  rw [mi_1 hn hk, mi_2 hn hk, mi_3 hn hk, mi_4 hn hk, mi_5 hn hk, mi_6 hn hk, mi_7 hn hk, mi_8 hn hk, mi_9 hn hk, mi_10 hn hk, mi_11 hn hk, mi_12 hn hk, mi_13 hn hk, mi_14 hn hk, mi_15 hn hk, mi_16 hn hk, mi_17 hn hk, mi_18 hn hk, mi_19 hn hk, mi_20 hn hk, mi_21 hn hk, mi_22 hn hk, mi_23 hn hk, mi_24 hn hk, mi_25 hn hk, mi_26 hn hk, mi_27 hn hk, mi_28 hn hk, mi_29 hn hk, mi_30 hn hk]
/-- the model's heap at the end -/
def mdH (h : HP) : HP := hp_wi (hp_wi (hp_wi (hp_wi (hp_wi (hp_wi (mfH h 31) 251 0 1) 251 1 1) 251 2 1) 251 3 1) 251 4 1) 244 38 6000
theorem md_k (h : HP) (y : Nat) : hp_k (mdH h) y = if 245 ≤ y ∧ y < 276 then 100 else hp_k h y := rfl
theorem md_l (h : HP) (y : Nat) : hp_l (mdH h) y = if 245 ≤ y ∧ y < 276 then mfL (y - 245) else hp_l h y := rfl
theorem md_a (h : HP) (y j : Nat) : hp_a (mdH h) y j = if y = 244 ∧ 1 ≤ mfI j ∧ mfI j ≤ 31 then 244 + mfI j else if 245 ≤ y ∧ y < 276 then 0 else hp_a h y j := rfl
theorem md_n {h : HP} (hn : hp_n h = 245) : hp_n (mdH h) = 276 := by
  show hp_n h + 31 = 276
  omega
theorem md_s (h : HP) : hp_s (mdH h) = hp_s h + 128310 := by
  show hp_s h + mfS 31 = _
  rw [show mfS 31 = 128310 from by decide]
theorem md_i (h : HP) (y j : Nat) : hp_i (mdH h) y j = if y = 244 ∧ j = 38 then 6000 else if y = 251 ∧ j = 4 then 1 else if y = 251 ∧ j = 3 then 1 else if y = 251 ∧ j = 2 then 1 else if y = 251 ∧ j = 1 then 1 else if y = 251 ∧ j = 0 then 1 else if 245 ≤ y ∧ y < 276 then 0 else hp_i h y j := by
  unfold mdH
  rw [hp_i_wi, hp_i_wi, hp_i_wi, hp_i_wi, hp_i_wi, hp_i_wi, mf_i]
theorem modI (hn : hp_n h = 245) (hk : hp_k h 244 = 12) : pX 1100 0 [.ref 244, .retAddr 0] [] h = some (none, mdH h) := by
  have e0 : pX 1100 0 [.ref 244, .retAddr 0] [] h = pX 1100 4 [.ref 244, .retAddr 0] [] h := by
    simp only [x1100_0, x1100_1, show ¬ 244 = 0 from by omega, not_false_eq_true]
  rw [e0, mi_all hn hk]
  have k4 : hp_k (mfH h 31) 244 = 12 := by rw [mf_k, if_neg (by omega), hk]
  have k251 : hp_k (mfH h 31) 251 = 100 := rfl
  have l251 : hp_l (mfH h 31) 251 = 5 := rfl
  have a7 : hp_a (mfH h 31) 244 7 = 251 := rfl
  have x0 : ix (0 : Int32) = 0 := ix_nI (n := 0) (by omega)
  have x1 : ix (1 : Int32) = 1 := ix_nI (n := 1) (by omega)
  have x2 : ix (2 : Int32) = 2 := ix_nI (n := 2) (by omega)
  have x3 : ix (3 : Int32) = 3 := ix_nI (n := 3) (by omega)
  have x4 : ix (4 : Int32) = 4 := ix_nI (n := 4) (by omega)
  have i0 : inb (0 : Int32) 5 = true := inb_nI (n := 0) (by omega) (by omega)
  have i1 : inb (1 : Int32) 5 = true := inb_nI (n := 1) (by omega) (by omega)
  have i2 : inb (2 : Int32) 5 = true := inb_nI (n := 2) (by omega) (by omega)
  have i3 : inb (3 : Int32) 5 = true := inb_nI (n := 3) (by omega) (by omega)
  have i4 : inb (4 : Int32) 5 = true := inb_nI (n := 4) (by omega) (by omega)
  unfold mdH
  generalize mfH h 31 = g at k4 k251 l251 a7 ⊢
  simp only [x1100_259, x1100_260, x1100_261, x1100_262, x1100_263, x1100_266, x1100_267, x1100_270, x1100_271, x1100_272, x1100_273, x1100_276, x1100_279, x1100_280, x1100_283, x1100_286, hp_k_wi, hp_l_wi, hp_a_wi, k4, k251, l251, a7, x0, x1, x2, x3, x4, i0, i1, i2, i3, i4, show ¬ (5 : Int32) ≤ 0 from by decide, show ¬ (5 : Int32) ≤ 1 from by decide, show ¬ (5 : Int32) ≤ 2 from by decide, show ¬ (5 : Int32) ≤ 3 from by decide, show ¬ (5 : Int32) ≤ 4 from by decide, show (5 : Int32) ≤ 5 from by decide, show (0 : Int32) + 1 = 1 from by decide, show (1 : Int32) + 1 = 2 from by decide, show (2 : Int32) + 1 = 3 from by decide, show (3 : Int32) + 1 = 4 from by decide, show (4 : Int32) + 1 = 5 from by decide, if_true, if_false]
end
