/-! PAIRS: act -/
theorem i32_10 : ((1 : Int32) = 0) = False := eq_false (by decide)
theorem i32_01 : ((0 : Int32) = 1) = False := eq_false (by decide)
theorem i32_02 : ((0 : Int32) = 2) = False := eq_false (by decide)
theorem i32_04 : ((0 : Int32) = 4) = False := eq_false (by decide)
theorem i32_1m0 : (1 : Int32) - 0 = 1 := rfl
theorem i32_1m1 : (1 : Int32) - 1 = 0 := rfl
def outV (x B : Int32) : Int32 := if x < 0 ∨ B < x then 1 else 0
def wnV (n : Nat) (a b c : Int32) : Int32 := if n = 9 then outV a 40 else if n = 10 then outV b 40 else if n = 11 then outV c 4 else if n = 12 then outV b 3 else if n = 16 then outV c 3 else if n = 17 then outV b 1 else if n = 18 then outV c 11 else if n = 19 then outV b 11 else 0
def wrV (t a b c : Int32) : Int32 := if (t &&& 1 = 0 ∨ outV a 7 = 0) ∧ (t &&& 2 = 0 ∨ outV b 7 = 0) ∧ (t &&& 4 = 0 ∨ outV c 7 = 0) then 0 else 1
theorem outV_01 (x B : Int32) : outV x B = 0 ∨ outV x B = 1 := by
  unfold outV
  by_cases q : x < 0 ∨ B < x
  · rw [if_pos q]; exact Or.inr rfl
  · rw [if_neg q]; exact Or.inl rfl
theorem outV_nb {x : Int32} {B : Nat} (hB : B < 2147483648) (h : outV x (nI B) = 0) : nb x B := by
  rcases i32_cases (x := x) hB with q | ⟨n, rfl, hn⟩
  · unfold outV at h
    rw [if_pos q] at h
    exact absurd h (by decide)
  · exact ⟨n, rfl, hn⟩
theorem sp_out {h : HP} {n hi : Int32} : pX 1025 0 [.int n, .int 0, .int hi] [] h = some (some (.int (outV n hi)), h) := sp_isOutside
theorem sp_in2 {h : HP} {n hi : Int32} : pX 1101 0 [.int n, .int 0, .int hi] [] h = some (some (.int (1 - outV n hi)), h) := by
  rw [sp_in]
  unfold outV
  by_cases q : n < 0 ∨ hi < n
  · rw [if_pos q, if_pos q]; rfl
  · rw [if_neg q, if_neg q]; rfl
theorem sp_wrongReg {L : Nat} {h : HP} {n : Nat} {a b c : Int32} (x : FX L h) (hn : n ≤ 27) (e2 : hp_i h 2 n = lookT n) (e3 : hp_i h 3 n = makeT n) : pX 1026 0 [.int (nI n), .int a, .int b, .int c, .retAddr 0] [] h = some (some (.int (wrV (lookT n ||| makeT n) a b c)), h) := by
  have b1 : inb (nI n) 28 = true := inb_nI (by omega) (by omega)
  have b2 : ix (nI n) = n := ix_nI (by omega)
  simp only [x1026_0, x1026_3, x1026_4, x1026_4R, x1026_5, x1026_8, x1026_9, x1026_9R, x1026_10, x1026_11, x1026_13, x1026_15, x1026_16, x1026_17, x1026_20, x1026_21, x1026_22, x1026_24, x1026_27, x1026_30, x1026_32, x1026_33, x1026_34, x1026_37, x1026_38, x1026_39, x1026_41, x1026_44, x1026_47, x1026_49, x1026_50, x1026_51, x1026_54, x1026_55, x1026_56, x1026_58, x1026_61, x1026_64, x1026_65, x1026_68, x1026_69, x.k2, x.k3, x.l2, x.l3, b1, b2, e2, e3, sp_out, Option.bind_some, Option.toList_some, Option.toList_none, List.singleton_append, List.nil_append]
  generalize lookT n ||| makeT n = t
  unfold wrV
  rcases outV_01 a 7 with qa | qa <;> rcases outV_01 b 7 with qb | qb <;> rcases outV_01 c 7 with qc | qc <;> by_cases t1 : t &&& 1 = 0 <;> by_cases t2 : t &&& 2 = 0 <;> by_cases t4 : t &&& 4 = 0 <;> simp only [qa, qb, qc, t1, t2, t4, if_true, if_false, x1026_0, x1026_3, x1026_4, x1026_4R, x1026_5, x1026_8, x1026_9, x1026_9R, x1026_10, x1026_11, x1026_13, x1026_15, x1026_16, x1026_17, x1026_20, x1026_21, x1026_22, x1026_24, x1026_27, x1026_30, x1026_32, x1026_33, x1026_34, x1026_37, x1026_38, x1026_39, x1026_41, x1026_44, x1026_47, x1026_49, x1026_50, x1026_51, x1026_54, x1026_55, x1026_56, x1026_58, x1026_61, x1026_64, x1026_65, x1026_68, x1026_69, true_or, or_true, and_self, and_true, true_and, false_and, and_false, false_or, or_false, or_self, i32_10, eq_self, Option.bind_some, Option.toList_some, Option.toList_none, List.singleton_append, List.nil_append]
theorem sp_wrongNum {h : HP} {n : Nat} {a b c : Int32} (hn : n ≤ 27) : pX 1027 0 [.int (nI n), .int a, .int b, .int c] [] h = some (some (.int (wnV n a b c)), h) := by
  have o := outV_01
  by_cases q : n < 9 ∨ 19 < n
  · have q2 : (nI n).toInt < 9 ∨ 19 < (nI n).toInt := by rw [nI_toInt (by omega)]; omega
    rw [show wnV n a b c = 0 by unfold wnV; rw [if_neg (by omega), if_neg (by omega), if_neg (by omega), if_neg (by omega), if_neg (by omega), if_neg (by omega), if_neg (by omega), if_neg (by omega)]]
    simp only [x1027_0, x1027_1_9, x1027_1_10, x1027_1_11, x1027_1_12, x1027_1_13, x1027_1_14, x1027_1_15, x1027_1_16, x1027_1_17, x1027_1_18, x1027_1_19, x1027_60, x1027_61, x1027_62, x1027_64, x1027_67, x1027_68, x1027_69, x1027_70, x1027_72, x1027_75, x1027_76, x1027_77, x1027_78, x1027_79, x1027_82, x1027_83, x1027_84, x1027_85, x1027_86, x1027_89, x1027_90, x1027_91, x1027_92, x1027_93, x1027_96, x1027_97, x1027_98, x1027_99, x1027_100, x1027_103, x1027_104, x1027_105, x1027_106, x1027_108, x1027_111, x1027_112, x1027_113, x1027_114, x1027_116, x1027_119, x1027_120, x1027_121, x1027_1_d q2, true_or]
  · obtain rfl | rfl | rfl | rfl | rfl | rfl | rfl | rfl | rfl | rfl | rfl : n = 9 ∨ n = 10 ∨ n = 11 ∨ n = 12 ∨ n = 13 ∨ n = 14 ∨ n = 15 ∨ n = 16 ∨ n = 17 ∨ n = 18 ∨ n = 19 := by omega
    all_goals simp only [x1027_0, x1027_1_9, x1027_1_10, x1027_1_11, x1027_1_12, x1027_1_13, x1027_1_14, x1027_1_15, x1027_1_16, x1027_1_17, x1027_1_18, x1027_1_19, x1027_60, x1027_61, x1027_62, x1027_64, x1027_67, x1027_68, x1027_69, x1027_70, x1027_72, x1027_75, x1027_76, x1027_77, x1027_78, x1027_79, x1027_82, x1027_83, x1027_84, x1027_85, x1027_86, x1027_89, x1027_90, x1027_91, x1027_92, x1027_93, x1027_96, x1027_97, x1027_98, x1027_99, x1027_100, x1027_103, x1027_104, x1027_105, x1027_106, x1027_108, x1027_111, x1027_112, x1027_113, x1027_114, x1027_116, x1027_119, x1027_120, x1027_121, ← nI_lit, sp_out, Option.bind_some, Option.toList_some, Option.toList_none, List.singleton_append, List.nil_append, true_or, o, wnV, Nat.reduceEqDiff, if_true, if_false]
theorem sp_named {h : HP} {n : Nat} (hn : n ≤ 27) : pX 1104 0 [.int (nI n)] [] h = some (some (.int (lookT n ||| makeT n)), h) := by
  obtain rfl | rfl | rfl | rfl | rfl | rfl | rfl | rfl | rfl | rfl | rfl | rfl | rfl | rfl | rfl | rfl | rfl | rfl | rfl | rfl | rfl | rfl | rfl | rfl | rfl | rfl | rfl | rfl : n = 0 ∨ n = 1 ∨ n = 2 ∨ n = 3 ∨ n = 4 ∨ n = 5 ∨ n = 6 ∨ n = 7 ∨ n = 8 ∨ n = 9 ∨ n = 10 ∨ n = 11 ∨ n = 12 ∨ n = 13 ∨ n = 14 ∨ n = 15 ∨ n = 16 ∨ n = 17 ∨ n = 18 ∨ n = 19 ∨ n = 20 ∨ n = 21 ∨ n = 22 ∨ n = 23 ∨ n = 24 ∨ n = 25 ∨ n = 26 ∨ n = 27 := by omega
  all_goals
    simp only [x1104_0, x1104_1_0, x1104_1_1, x1104_1_2, x1104_1_3, x1104_1_4, x1104_1_5, x1104_1_6, x1104_1_7, x1104_1_8, x1104_1_9, x1104_1_10, x1104_1_11, x1104_1_12, x1104_1_13, x1104_1_14, x1104_1_15, x1104_1_16, x1104_1_17, x1104_1_18, x1104_1_19, x1104_1_20, x1104_1_21, x1104_1_22, x1104_1_23, x1104_1_24, x1104_1_25, x1104_1_26, x1104_1_27, x1104_128, x1104_129, x1104_130, x1104_131, x1104_132, x1104_133, x1104_134, x1104_135, x1104_136, x1104_138, ← nI_lit]
    rfl
theorem t_bits : ∀ n, n < 28 → (((lookT n ||| makeT n) &&& 1 = 1 ↔ ¬ (lookT n ||| makeT n) &&& 1 = 0) ∧ ((lookT n ||| makeT n) &&& 2 = 2 ↔ ¬ (lookT n ||| makeT n) &&& 2 = 0) ∧ ((lookT n ||| makeT n) &&& 4 = 4 ↔ ¬ (lookT n ||| makeT n) &&& 4 = 0)) := by decide +kernel
theorem sp_isGood {L : Nat} {h : HP} {n : Nat} {a b c : Int32} (hn : n ≤ 27) : pX 1105 0 [.int (nI n), .int a, .int b, .int c, .retAddr 0] [] h = some (some (.int (if wrV (lookT n ||| makeT n) a b c = 0 ∧ wnV n a b c = 0 then 1 else 0)), h) := by
  obtain ⟨s1, s2, s4⟩ := t_bits n (by omega)
  simp only [x1105_0, x1105_1, sp_named hn, Option.bind_some, Option.toList_some, Option.toList_none, List.singleton_append, List.nil_append]
  have key : ∀ t : Int32, (t &&& 1 = 1 ↔ ¬ t &&& 1 = 0) → (t &&& 2 = 2 ↔ ¬ t &&& 2 = 0) → (t &&& 4 = 4 ↔ ¬ t &&& 4 = 0) → pX 1105 4 [.int (nI n), .int a, .int b, .int c, .retAddr 0] [.int t] h = if wrV t a b c = 0 then pX 1105 62 [.int (nI n), .int a, .int b, .int c, .int t] [] h else some (some (.int 0), h) := by
    intro t s1 s2 s4
    unfold wrV
    rcases outV_01 a 7 with qa | qa <;> rcases outV_01 b 7 with qb | qb <;> rcases outV_01 c 7 with qc | qc <;> by_cases t1 : t &&& 1 = 0 <;> by_cases t2 : t &&& 2 = 0 <;> by_cases t4 : t &&& 4 = 0 <;> simp only [x1105_0, x1105_1, x1105_4, x1105_6, x1105_8, x1105_9, x1105_10, x1105_11, x1105_14, x1105_15, x1105_16, x1105_18, x1105_21, x1105_24, x1105_26, x1105_27, x1105_28, x1105_29, x1105_32, x1105_33, x1105_34, x1105_36, x1105_39, x1105_42, x1105_44, x1105_45, x1105_46, x1105_47, x1105_50, x1105_51, x1105_52, x1105_54, x1105_57, x1105_60, x1105_61, x1105_120, x1105_121, x1105_122, x1105_124, x1105_127, x1105_128, x1105_129, x1105_130, x1105_132, x1105_135, x1105_136, x1105_137, x1105_138, x1105_139, x1105_142, x1105_143, x1105_144, x1105_145, x1105_146, x1105_149, x1105_150, x1105_151, x1105_152, x1105_153, x1105_156, x1105_157, x1105_158, x1105_159, x1105_160, x1105_163, x1105_164, x1105_165, x1105_166, x1105_168, x1105_171, x1105_172, x1105_173, x1105_174, x1105_176, x1105_179, x1105_180, x1105_181, sp_in2, Option.bind_some, Option.toList_some, Option.toList_none, List.singleton_append, List.nil_append, s1, s2, s4, qa, qb, qc, t1, t2, t4, not_true_eq_false, not_false_eq_true, if_true, if_false, true_or, or_true, and_self, and_true, true_and, false_and, and_false, false_or, or_false, or_self, i32_10, eq_self, i32_1m0, i32_1m1, i32_01, i32_02, i32_04]
  rw [key _ s1 s2 s4]
  by_cases w0 : wrV (lookT n ||| makeT n) a b c = 0
  · rw [if_pos w0]
    have o : ∀ x B, 1 - outV x B = 0 ∨ 1 - outV x B = 1 := by
      intro x B
      rcases outV_01 x B with q | q <;> rw [q]
      · exact Or.inr rfl
      · exact Or.inl rfl
    have e : ∀ x B, (if outV x B = 0 then (1 : Int32) else 0) = 1 - outV x B := by
      intro x B
      rcases outV_01 x B with q | q <;> rw [q] <;> rfl
    simp only [w0, true_and]
    by_cases q : n < 9 ∨ 19 < n
    · have q2 : (nI n).toInt < 9 ∨ 19 < (nI n).toInt := by rw [nI_toInt (by omega)]; omega
      rw [show wnV n a b c = 0 by unfold wnV; rw [if_neg (by omega), if_neg (by omega), if_neg (by omega), if_neg (by omega), if_neg (by omega), if_neg (by omega), if_neg (by omega), if_neg (by omega)]]
      simp only [x1105_0, x1105_1, x1105_4, x1105_6, x1105_8, x1105_9, x1105_10, x1105_11, x1105_14, x1105_15, x1105_16, x1105_18, x1105_21, x1105_24, x1105_26, x1105_27, x1105_28, x1105_29, x1105_32, x1105_33, x1105_34, x1105_36, x1105_39, x1105_42, x1105_44, x1105_45, x1105_46, x1105_47, x1105_50, x1105_51, x1105_52, x1105_54, x1105_57, x1105_60, x1105_61, x1105_62, x1105_63_9, x1105_63_10, x1105_63_11, x1105_63_12, x1105_63_13, x1105_63_14, x1105_63_15, x1105_63_16, x1105_63_17, x1105_63_18, x1105_63_19, x1105_120, x1105_121, x1105_122, x1105_124, x1105_127, x1105_128, x1105_129, x1105_130, x1105_132, x1105_135, x1105_136, x1105_137, x1105_138, x1105_139, x1105_142, x1105_143, x1105_144, x1105_145, x1105_146, x1105_149, x1105_150, x1105_151, x1105_152, x1105_153, x1105_156, x1105_157, x1105_158, x1105_159, x1105_160, x1105_163, x1105_164, x1105_165, x1105_166, x1105_168, x1105_171, x1105_172, x1105_173, x1105_174, x1105_176, x1105_179, x1105_180, x1105_181, x1105_63_d q2, or_true, if_true]
    · obtain rfl | rfl | rfl | rfl | rfl | rfl | rfl | rfl | rfl | rfl | rfl : n = 9 ∨ n = 10 ∨ n = 11 ∨ n = 12 ∨ n = 13 ∨ n = 14 ∨ n = 15 ∨ n = 16 ∨ n = 17 ∨ n = 18 ∨ n = 19 := by omega
      all_goals simp only [x1105_0, x1105_1, x1105_4, x1105_6, x1105_8, x1105_9, x1105_10, x1105_11, x1105_14, x1105_15, x1105_16, x1105_18, x1105_21, x1105_24, x1105_26, x1105_27, x1105_28, x1105_29, x1105_32, x1105_33, x1105_34, x1105_36, x1105_39, x1105_42, x1105_44, x1105_45, x1105_46, x1105_47, x1105_50, x1105_51, x1105_52, x1105_54, x1105_57, x1105_60, x1105_61, x1105_62, x1105_63_9, x1105_63_10, x1105_63_11, x1105_63_12, x1105_63_13, x1105_63_14, x1105_63_15, x1105_63_16, x1105_63_17, x1105_63_18, x1105_63_19, x1105_120, x1105_121, x1105_122, x1105_124, x1105_127, x1105_128, x1105_129, x1105_130, x1105_132, x1105_135, x1105_136, x1105_137, x1105_138, x1105_139, x1105_142, x1105_143, x1105_144, x1105_145, x1105_146, x1105_149, x1105_150, x1105_151, x1105_152, x1105_153, x1105_156, x1105_157, x1105_158, x1105_159, x1105_160, x1105_163, x1105_164, x1105_165, x1105_166, x1105_168, x1105_171, x1105_172, x1105_173, x1105_174, x1105_176, x1105_179, x1105_180, x1105_181, ← nI_lit, sp_in2, Option.bind_some, Option.toList_some, Option.toList_none, List.singleton_append, List.nil_append, or_true, o, wnV, Nat.reduceEqDiff, if_true, if_false, e]
  · rw [if_neg w0, if_neg (fun z => w0 z.1)]
theorem okAct_of {n : Nat} {a b c : Int32} (hn : n ≤ 27) (h1 : wrV (lookT n ||| makeT n) a b c = 0) (h2 : wnV n a b c = 0) : okAct (nI n) a b c := by
  have h3 : ((lookT n ||| makeT n) &&& 1 = 0 ∨ outV a 7 = 0) ∧ ((lookT n ||| makeT n) &&& 2 = 0 ∨ outV b 7 = 0) ∧ ((lookT n ||| makeT n) &&& 4 = 0 ∨ outV c 7 = 0) := by
    unfold wrV at h1
    by_cases q : ((lookT n ||| makeT n) &&& 1 = 0 ∨ outV a 7 = 0) ∧ ((lookT n ||| makeT n) &&& 2 = 0 ∨ outV b 7 = 0) ∧ ((lookT n ||| makeT n) &&& 4 = 0 ∨ outV c 7 = 0)
    · exact q
    · rw [if_neg q] at h1; exact absurd h1 (by decide)
  have e2 : ix (nI n) = n := ix_nI (by omega)
  have ne : ∀ k : Nat, k ≤ 27 → nI n = nI k → n = k := fun k hk q => (nI_eq (by omega) (by omega)).mp q
  unfold okAct
  rw [e2]
  refine ⟨⟨n, rfl, hn⟩, fun q => outV_nb (by decide) (h3.1.resolve_left q), fun q => outV_nb (by decide) (h3.2.1.resolve_left q), fun q => outV_nb (by decide) (h3.2.2.resolve_left q), fun q => ?_, fun q => ?_, fun q => ?_, fun q => ?_, fun q => ?_, fun q => ?_, fun q => ?_, fun q => ?_⟩
  · obtain rfl := ne 9 (by omega) q
    exact outV_nb (B := 40) (by decide) h2
  · obtain rfl := ne 10 (by omega) q
    exact outV_nb (B := 40) (by decide) h2
  · obtain rfl := ne 11 (by omega) q
    exact outV_nb (B := 4) (by decide) h2
  · obtain rfl := ne 12 (by omega) q
    exact outV_nb (B := 3) (by decide) h2
  · obtain rfl := ne 16 (by omega) q
    exact outV_nb (B := 3) (by decide) h2
  · obtain rfl := ne 17 (by omega) q
    exact outV_nb (B := 1) (by decide) h2
  · obtain rfl := ne 18 (by omega) q
    exact outV_nb (B := 11) (by decide) h2
  · obtain rfl := ne 19 (by omega) q
    exact outV_nb (B := 11) (by decide) h2
