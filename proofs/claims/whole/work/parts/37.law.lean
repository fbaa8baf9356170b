/-! THE LAW'S LOOP, over the pairs of methods -/
/-- member: class and model answer alike, and the heap is as it should be behind it -/
def PR_member (L : Nat) (RL : HP → Prop) : Prop := ∀ (h : HP) (a1 : Int32), RL h → ∃ (v : Int32) (h1 h2 : HP), pX 1001 0 [.ref 4, .int a1, .retAddr 0] [] h = some (some (.int v), h1) ∧ pX 1103 0 [.ref 244, .int a1] [] h1 = some (some (.int v), h2) ∧ FX L h1 ∧ (∀ j, hp_i h1 1 j = hp_i h 1 j) ∧ RL h2
/-- act: class and model answer alike, and the heap is as it should be behind it -/
def PR_act (L : Nat) (RL : HP → Prop) : Prop := ∀ (h : HP) (a1 a2 a3 a4 a5 : Int32), RL h → ∃ (v : Int32) (h1 h2 : HP), pX 1002 0 [.ref 4, .int a1, .int a2, .int a3, .int a4, .int a5, .retAddr 0] [] h = some (some (.int v), h1) ∧ pX 1106 0 [.ref 244, .int a1, .int a2, .int a3, .int a4, .int a5, .retAddr 0] [] h1 = some (some (.int v), h2) ∧ FX L h1 ∧ (∀ j, hp_i h1 1 j = hp_i h 1 j) ∧ RL h2
/-- handler: class and model answer alike, and the heap is as it should be behind it -/
def PR_handler (L : Nat) (RL : HP → Prop) : Prop := ∀ (h : HP) (a1 a2 a3 a4 a5 : Int32), RL h → ∃ (v : Int32) (h1 h2 : HP), pX 1003 0 [.ref 4, .int a1, .int a2, .int a3, .int a4, .int a5, .retAddr 0] [] h = some (some (.int v), h1) ∧ pX 1107 0 [.ref 244, .int a1, .int a2, .int a3, .int a4, .int a5, .retAddr 0] [] h1 = some (some (.int v), h2) ∧ FX L h1 ∧ (∀ j, hp_i h1 1 j = hp_i h 1 j) ∧ RL h2
/-- cut: class and model answer alike, and the heap is as it should be behind it -/
def PR_cut (L : Nat) (RL : HP → Prop) : Prop := ∀ (h : HP) (a1 : Int32), RL h → ∃ (v : Int32) (h1 h2 : HP), pX 1004 0 [.ref 4, .int a1, .retAddr 0] [] h = some (some (.int v), h1) ∧ pX 1108 0 [.ref 244, .int a1] [] h1 = some (some (.int v), h2) ∧ FX L h1 ∧ (∀ j, hp_i h1 1 j = hp_i h 1 j) ∧ RL h2
/-- price: class and model answer alike, and the heap is as it should be behind it -/
def PR_price (L : Nat) (RL : HP → Prop) : Prop := ∀ (h : HP) (a1 a2 : Int32), RL h → ∃ (v : Int32) (h1 h2 : HP), pX 1005 0 [.ref 4, .int a1, .int a2, .retAddr 0] [] h = some (some (.int v), h1) ∧ pX 1109 0 [.ref 244, .int a1, .int a2, .retAddr 0] [] h1 = some (some (.int v), h2) ∧ FX L h1 ∧ (∀ j, hp_i h1 1 j = hp_i h 1 j) ∧ RL h2
/-- verify: class and model answer alike, and the heap is as it should be behind it -/
def PR_verify (L : Nat) (RL : HP → Prop) : Prop := ∀ (h : HP) (a1 : Int32), RL h → ∃ (v : Int32) (h1 h2 : HP), pX 1006 0 [.ref 4, .int a1] [] h = some (some (.int v), h1) ∧ pX 1114 0 [.ref 244, .int a1, .retAddr 0] [] h1 = some (some (.int v), h2) ∧ FX L h1 ∧ (∀ j, hp_i h1 1 j = hp_i h 1 j) ∧ RL h2
/-- info: class and model answer alike, and the heap is as it should be behind it -/
def PR_info (L : Nat) (RL : HP → Prop) : Prop := ∀ (h : HP) (a1 a2 : Int32), RL h → ∃ (v : Int32) (h1 h2 : HP), pX 1007 0 [.ref 4, .int a1, .int a2, .retAddr 0] [] h = some (some (.int v), h1) ∧ pX 1115 0 [.ref 244, .int a1, .int a2] [] h1 = some (some (.int v), h2) ∧ FX L h1 ∧ (∀ j, hp_i h1 1 j = hp_i h 1 j) ∧ RL h2
/-- set: class and model answer alike, and the heap is as it should be behind it -/
def PR_set (L : Nat) (RL : HP → Prop) : Prop := ∀ (h : HP) (a1 a2 : Int32), RL h → ∃ (v : Int32) (h1 h2 : HP), pX 1008 0 [.ref 4, .int a1, .int a2, .retAddr 0] [] h = some (some (.int v), h1) ∧ pX 1116 0 [.ref 244, .int a1, .int a2, .retAddr 0] [] h1 = some (some (.int v), h2) ∧ FX L h1 ∧ (∀ j, hp_i h1 1 j = hp_i h 1 j) ∧ RL h2
/-- plan: class and model answer alike, and the heap is as it should be behind it -/
def PR_plan (L : Nat) (RL : HP → Prop) : Prop := ∀ (h : HP) (a1 : Int32), RL h → ∃ (v : Int32) (h1 h2 : HP), pX 1009 0 [.ref 4, .int a1] [] h = some (some (.int v), h1) ∧ pX 1117 0 [.ref 244, .int a1] [] h1 = some (some (.int v), h2) ∧ FX L h1 ∧ (∀ j, hp_i h1 1 j = hp_i h 1 j) ∧ RL h2
/-- argument: class and model answer alike, and the heap is as it should be behind it -/
def PR_argument (L : Nat) (RL : HP → Prop) : Prop := ∀ (h : HP) (a1 a2 a3 : Int32), RL h → ∃ (v : Int32) (h1 h2 : HP), pX 1010 0 [.ref 4, .int a1, .int a2, .int a3] [] h = some (some (.int v), h1) ∧ pX 1118 0 [.ref 244, .int a1, .int a2, .int a3] [] h1 = some (some (.int v), h2) ∧ FX L h1 ∧ (∀ j, hp_i h1 1 j = hp_i h 1 j) ∧ RL h2
/-- run: class and model answer alike, and the heap is as it should be behind it -/
def PR_run (L : Nat) (RL : HP → Prop) : Prop := ∀ (h : HP) (a1 a2 : Int32), RL h → ∃ (v : Int32) (h1 h2 : HP), pX 1011 0 [.ref 4, .int a1, .int a2, .retAddr 0, .retAddr 0] [] h = some (some (.int v), h1) ∧ pX 1154 0 [.ref 244, .int a1, .int a2] [] h1 = some (some (.int v), h2) ∧ FX L h1 ∧ (∀ j, hp_i h1 1 j = hp_i h 1 j) ∧ RL h2
/-- result: class and model answer alike, and the heap is as it should be behind it -/
def PR_result (L : Nat) (RL : HP → Prop) : Prop := ∀ (h : HP) (a1 : Int32), RL h → ∃ (v : Int32) (h1 h2 : HP), pX 1012 0 [.ref 4, .int a1, .retAddr 0] [] h = some (some (.int v), h1) ∧ pX 1155 0 [.ref 244, .int a1] [] h1 = some (some (.int v), h2) ∧ FX L h1 ∧ (∀ j, hp_i h1 1 j = hp_i h 1 j) ∧ RL h2
/-- into: class and model answer alike, and the heap is as it should be behind it -/
def PR_into (L : Nat) (RL : HP → Prop) : Prop := ∀ (h : HP) (a1 : Int32), RL h → ∃ (v : Int32) (h1 h2 : HP), pX 1013 0 [.ref 4, .int a1, .retAddr 0, .retAddr 0, .retAddr 0] [] h = some (some (.int v), h1) ∧ pX 1156 0 [.ref 244, .int a1, .retAddr 0] [] h1 = some (some (.int v), h2) ∧ FX L h1 ∧ (∀ j, hp_i h1 1 j = hp_i h 1 j) ∧ RL h2
/-- cell: class and model answer alike, and the heap is as it should be behind it -/
def PR_cell (L : Nat) (RL : HP → Prop) : Prop := ∀ (h : HP) (a1 : Int32), RL h → ∃ (v : Int32) (h1 h2 : HP), pX 1014 0 [.ref 4, .int a1, .retAddr 0] [] h = some (some (.int v), h1) ∧ pX 1157 0 [.ref 244, .int a1] [] h1 = some (some (.int v), h2) ∧ FX L h1 ∧ (∀ j, hp_i h1 1 j = hp_i h 1 j) ∧ RL h2
/-- counted: class and model answer alike, and the heap is as it should be behind it -/
def PR_counted (L : Nat) (RL : HP → Prop) : Prop := ∀ (h : HP) (a1 : Int32), RL h → ∃ (v : Int32) (h1 h2 : HP), pX 1015 0 [.ref 4, .int a1] [] h = some (some (.int v), h1) ∧ pX 1158 0 [.ref 244, .int a1] [] h1 = some (some (.int v), h2) ∧ FX L h1 ∧ (∀ j, hp_i h1 1 j = hp_i h 1 j) ∧ RL h2
/-- trace: class and model answer alike, and the heap is as it should be behind it -/
def PR_trace (L : Nat) (RL : HP → Prop) : Prop := ∀ (h : HP) (a1 : Int32), RL h → ∃ (v : Int32) (h1 h2 : HP), pX 1016 0 [.ref 4, .int a1] [] h = some (some (.int v), h1) ∧ pX 1159 0 [.ref 244, .int a1] [] h1 = some (some (.int v), h2) ∧ FX L h1 ∧ (∀ j, hp_i h1 1 j = hp_i h 1 j) ∧ RL h2
/-- left: class and model answer alike, and the heap is as it should be behind it -/
def PR_left (L : Nat) (RL : HP → Prop) : Prop := ∀ (h : HP), RL h → ∃ (v : Int32) (h1 h2 : HP), pX 1017 0 [.ref 4] [] h = some (some (.int v), h1) ∧ pX 1160 0 [.ref 244] [] h1 = some (some (.int v), h2) ∧ FX L h1 ∧ (∀ j, hp_i h1 1 j = hp_i h 1 j) ∧ RL h2
/-- walk: class and model answer alike, and the heap is as it should be behind it -/
def PR_walk (L : Nat) (RL : HP → Prop) : Prop := ∀ (h : HP) (a1 a2 : Int32), RL h → ∃ (v : Int32) (h1 h2 : HP), pX 1018 0 [.ref 4, .int a1, .int a2, .retAddr 0] [] h = some (some (.int v), h1) ∧ pX 1161 0 [.ref 244, .int a1, .int a2] [] h1 = some (some (.int v), h2) ∧ FX L h1 ∧ (∀ j, hp_i h1 1 j = hp_i h 1 j) ∧ RL h2
/-- step: class and model answer alike, and the heap is as it should be behind it -/
def PR_step (L : Nat) (RL : HP → Prop) : Prop := ∀ (h : HP) (a1 : Int32), RL h → ∃ (v : Int32) (h1 h2 : HP), pX 1019 0 [.ref 4, .int a1] [] h = some (some (.int v), h1) ∧ pX 1162 0 [.ref 244, .int a1, .retAddr 0] [] h1 = some (some (.int v), h2) ∧ FX L h1 ∧ (∀ j, hp_i h1 1 j = hp_i h 1 j) ∧ RL h2
/-- frame: class and model answer alike, and the heap is as it should be behind it -/
def PR_frame (L : Nat) (RL : HP → Prop) : Prop := ∀ (h : HP) (a1 : Int32), RL h → ∃ (v : Int32) (h1 h2 : HP), pX 1020 0 [.ref 4, .int a1, .retAddr 0] [] h = some (some (.int v), h1) ∧ pX 1163 0 [.ref 244, .int a1, .retAddr 0, .retAddr 0] [] h1 = some (some (.int v), h2) ∧ FX L h1 ∧ (∀ j, hp_i h1 1 j = hp_i h 1 j) ∧ RL h2
/-- register: class and model answer alike, and the heap is as it should be behind it -/
def PR_register (L : Nat) (RL : HP → Prop) : Prop := ∀ (h : HP) (a1 a2 : Int32), RL h → ∃ (v : Int32) (h1 h2 : HP), pX 1021 0 [.ref 4, .int a1, .int a2, .retAddr 0] [] h = some (some (.int v), h1) ∧ pX 1164 0 [.ref 244, .int a1, .int a2, .retAddr 0] [] h1 = some (some (.int v), h2) ∧ FX L h1 ∧ (∀ j, hp_i h1 1 j = hp_i h 1 j) ∧ RL h2
/-- drop: class and model answer alike, and the heap is as it should be behind it -/
def PR_drop (L : Nat) (RL : HP → Prop) : Prop := ∀ (h : HP), RL h → ∃ (v : Int32) (h1 h2 : HP), pX 1022 0 [.ref 4] [] h = some (some (.int v), h1) ∧ pX 1165 0 [.ref 244] [] h1 = some (some (.int v), h2) ∧ FX L h1 ∧ (∀ j, hp_i h1 1 j = hp_i h 1 j) ∧ RL h2
/-- told: class and model answer alike, and the heap is as it should be behind it -/
def PR_told (L : Nat) (RL : HP → Prop) : Prop := ∀ (h : HP) (a1 : Int32), RL h → ∃ (v : Int32) (h1 h2 : HP), pX 1023 0 [.ref 4, .int a1] [] h = some (some (.int v), h1) ∧ pX 1166 0 [.ref 244, .int a1] [] h1 = some (some (.int v), h2) ∧ FX L h1 ∧ (∀ j, hp_i h1 1 j = hp_i h 1 j) ∧ RL h2
theorem law_in {i L j : Nat} (hi : i + 6 ≤ L) (hL : L ≤ 3072) (hj : j < 6) : inb (nI i + OfNat.ofNat j) L = true ∧ ix (nI i + OfNat.ofNat j) = i + j := by
  have e : nI i + OfNat.ofNat j = nI (i + j) := nI_add i j
  rw [e]
  exact ⟨inb_nI (by omega) (by omega), ix_nI (by omega)⟩
section Law
variable {L i : Nat} {xs : Nat → Int32} {RL : HP → Prop} {h : HP}
theorem lawc_member (hRL : ∀ h, RL h → FX L h ∧ ∀ j, hp_i h 1 j = xs j) (hp : PR_member L RL) (hi : i + 6 ≤ L) (hL : L ≤ 3072) (hr : RL h) : ∃ h2, RL h2 ∧ pX 1200 140 [.ref 1, .ref 4, .ref 244, .int (nI i)] [] h = pX 1200 809 [.ref 1, .ref 4, .ref 244, .int (nI i)] [] h2 := by
  obtain ⟨w, hx⟩ := hRL h hr
  obtain ⟨v, h1, h2, e1, e2, w1, x1, r2⟩ := hp h (xs (i + 1)) hr
  have hx1 : ∀ j, hp_i h1 1 j = xs j := fun j => (x1 j).trans (hx j)
  obtain ⟨p1, q1⟩ := law_in (j := 1) hi hL (by decide)
  refine ⟨h2, r2, ?_⟩
  simp only [x1200_140, x1200_141, x1200_142, x1200_143, x1200_144, x1200_145, x1200_146, x1200_149, x1200_150, x1200_151, x1200_152, x1200_153, x1200_154, x1200_155, x1200_158, x1200_161, x1200_162, w.k1, w.l1, w.k4, w.k244, w1.k1, w1.l1, w1.k4, w1.k244, hx, hx1, p1, q1, e1, e2, Option.bind_some, Option.toList_some, List.singleton_append, if_true]
theorem lawc_act (hRL : ∀ h, RL h → FX L h ∧ ∀ j, hp_i h 1 j = xs j) (hp : PR_act L RL) (hi : i + 6 ≤ L) (hL : L ≤ 3072) (hr : RL h) : ∃ h2, RL h2 ∧ pX 1200 163 [.ref 1, .ref 4, .ref 244, .int (nI i)] [] h = pX 1200 809 [.ref 1, .ref 4, .ref 244, .int (nI i)] [] h2 := by
  obtain ⟨w, hx⟩ := hRL h hr
  obtain ⟨v, h1, h2, e1, e2, w1, x1, r2⟩ := hp h (xs (i + 1)) (xs (i + 2)) (xs (i + 3)) (xs (i + 4)) (xs (i + 5)) hr
  have hx1 : ∀ j, hp_i h1 1 j = xs j := fun j => (x1 j).trans (hx j)
  obtain ⟨p1, q1⟩ := law_in (j := 1) hi hL (by decide)
  obtain ⟨p2, q2⟩ := law_in (j := 2) hi hL (by decide)
  obtain ⟨p3, q3⟩ := law_in (j := 3) hi hL (by decide)
  obtain ⟨p4, q4⟩ := law_in (j := 4) hi hL (by decide)
  obtain ⟨p5, q5⟩ := law_in (j := 5) hi hL (by decide)
  refine ⟨h2, r2, ?_⟩
  simp only [x1200_163, x1200_164, x1200_165, x1200_166, x1200_167, x1200_168, x1200_169, x1200_170, x1200_171, x1200_172, x1200_173, x1200_174, x1200_175, x1200_176, x1200_177, x1200_178, x1200_179, x1200_180, x1200_181, x1200_182, x1200_183, x1200_184, x1200_185, x1200_186, x1200_187, x1200_188, x1200_189, x1200_192, x1200_193, x1200_194, x1200_195, x1200_196, x1200_197, x1200_198, x1200_199, x1200_200, x1200_201, x1200_202, x1200_203, x1200_204, x1200_205, x1200_206, x1200_207, x1200_208, x1200_209, x1200_210, x1200_211, x1200_212, x1200_213, x1200_214, x1200_215, x1200_216, x1200_217, x1200_218, x1200_221, x1200_224, x1200_225, w.k1, w.l1, w.k4, w.k244, w1.k1, w1.l1, w1.k4, w1.k244, hx, hx1, p1, q1, p2, q2, p3, q3, p4, q4, p5, q5, e1, e2, Option.bind_some, Option.toList_some, List.singleton_append, if_true]
theorem lawc_handler (hRL : ∀ h, RL h → FX L h ∧ ∀ j, hp_i h 1 j = xs j) (hp : PR_handler L RL) (hi : i + 6 ≤ L) (hL : L ≤ 3072) (hr : RL h) : ∃ h2, RL h2 ∧ pX 1200 226 [.ref 1, .ref 4, .ref 244, .int (nI i)] [] h = pX 1200 809 [.ref 1, .ref 4, .ref 244, .int (nI i)] [] h2 := by
  obtain ⟨w, hx⟩ := hRL h hr
  obtain ⟨v, h1, h2, e1, e2, w1, x1, r2⟩ := hp h (xs (i + 1)) (xs (i + 2)) (xs (i + 3)) (xs (i + 4)) (xs (i + 5)) hr
  have hx1 : ∀ j, hp_i h1 1 j = xs j := fun j => (x1 j).trans (hx j)
  obtain ⟨p1, q1⟩ := law_in (j := 1) hi hL (by decide)
  obtain ⟨p2, q2⟩ := law_in (j := 2) hi hL (by decide)
  obtain ⟨p3, q3⟩ := law_in (j := 3) hi hL (by decide)
  obtain ⟨p4, q4⟩ := law_in (j := 4) hi hL (by decide)
  obtain ⟨p5, q5⟩ := law_in (j := 5) hi hL (by decide)
  refine ⟨h2, r2, ?_⟩
  simp only [x1200_226, x1200_227, x1200_228, x1200_229, x1200_230, x1200_231, x1200_232, x1200_233, x1200_234, x1200_235, x1200_236, x1200_237, x1200_238, x1200_239, x1200_240, x1200_241, x1200_242, x1200_243, x1200_244, x1200_245, x1200_246, x1200_247, x1200_248, x1200_249, x1200_250, x1200_251, x1200_252, x1200_255, x1200_256, x1200_257, x1200_258, x1200_259, x1200_260, x1200_261, x1200_262, x1200_263, x1200_264, x1200_265, x1200_266, x1200_267, x1200_268, x1200_269, x1200_270, x1200_271, x1200_272, x1200_273, x1200_274, x1200_275, x1200_276, x1200_277, x1200_278, x1200_279, x1200_280, x1200_281, x1200_284, x1200_287, x1200_288, w.k1, w.l1, w.k4, w.k244, w1.k1, w1.l1, w1.k4, w1.k244, hx, hx1, p1, q1, p2, q2, p3, q3, p4, q4, p5, q5, e1, e2, Option.bind_some, Option.toList_some, List.singleton_append, if_true]
theorem lawc_cut (hRL : ∀ h, RL h → FX L h ∧ ∀ j, hp_i h 1 j = xs j) (hp : PR_cut L RL) (hi : i + 6 ≤ L) (hL : L ≤ 3072) (hr : RL h) : ∃ h2, RL h2 ∧ pX 1200 289 [.ref 1, .ref 4, .ref 244, .int (nI i)] [] h = pX 1200 809 [.ref 1, .ref 4, .ref 244, .int (nI i)] [] h2 := by
  obtain ⟨w, hx⟩ := hRL h hr
  obtain ⟨v, h1, h2, e1, e2, w1, x1, r2⟩ := hp h (xs (i + 1)) hr
  have hx1 : ∀ j, hp_i h1 1 j = xs j := fun j => (x1 j).trans (hx j)
  obtain ⟨p1, q1⟩ := law_in (j := 1) hi hL (by decide)
  refine ⟨h2, r2, ?_⟩
  simp only [x1200_289, x1200_290, x1200_291, x1200_292, x1200_293, x1200_294, x1200_295, x1200_298, x1200_299, x1200_300, x1200_301, x1200_302, x1200_303, x1200_304, x1200_307, x1200_310, x1200_311, w.k1, w.l1, w.k4, w.k244, w1.k1, w1.l1, w1.k4, w1.k244, hx, hx1, p1, q1, e1, e2, Option.bind_some, Option.toList_some, List.singleton_append, if_true]
theorem lawc_price (hRL : ∀ h, RL h → FX L h ∧ ∀ j, hp_i h 1 j = xs j) (hp : PR_price L RL) (hi : i + 6 ≤ L) (hL : L ≤ 3072) (hr : RL h) : ∃ h2, RL h2 ∧ pX 1200 312 [.ref 1, .ref 4, .ref 244, .int (nI i)] [] h = pX 1200 809 [.ref 1, .ref 4, .ref 244, .int (nI i)] [] h2 := by
  obtain ⟨w, hx⟩ := hRL h hr
  obtain ⟨v, h1, h2, e1, e2, w1, x1, r2⟩ := hp h (xs (i + 1)) (xs (i + 2)) hr
  have hx1 : ∀ j, hp_i h1 1 j = xs j := fun j => (x1 j).trans (hx j)
  obtain ⟨p1, q1⟩ := law_in (j := 1) hi hL (by decide)
  obtain ⟨p2, q2⟩ := law_in (j := 2) hi hL (by decide)
  refine ⟨h2, r2, ?_⟩
  simp only [x1200_312, x1200_313, x1200_314, x1200_315, x1200_316, x1200_317, x1200_318, x1200_319, x1200_320, x1200_321, x1200_322, x1200_323, x1200_326, x1200_327, x1200_328, x1200_329, x1200_330, x1200_331, x1200_332, x1200_333, x1200_334, x1200_335, x1200_336, x1200_337, x1200_340, x1200_343, x1200_344, w.k1, w.l1, w.k4, w.k244, w1.k1, w1.l1, w1.k4, w1.k244, hx, hx1, p1, q1, p2, q2, e1, e2, Option.bind_some, Option.toList_some, List.singleton_append, if_true]
theorem lawc_verify (hRL : ∀ h, RL h → FX L h ∧ ∀ j, hp_i h 1 j = xs j) (hp : PR_verify L RL) (hi : i + 6 ≤ L) (hL : L ≤ 3072) (hr : RL h) : ∃ h2, RL h2 ∧ pX 1200 345 [.ref 1, .ref 4, .ref 244, .int (nI i)] [] h = pX 1200 809 [.ref 1, .ref 4, .ref 244, .int (nI i)] [] h2 := by
  obtain ⟨w, hx⟩ := hRL h hr
  obtain ⟨v, h1, h2, e1, e2, w1, x1, r2⟩ := hp h (xs (i + 1)) hr
  have hx1 : ∀ j, hp_i h1 1 j = xs j := fun j => (x1 j).trans (hx j)
  obtain ⟨p1, q1⟩ := law_in (j := 1) hi hL (by decide)
  refine ⟨h2, r2, ?_⟩
  simp only [x1200_345, x1200_346, x1200_347, x1200_348, x1200_349, x1200_350, x1200_351, x1200_354, x1200_355, x1200_356, x1200_357, x1200_358, x1200_359, x1200_360, x1200_363, x1200_366, x1200_367, w.k1, w.l1, w.k4, w.k244, w1.k1, w1.l1, w1.k4, w1.k244, hx, hx1, p1, q1, e1, e2, Option.bind_some, Option.toList_some, List.singleton_append, if_true]
theorem lawc_info (hRL : ∀ h, RL h → FX L h ∧ ∀ j, hp_i h 1 j = xs j) (hp : PR_info L RL) (hi : i + 6 ≤ L) (hL : L ≤ 3072) (hr : RL h) : ∃ h2, RL h2 ∧ pX 1200 368 [.ref 1, .ref 4, .ref 244, .int (nI i)] [] h = pX 1200 809 [.ref 1, .ref 4, .ref 244, .int (nI i)] [] h2 := by
  obtain ⟨w, hx⟩ := hRL h hr
  obtain ⟨v, h1, h2, e1, e2, w1, x1, r2⟩ := hp h (xs (i + 1)) (xs (i + 2)) hr
  have hx1 : ∀ j, hp_i h1 1 j = xs j := fun j => (x1 j).trans (hx j)
  obtain ⟨p1, q1⟩ := law_in (j := 1) hi hL (by decide)
  obtain ⟨p2, q2⟩ := law_in (j := 2) hi hL (by decide)
  refine ⟨h2, r2, ?_⟩
  simp only [x1200_368, x1200_369, x1200_370, x1200_371, x1200_372, x1200_373, x1200_374, x1200_375, x1200_376, x1200_377, x1200_378, x1200_379, x1200_382, x1200_383, x1200_384, x1200_385, x1200_386, x1200_387, x1200_388, x1200_389, x1200_390, x1200_391, x1200_392, x1200_393, x1200_396, x1200_399, x1200_400, w.k1, w.l1, w.k4, w.k244, w1.k1, w1.l1, w1.k4, w1.k244, hx, hx1, p1, q1, p2, q2, e1, e2, Option.bind_some, Option.toList_some, List.singleton_append, if_true]
theorem lawc_set (hRL : ∀ h, RL h → FX L h ∧ ∀ j, hp_i h 1 j = xs j) (hp : PR_set L RL) (hi : i + 6 ≤ L) (hL : L ≤ 3072) (hr : RL h) : ∃ h2, RL h2 ∧ pX 1200 401 [.ref 1, .ref 4, .ref 244, .int (nI i)] [] h = pX 1200 809 [.ref 1, .ref 4, .ref 244, .int (nI i)] [] h2 := by
  obtain ⟨w, hx⟩ := hRL h hr
  obtain ⟨v, h1, h2, e1, e2, w1, x1, r2⟩ := hp h (xs (i + 1)) (xs (i + 2)) hr
  have hx1 : ∀ j, hp_i h1 1 j = xs j := fun j => (x1 j).trans (hx j)
  obtain ⟨p1, q1⟩ := law_in (j := 1) hi hL (by decide)
  obtain ⟨p2, q2⟩ := law_in (j := 2) hi hL (by decide)
  refine ⟨h2, r2, ?_⟩
  simp only [x1200_401, x1200_402, x1200_403, x1200_404, x1200_405, x1200_406, x1200_407, x1200_408, x1200_409, x1200_410, x1200_411, x1200_412, x1200_415, x1200_416, x1200_417, x1200_418, x1200_419, x1200_420, x1200_421, x1200_422, x1200_423, x1200_424, x1200_425, x1200_426, x1200_429, x1200_432, x1200_433, w.k1, w.l1, w.k4, w.k244, w1.k1, w1.l1, w1.k4, w1.k244, hx, hx1, p1, q1, p2, q2, e1, e2, Option.bind_some, Option.toList_some, List.singleton_append, if_true]
theorem lawc_plan (hRL : ∀ h, RL h → FX L h ∧ ∀ j, hp_i h 1 j = xs j) (hp : PR_plan L RL) (hi : i + 6 ≤ L) (hL : L ≤ 3072) (hr : RL h) : ∃ h2, RL h2 ∧ pX 1200 434 [.ref 1, .ref 4, .ref 244, .int (nI i)] [] h = pX 1200 809 [.ref 1, .ref 4, .ref 244, .int (nI i)] [] h2 := by
  obtain ⟨w, hx⟩ := hRL h hr
  obtain ⟨v, h1, h2, e1, e2, w1, x1, r2⟩ := hp h (xs (i + 1)) hr
  have hx1 : ∀ j, hp_i h1 1 j = xs j := fun j => (x1 j).trans (hx j)
  obtain ⟨p1, q1⟩ := law_in (j := 1) hi hL (by decide)
  refine ⟨h2, r2, ?_⟩
  simp only [x1200_434, x1200_435, x1200_436, x1200_437, x1200_438, x1200_439, x1200_440, x1200_443, x1200_444, x1200_445, x1200_446, x1200_447, x1200_448, x1200_449, x1200_452, x1200_455, x1200_456, w.k1, w.l1, w.k4, w.k244, w1.k1, w1.l1, w1.k4, w1.k244, hx, hx1, p1, q1, e1, e2, Option.bind_some, Option.toList_some, List.singleton_append, if_true]
theorem lawc_argument (hRL : ∀ h, RL h → FX L h ∧ ∀ j, hp_i h 1 j = xs j) (hp : PR_argument L RL) (hi : i + 6 ≤ L) (hL : L ≤ 3072) (hr : RL h) : ∃ h2, RL h2 ∧ pX 1200 457 [.ref 1, .ref 4, .ref 244, .int (nI i)] [] h = pX 1200 809 [.ref 1, .ref 4, .ref 244, .int (nI i)] [] h2 := by
  obtain ⟨w, hx⟩ := hRL h hr
  obtain ⟨v, h1, h2, e1, e2, w1, x1, r2⟩ := hp h (xs (i + 1)) (xs (i + 2)) (xs (i + 3)) hr
  have hx1 : ∀ j, hp_i h1 1 j = xs j := fun j => (x1 j).trans (hx j)
  obtain ⟨p1, q1⟩ := law_in (j := 1) hi hL (by decide)
  obtain ⟨p2, q2⟩ := law_in (j := 2) hi hL (by decide)
  obtain ⟨p3, q3⟩ := law_in (j := 3) hi hL (by decide)
  refine ⟨h2, r2, ?_⟩
  simp only [x1200_457, x1200_458, x1200_459, x1200_460, x1200_461, x1200_462, x1200_463, x1200_464, x1200_465, x1200_466, x1200_467, x1200_468, x1200_469, x1200_470, x1200_471, x1200_472, x1200_473, x1200_476, x1200_477, x1200_478, x1200_479, x1200_480, x1200_481, x1200_482, x1200_483, x1200_484, x1200_485, x1200_486, x1200_487, x1200_488, x1200_489, x1200_490, x1200_491, x1200_492, x1200_495, x1200_498, x1200_499, w.k1, w.l1, w.k4, w.k244, w1.k1, w1.l1, w1.k4, w1.k244, hx, hx1, p1, q1, p2, q2, p3, q3, e1, e2, Option.bind_some, Option.toList_some, List.singleton_append, if_true]
theorem lawc_run (hRL : ∀ h, RL h → FX L h ∧ ∀ j, hp_i h 1 j = xs j) (hp : PR_run L RL) (hi : i + 6 ≤ L) (hL : L ≤ 3072) (hr : RL h) : ∃ h2, RL h2 ∧ pX 1200 500 [.ref 1, .ref 4, .ref 244, .int (nI i)] [] h = pX 1200 809 [.ref 1, .ref 4, .ref 244, .int (nI i)] [] h2 := by
  obtain ⟨w, hx⟩ := hRL h hr
  obtain ⟨v, h1, h2, e1, e2, w1, x1, r2⟩ := hp h (xs (i + 1)) (xs (i + 2)) hr
  have hx1 : ∀ j, hp_i h1 1 j = xs j := fun j => (x1 j).trans (hx j)
  obtain ⟨p1, q1⟩ := law_in (j := 1) hi hL (by decide)
  obtain ⟨p2, q2⟩ := law_in (j := 2) hi hL (by decide)
  refine ⟨h2, r2, ?_⟩
  simp only [x1200_500, x1200_501, x1200_502, x1200_503, x1200_504, x1200_505, x1200_506, x1200_507, x1200_508, x1200_509, x1200_510, x1200_511, x1200_514, x1200_515, x1200_516, x1200_517, x1200_518, x1200_519, x1200_520, x1200_521, x1200_522, x1200_523, x1200_524, x1200_525, x1200_528, x1200_531, x1200_532, w.k1, w.l1, w.k4, w.k244, w1.k1, w1.l1, w1.k4, w1.k244, hx, hx1, p1, q1, p2, q2, e1, e2, Option.bind_some, Option.toList_some, List.singleton_append, if_true]
theorem lawc_result (hRL : ∀ h, RL h → FX L h ∧ ∀ j, hp_i h 1 j = xs j) (hp : PR_result L RL) (hi : i + 6 ≤ L) (hL : L ≤ 3072) (hr : RL h) : ∃ h2, RL h2 ∧ pX 1200 533 [.ref 1, .ref 4, .ref 244, .int (nI i)] [] h = pX 1200 809 [.ref 1, .ref 4, .ref 244, .int (nI i)] [] h2 := by
  obtain ⟨w, hx⟩ := hRL h hr
  obtain ⟨v, h1, h2, e1, e2, w1, x1, r2⟩ := hp h (xs (i + 1)) hr
  have hx1 : ∀ j, hp_i h1 1 j = xs j := fun j => (x1 j).trans (hx j)
  obtain ⟨p1, q1⟩ := law_in (j := 1) hi hL (by decide)
  refine ⟨h2, r2, ?_⟩
  simp only [x1200_533, x1200_534, x1200_535, x1200_536, x1200_537, x1200_538, x1200_539, x1200_542, x1200_543, x1200_544, x1200_545, x1200_546, x1200_547, x1200_548, x1200_551, x1200_554, x1200_555, w.k1, w.l1, w.k4, w.k244, w1.k1, w1.l1, w1.k4, w1.k244, hx, hx1, p1, q1, e1, e2, Option.bind_some, Option.toList_some, List.singleton_append, if_true]
theorem lawc_into (hRL : ∀ h, RL h → FX L h ∧ ∀ j, hp_i h 1 j = xs j) (hp : PR_into L RL) (hi : i + 6 ≤ L) (hL : L ≤ 3072) (hr : RL h) : ∃ h2, RL h2 ∧ pX 1200 556 [.ref 1, .ref 4, .ref 244, .int (nI i)] [] h = pX 1200 809 [.ref 1, .ref 4, .ref 244, .int (nI i)] [] h2 := by
  obtain ⟨w, hx⟩ := hRL h hr
  obtain ⟨v, h1, h2, e1, e2, w1, x1, r2⟩ := hp h (xs (i + 1)) hr
  have hx1 : ∀ j, hp_i h1 1 j = xs j := fun j => (x1 j).trans (hx j)
  obtain ⟨p1, q1⟩ := law_in (j := 1) hi hL (by decide)
  refine ⟨h2, r2, ?_⟩
  simp only [x1200_556, x1200_557, x1200_558, x1200_559, x1200_560, x1200_561, x1200_562, x1200_565, x1200_566, x1200_567, x1200_568, x1200_569, x1200_570, x1200_571, x1200_574, x1200_577, x1200_578, w.k1, w.l1, w.k4, w.k244, w1.k1, w1.l1, w1.k4, w1.k244, hx, hx1, p1, q1, e1, e2, Option.bind_some, Option.toList_some, List.singleton_append, if_true]
theorem lawc_cell (hRL : ∀ h, RL h → FX L h ∧ ∀ j, hp_i h 1 j = xs j) (hp : PR_cell L RL) (hi : i + 6 ≤ L) (hL : L ≤ 3072) (hr : RL h) : ∃ h2, RL h2 ∧ pX 1200 579 [.ref 1, .ref 4, .ref 244, .int (nI i)] [] h = pX 1200 809 [.ref 1, .ref 4, .ref 244, .int (nI i)] [] h2 := by
  obtain ⟨w, hx⟩ := hRL h hr
  obtain ⟨v, h1, h2, e1, e2, w1, x1, r2⟩ := hp h (xs (i + 1)) hr
  have hx1 : ∀ j, hp_i h1 1 j = xs j := fun j => (x1 j).trans (hx j)
  obtain ⟨p1, q1⟩ := law_in (j := 1) hi hL (by decide)
  refine ⟨h2, r2, ?_⟩
  simp only [x1200_579, x1200_580, x1200_581, x1200_582, x1200_583, x1200_584, x1200_585, x1200_588, x1200_589, x1200_590, x1200_591, x1200_592, x1200_593, x1200_594, x1200_597, x1200_600, x1200_601, w.k1, w.l1, w.k4, w.k244, w1.k1, w1.l1, w1.k4, w1.k244, hx, hx1, p1, q1, e1, e2, Option.bind_some, Option.toList_some, List.singleton_append, if_true]
theorem lawc_counted (hRL : ∀ h, RL h → FX L h ∧ ∀ j, hp_i h 1 j = xs j) (hp : PR_counted L RL) (hi : i + 6 ≤ L) (hL : L ≤ 3072) (hr : RL h) : ∃ h2, RL h2 ∧ pX 1200 602 [.ref 1, .ref 4, .ref 244, .int (nI i)] [] h = pX 1200 809 [.ref 1, .ref 4, .ref 244, .int (nI i)] [] h2 := by
  obtain ⟨w, hx⟩ := hRL h hr
  obtain ⟨v, h1, h2, e1, e2, w1, x1, r2⟩ := hp h (xs (i + 1)) hr
  have hx1 : ∀ j, hp_i h1 1 j = xs j := fun j => (x1 j).trans (hx j)
  obtain ⟨p1, q1⟩ := law_in (j := 1) hi hL (by decide)
  refine ⟨h2, r2, ?_⟩
  simp only [x1200_602, x1200_603, x1200_604, x1200_605, x1200_606, x1200_607, x1200_608, x1200_611, x1200_612, x1200_613, x1200_614, x1200_615, x1200_616, x1200_617, x1200_620, x1200_623, x1200_624, w.k1, w.l1, w.k4, w.k244, w1.k1, w1.l1, w1.k4, w1.k244, hx, hx1, p1, q1, e1, e2, Option.bind_some, Option.toList_some, List.singleton_append, if_true]
theorem lawc_trace (hRL : ∀ h, RL h → FX L h ∧ ∀ j, hp_i h 1 j = xs j) (hp : PR_trace L RL) (hi : i + 6 ≤ L) (hL : L ≤ 3072) (hr : RL h) : ∃ h2, RL h2 ∧ pX 1200 625 [.ref 1, .ref 4, .ref 244, .int (nI i)] [] h = pX 1200 809 [.ref 1, .ref 4, .ref 244, .int (nI i)] [] h2 := by
  obtain ⟨w, hx⟩ := hRL h hr
  obtain ⟨v, h1, h2, e1, e2, w1, x1, r2⟩ := hp h (xs (i + 1)) hr
  have hx1 : ∀ j, hp_i h1 1 j = xs j := fun j => (x1 j).trans (hx j)
  obtain ⟨p1, q1⟩ := law_in (j := 1) hi hL (by decide)
  refine ⟨h2, r2, ?_⟩
  simp only [x1200_625, x1200_626, x1200_627, x1200_628, x1200_629, x1200_630, x1200_631, x1200_634, x1200_635, x1200_636, x1200_637, x1200_638, x1200_639, x1200_640, x1200_643, x1200_646, x1200_647, w.k1, w.l1, w.k4, w.k244, w1.k1, w1.l1, w1.k4, w1.k244, hx, hx1, p1, q1, e1, e2, Option.bind_some, Option.toList_some, List.singleton_append, if_true]
theorem lawc_left (hRL : ∀ h, RL h → FX L h ∧ ∀ j, hp_i h 1 j = xs j) (hp : PR_left L RL) (hi : i + 6 ≤ L) (hL : L ≤ 3072) (hr : RL h) : ∃ h2, RL h2 ∧ pX 1200 648 [.ref 1, .ref 4, .ref 244, .int (nI i)] [] h = pX 1200 809 [.ref 1, .ref 4, .ref 244, .int (nI i)] [] h2 := by
  obtain ⟨w, hx⟩ := hRL h hr
  obtain ⟨v, h1, h2, e1, e2, w1, x1, r2⟩ := hp h hr
  have hx1 : ∀ j, hp_i h1 1 j = xs j := fun j => (x1 j).trans (hx j)
  refine ⟨h2, r2, ?_⟩
  simp only [x1200_648, x1200_649, x1200_652, x1200_653, x1200_656, x1200_659, x1200_660, w.k1, w.l1, w.k4, w.k244, w1.k1, w1.l1, w1.k4, w1.k244, hx, hx1, e1, e2, Option.bind_some, Option.toList_some, List.singleton_append, if_true]
theorem lawc_walk (hRL : ∀ h, RL h → FX L h ∧ ∀ j, hp_i h 1 j = xs j) (hp : PR_walk L RL) (hi : i + 6 ≤ L) (hL : L ≤ 3072) (hr : RL h) : ∃ h2, RL h2 ∧ pX 1200 661 [.ref 1, .ref 4, .ref 244, .int (nI i)] [] h = pX 1200 809 [.ref 1, .ref 4, .ref 244, .int (nI i)] [] h2 := by
  obtain ⟨w, hx⟩ := hRL h hr
  obtain ⟨v, h1, h2, e1, e2, w1, x1, r2⟩ := hp h (xs (i + 1)) (xs (i + 2)) hr
  have hx1 : ∀ j, hp_i h1 1 j = xs j := fun j => (x1 j).trans (hx j)
  obtain ⟨p1, q1⟩ := law_in (j := 1) hi hL (by decide)
  obtain ⟨p2, q2⟩ := law_in (j := 2) hi hL (by decide)
  refine ⟨h2, r2, ?_⟩
  simp only [x1200_661, x1200_662, x1200_663, x1200_664, x1200_665, x1200_666, x1200_667, x1200_668, x1200_669, x1200_670, x1200_671, x1200_672, x1200_675, x1200_676, x1200_677, x1200_678, x1200_679, x1200_680, x1200_681, x1200_682, x1200_683, x1200_684, x1200_685, x1200_686, x1200_689, x1200_692, x1200_693, w.k1, w.l1, w.k4, w.k244, w1.k1, w1.l1, w1.k4, w1.k244, hx, hx1, p1, q1, p2, q2, e1, e2, Option.bind_some, Option.toList_some, List.singleton_append, if_true]
theorem lawc_step (hRL : ∀ h, RL h → FX L h ∧ ∀ j, hp_i h 1 j = xs j) (hp : PR_step L RL) (hi : i + 6 ≤ L) (hL : L ≤ 3072) (hr : RL h) : ∃ h2, RL h2 ∧ pX 1200 694 [.ref 1, .ref 4, .ref 244, .int (nI i)] [] h = pX 1200 809 [.ref 1, .ref 4, .ref 244, .int (nI i)] [] h2 := by
  obtain ⟨w, hx⟩ := hRL h hr
  obtain ⟨v, h1, h2, e1, e2, w1, x1, r2⟩ := hp h (xs (i + 1)) hr
  have hx1 : ∀ j, hp_i h1 1 j = xs j := fun j => (x1 j).trans (hx j)
  obtain ⟨p1, q1⟩ := law_in (j := 1) hi hL (by decide)
  refine ⟨h2, r2, ?_⟩
  simp only [x1200_694, x1200_695, x1200_696, x1200_697, x1200_698, x1200_699, x1200_700, x1200_703, x1200_704, x1200_705, x1200_706, x1200_707, x1200_708, x1200_709, x1200_712, x1200_715, x1200_716, w.k1, w.l1, w.k4, w.k244, w1.k1, w1.l1, w1.k4, w1.k244, hx, hx1, p1, q1, e1, e2, Option.bind_some, Option.toList_some, List.singleton_append, if_true]
theorem lawc_frame (hRL : ∀ h, RL h → FX L h ∧ ∀ j, hp_i h 1 j = xs j) (hp : PR_frame L RL) (hi : i + 6 ≤ L) (hL : L ≤ 3072) (hr : RL h) : ∃ h2, RL h2 ∧ pX 1200 717 [.ref 1, .ref 4, .ref 244, .int (nI i)] [] h = pX 1200 809 [.ref 1, .ref 4, .ref 244, .int (nI i)] [] h2 := by
  obtain ⟨w, hx⟩ := hRL h hr
  obtain ⟨v, h1, h2, e1, e2, w1, x1, r2⟩ := hp h (xs (i + 1)) hr
  have hx1 : ∀ j, hp_i h1 1 j = xs j := fun j => (x1 j).trans (hx j)
  obtain ⟨p1, q1⟩ := law_in (j := 1) hi hL (by decide)
  refine ⟨h2, r2, ?_⟩
  simp only [x1200_717, x1200_718, x1200_719, x1200_720, x1200_721, x1200_722, x1200_723, x1200_726, x1200_727, x1200_728, x1200_729, x1200_730, x1200_731, x1200_732, x1200_735, x1200_738, x1200_739, w.k1, w.l1, w.k4, w.k244, w1.k1, w1.l1, w1.k4, w1.k244, hx, hx1, p1, q1, e1, e2, Option.bind_some, Option.toList_some, List.singleton_append, if_true]
theorem lawc_register (hRL : ∀ h, RL h → FX L h ∧ ∀ j, hp_i h 1 j = xs j) (hp : PR_register L RL) (hi : i + 6 ≤ L) (hL : L ≤ 3072) (hr : RL h) : ∃ h2, RL h2 ∧ pX 1200 740 [.ref 1, .ref 4, .ref 244, .int (nI i)] [] h = pX 1200 809 [.ref 1, .ref 4, .ref 244, .int (nI i)] [] h2 := by
  obtain ⟨w, hx⟩ := hRL h hr
  obtain ⟨v, h1, h2, e1, e2, w1, x1, r2⟩ := hp h (xs (i + 1)) (xs (i + 2)) hr
  have hx1 : ∀ j, hp_i h1 1 j = xs j := fun j => (x1 j).trans (hx j)
  obtain ⟨p1, q1⟩ := law_in (j := 1) hi hL (by decide)
  obtain ⟨p2, q2⟩ := law_in (j := 2) hi hL (by decide)
  refine ⟨h2, r2, ?_⟩
  simp only [x1200_740, x1200_741, x1200_742, x1200_743, x1200_744, x1200_745, x1200_746, x1200_747, x1200_748, x1200_749, x1200_750, x1200_751, x1200_754, x1200_755, x1200_756, x1200_757, x1200_758, x1200_759, x1200_760, x1200_761, x1200_762, x1200_763, x1200_764, x1200_765, x1200_768, x1200_771, x1200_772, w.k1, w.l1, w.k4, w.k244, w1.k1, w1.l1, w1.k4, w1.k244, hx, hx1, p1, q1, p2, q2, e1, e2, Option.bind_some, Option.toList_some, List.singleton_append, if_true]
theorem lawc_drop (hRL : ∀ h, RL h → FX L h ∧ ∀ j, hp_i h 1 j = xs j) (hp : PR_drop L RL) (hi : i + 6 ≤ L) (hL : L ≤ 3072) (hr : RL h) : ∃ h2, RL h2 ∧ pX 1200 773 [.ref 1, .ref 4, .ref 244, .int (nI i)] [] h = pX 1200 809 [.ref 1, .ref 4, .ref 244, .int (nI i)] [] h2 := by
  obtain ⟨w, hx⟩ := hRL h hr
  obtain ⟨v, h1, h2, e1, e2, w1, x1, r2⟩ := hp h hr
  have hx1 : ∀ j, hp_i h1 1 j = xs j := fun j => (x1 j).trans (hx j)
  refine ⟨h2, r2, ?_⟩
  simp only [x1200_773, x1200_774, x1200_777, x1200_778, x1200_781, x1200_784, x1200_785, w.k1, w.l1, w.k4, w.k244, w1.k1, w1.l1, w1.k4, w1.k244, hx, hx1, e1, e2, Option.bind_some, Option.toList_some, List.singleton_append, if_true]
theorem lawc_told (hRL : ∀ h, RL h → FX L h ∧ ∀ j, hp_i h 1 j = xs j) (hp : PR_told L RL) (hi : i + 6 ≤ L) (hL : L ≤ 3072) (hr : RL h) : ∃ h2, RL h2 ∧ pX 1200 786 [.ref 1, .ref 4, .ref 244, .int (nI i)] [] h = pX 1200 809 [.ref 1, .ref 4, .ref 244, .int (nI i)] [] h2 := by
  obtain ⟨w, hx⟩ := hRL h hr
  obtain ⟨v, h1, h2, e1, e2, w1, x1, r2⟩ := hp h (xs (i + 1)) hr
  have hx1 : ∀ j, hp_i h1 1 j = xs j := fun j => (x1 j).trans (hx j)
  obtain ⟨p1, q1⟩ := law_in (j := 1) hi hL (by decide)
  refine ⟨h2, r2, ?_⟩
  simp only [x1200_786, x1200_787, x1200_788, x1200_789, x1200_790, x1200_791, x1200_792, x1200_795, x1200_796, x1200_797, x1200_798, x1200_799, x1200_800, x1200_801, x1200_804, x1200_807, x1200_808, w.k1, w.l1, w.k4, w.k244, w1.k1, w1.l1, w1.k4, w1.k244, hx, hx1, p1, q1, e1, e2, Option.bind_some, Option.toList_some, List.singleton_append, if_true]
end Law
