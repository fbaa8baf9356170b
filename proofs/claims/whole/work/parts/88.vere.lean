/-! VERIFY: lookedAt, leastActThatLooksAtUnset -/
def lkd (σ : SM) (M : Nat) (op a b c : Int32) : Int32 :=
  if op = 23 then (if b < 0 ∨ nI M ≤ b then 0 else (((1 <<< (σ 245 (ix b) &&& 31)) - 1) <<< (c &&& 31)) &&& 255)
  else (((0 : Int32) ||| (if lookT (ix op) &&& 1 = 0 then (0 : Int32) else (1 : Int32) <<< (a &&& 31))) ||| (if lookT (ix op) &&& 2 = 0 then (0 : Int32) else (1 : Int32) <<< (b &&& 31))) ||| (if lookT (ix op) &&& 4 = 0 then (0 : Int32) else (1 : Int32) <<< (c &&& 31))
def lks (σ : SM) (M m t : Nat) : Int32 := lkd σ M (σ 247 (160 * m + 4 * t)) (σ 247 (160 * m + 4 * t + 1)) (σ 247 (160 * m + 4 * t + 2)) (σ 247 (160 * m + 4 * t + 3))
def rsv (g lk : Nat → Int32) : Nat → Nat → Int32
  | 0, _ => -5
  | n + 1, q => if g q = -1 then rsv g lk n (q + 1) else if lk q &&& (g q ^^^ -1) = 0 then rsv g lk n (q + 1) else nI q
theorem rsv_congr {g g' lk : Nat → Int32} : ∀ (n q A : Nat), q + n = A → (∀ i, i < A → g i = g' i) → rsv g lk n q = rsv g' lk n q
  | 0, _, _, _, _ => rfl
  | n + 1, q, A, h, e => by
    unfold rsv
    rw [e q (by omega), rsv_congr n (q + 1) A (by omega) e]
section
variable {L m A H M : Nat} {h0 h : HP} {σ : SM} {ca ra : Nat → Nat} {hs : Nat → List Nat} {sp : List Nat}
theorem VM.lt (w : VM L h0 h σ m A H) (j : Nat) : hp_i h 2 j = lookT j := by
  obtain ⟨ca, ra, hs, sp, c⟩ := w.2.1
  exact c.lk j
theorem VM.wt (w : VM L h0 h σ m A H) {r : Nat} (hr : r < 10) : hp_i h (16 + 9 * r) 0 = σ 245 r := by
  obtain ⟨ca, ra, hs, sp, c⟩ := w.2.1
  exact c.fi _ _ _ _ (CMR.wanted hr)
theorem VM.mc (w : VM L h0 h σ m A H) (hM : σ 244 0 = nI M) : hp_i h 5 1 = nI M := by
  obtain ⟨ca, ra, hs, sp, c⟩ := w.2.1
  exact (c.fi _ _ _ _ CMR.mcount).trans hM
theorem sp_lookc (w : VM L h0 h σ m A H) (hM : σ 244 0 = nI M) (hM10 : M ≤ 10) {t : Nat} (ht : t < A) (c : Int32) (u : Nat → Int32) (hop : σ 247 (160 * m + 4 * t) = 23) :
    pX 906 0 [.ref 5, .ref (16 + 9 * m), .int (nI t), .retAddr 0, .retAddr 0] [] (hv h c u) = some (some (.int (lks σ M m t)), hv h c u) := by
  have X := w.1
  have hm := w.2.2.1
  have hA := w.2.2.2.2.1
  have k5 := X.mk m hm
  have n1 : ¬ 16 + 9 * m + 1 = 239 ∧ ¬ 16 + 9 * m + 1 = 238 := by omega
  have n3 : ¬ 16 + 9 * m + 3 = 239 ∧ ¬ 16 + 9 * m + 3 = 238 := by omega
  have n4 : ¬ 16 + 9 * m + 4 = 239 ∧ ¬ 16 + 9 * m + 4 = 238 := by omega
  have n5 : ¬ 5 = 239 ∧ ¬ 5 = 238 := by omega
  have e1 : inb (nI t) 40 = true := inb_nI (by omega) (by omega)
  have e2 : ix (nI t) = t := ix_nI (by omega)
  have o0 : hp_i h (16 + 9 * m + 1) t = 23 := (w.cd (r := 0) (by omega) (by omega)).trans hop
  have o2 : hp_i h (16 + 9 * m + 3) t = σ 247 (160 * m + 4 * t + 2) := w.cd (r := 2) (by omega) (by omega)
  have o3 : hp_i h (16 + 9 * m + 4) t = σ 247 (160 * m + 4 * t + 3) := w.cd (r := 3) (by omega) (by omega)
  have mc := w.mc hM
  unfold lks lkd
  rw [hop, if_pos rfl]
  rcases mem_cases (σ 247 (160 * m + 4 * t + 2)) M hM10 with q | ⟨b, hb, hbM, q⟩
  · rw [if_pos q]
    have lk : pX 301 0 [.ref 5, .int (σ 247 (160 * m + 4 * t + 2))] [] (hv h c u) = some (some (.int 1), hv h c u) := by
      have := sp_lacksMember (h := hv h c u) (m := 5) (n := σ 247 (160 * m + 4 * t + 2)) X.k5
      rw [hp_i_hv1 n5, mc, if_pos q] at this
      exact this
    simp only [x906_0, x906_1, x906_4, x906_5, x906_5R, x906_6, x906_7, x906_8, x906_10, x906_13, x906_14, x906_17, x906_18, x906_18R, x906_19, x906_21, x906_22, x906_24, x906_27, x906_30, x906_31, x906_53, hp_k_hv, hp_l_hv, hp_a_hv, hp_i_hv1 n1, hp_i_hv1 n3, X.k5, k5, X.mpa m 1 hm (by omega) (by omega), X.mka m 1 hm (by omega) (by omega), X.mla m 1 hm (by omega) (by omega), X.mpa m 3 hm (by omega) (by omega), X.mka m 3 hm (by omega) (by omega), X.mla m 3 hm (by omega) (by omega), e1, e2, o0, o2, lk, if_true, show ¬ (1 : Int32) = 0 from by decide, if_false, Option.bind_some, Option.toList_some, Option.toList_none, List.singleton_append, List.nil_append]
  · rw [if_neg (by rw [hb]; exact q)]
    rw [hb] at o2 ⊢
    have lk : pX 301 0 [.ref 5, .int (nI b)] [] (hv h c u) = some (some (.int 0), hv h c u) := by
      have := sp_lacksMember (h := hv h c u) (m := 5) (n := nI b) X.k5
      rw [hp_i_hv1 n5, mc, if_neg q] at this
      exact this
    have n6 : ¬ 16 + 9 * b = 239 ∧ ¬ 16 + 9 * b = 238 := by omega
    have e5 : inb (nI b) 10 = true := inb_nI (by omega) (by omega)
    have e6 : ix (nI b) = b := ix_nI (by omega)
    have wb := w.wt (r := b) (by omega)
    simp only [x906_0, x906_1, x906_4, x906_5, x906_5R, x906_6, x906_7, x906_8, x906_10, x906_13, x906_14, x906_17, x906_18, x906_18R, x906_19, x906_21, x906_22, x906_24, x906_27, x906_34, x906_35, x906_38, x906_39, x906_39R, x906_40, x906_41, x906_44, x906_46, x906_47, x906_50, x906_53, x907_0, x907_3, x907_4, x907_5, x907_6, x907_7, x907_8, x907_9, x907_10, x907_11, x907_12, x907_13, hp_k_hv, hp_l_hv, hp_a_hv, hp_i_hv1 n1, hp_i_hv1 n3, hp_i_hv1 n4, hp_i_hv1 n6, X.k5, X.a5_0, X.k6, X.l6, X.mem b (by omega), X.mk b (by omega), k5, X.mpa m 1 hm (by omega) (by omega), X.mka m 1 hm (by omega) (by omega), X.mla m 1 hm (by omega) (by omega), X.mpa m 3 hm (by omega) (by omega), X.mka m 3 hm (by omega) (by omega), X.mla m 3 hm (by omega) (by omega), X.mpa m 4 hm (by omega) (by omega), X.mka m 4 hm (by omega) (by omega), X.mla m 4 hm (by omega) (by omega), e1, e2, e5, e6, o0, o2, o3, wb, lk, if_true, show 200 ≤ 204 from by omega, Option.bind_some, Option.toList_some, Option.toList_none, List.singleton_append, List.nil_append]
theorem sp_look (w : VM L h0 h σ m A H) (hM : σ 244 0 = nI M) (hM10 : M ≤ 10) {t : Nat} (ht : t < A) (c : Int32) (u : Nat → Int32) :
    pX 906 0 [.ref 5, .ref (16 + 9 * m), .int (nI t), .retAddr 0, .retAddr 0] [] (hv h c u) = some (some (.int (lks σ M m t)), hv h c u) := by
  by_cases hop : σ 247 (160 * m + 4 * t) = 23
  · exact sp_lookc w hM hM10 ht c u hop
  have X := w.1
  have hm := w.2.2.1
  have hA := w.2.2.2.2.1
  have k5 := X.mk m hm
  have n1 : ¬ 16 + 9 * m + 1 = 239 ∧ ¬ 16 + 9 * m + 1 = 238 := by omega
  have n2 : ¬ 16 + 9 * m + 2 = 239 ∧ ¬ 16 + 9 * m + 2 = 238 := by omega
  have n3 : ¬ 16 + 9 * m + 3 = 239 ∧ ¬ 16 + 9 * m + 3 = 238 := by omega
  have n4 : ¬ 16 + 9 * m + 4 = 239 ∧ ¬ 16 + 9 * m + 4 = 238 := by omega
  have n5 : ¬ 2 = 239 ∧ ¬ 2 = 238 := by omega
  have e1 : inb (nI t) 40 = true := inb_nI (by omega) (by omega)
  have e2 : ix (nI t) = t := ix_nI (by omega)
  have o0 : hp_i h (16 + 9 * m + 1) t = σ 247 (160 * m + 4 * t) := w.cd (r := 0) (by omega) (by omega)
  have o1 : hp_i h (16 + 9 * m + 2) t = σ 247 (160 * m + 4 * t + 1) := w.cd (r := 1) (by omega) (by omega)
  have o2 : hp_i h (16 + 9 * m + 3) t = σ 247 (160 * m + 4 * t + 2) := w.cd (r := 2) (by omega) (by omega)
  have o3 : hp_i h (16 + 9 * m + 4) t = σ 247 (160 * m + 4 * t + 3) := w.cd (r := 3) (by omega) (by omega)
  obtain ⟨⟨n, hn, hn27⟩, _⟩ := w.2.2.2.2.2.2.2.1 t ht
  have e3 : inb (σ 247 (160 * m + 4 * t)) 28 = true := by rw [hn]; exact inb_nI (by omega) (by omega)
  unfold lks lkd
  rw [if_neg hop]
  by_cases z1 : lookT (ix (σ 247 (160 * m + 4 * t))) &&& 1 = 0 <;> by_cases z2 : lookT (ix (σ 247 (160 * m + 4 * t))) &&& 2 = 0 <;> by_cases z3 : lookT (ix (σ 247 (160 * m + 4 * t))) &&& 4 = 0 <;>
    simp only [x906_0, x906_1, x906_4, x906_5, x906_5R, x906_6, x906_7, x906_8, x906_10, x906_13, x906_14, x906_17, x906_18, x906_18R, x906_19, x906_21, x906_22, x906_27, x906_30, x906_31, x906_34, x906_35, x906_38, x906_39, x906_39R, x906_40, x906_41, x906_44, x906_46, x906_47, x906_53, x906_54, x906_55, x906_57, x906_59, x906_62, x906_63, x906_63R, x906_64, x906_65, x906_66, x906_69, x906_70, x906_71, x906_74, x906_75, x906_75R, x906_76, x906_77, x906_80, x906_81, x906_82, x906_84, x906_86, x906_89, x906_90, x906_90R, x906_91, x906_92, x906_93, x906_96, x906_97, x906_98, x906_101, x906_102, x906_102R, x906_103, x906_104, x906_107, x906_108, x906_109, x906_111, x906_113, x906_116, x906_117, x906_117R, x906_118, x906_119, x906_120, x906_123, x906_124, x906_125, x906_128, x906_129, x906_129R, x906_130, x906_131, x906_134, x906_135, x906_136, x906_138, x906_140, hp_k_hv, hp_l_hv, hp_a_hv, hp_i_hv1 n1, hp_i_hv1 n2, hp_i_hv1 n3, hp_i_hv1 n4, hp_i_hv1 n5, k5, X.k2, X.l2, w.lt, X.mpa m 1 hm (by omega) (by omega), X.mka m 1 hm (by omega) (by omega), X.mla m 1 hm (by omega) (by omega), X.mpa m 2 hm (by omega) (by omega), X.mka m 2 hm (by omega) (by omega), X.mla m 2 hm (by omega) (by omega), X.mpa m 3 hm (by omega) (by omega), X.mka m 3 hm (by omega) (by omega), X.mla m 3 hm (by omega) (by omega), X.mpa m 4 hm (by omega) (by omega), X.mka m 4 hm (by omega) (by omega), X.mla m 4 hm (by omega) (by omega), e1, e2, e3, o0, o1, o2, o3, hop, if_false, if_true, z1, z2, z3]
theorem cls_fill (X : FX L h) {a : Nat} {c : Int32} : ∀ (n q : Nat) (u : Nat → Int32), q + n = 40 → (∀ i, i < q → u i = -1) → ∃ u', (∀ i, i < 40 → u' i = -1) ∧
    pX 901 2 [.ref 238, .ref 5, .ref a, .int (nI q)] [] (hv h c u) = pX 901 21 [.ref 238, .ref 5, .ref a, .int (nI 40)] [] (hv h c u') := by
  intro n
  induction n with
  | zero =>
    intro q u hq hu
    have hq2 : q = 40 := by omega
    subst hq2
    refine ⟨u, hu, ?_⟩
    simp only [x901_2, x901_3, x901_5, show (40 : Int32) ≤ nI 40 from by decide, if_true]
  | succ n ih =>
    intro q u hq hu
    have l1 : ¬ (40 : Int32) ≤ nI q := fun z => by have := (vle (a := 40) (b := q) (by omega) (by omega)).mp z; omega
    have e1 : inb (nI q) 40 = true := inb_nI (by omega) (by omega)
    have e2 : ix (nI q) = q := ix_nI (by omega)
    have et : nI q + 1 = nI (q + 1) := nI_add q 1
    obtain ⟨u', k1, k2⟩ := ih (q + 1) (fun i => if i = q then -1 else u i) (by omega) (fun i hi => by
      show (if i = q then -1 else u i) = -1
      split
      · rfl
      · exact hu i (by omega))
    refine ⟨u', k1, ?_⟩
    rw [← k2]
    generalize hR : pX 901 2 [.ref 238, .ref 5, .ref a, .int (nI (q + 1))] [] (hv h c (fun i => if i = q then -1 else u i)) = R
    simp only [x901_2, x901_3, x901_5, x901_8, x901_9, x901_12, x901_13, x901_14, x901_15, hp_k_hv, hp_l_hv, hp_a_hv, hp_wi_hv, X.k238, X.a238_0, X.k239, X.l239, l1, if_false, e1, e2, et]
    rw [x901_18]
    exact hR
theorem cls_out (X : FX L h) {p : Nat} {u : Nat → Int32} {a : Nat} :
    pX 901 42 [.ref 238, .ref 5, .ref a, .int (nI p)] [] (hv h 0 u) = pX 901 74 [.ref 238, .ref 5, .ref a, .int (nI 0)] [] (hv h 0 u) := by
  by_cases z : (361 : Int32) ≤ nI p
  · simp only [x901_42, x901_43, x901_46, x901_72, x901_73, z, if_true]
    rfl
  · simp only [x901_42, x901_43, x901_46, x901_49, x901_50, x901_53, x901_72, x901_73, hp_k_hv, hp_i_hv3, X.k238, z, if_true, if_false]
    rfl
theorem cls_loop (w : VM L h0 h σ m A H) {f : Nat → Int32} : ∀ (n p : Nat) (u : Nat → Int32) (c : Int32), mu A (itf σ m H A f p) < n → n + p ≤ 361 → (∀ i, i < A → u i = itf σ m H A f p i) → (∀ i, okv (itf σ m H A f p i)) → ((c = 0 ∧ STB σ m H A (itf σ m H A f p)) ∨ c = 1) →
    ∃ u' k, pX 901 42 [.ref 238, .ref 5, .ref (16 + 9 * m), .int (nI p)] [] (hv h c u) = pX 901 74 [.ref 238, .ref 5, .ref (16 + 9 * m), .int (nI 0)] [] (hv h 0 u') ∧ (∀ i, i < A → u' i = itf σ m H A f k i) ∧ (∀ i, okv (itf σ m H A f k i)) ∧ STB σ m H A (itf σ m H A f k) := by
  intro n
  induction n with
  | zero => intro p u c h1; exact absurd h1 (by omega)
  | succ n ih =>
    intro p u c h1 h2 ag ok hc
    have X := w.1
    rcases hc with ⟨rfl, st⟩ | rfl
    · exact ⟨u, p, cls_out X, ag, ok, st⟩
    · have l1 : ¬ (361 : Int32) ≤ nI p := fun z => by have := (vle (a := 361) (b := p) (by omega) (by omega)).mp z; omega
      have et : nI p + 1 = nI (p + 1) := nI_add p 1
      obtain ⟨u1, c1, g1, g2, g3, g4⟩ := sp_pass w ok A 0 u 0 (by omega) ag ok
      have e0 : pX 902 0 [.ref 238, .ref (16 + 9 * m), .retAddr 0] [] (hv h 0 u) = some (none, hv h (orc 0 c1) u1) := by
        rw [← g1]
        generalize hR : pX 902 2 [.ref 238, .ref (16 + 9 * m), .int (nI 0)] [] (hv h 0 u) = R
        simp only [x902_0, x902_1]
        exact hR
      have e1 : pX 901 42 [.ref 238, .ref 5, .ref (16 + 9 * m), .int (nI p)] [] (hv h 1 u) = pX 901 42 [.ref 238, .ref 5, .ref (16 + 9 * m), .int (nI (p + 1))] [] (hv h (orc 0 c1) u1) := by
        generalize hR : pX 901 42 [.ref 238, .ref 5, .ref (16 + 9 * m), .int (nI (p + 1))] [] (hv h (orc 0 c1) u1) = R
        simp only [x901_42, x901_43, x901_46, x901_49, x901_50, x901_53, x901_56, x901_57, x901_58, x901_61, x901_62, x901_63, x901_66, hp_k_hv, hp_i_hv3, hp_wi_hw, X.k238, l1, if_false, show ¬ (1 : Int32) = 0 from by decide, true_or, e0, et, Option.bind_some, Option.toList_some, Option.toList_none, List.singleton_append, List.nil_append]
        rw [x901_69]
        exact hR
      rw [e1]
      rcases g4 with ⟨rfl, s1⟩ | ⟨rfl, s1⟩
      · refine ⟨u1, p + 1, cls_out X, g2, g3, ?_⟩
        intro i hi
        show psf σ m H (psf σ m H (itf σ m H A f p) A) A i = psf σ m H (itf σ m H A f p) A i
        have s2 : ∀ i, i < A → psf σ m H (itf σ m H A f p) A i = itf σ m H A f p i := s1
        rw [psf_loc s2 A (Nat.le_refl A) i hi]
      · exact ih (p + 1) u1 (orc 0 1) (by
          have s2 : mu A (psf σ m H (itf σ m H A f p) A) < mu A (itf σ m H A f p) := s1
          show mu A (psf σ m H (itf σ m H A f p) A) < n
          omega) (by omega) g2 g3 (Or.inr (if_neg (by decide)))
theorem cls_res (w : VM L h0 h σ m A H) (hM : σ 244 0 = nI M) (hM10 : M ≤ 10) {u : Nat → Int32} {c : Int32} : ∀ (n q : Nat), q + n = A →
    pX 901 74 [.ref 238, .ref 5, .ref (16 + 9 * m), .int (nI q)] [] (hv h c u) = some (some (.int (rsv u (lks σ M m) n q)), hv h c u) := by
  have X := w.1
  have hm := w.2.2.1
  have hA := w.2.2.2.2.1
  have k5 := X.mk m hm
  have n0 : ¬ 16 + 9 * m = 239 ∧ ¬ 16 + 9 * m = 238 := by omega
  intro n
  induction n with
  | zero =>
    intro q hq
    have hq2 : q = A := by omega
    subst hq2
    have l1 : nI q ≤ nI q := (vle (by omega) (by omega)).mpr (Nat.le_refl q)
    simp only [x901_74, x901_75, x901_76, x901_79, x901_118, x901_120, hp_k_hv, hp_i_hv1 n0, k5, w.ac, l1, if_true]
    rfl
  | succ n ih =>
    intro q hq
    have l1 : ¬ nI A ≤ nI q := fun z => by have := (vle (by omega) (by omega)).mp z; omega
    have e1 : inb (nI q) 40 = true := inb_nI (by omega) (by omega)
    have e2 : ix (nI q) = q := ix_nI (by omega)
    have et : nI q + 1 = nI (q + 1) := nI_add q 1
    have hl := sp_look w hM hM10 (t := q) (by omega) c u
    have hi := ih (q + 1) (by omega)
    unfold rsv
    by_cases z : u q = -1
    · rw [if_pos z, ← hi]
      generalize hR : pX 901 74 [.ref 238, .ref 5, .ref (16 + 9 * m), .int (nI (q + 1))] [] (hv h c u) = R
      simp only [x901_74, x901_75, x901_76, x901_79, x901_82, x901_83, x901_86, x901_87, x901_87R, x901_88, x901_89, x901_112, hp_k_hv, hp_l_hv, hp_a_hv, hp_i_hv1 n0, hp_i_hv2, X.k238, X.a238_0, X.k239, X.l239, k5, w.ac, l1, if_false, if_true, e1, e2, et, z]
      rw [x901_115]
      exact hR
    · rw [if_neg z]
      by_cases y : lks σ M m q &&& (u q ^^^ -1) = 0
      · rw [if_pos y, ← hi]
        generalize hR : pX 901 74 [.ref 238, .ref 5, .ref (16 + 9 * m), .int (nI (q + 1))] [] (hv h c u) = R
        simp only [x901_74, x901_75, x901_76, x901_79, x901_82, x901_83, x901_86, x901_87, x901_87R, x901_88, x901_89, x901_92, x901_93, x901_94, x901_95, x901_98, x901_99, x901_102, x901_103, x901_103R, x901_104, x901_105, x901_106, x901_107, x901_112, hp_k_hv, hp_l_hv, hp_a_hv, hp_i_hv1 n0, hp_i_hv2, X.k238, X.a238_0, X.k239, X.l239, k5, w.ac, l1, if_false, if_true, e1, e2, et, z, hl, y, Option.bind_some, Option.toList_some, Option.toList_none, List.singleton_append, List.nil_append]
        rw [x901_115]
        exact hR
      · rw [if_neg y]
        simp only [x901_74, x901_75, x901_76, x901_79, x901_82, x901_83, x901_86, x901_87, x901_87R, x901_88, x901_89, x901_92, x901_93, x901_94, x901_95, x901_98, x901_99, x901_102, x901_103, x901_103R, x901_104, x901_105, x901_106, x901_107, x901_110, x901_111, hp_k_hv, hp_l_hv, hp_a_hv, hp_i_hv1 n0, hp_i_hv2, X.k238, X.a238_0, X.k239, X.l239, k5, w.ac, l1, if_false, e1, e2, z, hl, y, Option.bind_some, Option.toList_some, Option.toList_none, List.singleton_append, List.nil_append]
def fst0 (W : Nat) : Nat → Int32 := cmE (fun _ => -1) 0 ((1 <<< (nI W &&& 31)) - 1)
theorem lw_w {W : Nat} (h : W ≤ 3) : lw (((1 : Int32) <<< (nI W &&& 31)) - 1) := by
  have : ∀ k : Fin 4, (((1 : Int32) <<< (nI k.val &&& 31)) - 1) &&& 255 = ((1 : Int32) <<< (nI k.val &&& 31)) - 1 := by decide
  exact this ⟨W, by omega⟩
/-- the class's whole verify -/
theorem cls_verify (w : VM L h0 h σ m A H) (hM : σ 244 0 = nI M) (hM10 : M ≤ 10) {W : Nat} (hW : σ 245 m = nI W) (hW3 : W ≤ 3) :
    ∃ u k, pX 901 0 [.ref 238, .ref 5, .ref (16 + 9 * m), .retAddr 0] [] h = some (some (.int (rsv (itf σ m H A (fst0 W) k) (lks σ M m) A 0)), hv h 0 u) ∧ STB σ m H A (itf σ m H A (fst0 W) k) := by
  have X := w.1
  have hm := w.2.2.1
  have hA := w.2.2.2.2.1
  have k5 := X.mk m hm
  have n0 : ¬ 16 + 9 * m = 239 ∧ ¬ 16 + 9 * m = 238 := by omega
  obtain ⟨u0, f1, f2⟩ := cls_fill X (a := 16 + 9 * m) (c := hp_i h 238 1) 40 0 (hp_i h 239) (by omega) (fun i hi => absurd hi (by omega))
  rw [hv_self] at f2
  have ok0 : ∀ i : Nat, okv ((fun _ => -1 : Nat → Int32) i) := fun _ => Or.inl rfl
  obtain ⟨u1, c1, g1, g2, g3⟩ := sp_come (t := 0) (u := u0) (f := fun _ => -1) (hp_i h 238 1) X hm w.ac hA (by omega) (fun i hi => f1 i (by omega)) ok0 (lw_w hW3)
  have ok1 : ∀ i, okv (itf σ m H A (fst0 W) 0 i) := ok_cm ok0 (lw_w hW3)
  obtain ⟨u2, k, d1, d2, d3, d4⟩ := cls_loop w (f := fst0 W) 361 0 u1 1 (by have := @mu_le A (itf σ m H A (fst0 W) 0); omega) (by omega) g2 ok1 (Or.inr rfl)
  refine ⟨u2, k, ?_, d4⟩
  have r1 := cls_res w hM hM10 (u := u2) (c := 0) A 0 (by omega)
  rw [rsv_congr A 0 A (by omega) d2] at r1
  rw [← r1, ← d1]
  have a1 : pX 901 0 [.ref 238, .ref 5, .ref (16 + 9 * m), .retAddr 0] [] h = pX 901 2 [.ref 238, .ref 5, .ref (16 + 9 * m), .int (nI 0)] [] h := by
    generalize hR : pX 901 2 [.ref 238, .ref 5, .ref (16 + 9 * m), .int (nI 0)] [] h = R
    simp only [x901_0, x901_1]
    exact hR
  rw [a1, f2]
  have g1' : pX 905 0 [.ref 238, .ref (16 + 9 * m), .int 0, .int ((1 <<< (nI W &&& 31)) - 1), .retAddr 0] [] (hv h (hp_i h 238 1) u0) = some (none, hv h (orc (hp_i h 238 1) c1) u1) := g1
  have wm := (w.wt hm).trans hW
  generalize hR : pX 901 42 [.ref 238, .ref 5, .ref (16 + 9 * m), .int (nI 0)] [] (hv h 1 u1) = R
  simp only [x901_21, x901_22, x901_23, x901_24, x901_25, x901_26, x901_29, x901_30, x901_31, x901_32, x901_35, x901_36, x901_37, x901_40, x901_41, hp_k_hv, hp_i_hv1 n0, hp_wi_hw, X.k238, k5, wm, g1', or_true, Option.bind_some, Option.toList_some, Option.toList_none, List.singleton_append, List.nil_append]
  exact hR
end
