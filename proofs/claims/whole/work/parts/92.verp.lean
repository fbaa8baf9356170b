/-! VERIFY: the model's verify; the pair -/
section
variable {L m A H M : Nat} {h0 h k : HP} {s : SM}
theorem MH_self : MH k s (s 252) (s 244 10) = mset k s := by
  unfold MH
  congr 1
  funext b j
  unfold ru
  split
  · next q => rw [q]
  · split
    · next q => rw [q.1, q.2]
    · rfl
theorem mv_fill (X : FX L k) {c : Int32} : ∀ (n q : Nat) (v : Nat → Int32), q + n = 41 → (∀ i, i < q → v i = 0) → ∃ v', (∀ i, i < 41 → v' i = 0) ∧
    pX 1114 12 [.ref 244, .int (nI m), .int (nI q)] [] (MH k s v c) = pX 1114 31 [.ref 244, .int (nI m), .int (nI 41)] [] (MH k s v' c) := by
  intro n
  induction n with
  | zero =>
    intro q v hq hv
    have hq2 : q = 41 := by omega
    subst hq2
    refine ⟨v, hv, ?_⟩
    simp only [x1114_12, x1114_13, x1114_15, show (41 : Int32) ≤ nI 41 from by decide, if_true]
  | succ n ih =>
    intro q v hq hv
    have l1 : ¬ (41 : Int32) ≤ nI q := fun z => by have := (vle (a := 41) (b := q) (by omega) (by omega)).mp z; omega
    have e1 : inb (nI q) 41 = true := inb_nI (by omega) (by omega)
    have e2 : ix (nI q) = q := ix_nI (by omega)
    have et : nI q + 1 = nI (q + 1) := nI_add q 1
    obtain ⟨v', k1, k2⟩ := ih (q + 1) (fun i => if i = q then 0 else v i) (by omega) (fun i hi => by
      show (if i = q then 0 else v i) = 0
      split
      · rfl
      · exact hv i (by omega))
    refine ⟨v', k1, ?_⟩
    rw [← k2]
    generalize hR : pX 1114 12 [.ref 244, .int (nI m), .int (nI (q + 1))] [] (MH k s (fun i => if i = q then 0 else v i) c) = R
    simp only [x1114_12, x1114_13, x1114_15, x1114_18, x1114_19, x1114_22, x1114_23, x1114_24, x1114_25, MH_k, MH_l, MH_a, MH_wv, X.k244, X.a244_9, X.k252, X.l252, l1, if_false, e1, e2, et]
    rw [x1114_28]
    exact hR
theorem mv_pass (X : FX L k) (w : VM L h0 h s m A H) {f : Nat → Int32} : ∀ (n q : Nat) (v : Nat → Int32) (c : Int32), q + n = A → (∀ i, i < 41 → v i = EE (psf s m H f q i)) → (∀ i, okv (psf s m H f q i)) → Chg 41 c f (psf s m H f q) →
    ∃ v' c', pX 1114 76 [.ref 244, .int (nI m), .int (nI q)] [] (MH k s v c) = pX 1114 62 [.ref 244, .int (nI m), .int (nI A)] [] (MH k s v' c') ∧ (∀ i, i < 41 → v' i = EE (psf s m H f A i)) ∧ (∀ i, okv (psf s m H f A i)) ∧ Chg 41 c' f (psf s m H f A) := by
  have hm := w.2.2.1
  have hA1 := w.2.2.2.1
  have hA := w.2.2.2.2.1
  have b5 : inb (nI m) 10 = true := inb_nI (by omega) (by omega)
  have b6 : ix (nI m) = m := ix_nI (by omega)
  intro n
  induction n with
  | zero =>
    intro q v c hq ag hk hc
    have hq2 : q = A := by omega
    subst hq2
    refine ⟨v, c, ?_, ag, hk, hc⟩
    have l1 : nI q ≤ nI q := (vle (by omega) (by omega)).mpr (Nat.le_refl q)
    generalize hR : pX 1114 62 [.ref 244, .int (nI m), .int (nI q)] [] (MH k s v c) = R
    simp only [x1114_76, x1114_77, x1114_78, x1114_81, x1114_82, x1114_83, MH_k, MH_l, MH_a, MH_246, X.k244, X.a244_2, X.k246, X.l246, b5, b6, hA1, l1, if_true]
    rw [x1114_107]
    exact hR
  | succ n ih =>
    intro q v c hq ag hk hc
    have l1 : ¬ nI A ≤ nI q := fun z => by have := (vle (by omega) (by omega)).mp z; omega
    have et : nI q + 1 = nI (q + 1) := nI_add q 1
    have e3 : inb (nI q) 41 = true := inb_nI (by omega) (by omega)
    have e4 : ix (nI q) = q := ix_nI (by omega)
    have hn : psf s m H f (q + 1) = stf s m H q (psf s m H f q) := rfl
    have vq := ag q (by omega)
    have hk2 : ∀ i, okv (psf s m H f (q + 1) i) := by rw [hn]; exact ok_stf hk (w.2.2.2.2.2.2.2.1 q (by omega))
    generalize hg : psf s m H f q = g at ag hk hc hn vq
    by_cases z : g q = -1
    · have hn2 : psf s m H f (q + 1) = g := by rw [hn]; unfold stf; rw [if_pos z]
      obtain ⟨v', c', d1, d2, d3⟩ := ih (q + 1) v c (by omega) (by rw [hn2]; exact ag) hk2 (by rw [hn2]; exact hc)
      refine ⟨v', c', ?_, d2, d3⟩
      rw [← d1]
      have z0 : EE (g q) = 0 := (EE_0 (hk q)).mpr z
      generalize hR : pX 1114 76 [.ref 244, .int (nI m), .int (nI (q + 1))] [] (MH k s v c) = R
      simp only [x1114_76, x1114_77, x1114_78, x1114_81, x1114_82, x1114_83, x1114_86, x1114_87, x1114_90, x1114_91, x1114_92, x1114_101, MH_k, MH_l, MH_a, MH_246, MH_v, X.k244, X.a244_2, X.k246, X.l246, X.a244_9, X.k252, X.l252, b5, b6, hA1, l1, if_false, if_true, e3, e4, vq, z0, et]
      rw [x1114_104]
      exact hR
    · have hl : lw (g q) := (hk q).resolve_left z
      have z0 : ¬ EE (g q) = 0 := EE_ne0 hl
      obtain ⟨v1, c1, p1, p2, p3⟩ := sp_spread X w (t := q) (by omega) ag hk hl hc.bit
      rw [← hn] at p2 p3
      obtain ⟨v', c', d1, d2, d3⟩ := ih (q + 1) v1 (c ||| c1) (by omega) p2 hk2 (hc.trans p3)
      refine ⟨v', c', ?_, d2, d3⟩
      rw [← d1]
      generalize hR : pX 1114 76 [.ref 244, .int (nI m), .int (nI (q + 1))] [] (MH k s v1 (c ||| c1)) = R
      simp only [x1114_76, x1114_77, x1114_78, x1114_81, x1114_82, x1114_83, x1114_86, x1114_87, x1114_90, x1114_91, x1114_92, x1114_95, x1114_96, x1114_97, x1114_98, x1114_101, MH_k, MH_l, MH_a, MH_246, MH_v, X.k244, X.a244_2, X.k246, X.l246, X.a244_9, X.k252, X.l252, b5, b6, hA1, l1, if_false, e3, e4, vq, z0, p1, et, Option.bind_some, Option.toList_some, Option.toList_none, List.singleton_append, List.nil_append]
      rw [x1114_104]
      exact hR
theorem mv_out (X : FX L k) {v : Nat → Int32} {x2 : Int32} : pX 1114 62 [.ref 244, .int (nI m), .int x2] [] (MH k s v 0) = pX 1114 112 [.ref 244, .int (nI m), .int (nI 0)] [] (MH k s v 0) := by
  generalize hR : pX 1114 112 [.ref 244, .int (nI m), .int (nI 0)] [] (MH k s v 0) = R
  simp only [x1114_62, x1114_63, x1114_66, x1114_110, x1114_111, MH_k, MH_c, X.k244, if_true]
  exact hR
theorem mv_loop (X : FX L k) (w : VM L h0 h s m A H) {f : Nat → Int32} : ∀ (n p : Nat) (v : Nat → Int32) (c x2 : Int32), mu 41 (itf s m H A f p) < n → (∀ i, i < 41 → v i = EE (itf s m H A f p i)) → (∀ i, okv (itf s m H A f p i)) → ((c = 0 ∧ STB s m H A (itf s m H A f p)) ∨ c = 1) →
    ∃ v' p', pX 1114 62 [.ref 244, .int (nI m), .int x2] [] (MH k s v c) = pX 1114 112 [.ref 244, .int (nI m), .int (nI 0)] [] (MH k s v' 0) ∧ (∀ i, i < 41 → v' i = EE (itf s m H A f p' i)) ∧ (∀ i, okv (itf s m H A f p' i)) ∧ STB s m H A (itf s m H A f p') := by
  have hA := w.2.2.2.2.1
  intro n
  induction n with
  | zero => intro p v c x2 h1; exact absurd h1 (by omega)
  | succ n ih =>
    intro p v c x2 h1 ag ok hc
    rcases hc with ⟨rfl, st⟩ | rfl
    · exact ⟨v, p, mv_out X, ag, ok, st⟩
    · obtain ⟨v1, c1, g1, g2, g3, g4⟩ := mv_pass X w (f := itf s m H A f p) A 0 v 0 (by omega) ag ok Chg.refl
      have e1 : pX 1114 62 [.ref 244, .int (nI m), .int x2] [] (MH k s v 1) = pX 1114 76 [.ref 244, .int (nI m), .int (nI 0)] [] (MH k s v 0) := by
        generalize hR : pX 1114 76 [.ref 244, .int (nI m), .int (nI 0)] [] (MH k s v 0) = R
        simp only [x1114_62, x1114_63, x1114_66, x1114_69, x1114_70, x1114_71, x1114_74, x1114_75, MH_k, MH_c, MH_wc, X.k244, show ¬ (1 : Int32) = 0 from by decide, if_false, true_or]
        exact hR
      rw [e1, g1]
      rcases g4 with ⟨rfl, s1⟩ | ⟨rfl, s1⟩
      · refine ⟨v1, p + 1, mv_out X, g2, g3, ?_⟩
        intro i hi
        show psf s m H (psf s m H (itf s m H A f p) A) A i = psf s m H (itf s m H A f p) A i
        rw [psf_loc (fun i hi => s1 i (by omega)) A (Nat.le_refl A) i hi]
      · exact ih (p + 1) v1 1 (nI A) (by show mu 41 (psf s m H (itf s m H A f p) A) < n; omega) g2 g3 (Or.inr rfl)
theorem mv_res (X : FX L k) (w : VM L h0 h s m A H) (hM : s 244 0 = nI M) (hM10 : M ≤ 10) (hW : ∀ i, i < 10 → nb (s 245 i) 3) {v g : Nat → Int32} (ag : ∀ i, i < 41 → v i = EE (g i)) (ok : ∀ i, okv (g i)) : ∀ (n q : Nat), q + n = A →
    pX 1114 112 [.ref 244, .int (nI m), .int (nI q)] [] (MH k s v 0) = some (some (.int (rsv g (lks s M m) n q)), MH k s v 0) := by
  have hm := w.2.2.1
  have hA1 := w.2.2.2.1
  have hA := w.2.2.2.2.1
  have b5 : inb (nI m) 10 = true := inb_nI (by omega) (by omega)
  have b6 : ix (nI m) = m := ix_nI (by omega)
  intro n
  induction n with
  | zero =>
    intro q hq
    have hq2 : q = A := by omega
    subst hq2
    have l1 : nI q ≤ nI q := (vle (by omega) (by omega)).mpr (Nat.le_refl q)
    simp only [x1114_112, x1114_113, x1114_114, x1114_117, x1114_118, x1114_119, x1114_162, x1114_164, MH_k, MH_l, MH_a, MH_246, X.k244, X.a244_2, X.k246, X.l246, b5, b6, hA1, l1, if_true]
    rfl
  | succ n ih =>
    intro q hq
    have l1 : ¬ nI A ≤ nI q := fun z => by have := (vle (by omega) (by omega)).mp z; omega
    have e3 : inb (nI q) 41 = true := inb_nI (by omega) (by omega)
    have e4 : ix (nI q) = q := ix_nI (by omega)
    have et : nI q + 1 = nI (q + 1) := nI_add q 1
    have e160 : (160 : Int32) * nI m + 4 * nI q = nI (160 * m + 4 * q) := by rw [show (160 : Int32) = nI 160 from rfl, show (4 : Int32) = nI 4 from rfl, nI_mul, nI_mul, nI_add]
    obtain ⟨hl, hlw⟩ := sp_vlook (s := s) (v := v) (c := 0) X hm (t := q) (by omega) hM hM10 hW (w.2.2.2.2.2.2.2.1 q (by omega))
    have hi := ih (q + 1) (by omega)
    have vq := ag q (by omega)
    unfold rsv
    by_cases z : g q = -1
    · rw [if_pos z, ← hi]
      have z0 : EE (g q) = 0 := (EE_0 (ok q)).mpr z
      generalize hR : pX 1114 112 [.ref 244, .int (nI m), .int (nI (q + 1))] [] (MH k s v 0) = R
      simp only [x1114_112, x1114_113, x1114_114, x1114_117, x1114_118, x1114_119, x1114_122, x1114_123, x1114_126, x1114_127, x1114_128, x1114_156, MH_k, MH_l, MH_a, MH_246, MH_v, X.k244, X.a244_2, X.k246, X.l246, X.a244_9, X.k252, X.l252, b5, b6, hA1, l1, if_false, if_true, e3, e4, vq, z0, et]
      rw [x1114_159]
      exact hR
    · rw [if_neg z]
      have lg : lw (g q) := (ok q).resolve_left z
      have z0 : ¬ EE (g q) = 0 := EE_ne0 lg
      by_cases y : lks s M m q &&& (g q ^^^ -1) = 0
      · rw [if_pos y, ← hi]
        have y0 : EE (g q) &&& lks s M m q = 0 := (NB_look lg hlw).mpr y
        generalize hR : pX 1114 112 [.ref 244, .int (nI m), .int (nI (q + 1))] [] (MH k s v 0) = R
        simp only [x1114_112, x1114_113, x1114_114, x1114_117, x1114_118, x1114_119, x1114_122, x1114_123, x1114_126, x1114_127, x1114_128, x1114_131, x1114_132, x1114_135, x1114_136, x1114_137, x1114_138, x1114_141, x1114_142, x1114_143, x1114_144, x1114_145, x1114_146, x1114_147, x1114_150, x1114_151, x1114_156, MH_k, MH_l, MH_a, MH_246, MH_v, X.k244, X.a244_2, X.k246, X.l246, X.a244_9, X.k252, X.l252, b5, b6, hA1, l1, if_false, if_true, e3, e4, vq, z0, e160, hl, y0, et, Option.bind_some, Option.toList_some, Option.toList_none, List.singleton_append, List.nil_append]
        rw [x1114_159]
        exact hR
      · rw [if_neg y]
        have y0 : ¬ EE (g q) &&& lks s M m q = 0 := fun x => y ((NB_look lg hlw).mp x)
        simp only [x1114_112, x1114_113, x1114_114, x1114_117, x1114_118, x1114_119, x1114_122, x1114_123, x1114_126, x1114_127, x1114_128, x1114_131, x1114_132, x1114_135, x1114_136, x1114_137, x1114_138, x1114_141, x1114_142, x1114_143, x1114_144, x1114_145, x1114_146, x1114_147, x1114_150, x1114_151, x1114_154, x1114_155, MH_k, MH_l, MH_a, MH_246, MH_v, X.k244, X.a244_2, X.k246, X.l246, X.a244_9, X.k252, X.l252, b5, b6, hA1, l1, if_false, e3, e4, vq, z0, e160, hl, y0, Option.bind_some, Option.toList_some, Option.toList_none, List.singleton_append, List.nil_append]
theorem mod_verify (X : FX L k) (w : VM L h0 h s m A H) (hM : s 244 0 = nI M) (hM10 : M ≤ 10) (hmM : m < M) (hW : ∀ i, i < 10 → nb (s 245 i) 3) {W : Nat} (hWm : s 245 m = nI W) (hW3 : W ≤ 3) {kk : Nat} (st : STB s m H A (itf s m H A (fst0 W) kk)) :
    ∃ v, pX 1114 0 [.ref 244, .int (nI m), .retAddr 0] [] (mset k s) = some (some (.int (rsv (itf s m H A (fst0 W) kk) (lks s M m) A 0)), mset k (ru s v 0)) := by
  have hm := w.2.2.1
  have b5 : inb (nI m) 10 = true := inb_nI (by omega) (by omega)
  have b6 : ix (nI m) = m := ix_nI (by omega)
  obtain ⟨v0, f1, f2⟩ := mv_fill (m := m) (s := s) X (c := s 244 10) 41 0 (s 252) (by omega) (fun i hi => absurd hi (by omega))
  rw [MH_self] at f2
  have ok0 : ∀ i : Nat, okv ((fun _ => -1 : Nat → Int32) i) := fun _ => Or.inl rfl
  have ok1 : ∀ i, okv (itf s m H A (fst0 W) 0 i) := ok_cm ok0 (lw_w hW3)
  have ag1 : ∀ i, i < 41 → (fun i => if i = 0 then (256 : Int32) ||| ((255 : Int32) &&& ((((1 : Int32) <<< (nI W &&& 31)) - 1) ^^^ -1)) else v0 i : Nat → Int32) i = EE (itf s m H A (fst0 W) 0 i) := by
    intro i hi
    show (if i = 0 then _ else v0 i) = EE (cmE (fun _ => -1) 0 ((1 <<< (nI W &&& 31)) - 1) i)
    unfold cmE
    by_cases q : i = 0
    · rw [if_pos q, if_pos q, m1_and, EE_lw (lw_w hW3)]; rfl
    · rw [if_neg q, if_neg q, f1 i hi]; rfl
  obtain ⟨v2, p', d1, d2, d3, d4⟩ := mv_loop X w (f := fst0 W) (mu 41 (itf s m H A (fst0 W) 0) + 1) 0 _ 1 (nI 41) (by omega) ag1 ok1 (Or.inr rfl)
  refine ⟨v2, ?_⟩
  have r1 := mv_res X w hM hM10 hW d2 d3 A 0 (by omega)
  rw [rsv_congr A 0 A (by omega) (STB.same d4 st)] at r1
  show _ = some (_, MH k s v2 0)
  rw [← r1, ← d1]
  have nq : ¬ (nI m < 0 ∨ nI M ≤ nI m) := by
    rintro (q | q)
    · have := (vlt (a := m) (b := 0) (by omega) (by omega)).mp q; omega
    · have := (vle (a := M) (b := m) (by omega) (by omega)).mp q; omega
  have im : pX 1102 0 [.ref 244, .int (nI m)] [] (mset k s) = some (some (.int 1), mset k s) := by
    have := sp_isMember (h := mset k s) (m := nI m) (M := M) X.k244 ((ms_r (by omega)).trans hM) hM10
    rw [if_neg nq] at this
    exact this
  have a1 : pX 1114 0 [.ref 244, .int (nI m), .retAddr 0] [] (mset k s) = pX 1114 12 [.ref 244, .int (nI m), .int (nI 0)] [] (mset k s) := by
    generalize hR : pX 1114 12 [.ref 244, .int (nI m), .int (nI 0)] [] (mset k s) = R
    simp only [x1114_0, x1114_1, x1114_2, x1114_5, x1114_10, x1114_11, hp_k_ms, X.k244, im, show ¬ (1 : Int32) = 0 from by decide, if_false, Option.bind_some, Option.toList_some, Option.toList_none, List.singleton_append, List.nil_append]
    exact hR
  rw [a1, f2]
  have i0 : inb (0 : Int32) 41 = true := inb_nI (n := 0) (by omega) (by omega)
  have x0 : ix (0 : Int32) = 0 := ix_nI (n := 0) (by omega)
  generalize hR : pX 1114 62 [.ref 244, .int (nI m), .int (nI 41)] [] _ = R
  simp only [x1114_31, x1114_32, x1114_35, x1114_36, x1114_39, x1114_42, x1114_43, x1114_44, x1114_47, x1114_48, x1114_49, x1114_50, x1114_51, x1114_52, x1114_53, x1114_54, x1114_55, x1114_56, x1114_57, x1114_58, x1114_59, MH_k, MH_l, MH_a, MH_245, MH_wv, MH_wc, X.k244, X.a244_1, X.k245, X.l245, X.a244_9, X.k252, X.l252, b5, b6, hWm, i0, x0, or_true]
  exact hR
end
theorem CR.vru {L : Nat} {h0 h : HP} {σ : SM} {ca ra : Nat → Nat} {hs : Nat → List Nat} {sp : List Nat} (w : CR L h0 h σ ca ra hs sp) (v : Nat → Int32) (c : Int32) : CR L h0 h (ru σ v c) ca ra hs sp := by
  obtain ⟨w1, w2, w3, w4, w6, w5⟩ := w
  refine ⟨w1, w2, w3, fun a k b j e => ?_, w6, ?_⟩
  · unfold ru
    rw [if_neg (fun q => ncm_s (b := b) (j := j) (by omega) a k e), if_neg (fun q => ncm_s (b := b) (j := j) (by omega) a k e)]
    exact w4 a k b j e
  · have e : mS (ru σ v c) = mS σ := by
      funext b j
      unfold mS
      by_cases q : depS b j
      · rw [if_pos q, if_pos q]
        unfold depS at q
        unfold ru
        rw [if_neg (by omega), if_neg (by omega)]
      · rw [if_neg q, if_neg q]
    rw [e]
    exact w5
theorem RG_ru {σ : SM} {v : Nat → Int32} {c : Int32} (g : RG σ) : RG (ru σ v c) := by
  show RGc _
  have e : mG (ru σ v c) = mG σ := by
    funext b j
    unfold mG
    by_cases q : freeS b j
    · rw [if_pos q, if_pos q]
    · rw [if_neg q, if_neg q]
      unfold freeS at q
      unfold ru
      rw [if_neg (by omega), if_neg (by omega)]
  rw [e]
  exact g
theorem RH_ru {σ : SM} {v : Nat → Int32} {c : Int32} (g : RH σ) : RH (ru σ v c) := by
  show RHc _
  have e : mH (ru σ v c) = mH σ := by
    funext b j
    unfold mH
    by_cases q : depH b j
    · rw [if_pos q, if_pos q]
      unfold depH at q
      unfold ru
      rw [if_neg (by omega), if_neg (by omega)]
    · rw [if_neg q, if_neg q]
  rw [e]
  exact g
theorem RL.vm {xs : Nat → Int32} {L m : Nat} {h : HP} (w : RL xs L h) (hm : m < 10) : ∃ W A H : Nat, VM L h h (hp_i h) m A H ∧ hp_i h 245 m = nI W ∧ W ≤ 3 ∧ (∀ i, i < 10 → nb (hp_i h 245 i) 3) := by
  obtain ⟨W, A, H, h1, h2, h3, h4, h5, h6⟩ := w.mem hm
  have g := w.g
  refine ⟨W, A, H, ⟨w.fx, w.cr, hm, h3, h4, h5, h6, fun j hj => ?_, fun q hq => ?_⟩, h1, h2, fun i hi => ?_⟩
  · have := g.2.2.1 m j hm (by rw [mG_at (by unfold freeS; omega), h3, ix_nI (by omega)]; exact hj)
    rw [mG_at (by unfold freeS; omega), mG_at (by unfold freeS; omega), mG_at (by unfold freeS; omega), mG_at (by unfold freeS; omega)] at this
    exact this
  · have := (g.2.2.2.1 m q hm (by rw [mG_at (by unfold freeS; omega), h5, ix_nI (by omega)]; exact hq)).2.2.2
    rw [mG_at (by unfold freeS; omega)] at this
    exact this
  · have := (g.2.1 i hi).1
    rw [mG_at (by unfold freeS; omega)] at this
    exact this
theorem pr_verify (xs : Nat → Int32) (L : Nat) : PR_verify L (RL xs L) := by
  intro h a1 w
  have x := w.fx
  obtain ⟨M, m1, m2, m3⟩ := w.memb
  rcases mem_cases a1 M m3 with q | ⟨m, rfl, hm, q⟩
  · refine pr_same (v := -1) w ?_ ?_
    · simp only [x1006_0, x1006_1, x1006_4, x1006_5, x1006_8, x1006_11, x1006_12, x.k4, x.a4_0, x.k5, sp_lacksMember x.k5, m1, if_pos q, show ¬ (1 : Int32) = 0 from by decide, if_false, Option.bind_some, Option.toList_some, Option.toList_none, List.singleton_append, List.nil_append]
    · simp only [x1114_0, x1114_1, x1114_2, x1114_5, x1114_8, x1114_9, x.k244, sp_isMember x.k244 m2 m3, if_pos q, if_true, Option.bind_some, Option.toList_some, Option.toList_none, List.singleton_append, List.nil_append]
  · obtain ⟨W, A, H, v, hW, hW3, hWs⟩ := w.vm (m := m) (by omega)
    obtain ⟨u, kk, e, st⟩ := cls_verify v m2 m3 hW hW3
    obtain ⟨ca, ra, hs, sp, c⟩ := w.cr
    have e1 : inb (nI m) 10 = true := inb_nI (by omega) (by omega)
    have e2 : ix (nI m) = m := ix_nI (by omega)
    have c1 : pX 1006 0 [.ref 4, .int (nI m)] [] h = some (some (.int (rsv (itf (hp_i h) m H A (fst0 W) kk) (lks (hp_i h) M m) A 0)), hv h 0 u) := by
      simp only [x1006_0, x1006_1, x1006_4, x1006_5, x1006_8, x1006_13, x1006_14, x1006_17, x1006_18, x1006_21, x1006_22, x1006_25, x1006_28, x1006_29, x1006_30, x1006_33, x.k4, x.a4_0, x.a4_1, x.k5, x.a5_0, x.k6, x.l6, x.k238, x.mem m (by omega), sp_lacksMember x.k5, m1, if_neg q, if_true, e1, e2, e, show 200 ≤ 204 from by omega, Option.bind_some, Option.toList_some, Option.toList_none, List.singleton_append, List.nil_append]
    have cv := c.vhv 0 u
    obtain ⟨v2, e3⟩ := mod_verify (k := hv h 0 u) x v m2 m3 hm hWs hW hW3 st
    refine ⟨_, hv h 0 u, mset (hv h 0 u) (ru (hp_i h) v2 0), c1, ?_, cv.1, fun j => cv.2.1 _ _ (by omega), w.of (cv.vru v2 0) (RG_ru w.2.2.2.2.1) (RH_ru w.2.2.2.2.2.1)⟩
    rw [cv.ms] at e3
    exact e3
