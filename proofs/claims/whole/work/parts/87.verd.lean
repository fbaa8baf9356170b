/-! VERIFY: goOn, goToHandlers, passOver -/
section
variable {L m A H : Nat} {h0 h : HP} {σ : SM} {ca ra : Nat → Nat} {hs : Nat → List Nat} {sp : List Nat}
/-- what the class knows of member m -/
def VM (L : Nat) (h0 h : HP) (σ : SM) (m A H : Nat) : Prop := FX L h ∧ (∃ ca ra hs sp, CR L h0 h σ ca ra hs sp) ∧ m < 10 ∧ σ 246 m = nI A ∧ A ≤ 40 ∧ σ 248 m = nI H ∧ H ≤ 6 ∧
  (∀ j, j < A → okAct (σ 247 (160 * m + 4 * j)) (σ 247 (160 * m + 4 * j + 1)) (σ 247 (160 * m + 4 * j + 2)) (σ 247 (160 * m + 4 * j + 3))) ∧ (∀ q, q < H → nb (σ 249 (24 * m + 4 * q + 3)) 40)
theorem VM.cd (w : VM L h0 h σ m A H) {r t : Nat} (hr : r < 4) (ht : t < 40) : hp_i h (16 + 9 * m + (r + 1)) t = σ 247 (160 * m + 4 * t + r) := by
  obtain ⟨ca, ra, hs, sp, c⟩ := w.2.1
  have := c.fi _ _ _ _ (CMR.code (i := m) (r := r) (q := t) w.2.2.1 hr ht)
  rw [show 17 + 9 * m + r = 16 + 9 * m + (r + 1) by omega] at this
  exact this
theorem VM.ct (w : VM L h0 h σ m A H) {r q : Nat} (hr : r < 4) (hq : q < 6) : hp_i h (16 + 9 * m + (r + 5)) q = σ 249 (24 * m + 4 * q + r) := by
  obtain ⟨ca, ra, hs, sp, c⟩ := w.2.1
  have := c.fi _ _ _ _ (CMR.catching (i := m) (r := r) (q := q) w.2.2.1 hr hq)
  rw [show 21 + 9 * m + r = 16 + 9 * m + (r + 5) by omega] at this
  exact this
theorem VM.ac (w : VM L h0 h σ m A H) : hp_i h (16 + 9 * m) 2 = nI A := by
  obtain ⟨ca, ra, hs, sp, c⟩ := w.2.1
  exact (c.fi _ _ _ _ (CMR.acts w.2.2.1)).trans w.2.2.2.1
theorem VM.hc (w : VM L h0 h σ m A H) : hp_i h (16 + 9 * m) 7 = nI H := by
  obtain ⟨ca, ra, hs, sp, c⟩ := w.2.1
  exact (c.fi _ _ _ _ (CMR.handlers w.2.2.1)).trans w.2.2.2.2.2.1
theorem VM.mt (w : VM L h0 h σ m A H) (j : Nat) : hp_i h 3 j = makeT j := by
  obtain ⟨ca, ra, hs, sp, c⟩ := w.2.1
  exact c.mk j
/-- goOn, to its cases -/
theorem vgo_pre (w : VM L h0 h σ m A H) {t : Nat} (ht : t < A) (c : Int32) (u f : Nat → Int32) (hu : u t = f t) :
    pX 903 0 [.ref 238, .ref (16 + 9 * m), .int (nI t), .retAddr 0, .retAddr 0] [] (hv h c u) = pX 903 42 [.ref 238, .ref (16 + 9 * m), .int (nI t), .int (σ 247 (160 * m + 4 * t)), .int (f t ||| mkv (σ 247 (160 * m + 4 * t)) (σ 247 (160 * m + 4 * t + 1)))] [.int (σ 247 (160 * m + 4 * t))] (hv h c u) := by
  have X := w.1
  have hm := w.2.2.1
  have hA := w.2.2.2.2.1
  have k5 := X.mk m hm
  have n1 : ¬ 16 + 9 * m + 1 = 239 ∧ ¬ 16 + 9 * m + 1 = 238 := by omega
  have n2 : ¬ 16 + 9 * m + 2 = 239 ∧ ¬ 16 + 9 * m + 2 = 238 := by omega
  have n3 : ¬ 3 = 239 ∧ ¬ 3 = 238 := by omega
  have e1 : inb (nI t) 40 = true := inb_nI (by omega) (by omega)
  have e2 : ix (nI t) = t := ix_nI (by omega)
  have o0 : hp_i h (16 + 9 * m + 1) t = σ 247 (160 * m + 4 * t) := w.cd (r := 0) (by omega) (by omega)
  have o1 : hp_i h (16 + 9 * m + 2) t = σ 247 (160 * m + 4 * t + 1) := w.cd (r := 1) (by omega) (by omega)
  obtain ⟨⟨n, hn, hn27⟩, _⟩ := w.2.2.2.2.2.2.2.1 t ht
  have e3 : inb (nI n) 28 = true := inb_nI (by omega) (by omega)
  unfold mkv
  rw [hn]
  rw [hn] at o0
  by_cases z : makeT (ix (nI n)) = 0
  · simp only [x903_0, x903_1, x903_4, x903_5, x903_5R, x903_6, x903_7, x903_10, x903_11, x903_11R, x903_12, x903_15, x903_16, x903_19, x903_20, x903_20R, x903_21, x903_39, x903_41, hp_k_hv, hp_l_hv, hp_a_hv, hp_i_hv1 n1, hp_i_hv1 n3, hp_i_hv2, X.k238, X.a238_0, X.k239, X.l239, X.k3, X.l3, k5, X.mpa m 1 hm (by omega) (by omega), X.mka m 1 hm (by omega) (by omega), X.mla m 1 hm (by omega) (by omega), e1, e2, e3, o0, w.mt, z, if_true, hu, Int32.or_zero]
  · simp only [x903_0, x903_1, x903_4, x903_5, x903_5R, x903_6, x903_7, x903_10, x903_11, x903_11R, x903_12, x903_24, x903_25, x903_28, x903_29, x903_29R, x903_30, x903_31, x903_32, x903_35, x903_36, x903_36R, x903_37, x903_38, x903_39, x903_41, hp_k_hv, hp_l_hv, hp_a_hv, hp_i_hv1 n1, hp_i_hv1 n2, hp_i_hv1 n3, hp_i_hv2, X.k238, X.a238_0, X.k239, X.l239, X.k3, X.l3, k5, X.mpa m 1 hm (by omega) (by omega), X.mka m 1 hm (by omega) (by omega), X.mla m 1 hm (by omega) (by omega), X.mpa m 2 hm (by omega) (by omega), X.mka m 2 hm (by omega) (by omega), X.mla m 2 hm (by omega) (by omega), e1, e2, e3, o0, o1, w.mt, z, if_false, hu]
theorem sp_goOn (w : VM L h0 h σ m A H) {t : Nat} (ht : t < A) (c : Int32) {u f : Nat → Int32} (ag : ∀ i, i < A → u i = f i) (ok : ∀ i, okv (f i)) (hl : lw (f t)) :
    ∃ u' d, pX 903 0 [.ref 238, .ref (16 + 9 * m), .int (nI t), .retAddr 0, .retAddr 0] [] (hv h c u) = some (none, hv h (orc c d) u') ∧ (∀ i, i < A → u' i = gos σ m t f i) ∧ Chg A d f (gos σ m t f) := by
  have X := w.1
  have hm := w.2.2.1
  have hA := w.2.2.2.2.1
  have k5 := X.mk m hm
  have n2 : ¬ 16 + 9 * m + 2 = 239 ∧ ¬ 16 + 9 * m + 2 = 238 := by omega
  have n3 : ¬ 16 + 9 * m + 3 = 239 ∧ ¬ 16 + 9 * m + 3 = 238 := by omega
  have e1 : inb (nI t) 40 = true := inb_nI (by omega) (by omega)
  have e2 : ix (nI t) = t := ix_nI (by omega)
  have o1 : hp_i h (16 + 9 * m + 2) t = σ 247 (160 * m + 4 * t + 1) := w.cd (r := 1) (by omega) (by omega)
  have o2 : hp_i h (16 + 9 * m + 3) t = σ 247 (160 * m + 4 * t + 2) := w.cd (r := 2) (by omega) (by omega)
  have ka := w.2.2.2.2.2.2.2.1 t ht
  have hb := lw_or hl (lw_mkv ka)
  rw [vgo_pre w ht c u f (ag t ht)]
  unfold gos
  generalize f t ||| mkv (σ 247 (160 * m + 4 * t)) (σ 247 (160 * m + 4 * t + 1)) = bv at hb ⊢
  obtain ⟨_, _, _, _, k9, k10, _⟩ := ka
  generalize σ 247 (160 * m + 4 * t) = op at k9 k10 ⊢
  unfold gof
  have et : nI t + 1 = nI (t + 1) := nI_add t 1
  by_cases z9 : op = 9
  · subst z9
    obtain ⟨a, ha, ha40⟩ := k9 rfl
    rw [if_pos rfl, ha, ix_nI (by omega)]
    obtain ⟨u', d, c1, c2, c3⟩ := sp_come (t := a) c X hm w.ac hA ha40 ag ok hb
    refine ⟨u', d, ?_, c2, c3⟩
    simp only [x903_42, x903_44, x903_47, x903_48, x903_49, x903_50, x903_53, x903_54, x903_54R, x903_55, x903_57, x903_60, x903_85, x903_86, x903_88, x903_104, hp_k_hv, hp_l_hv, hp_a_hv, hp_i_hv1 n2, X.k238, k5, X.mpa m 2 hm (by omega) (by omega), X.mka m 2 hm (by omega) (by omega), X.mla m 2 hm (by omega) (by omega), e1, e2, o1, ha, c1, if_true, show ¬ (9 : Int32) = 10 from by decide, if_false, Option.bind_some, Option.toList_some, Option.toList_none, List.singleton_append, List.nil_append]
  by_cases z10 : op = 10
  · subst z10
    obtain ⟨a, ha, ha40⟩ := k10 rfl
    rw [if_neg (by decide), if_pos rfl, ha, ix_nI (by omega)]
    obtain ⟨u', d, c1, c2, c3⟩ := sp_come (t := t + 1) c X hm w.ac hA (by omega) ag ok hb
    obtain ⟨u'', d', d1, d2, d3⟩ := sp_come (t := a) (orc c d) X hm w.ac hA ha40 c2 (ok_cm ok hb) hb
    have d4 := c3.oc d3
    rw [cm_comm] at d2 d4
    refine ⟨u'', orc d d', ?_, d2, d4⟩
    rw [← orc_orc]
    simp only [x903_42, x903_44, x903_63, x903_64, x903_66, x903_69, x903_70, x903_72, x903_75, x903_76, x903_77, x903_78, x903_79, x903_80, x903_82, x903_85, x903_86, x903_88, x903_91, x903_92, x903_93, x903_94, x903_97, x903_98, x903_98R, x903_99, x903_101, x903_104, hp_k_hv, hp_l_hv, hp_a_hv, hp_i_hv1 n3, X.k238, k5, X.mpa m 3 hm (by omega) (by omega), X.mka m 3 hm (by omega) (by omega), X.mla m 3 hm (by omega) (by omega), e1, e2, et, o2, ha, c1, d1, if_true, show ¬ (10 : Int32) = 9 from by decide, show ¬ (10 : Int32) = 22 from by decide, show ¬ (10 : Int32) = 24 from by decide, if_false, Option.bind_some, Option.toList_some, Option.toList_none, List.singleton_append, List.nil_append]
  rw [if_neg z9, if_neg z10]
  by_cases z22 : op = 22
  · rw [if_pos (Or.inl z22)]
    refine ⟨u, 0, ?_, ag, Chg.refl⟩
    rw [show orc c 0 = c from if_pos rfl]
    simp only [x903_42, x903_44, x903_63, x903_64, x903_66, x903_85, x903_86, x903_88, x903_104, z9, z10, if_false]
    simp only [z22, if_true]
  by_cases z24 : op = 24
  · rw [if_pos (Or.inr z24)]
    refine ⟨u, 0, ?_, ag, Chg.refl⟩
    rw [show orc c 0 = c from if_pos rfl]
    simp only [x903_42, x903_44, x903_63, x903_64, x903_66, x903_69, x903_70, x903_72, x903_85, x903_86, x903_88, x903_104, z9, z10, z22, if_false]
    simp only [z24, if_true]
  rw [if_neg (fun q => q.elim z22 z24)]
  obtain ⟨u', d, c1, c2, c3⟩ := sp_come (t := t + 1) c X hm w.ac hA (by omega) ag ok hb
  refine ⟨u', d, ?_, c2, c3⟩
  simp only [x903_42, x903_44, x903_63, x903_64, x903_66, x903_69, x903_70, x903_72, x903_75, x903_76, x903_77, x903_78, x903_79, x903_80, x903_82, x903_85, x903_86, x903_88, x903_104, z9, z10, z22, z24, if_false, hp_k_hv, X.k238, et, c1, Option.bind_some, Option.toList_some, Option.toList_none, List.singleton_append, List.nil_append]
theorem sp_hds (w : VM L h0 h σ m A H) {t : Nat} (ht : t < A) {f : Nat → Int32} (ok : ∀ i, okv (f i)) (hl : lw (f t)) : ∀ (n q : Nat) (u : Nat → Int32) (c : Int32), q + n = H → (∀ i, i < A → u i = hdf σ m t (f t ||| 128) f q i) →
    ∃ u' d, pX 904 2 [.ref 238, .ref (16 + 9 * m), .int (nI t), .int (nI q)] [] (hv h c u) = some (none, hv h (orc c d) u') ∧ (∀ i, i < A → u' i = hdf σ m t (f t ||| 128) f H i) ∧ Chg A d (hdf σ m t (f t ||| 128) f q) (hdf σ m t (f t ||| 128) f H) := by
  have X := w.1
  have hm := w.2.2.1
  have hA := w.2.2.2.2.1
  have hH := w.2.2.2.2.2.2.1
  have k5 := X.mk m hm
  have n0 : ¬ 16 + 9 * m = 239 ∧ ¬ 16 + 9 * m = 238 := by omega
  have n8 : ¬ 16 + 9 * m + 8 = 239 ∧ ¬ 16 + 9 * m + 8 = 238 := by omega
  intro n
  induction n with
  | zero =>
    intro q u c hq ag
    have hq2 : q = H := by omega
    subst hq2
    refine ⟨u, 0, ?_, ag, Chg.refl⟩
    rw [show orc c 0 = c from if_pos rfl]
    have l1 : nI q ≤ nI q := (vle (by omega) (by omega)).mpr (Nat.le_refl q)
    simp only [x904_2, x904_3, x904_4, x904_7, x904_46, hp_k_hv, hp_i_hv1 n0, k5, w.hc, l1, if_true]
  | succ n ih =>
    intro q u c hq ag
    have l1 : ¬ nI H ≤ nI q := fun z => by have := (vle (by omega) (by omega)).mp z; omega
    have et : nI q + 1 = nI (q + 1) := nI_add q 1
    have e1 : inb (nI q) 6 = true := inb_nI (by omega) (by omega)
    have e2 : ix (nI q) = q := ix_nI (by omega)
    have e3 : inb (nI t) 40 = true := inb_nI (by omega) (by omega)
    have e4 : ix (nI t) = t := ix_nI (by omega)
    obtain ⟨ca, ra, hs, sp, cr⟩ := w.2.1
    have sh := sp_has (cr.vhv c u) (n := t) hm (q := q) (by omega)
    have hn : ∀ v : Nat → Int32, hdf σ m t (f t ||| 128) f (q + 1) = (if nI t < σ 249 (24 * m + 4 * q) ∨ σ 249 (24 * m + 4 * q + 1) ≤ nI t then hdf σ m t (f t ||| 128) f q else cmE (hdf σ m t (f t ||| 128) f q) (ix (σ 249 (24 * m + 4 * q + 3))) (f t ||| 128)) := fun _ => rfl
    by_cases z : nI t < σ 249 (24 * m + 4 * q) ∨ σ 249 (24 * m + 4 * q + 1) ≤ nI t
    · have hn' := hn u
      rw [if_pos z] at hn'
      obtain ⟨u', d, d1, d2, d3⟩ := ih (q + 1) u c (by omega) (by rw [hn']; exact ag)
      rw [hn'] at d3
      refine ⟨u', d, ?_, d2, d3⟩
      rw [← d1]
      generalize hR : pX 904 2 [.ref 238, .ref (16 + 9 * m), .int (nI t), .int (nI (q + 1))] [] (hv h c u) = R
      simp only [x904_2, x904_3, x904_4, x904_7, x904_10, x904_11, x904_12, x904_13, x904_16, x904_40, hp_k_hv, hp_i_hv1 n0, k5, w.hc, l1, if_false, sh, if_pos z, if_true, et, Option.bind_some, Option.toList_some, Option.toList_none, List.singleton_append, List.nil_append]
      rw [x904_43]
      exact hR
    · have hn' := hn u
      rw [if_neg z] at hn'
      obtain ⟨s, hs1, hs2⟩ := w.2.2.2.2.2.2.2.2 q (by omega)
      rw [hs1, ix_nI (by omega)] at hn'
      have o3 : hp_i h (16 + 9 * m + 8) q = nI s := (w.ct (r := 3) (by omega) (by omega)).trans hs1
      have ua : u t = f t := (ag t ht).trans (hdf_at rfl q)
      have hb := lw_or hl lw_128
      obtain ⟨u1, c1, g1, g2, g3⟩ := sp_come (t := s) c X hm w.ac hA hs2 ag (ok_hdf ok hb q) hb
      obtain ⟨u', d, d1, d2, d3⟩ := ih (q + 1) u1 (orc c c1) (by omega) (by rw [hn']; exact g2)
      rw [hn'] at d3
      refine ⟨u', orc c1 d, ?_, d2, g3.oc d3⟩
      rw [← orc_orc, ← d1]
      generalize hR : pX 904 2 [.ref 238, .ref (16 + 9 * m), .int (nI t), .int (nI (q + 1))] [] (hv h (orc c c1) u1) = R
      simp only [x904_2, x904_3, x904_4, x904_7, x904_10, x904_11, x904_12, x904_13, x904_16, x904_19, x904_20, x904_21, x904_22, x904_25, x904_26, x904_26R, x904_27, x904_28, x904_31, x904_32, x904_32R, x904_33, x904_36, x904_37, x904_40, hp_k_hv, hp_l_hv, hp_a_hv, hp_i_hv1 n0, hp_i_hv1 n8, hp_i_hv2, X.k238, X.a238_0, X.k239, X.l239, k5, X.mpb m 8 hm (by omega) (by omega), X.mka m 8 hm (by omega) (by omega), X.mlb m 8 hm (by omega) (by omega), w.hc, l1, if_false, sh, if_neg z, show ¬ (1 : Int32) = 0 from by decide, et, e1, e2, e3, e4, o3, ua, g1, Option.bind_some, Option.toList_some, Option.toList_none, List.singleton_append, List.nil_append]
      rw [x904_43]
      exact hR
theorem sp_handlers (w : VM L h0 h σ m A H) {t : Nat} (ht : t < A) (c : Int32) {u f : Nat → Int32} (ag : ∀ i, i < A → u i = f i) (ok : ∀ i, okv (f i)) (hl : lw (f t)) :
    ∃ u' d, pX 904 0 [.ref 238, .ref (16 + 9 * m), .int (nI t), .retAddr 0] [] (hv h c u) = some (none, hv h (orc c d) u') ∧ (∀ i, i < A → u' i = hdf σ m t (f t ||| 128) f H i) ∧ Chg A d f (hdf σ m t (f t ||| 128) f H) := by
  obtain ⟨u', d, d1, d2, d3⟩ := sp_hds w ht ok hl H 0 u c (by omega) ag
  refine ⟨u', d, ?_, d2, d3⟩
  rw [← d1]
  generalize hR : pX 904 2 [.ref 238, .ref (16 + 9 * m), .int (nI t), .int (nI 0)] [] (hv h c u) = R
  simp only [x904_0, x904_1]
  exact hR
theorem sp_pass (w : VM L h0 h σ m A H) {f : Nat → Int32} (ok : ∀ i, okv (f i)) : ∀ (n q : Nat) (u : Nat → Int32) (c : Int32), q + n = A → (∀ i, i < A → u i = psf σ m H f q i) → (∀ i, okv (psf σ m H f q i)) →
    ∃ u' d, pX 902 2 [.ref 238, .ref (16 + 9 * m), .int (nI q)] [] (hv h c u) = some (none, hv h (orc c d) u') ∧ (∀ i, i < A → u' i = psf σ m H f A i) ∧ (∀ i, okv (psf σ m H f A i)) ∧ Chg A d (psf σ m H f q) (psf σ m H f A) := by
  have X := w.1
  have hm := w.2.2.1
  have hA := w.2.2.2.2.1
  have k5 := X.mk m hm
  have n0 : ¬ 16 + 9 * m = 239 ∧ ¬ 16 + 9 * m = 238 := by omega
  intro n
  induction n with
  | zero =>
    intro q u c hq ag hk
    have hq2 : q = A := by omega
    subst hq2
    refine ⟨u, 0, ?_, ag, hk, Chg.refl⟩
    rw [show orc c 0 = c from if_pos rfl]
    have l1 : nI q ≤ nI q := (vle (by omega) (by omega)).mpr (Nat.le_refl q)
    simp only [x902_2, x902_3, x902_4, x902_7, x902_38, hp_k_hv, hp_i_hv1 n0, k5, w.ac, l1, if_true]
  | succ n ih =>
    intro q u c hq ag hk
    have l1 : ¬ nI A ≤ nI q := fun z => by have := (vle (by omega) (by omega)).mp z; omega
    have et : nI q + 1 = nI (q + 1) := nI_add q 1
    have e3 : inb (nI q) 40 = true := inb_nI (by omega) (by omega)
    have e4 : ix (nI q) = q := ix_nI (by omega)
    have hn : psf σ m H f (q + 1) = stf σ m H q (psf σ m H f q) := rfl
    have uq := ag q (by omega)
    have hk2 : ∀ i, okv (psf σ m H f (q + 1) i) := by rw [hn]; exact ok_stf hk (w.2.2.2.2.2.2.2.1 q (by omega))
    generalize hg : psf σ m H f q = g at ag hk hn uq ⊢
    unfold stf at hn
    by_cases z : g q = -1
    · rw [if_pos z] at hn
      obtain ⟨u', d, d1, d2, d3, d4⟩ := ih (q + 1) u c (by omega) (by rw [hn]; exact ag) hk2
      rw [hn] at d4
      refine ⟨u', d, ?_, d2, d3, d4⟩
      rw [← d1]
      generalize hR : pX 902 2 [.ref 238, .ref (16 + 9 * m), .int (nI (q + 1))] [] (hv h c u) = R
      simp only [x902_2, x902_3, x902_4, x902_7, x902_10, x902_11, x902_14, x902_15, x902_15R, x902_16, x902_17, x902_32, hp_k_hv, hp_l_hv, hp_a_hv, hp_i_hv1 n0, hp_i_hv2, X.k238, X.a238_0, X.k239, X.l239, k5, w.ac, l1, if_false, if_true, e3, e4, uq, z, et]
      rw [x902_35]
      exact hR
    · rw [if_neg z] at hn
      have hl : lw (g q) := (hk q).resolve_left z
      obtain ⟨u1, c1, g1, g2, g3⟩ := sp_goOn w (t := q) (by omega) c ag hk hl
      have hl2 : lw (gos σ m q g q) := by rw [gos_at]; exact hl
      have ok2 : ∀ i, okv (gos σ m q g i) := ok_gof hk (lw_or hl (lw_mkv (w.2.2.2.2.2.2.2.1 q (by omega))))
      obtain ⟨u2, c2, k1, k2, k3⟩ := sp_handlers w (t := q) (by omega) (orc c c1) g2 ok2 hl2
      rw [gos_at] at k2 k3
      obtain ⟨u', d, d1, d2, d3, d4⟩ := ih (q + 1) u2 (orc (orc c c1) c2) (by omega) (by rw [hn]; exact k2) hk2
      rw [hn] at d4
      refine ⟨u', orc (orc c1 c2) d, ?_, d2, d3, (g3.oc k3).oc d4⟩
      rw [← orc_orc, ← orc_orc, ← d1]
      generalize hR : pX 902 2 [.ref 238, .ref (16 + 9 * m), .int (nI (q + 1))] [] (hv h (orc (orc c c1) c2) u2) = R
      simp only [x902_2, x902_3, x902_4, x902_7, x902_10, x902_11, x902_14, x902_15, x902_15R, x902_16, x902_17, x902_20, x902_21, x902_22, x902_23, x902_26, x902_27, x902_28, x902_29, x902_32, hp_k_hv, hp_l_hv, hp_a_hv, hp_i_hv1 n0, hp_i_hv2, X.k238, X.a238_0, X.k239, X.l239, k5, w.ac, l1, if_false, e3, e4, uq, z, et, g1, k1, Option.bind_some, Option.toList_some, Option.toList_none, List.singleton_append, List.nil_append]
      rw [x902_35]
      exact hR
end
