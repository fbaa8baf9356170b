/-! VERIFY: the model's spread and verify; the pair -/
theorem or_bit {c d : Int32} (h : c = 0 ∨ c = 1) (h2 : d = 0 ∨ d = 1) : c ||| d = 0 ∨ c ||| d = 1 := by
  rcases h with rfl | rfl <;> rcases h2 with rfl | rfl <;> decide
section
variable {L m A H M : Nat} {h0 h k : HP} {s : SM}
theorem sp_mhds (X : FX L k) (w : VM L h0 h s m A H) {t : Nat} (ht : t < A) {f : Nat → Int32} (ok : ∀ i, okv (f i)) (hl : lw (f t)) {c0 : Int32} (h0b : c0 = 0 ∨ c0 = 1) {l3 l4 l6 : Value} : ∀ (n q : Nat) (v : Nat → Int32) (d : Int32), q + n = H → (∀ i, i < 41 → v i = EE (hdf s m t (f t ||| 128) f q i)) → Chg 41 d f (hdf s m t (f t ||| 128) f q) →
    ∃ v' d', pX 1113 123 [.ref 244, .int (nI m), .int (nI t), l3, l4, .int (EE (f t) &&& 255), l6, .int (nI (24 * m + 4 * q))] [] (MH k s v (c0 ||| d)) = some (none, MH k s v' (c0 ||| d')) ∧ (∀ i, i < 41 → v' i = EE (hdf s m t (f t ||| 128) f H i)) ∧ Chg 41 d' f (hdf s m t (f t ||| 128) f H) := by
  have hm := w.2.2.1
  have hA := w.2.2.2.2.1
  have hH1 := w.2.2.2.2.2.1
  have hH := w.2.2.2.2.2.2.1
  have b5 : inb (nI m) 10 = true := inb_nI (by omega) (by omega)
  have b6 : ix (nI m) = m := ix_nI (by omega)
  have e24 : (24 : Int32) * nI m + 4 * nI H = nI (24 * m + 4 * H) := by rw [show (24 : Int32) = nI 24 from rfl, show (4 : Int32) = nI 4 from rfl, nI_mul, nI_mul, nI_add]
  intro n
  induction n with
  | zero =>
    intro q v d hq ag hc
    have hq2 : q = H := by omega
    subst hq2
    refine ⟨v, d, ?_, ag, hc⟩
    have l1 : nI (24 * m + 4 * q) ≤ nI (24 * m + 4 * q) := (vle (by omega) (by omega)).mpr (Nat.le_refl _)
    simp only [x1113_123, x1113_125, x1113_127, x1113_128, x1113_129, x1113_130, x1113_131, x1113_134, x1113_135, x1113_136, x1113_137, x1113_138, x1113_190, MH_k, MH_l, MH_a, MH_248, X.k244, X.a244_4, X.k248, X.l248, b5, b6, hH1, e24, l1, if_true]
  | succ n ih =>
    intro q v d hq ag hc
    have l1 : ¬ nI (24 * m + 4 * H) ≤ nI (24 * m + 4 * q) := fun z => by have := (vle (by omega) (by omega)).mp z; omega
    have e1 : inb (nI (24 * m + 4 * q)) 240 = true := inb_nI (by omega) (by omega)
    have e2 : ix (nI (24 * m + 4 * q)) = 24 * m + 4 * q := ix_nI (by omega)
    have e3 : inb (nI (24 * m + 4 * q + 1)) 240 = true := inb_nI (by omega) (by omega)
    have e4 : ix (nI (24 * m + 4 * q + 1)) = 24 * m + 4 * q + 1 := ix_nI (by omega)
    have et : nI (24 * m + 4 * q) + 1 = nI (24 * m + 4 * q + 1) := nI_add _ 1
    have g3 : inb (nI (24 * m + 4 * q + 3)) 240 = true := inb_nI (by omega) (by omega)
    have g4 : ix (nI (24 * m + 4 * q + 3)) = 24 * m + 4 * q + 3 := ix_nI (by omega)
    have gt : nI (24 * m + 4 * q) + 3 = nI (24 * m + 4 * q + 3) := nI_add _ 3
    have g5 : nI (24 * m + 4 * q) + 4 = nI (24 * m + 4 * (q + 1)) := (nI_add _ 4).trans (congrArg nI (by omega))
    have hn : hdf s m t (f t ||| 128) f (q + 1) = (if nI t < s 249 (24 * m + 4 * q) ∨ s 249 (24 * m + 4 * q + 1) ≤ nI t then hdf s m t (f t ||| 128) f q else cmE (hdf s m t (f t ||| 128) f q) (ix (s 249 (24 * m + 4 * q + 3))) (f t ||| 128)) := rfl
    by_cases z1 : nI t < s 249 (24 * m + 4 * q)
    · rw [if_pos (Or.inl z1)] at hn
      obtain ⟨v', d', k1, k2, k3⟩ := ih (q + 1) v d (by omega) (by rw [hn]; exact ag) (by rw [hn]; exact hc)
      refine ⟨v', d', ?_, k2, k3⟩
      rw [← k1]
      generalize hR : pX 1113 123 [.ref 244, .int (nI m), .int (nI t), l3, l4, .int (EE (f t) &&& 255), l6, .int (nI (24 * m + 4 * (q + 1)))] [] (MH k s v (c0 ||| d)) = R
      simp only [x1113_123, x1113_125, x1113_127, x1113_128, x1113_129, x1113_130, x1113_131, x1113_134, x1113_135, x1113_136, x1113_137, x1113_138, x1113_141, x1113_142, x1113_145, x1113_147, x1113_148, x1113_149, x1113_184, MH_k, MH_l, MH_a, MH_248, MH_249, X.k244, X.a244_4, X.k248, X.l248, X.a244_5, X.k249, X.l249, b5, b6, hH1, e24, l1, if_false, e1, e2, z1, if_true, g5]
      rw [x1113_187]
      exact hR
    by_cases z2 : s 249 (24 * m + 4 * q + 1) ≤ nI t
    · rw [if_pos (Or.inr z2)] at hn
      obtain ⟨v', d', k1, k2, k3⟩ := ih (q + 1) v d (by omega) (by rw [hn]; exact ag) (by rw [hn]; exact hc)
      refine ⟨v', d', ?_, k2, k3⟩
      rw [← k1]
      generalize hR : pX 1113 123 [.ref 244, .int (nI m), .int (nI t), l3, l4, .int (EE (f t) &&& 255), l6, .int (nI (24 * m + 4 * (q + 1)))] [] (MH k s v (c0 ||| d)) = R
      simp only [x1113_123, x1113_125, x1113_127, x1113_128, x1113_129, x1113_130, x1113_131, x1113_134, x1113_135, x1113_136, x1113_137, x1113_138, x1113_141, x1113_142, x1113_145, x1113_147, x1113_148, x1113_149, x1113_152, x1113_153, x1113_154, x1113_157, x1113_159, x1113_160, x1113_161, x1113_162, x1113_184, MH_k, MH_l, MH_a, MH_248, MH_249, X.k244, X.a244_4, X.k248, X.l248, X.a244_5, X.k249, X.l249, b5, b6, hH1, e24, l1, if_false, e1, e2, e3, e4, et, z1, z2, if_true, g5]
      rw [x1113_187]
      exact hR
    · rw [if_neg (fun q => q.elim z1 z2)] at hn
      obtain ⟨a, ha1, ha2⟩ := w.2.2.2.2.2.2.2.2 q (by omega)
      rw [ha1, ix_nI (by omega)] at hn
      have hb := lw_or hl lw_128
      obtain ⟨v1, d1, p1, p2, p3⟩ := sp_comes (s := s) X ha2 ag (ok_hdf ok hb q) hb (or_bit h0b hc.bit)
      have nbe : EE (f t) &&& 255 &&& (-129) = NB (f t ||| 128) := by rw [← NB_or hl]; rfl
      rw [Int32.or_assoc] at p1
      obtain ⟨v', d', k1, k2, k3⟩ := ih (q + 1) v1 (d ||| d1) (by omega) (by rw [hn]; exact p2) (by rw [hn]; exact hc.trans p3)
      refine ⟨v', d', ?_, k2, k3⟩
      rw [← k1]
      generalize hR : pX 1113 123 [.ref 244, .int (nI m), .int (nI t), l3, l4, .int (EE (f t) &&& 255), l6, .int (nI (24 * m + 4 * (q + 1)))] [] (MH k s v1 (c0 ||| (d ||| d1))) = R
      simp only [x1113_123, x1113_125, x1113_127, x1113_128, x1113_129, x1113_130, x1113_131, x1113_134, x1113_135, x1113_136, x1113_137, x1113_138, x1113_141, x1113_142, x1113_145, x1113_147, x1113_148, x1113_149, x1113_152, x1113_153, x1113_154, x1113_157, x1113_159, x1113_160, x1113_161, x1113_162, x1113_165, x1113_166, x1113_167, x1113_170, x1113_172, x1113_173, x1113_174, x1113_175, x1113_177, x1113_180, x1113_181, x1113_184, MH_k, MH_l, MH_a, MH_248, MH_249, X.k244, X.a244_4, X.k248, X.l248, X.a244_5, X.k249, X.l249, b5, b6, hH1, e24, l1, if_false, e1, e2, e3, e4, et, g3, g4, gt, ha1, nbe, p1, z1, z2, g5, Option.bind_some, Option.toList_some, Option.toList_none, List.singleton_append, List.nil_append]
      rw [x1113_187]
      exact hR
/-- spread, to its first question -/
theorem spread_pre (X : FX L k) (w : VM L h0 h s m A H) {t : Nat} (ht : t < A) {v f : Nat → Int32} {c : Int32} (hv : v t = EE (f t)) (hl : lw (f t)) :
    pX 1113 0 [.ref 244, .int (nI m), .int (nI t), .retAddr 0, .retAddr 0, .retAddr 0, .retAddr 0, .retAddr 0] [] (MH k s v c) =
    pX 1113 42 [.ref 244, .int (nI m), .int (nI t), .int (nI (160 * m + 4 * t)), .int (s 247 (160 * m + 4 * t)), .int (EE (f t) &&& 255), .int (NB (f t ||| mkv (s 247 (160 * m + 4 * t)) (s 247 (160 * m + 4 * t + 1)))), .retAddr 0] [] (MH k s v c) := by
  have hm := w.2.2.1
  have hA := w.2.2.2.2.1
  have e160 : (160 : Int32) * nI m + 4 * nI t = nI (160 * m + 4 * t) := by rw [show (160 : Int32) = nI 160 from rfl, show (4 : Int32) = nI 4 from rfl, nI_mul, nI_mul, nI_add]
  have e1 : inb (nI (160 * m + 4 * t)) 1600 = true := inb_nI (by omega) (by omega)
  have e2 : ix (nI (160 * m + 4 * t)) = 160 * m + 4 * t := ix_nI (by omega)
  have e3 : inb (nI t) 41 = true := inb_nI (by omega) (by omega)
  have e4 : ix (nI t) = t := ix_nI (by omega)
  have mk := sp_vmakes (s := s) X hm (t := t) (by omega) (v := v) (c := c) (w.2.2.2.2.2.2.2.1 t ht).1
  rw [← NB_or hl]
  simp only [x1113_0, x1113_3, x1113_4, x1113_5, x1113_6, x1113_7, x1113_8, x1113_9, x1113_10, x1113_11, x1113_14, x1113_15, x1113_16, x1113_18, x1113_19, x1113_22, x1113_23, x1113_24, x1113_27, x1113_28, x1113_30, x1113_32, x1113_33, x1113_34, x1113_37, x1113_38, x1113_39, x1113_40, MH_k, MH_l, MH_a, MH_247, MH_v, X.k244, X.a244_3, X.k247, X.l247, X.a244_9, X.k252, X.l252, e160, e1, e2, e3, e4, hv, mk, Option.bind_some, Option.toList_some, Option.toList_none, List.singleton_append, List.nil_append]
/-- to its handlers -/
theorem spread_go (X : FX L k) (w : VM L h0 h s m A H) {t : Nat} (ht : t < A) {v f : Nat → Int32} {c : Int32} (ag : ∀ i, i < 41 → v i = EE (f i)) (ok : ∀ i, okv (f i)) (hl : lw (f t)) (hc : c = 0 ∨ c = 1) {l5 : Value} :
    ∃ v' d, pX 1113 42 [.ref 244, .int (nI m), .int (nI t), .int (nI (160 * m + 4 * t)), .int (s 247 (160 * m + 4 * t)), l5, .int (NB (f t ||| mkv (s 247 (160 * m + 4 * t)) (s 247 (160 * m + 4 * t + 1)))), .retAddr 0] [] (MH k s v c) =
      pX 1113 117 [.ref 244, .int (nI m), .int (nI t), .int (nI (160 * m + 4 * t)), .int (s 247 (160 * m + 4 * t)), l5, .int (NB (f t ||| mkv (s 247 (160 * m + 4 * t)) (s 247 (160 * m + 4 * t + 1)))), .retAddr 0] [] (MH k s v' (c ||| d)) ∧
      (∀ i, i < 41 → v' i = EE (gos s m t f i)) ∧ Chg 41 d f (gos s m t f) := by
  have hm := w.2.2.1
  have hA := w.2.2.2.2.1
  have ka := w.2.2.2.2.2.2.2.1 t ht
  have hb := lw_or hl (lw_mkv ka)
  have e3 : inb (nI (160 * m + 4 * t + 1)) 1600 = true := inb_nI (by omega) (by omega)
  have e4 : ix (nI (160 * m + 4 * t + 1)) = 160 * m + 4 * t + 1 := ix_nI (by omega)
  have et : nI (160 * m + 4 * t) + 1 = nI (160 * m + 4 * t + 1) := nI_add _ 1
  have f3 : inb (nI (160 * m + 4 * t + 2)) 1600 = true := inb_nI (by omega) (by omega)
  have f4 : ix (nI (160 * m + 4 * t + 2)) = 160 * m + 4 * t + 2 := ix_nI (by omega)
  have ft : nI (160 * m + 4 * t) + 2 = nI (160 * m + 4 * t + 2) := nI_add _ 2
  have tt : nI t + 1 = nI (t + 1) := nI_add t 1
  unfold gos
  generalize f t ||| mkv (s 247 (160 * m + 4 * t)) (s 247 (160 * m + 4 * t + 1)) = bv at hb ⊢
  obtain ⟨_, _, _, _, k9, k10, _⟩ := ka
  generalize s 247 (160 * m + 4 * t) = op at k9 k10 ⊢
  unfold gof
  by_cases z9 : op = 9
  · subst z9
    obtain ⟨a, ha, ha40⟩ := k9 rfl
    rw [if_pos rfl, ha, ix_nI (by omega)]
    obtain ⟨v1, d1, p1, p2, p3⟩ := sp_comes (s := s) X ha40 ag ok hb hc
    refine ⟨v1, d1, ?_, p2, p3⟩
    simp only [x1113_42, x1113_44, x1113_46, x1113_49, x1113_50, x1113_51, x1113_54, x1113_55, x1113_56, x1113_57, x1113_58, x1113_60, x1113_63, x1113_87, x1113_89, x1113_91, MH_k, MH_l, MH_a, MH_247, X.k244, X.a244_3, X.k247, X.l247, e3, e4, et, ha, p1, if_true, Option.bind_some, Option.toList_some, Option.toList_none, List.singleton_append, List.nil_append]
  have n9 : ¬ op = 9 := z9
  by_cases z10 : op = 10
  · subst z10
    obtain ⟨a, ha, ha40⟩ := k10 rfl
    rw [if_neg (by decide), if_pos rfl, ha, ix_nI (by omega)]
    obtain ⟨v1, d1, p1, p2, p3⟩ := sp_comes (s := s) X ha40 ag ok hb hc
    obtain ⟨v2, d2, q1, q2, q3⟩ := sp_comes (s := s) (t := t + 1) X (by omega) p2 (ok_cm ok hb) hb (or_bit hc p3.bit)
    refine ⟨v2, d1 ||| d2, ?_, q2, p3.trans q3⟩
    rw [Int32.or_assoc] at q1
    simp only [x1113_42, x1113_44, x1113_46, x1113_66, x1113_68, x1113_70, x1113_73, x1113_74, x1113_75, x1113_78, x1113_79, x1113_80, x1113_81, x1113_82, x1113_84, x1113_87, x1113_89, x1113_91, x1113_94, x1113_96, x1113_98, x1113_101, x1113_103, x1113_105, x1113_108, x1113_109, x1113_110, x1113_111, x1113_112, x1113_114, MH_k, MH_l, MH_a, MH_247, X.k244, X.a244_3, X.k247, X.l247, f3, f4, ft, tt, ha, p1, q1, show ¬ (10 : Int32) = 9 from by decide, show ¬ (10 : Int32) = 22 from by decide, show ¬ (10 : Int32) = 24 from by decide, if_true, if_false, Option.bind_some, Option.toList_some, Option.toList_none, List.singleton_append, List.nil_append]
  rw [if_neg z9, if_neg z10]
  by_cases z22 : op = 22
  · subst z22
    rw [if_pos (Or.inl rfl)]
    refine ⟨v, 0, ?_, ag, Chg.refl⟩
    simp only [x1113_42, x1113_44, x1113_46, x1113_66, x1113_68, x1113_70, x1113_87, x1113_89, x1113_91, x1113_94, x1113_96, x1113_98, show ¬ (22 : Int32) = 9 from by decide, show ¬ (22 : Int32) = 10 from by decide, if_true, if_false, Int32.or_zero]
  by_cases z24 : op = 24
  · subst z24
    rw [if_pos (Or.inr rfl)]
    refine ⟨v, 0, ?_, ag, Chg.refl⟩
    simp only [x1113_42, x1113_44, x1113_46, x1113_66, x1113_68, x1113_70, x1113_87, x1113_89, x1113_91, x1113_94, x1113_96, x1113_98, x1113_101, x1113_103, x1113_105, show ¬ (24 : Int32) = 9 from by decide, show ¬ (24 : Int32) = 10 from by decide, show ¬ (24 : Int32) = 22 from by decide, if_true, if_false, Int32.or_zero]
  rw [if_neg (fun q => q.elim z22 z24)]
  obtain ⟨v1, d1, p1, p2, p3⟩ := sp_comes (s := s) (t := t + 1) X (by omega) ag ok hb hc
  refine ⟨v1, d1, ?_, p2, p3⟩
  simp only [x1113_42, x1113_44, x1113_46, x1113_66, x1113_68, x1113_70, x1113_87, x1113_89, x1113_91, x1113_94, x1113_96, x1113_98, x1113_101, x1113_103, x1113_105, x1113_108, x1113_109, x1113_110, x1113_111, x1113_112, x1113_114, MH_k, X.k244, tt, p1, z9, z10, z22, z24, if_false, Option.bind_some, Option.toList_some, Option.toList_none, List.singleton_append, List.nil_append]
theorem sp_spread (X : FX L k) (w : VM L h0 h s m A H) {t : Nat} (ht : t < A) {v f : Nat → Int32} {c : Int32} (ag : ∀ i, i < 41 → v i = EE (f i)) (ok : ∀ i, okv (f i)) (hl : lw (f t)) (hc : c = 0 ∨ c = 1) :
    ∃ v' d, pX 1113 0 [.ref 244, .int (nI m), .int (nI t), .retAddr 0, .retAddr 0, .retAddr 0, .retAddr 0, .retAddr 0] [] (MH k s v c) = some (none, MH k s v' (c ||| d)) ∧ (∀ i, i < 41 → v' i = EE (stf s m H t f i)) ∧ Chg 41 d f (stf s m H t f) := by
  have hm := w.2.2.1
  have hA := w.2.2.2.2.1
  obtain ⟨v1, d1, p1, p2, p3⟩ := spread_go X w ht ag ok hl hc (l5 := .int (EE (f t) &&& 255))
  have hl2 : lw (gos s m t f t) := by rw [gos_at]; exact hl
  have ok2 : ∀ i, okv (gos s m t f i) := ok_gof ok (lw_or hl (lw_mkv (w.2.2.2.2.2.2.2.1 t ht)))
  obtain ⟨v2, d2, q1, q2, q3⟩ := sp_mhds X w ht ok2 hl2 (or_bit hc p3.bit) (l3 := .int (nI (160 * m + 4 * t))) (l4 := .int (s 247 (160 * m + 4 * t))) (l6 := .int (NB (f t ||| mkv (s 247 (160 * m + 4 * t)) (s 247 (160 * m + 4 * t + 1))))) H 0 v1 0 (by omega) p2 Chg.refl
  rw [gos_at] at q1 q2 q3
  have hs : stf s m H t f = hdf s m t (f t ||| 128) (gos s m t f) H := if_neg (lw_ne hl)
  rw [hs]
  refine ⟨v2, d1 ||| d2, ?_, q2, p3.trans q3⟩
  rw [spread_pre X w ht (ag t (by omega)) hl, p1, ← Int32.or_assoc, ← q1, Int32.or_zero]
  have e0 : (24 : Int32) * nI m = nI (24 * m + 4 * 0) := by rw [show (24 : Int32) = nI 24 from rfl, nI_mul]; rfl
  simp only [x1113_117, x1113_119, x1113_120, x1113_121, e0]
end
