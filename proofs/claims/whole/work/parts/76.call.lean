/-! THE ENGINE, 21: calls -/
/-- registers of frame G are filled, i of them -/
def flS (σ : SM) (G xb yb wn fi Ln i : Nat) : SM := fun b j => if (b = 269 ∨ b = 270) ∧ 8 * G ≤ j ∧ j < 8 * G + i then (if j - 8 * G < wn ∧ fi + (j - 8 * G) < Ln then σ (if b = 269 then xb else xb + 1) (yb + (fi + (j - 8 * G))) else 0) else σ b j
theorem flS_0 {σ : SM} {G xb yb wn fi Ln : Nat} : flS σ G xb yb wn fi Ln 0 = σ := by
  funext b j
  unfold flS
  rw [if_neg (by omega)]
theorem flS_at {σ : SM} {G xb yb wn fi Ln i b j : Nat} (h : ¬ ((b = 269 ∨ b = 270) ∧ 8 * G ≤ j ∧ j < 8 * G + i)) : flS σ G xb yb wn fi Ln i b j = σ b j := if_neg h
theorem flS_s {σ : SM} {G xb yb wn fi Ln i : Nat} : hp_u (hp_u (flS σ G xb yb wn fi Ln i) 269 (8 * G + i) (if i < wn ∧ fi + i < Ln then σ xb (yb + (fi + i)) else 0)) 270 (8 * G + i) (if i < wn ∧ fi + i < Ln then σ (xb + 1) (yb + (fi + i)) else 0) = flS σ G xb yb wn fi Ln (i + 1) := by
  funext b j
  simp only [hu_at]
  by_cases h1 : b = 270 ∧ j = 8 * G + i
  · obtain ⟨rfl, rfl⟩ := h1
    unfold flS
    rw [if_pos ⟨rfl, rfl⟩, if_pos (show (270 = 269 ∨ 270 = 270) ∧ 8 * G ≤ 8 * G + i ∧ 8 * G + i < 8 * G + (i + 1) by omega), show 8 * G + i - 8 * G = i by omega, if_neg (show ¬ 270 = 269 by omega)]
  · rw [if_neg h1]
    by_cases h2 : b = 269 ∧ j = 8 * G + i
    · obtain ⟨rfl, rfl⟩ := h2
      unfold flS
      rw [if_pos ⟨rfl, rfl⟩, if_pos (show (269 = 269 ∨ 269 = 270) ∧ 8 * G ≤ 8 * G + i ∧ 8 * G + i < 8 * G + (i + 1) by omega), show 8 * G + i - 8 * G = i by omega, if_pos rfl]
    · rw [if_neg h2]
      unfold flS
      by_cases h3 : (b = 269 ∨ b = 270) ∧ 8 * G ≤ j ∧ j < 8 * G + i
      · rw [if_pos h3, if_pos (show (b = 269 ∨ b = 270) ∧ 8 * G ≤ j ∧ j < 8 * G + (i + 1) by omega)]
      · rw [if_neg h3, if_neg (by omega)]
section
variable {L : Nat} {h0 h : HP} {σ : SM} {A F : Nat}
theorem call_loop {k : HP} {bm wn c : Nat} (x : FX L k) (hF : F + 1 < 12) (hb : σ 244 47 = nI bm) (hbm : bm < 10) (hw : σ 245 bm = nI wn) (hwn : wn ≤ 3) (hc : σ 244 48 = nI c) (hc8 : c < 8) (m0 : σ 244 45 = nI (8 * F)) : ∀ (n i : Nat) (v : Value), i + n = 8 → ∃ v', pX 1143 36 [.ref 244, .int (nI (8 * (F + 1))), .int (nI i), v] [] (mset k (flS σ (F + 1) 269 (8 * F) wn c 8 i)) = pX 1143 142 [.ref 244, .int (nI (8 * (F + 1))), .int (nI 8), v'] [] (mset k (flS σ (F + 1) 269 (8 * F) wn c 8 8)) := by
  intro n
  induction n with
  | zero =>
    intro i v hi
    obtain rfl : i = 8 := by omega
    refine ⟨v, ?_⟩
    simp only [x1143_36, x1143_37, x1143_39, show (8 : Int32) ≤ nI 8 from Int32.le_refl 8, if_true]
  | succ n ih =>
    intro i v hi
    have q8 : ¬ (8 : Int32) ≤ nI i := nI_nle2 (a := 8) (by omega) (by omega)
    have b1 : inb (nI bm) 10 = true := inb_nI hbm (by omega)
    have b2 : ix (nI bm) = bm := ix_nI (by omega)
    have o : ∀ b j, ¬ ((b = 269 ∨ b = 270) ∧ 8 * (F + 1) ≤ j) → flS σ (F + 1) 269 (8 * F) wn c 8 i b j = σ b j := fun b j z => flS_at (by omega)
    have e1 : nI (8 * (F + 1)) + nI i = nI (8 * (F + 1) + i) := nI_add _ _
    have e2 : inb (nI (8 * (F + 1) + i)) 96 = true := inb_nI (by omega) (by omega)
    have e3 : ix (nI (8 * (F + 1) + i)) = 8 * (F + 1) + i := ix_nI (by omega)
    have e4 : nI (8 * F) + nI c + nI i = nI (8 * F + (c + i)) := by rw [nI_add, nI_add, Nat.add_assoc]
    have e5 : nI c + nI i = nI (c + i) := nI_add _ _
    have u1 := o 244 47 (by omega)
    have u2 := o 245 bm (by omega)
    have u3 := o 244 48 (by omega)
    have u4 := o 244 45 (by omega)
    rw [hb] at u1
    rw [hw] at u2
    rw [hc] at u3
    rw [m0] at u4
    have key : ∀ f1 f2 : Int32, (if i < wn ∧ c + i < 8 then σ 269 (8 * F + (c + i)) else 0) = f1 → (if i < wn ∧ c + i < 8 then σ (269 + 1) (8 * F + (c + i)) else 0) = f2 → (∃ b' : Int32, pX 1143 36 [.ref 244, .int (nI (8 * (F + 1))), .int (nI i), v] [] (mset k (flS σ (F + 1) 269 (8 * F) wn c 8 i)) = pX 1143 136 [.ref 244, .int (nI (8 * (F + 1))), .int (nI i), .int b'] [] (mset k (hp_u (hp_u (flS σ (F + 1) 269 (8 * F) wn c 8 i) 269 (8 * (F + 1) + i) f1) 270 (8 * (F + 1) + i) f2))) → ∃ v', pX 1143 36 [.ref 244, .int (nI (8 * (F + 1))), .int (nI i), v] [] (mset k (flS σ (F + 1) 269 (8 * F) wn c 8 i)) = pX 1143 142 [.ref 244, .int (nI (8 * (F + 1))), .int (nI 8), v'] [] (mset k (flS σ (F + 1) 269 (8 * F) wn c 8 8)) := by
      intro f1 f2 h1 h2 ⟨b', e⟩
      obtain ⟨v', ih'⟩ := ih (i + 1) (.int b') (by omega)
      refine ⟨v', ?_⟩
      rw [e, ← ih', x1143_136, x1143_139, nI_1, ← flS_s, h1, h2]
    generalize hτ : flS σ (F + 1) 269 (8 * F) wn c 8 i = τ at *
    by_cases c1 : i < wn
    · have q1 : ¬ nI wn ≤ nI i := nI_nle2 (by omega) (by omega)
      by_cases c2 : c + i < 8
      · have q2 : ¬ (8 : Int32) ≤ nI (c + i) := nI_nle2 (a := 8) (by omega) (by omega)
        have e6 : inb (nI (8 * F + (c + i))) 96 = true := inb_nI (by omega) (by omega)
        have e7 : ix (nI (8 * F + (c + i))) = 8 * F + (c + i) := ix_nI (by omega)
        have u5 := o 269 (8 * F + (c + i)) (by omega)
        have u6 := o 270 (8 * F + (c + i)) (by omega)
        refine key (σ 269 (8 * F + (c + i))) (σ 270 (8 * F + (c + i))) (if_pos ⟨c1, c2⟩) (if_pos ⟨c1, c2⟩) ⟨1, ?_⟩
        simp only [x1143_36, x1143_37, x1143_39, x1143_42, x1143_43, x1143_44, x1143_47, x1143_48, x1143_51, x1143_52, x1143_55, x1143_56, x1143_59, x1143_60, x1143_61, x1143_63, x1143_66, x1143_67, x1143_71, x1143_72, x1143_73, x1143_76, x1143_77, x1143_78, x1143_79, x1143_80, x1143_83, x1143_84, x1143_87, x1143_88, x1143_91, x1143_92, x1143_95, x1143_96, x1143_97, x1143_98, x1143_99, x1143_103, x1143_104, x1143_105, x1143_108, x1143_109, x1143_110, x1143_111, x1143_112, x1143_115, x1143_116, x1143_119, x1143_120, x1143_123, x1143_124, x1143_127, x1143_128, x1143_129, x1143_130, x1143_131, x1143_135, hp_k_ms, hp_a_ms, hp_l_ms, x.k244, x.a244_1, x.k245, x.l245, x.a244_33, x.k269, x.l269, x.a244_34, x.k270, x.l270, ms_r (show 244 ≤ 244 ∧ 244 < 276 by omega), ms_r (show 244 ≤ 245 ∧ 245 < 276 by omega), ms_r (show 244 ≤ 269 ∧ 269 < 276 by omega), ms_r (show 244 ≤ 270 ∧ 270 < 276 by omega), ms_w (show 244 ≤ 269 ∧ 269 < 276 by omega), ms_w (show 244 ≤ 270 ∧ 270 < 276 by omega), q8, if_false, u1, u2, u3, u4, b1, b2, q1, e5, q2, e1, e2, e3, i32_10, e4, e6, e7, u5, u6, hu_cell (show ¬ 244 = 269 by omega), hu_cell (show ¬ 270 = 269 by omega)]
      · have q2 : (8 : Int32) ≤ nI (c + i) := nI_le (a := 8) (by omega) (by omega)
        refine key 0 0 (if_neg (by omega)) (if_neg (by omega)) ⟨0, ?_⟩
        simp only [x1143_36, x1143_37, x1143_39, x1143_42, x1143_43, x1143_44, x1143_47, x1143_48, x1143_51, x1143_52, x1143_55, x1143_56, x1143_59, x1143_60, x1143_61, x1143_63, x1143_70, x1143_71, x1143_72, x1143_73, x1143_76, x1143_77, x1143_78, x1143_79, x1143_80, x1143_102, x1143_103, x1143_104, x1143_105, x1143_108, x1143_109, x1143_110, x1143_111, x1143_112, x1143_134, x1143_135, hp_k_ms, hp_a_ms, hp_l_ms, x.k244, x.a244_1, x.k245, x.l245, x.a244_33, x.k269, x.l269, x.a244_34, x.k270, x.l270, ms_r (show 244 ≤ 244 ∧ 244 < 276 by omega), ms_r (show 244 ≤ 245 ∧ 245 < 276 by omega), ms_w (show 244 ≤ 269 ∧ 269 < 276 by omega), ms_w (show 244 ≤ 270 ∧ 270 < 276 by omega), q8, if_false, u1, u2, u3, u4, b1, b2, q1, e5, q2, e1, e2, e3, if_true]
    · have q1 : nI wn ≤ nI i := nI_le (by omega) (by omega)
      refine key 0 0 (if_neg (by omega)) (if_neg (by omega)) ⟨0, ?_⟩
      simp only [x1143_36, x1143_37, x1143_39, x1143_42, x1143_43, x1143_44, x1143_47, x1143_48, x1143_51, x1143_52, x1143_70, x1143_71, x1143_72, x1143_73, x1143_76, x1143_77, x1143_78, x1143_79, x1143_80, x1143_102, x1143_103, x1143_104, x1143_105, x1143_108, x1143_109, x1143_110, x1143_111, x1143_112, x1143_134, x1143_135, hp_k_ms, hp_a_ms, hp_l_ms, x.k244, x.a244_1, x.k245, x.l245, x.a244_33, x.k269, x.l269, x.a244_34, x.k270, x.l270, ms_r (show 244 ≤ 244 ∧ 244 < 276 by omega), ms_r (show 244 ≤ 245 ∧ 245 < 276 by omega), ms_w (show 244 ≤ 269 ∧ 269 < 276 by omega), ms_w (show 244 ≤ 270 ∧ 270 < 276 by omega), q8, if_false, u1, u2, u3, u4, b1, b2, q1, e1, e2, e3, if_true]
theorem op_call {a c r n : Nat} {bI : Int32} (w : IV L h0 h σ A False) (hF : σ 244 29 = nI (F + 1)) (hF12 : F < 12) (ha : a < 8) (hc8 : c < 8) (m0 : σ 244 45 = nI (8 * F)) (m1 : σ 244 46 = nI a) (m2 : σ 244 47 = bI) (m3 : σ 244 48 = nI c) (t1 : σ 266 F = nI r) (hr : r < 10) (t3 : σ 267 F = nI n) (hn : n ≤ 40) (hop : σ 247 (160 * r + 4 * n) = 23) (hca : σ 247 (160 * r + 4 * n + 1) = nI a) :
    ACM L h0 h σ A F 23 330 [.ref 5, .ref (106 + 11 * F), .int bI, .int (nI c)] 1143 [.ref 244, .retAddr 0, .retAddr 0, .retAddr 0] := by
  obtain ⟨⟨ca, ra, hs, sp, cr⟩, gc, gb, gf, hh, hA⟩ := id w
  have X := cr.fx
  have fF : hp_i h 5 7 = nI (F + 1) := (cr.fi _ _ _ _ CMR.frames).trans hF
  obtain ⟨M, M1, M2⟩ := gc.1
  have fM : hp_i h 5 1 = nI M := (cr.fi _ _ _ _ CMR.mcount).trans M1
  have lm := sp_lacksMember (h := h) (m := 5) (n := bI) X.k5
  rw [fM] at lm
  have im : ∀ k, FX L k → pX 1102 0 [.ref 244, .int bI] [] (mset k σ) = some (some (.int (if bI < 0 ∨ nI M ≤ bI then 0 else 1)), mset k σ) := fun k x => sp_isMember (h := mset k σ) (m := bI) (M := M) (by rw [hp_k_ms]; exact x.k244) (by rw [ms_r (by omega)]; exact M1) M2
  have kind : ∀ n : Nat, 1 ≤ n → n ≤ 8 → pX 330 0 [.ref 5, .ref (106 + 11 * F), .int bI, .int (nI c)] [] h = some (some (.int (nI n)), h) → (∀ k, FX L k → pX 1143 0 [.ref 244, .retAddr 0, .retAddr 0, .retAddr 0] [] (mset k σ) = some (some (.int (nI n)), mset k σ)) → ACM L h0 h σ A F 23 330 [.ref 5, .ref (106 + 11 * F), .int bI, .int (nI c)] 1143 [.ref 244, .retAddr 0, .retAddr 0, .retAddr 0] := fun n n1 n8 e1 e2 => ⟨nI n, nI n, h, σ, e1, e2, rfl, fun _ => rfl, Or.inr (Or.inr (Or.inl ⟨n, n1, by omega, rfl, rfl, by omega, w, hF, Nat.le_refl _⟩))⟩
  rcases mem_cases bI M M2 with q | ⟨m, rfl, hm, q⟩
  · refine kind 8 (by omega) (by omega) ?_ (fun k x => ?_)
    · simp only [x330_0, x330_1, x330_2, x330_5, x330_8, x330_10, X.k5, lm, if_pos q, Option.bind_some, Option.toList_some, Option.toList_none, List.singleton_append, List.nil_append, i32_10, if_false]
      rfl
    · simp only [x1143_0, x1143_1, x1143_2, x1143_5, x1143_8, x1143_11, x1143_13, hp_k_ms, x.k244, ms_r (show 244 ≤ 244 ∧ 244 < 276 by omega), m2, im k x, if_pos q, Option.bind_some, Option.toList_some, Option.toList_none, List.singleton_append, List.nil_append, if_true]
      rfl
  · rw [if_neg q] at lm
    by_cases hd : F + 1 = 12
    · have e12 : nI (F + 1) = 12 := by rw [hd]; rfl
      refine kind 7 (by omega) (by omega) ?_ (fun k x => ?_)
      · simp only [x330_0, x330_1, x330_2, x330_5, x330_11, x330_12, x330_15, x330_17, x330_20, x330_22, X.k5, lm, Option.bind_some, Option.toList_some, Option.toList_none, List.singleton_append, List.nil_append, if_true, fF, e12, Int32.lt_irrefl, if_false]
        rfl
      · simp only [x1143_0, x1143_1, x1143_2, x1143_5, x1143_8, x1143_14, x1143_15, x1143_18, x1143_20, x1143_23, x1143_25, hp_k_ms, x.k244, ms_r (show 244 ≤ 244 ∧ 244 < 276 by omega), m2, im k x, if_neg q, Option.bind_some, Option.toList_some, Option.toList_none, List.singleton_append, List.nil_append, i32_10, if_false, hF, e12, if_true]
        rfl
    · have m10 : m < 10 := by omega
      obtain ⟨wn, w1, w2⟩ := (gc.2.1 m m10).1
      have ne12 : ¬ nI (F + 1) = 12 := fun z => hd ((nI_eq (b := 12) (by omega) (by omega)).mp z)
      have lt12 : nI (F + 1) < 12 := nI_lt (b := 12) (by omega) (by omega)
      have f0 : ix (σ 244 29) = F + 1 := by rw [hF]; exact ix_nI (by omega)
      have kf : ∀ b j, ¬ ((b = 269 ∨ b = 270) ∧ 8 * (F + 1) ≤ j ∧ j < 8 * (F + 1) + 8) → flS σ (F + 1) 269 (8 * F) wn c 8 8 b j = σ b j := fun b j z => flS_at z
      have mst : ∀ k, FX L k → ∃ v', pX 1143 0 [.ref 244, .retAddr 0, .retAddr 0, .retAddr 0] [] (mset k σ) = pX 1143 142 [.ref 244, .int (nI (8 * (F + 1))), .int (nI 8), v'] [] (mset k (flS σ (F + 1) 269 (8 * F) wn c 8 8)) := by
        intro k x
        obtain ⟨v', e⟩ := call_loop (σ := σ) (F := F) x (by omega) m2 m10 w1 w2 m3 hc8 m0 8 0 (.retAddr 0) (by omega)
        refine ⟨v', ?_⟩
        rw [← e, flS_0]
        have e8 : (8 : Int32) * nI (F + 1) = nI (8 * (F + 1)) := by rw [show (8 : Int32) = nI 8 from rfl, nI_mul]
        generalize hR : pX 1143 36 [.ref 244, .int (nI (8 * (F + 1))), .int (nI 0), .retAddr 0] [] (mset k σ) = R
        simp only [x1143_0, x1143_1, x1143_2, x1143_5, x1143_8, x1143_14, x1143_15, x1143_18, x1143_20, x1143_26, x1143_28, x1143_29, x1143_32, x1143_33, x1143_34, x1143_35, hp_k_ms, x.k244, ms_r (show 244 ≤ 244 ∧ 244 < 276 by omega), m2, im k x, if_neg q, Option.bind_some, Option.toList_some, Option.toList_none, List.singleton_append, List.nil_append, i32_10, if_false, hF, ne12, e8]
        exact hR
      generalize hτ : flS σ (F + 1) 269 (8 * F) wn c 8 8 = τ at kf mst
      have cτ := cr.agree (σ' := τ) (fun p q z1 z2 z3 => kf p q (fun z => z3 (by unfold dead; omega)))
      have gcτ : GC τ := gc.congr (fun b j h => kf b j (by omega))
      have gbτ : GB τ := gb.congr (fun j h => kf 244 j (by omega))
      have gfτ : GF τ False := gf.congr (fun b j h => kf b j (by omega))
      have hhτ : HH τ A := hh.congr (fun b j h => kf b j (by omega))
      have τ29 : τ 244 29 = nI (F + 1) := by rw [kf _ _ (by omega)]; exact hF
      have τ8 : τ 244 8 = σ 244 8 := kf _ _ (by omega)
      have phτ : PH τ ≤ PH σ := PH.congr (kf _ _ (by omega)) (fun j => kf _ _ (by omega)) (by rw [kf _ _ (by omega)]; exact Nat.le_refl _)
      have τ47 : τ 244 47 = nI m := by rw [kf _ _ (by omega)]; exact m2
      have τ46 : τ 244 46 = nI a := by rw [kf _ _ (by omega)]; exact m1
      have bg := op_begin (F := F + 1) (m := m) (wn := wn) (fi := c) (Ln := 8) (gv := 107 + 11 * F) (xb := 269) (yb := 8 * F) (gs := fun j => 109 + 11 * F + j) (to := nI a) cτ gcτ gbτ gfτ hhτ hA τ29 (by omega) (by rw [kf _ _ (by omega), M1, ix_nI (by omega)]; exact hm) (by rw [kf _ _ (by omega)]; exact w1) w2 hc8 (by omega) (gfτ.2.2.2.1 (by rw [τ29, ix_nI (by omega)]; omega)) (fun _ => by
          rw [show F + 1 - 1 = F by omega, kf 266 _ (by omega), kf 267 _ (by omega), t1, t3, ix_nI (by omega), ix_nI (by omega), kf 247 _ (by omega), kf 247 _ (by omega)]
          exact ⟨hop, hca.symm⟩) (fun g y => ⟨y.frk F hF12, y.frl F hF12, fun j hj => ⟨y.frp F j hF12 hj, y.frs F j hF12 hj⟩⟩) (fun j hj => by unfold chg; omega) (by unfold chg; omega) (Or.inr rfl) (fun j hj => SLP.reg (by rw [τ29, ix_nI (by omega)]; omega) hj) (fun k hk => by
          have k1 : τ 269 (8 * (F + 1) + k) = (if k < wn ∧ c + k < 8 then σ 269 (8 * F + (c + k)) else 0) := by
            rw [← hτ]
            unfold flS
            rw [if_pos (by omega), show 8 * (F + 1) + k - 8 * (F + 1) = k by omega, if_pos rfl]
          have k2 : τ 270 (8 * (F + 1) + k) = (if k < wn ∧ c + k < 8 then σ (269 + 1) (8 * F + (c + k)) else 0) := by
            rw [← hτ]
            unfold flS
            rw [if_pos (by omega), show 8 * (F + 1) + k - 8 * (F + 1) = k by omega, if_neg (show ¬ 270 = 269 by omega)]
          rw [k1, k2]
          by_cases z : k < wn ∧ c + k < 8
          · rw [if_pos z, if_pos z, if_pos z, if_pos z, kf 269 _ (by omega), kf (269 + 1) _ (by omega)]
            exact ⟨rfl, rfl⟩
          · rw [if_neg z, if_neg z, if_neg z, if_neg z]
            exact ⟨rfl, rfl⟩)
      have cst : pX 330 0 [.ref 5, .ref (106 + 11 * F), .int (nI m), .int (nI c)] [] h = pX 330 30 [.ref 5, .ref (106 + 11 * F), .int (nI m), .int (nI c)] [.int (nI c), .ref (107 + 11 * F), .int (nI m), .ref 5] h := by
        simp only [x330_0, x330_1, x330_2, x330_5, x330_11, x330_12, x330_15, x330_17, x330_23, x330_24, x330_25, x330_26, x330_29, X.k5, lm, Option.bind_some, Option.toList_some, Option.toList_none, List.singleton_append, List.nil_append, if_true, fF, lt12, X.fk F hF12, X.fp0 F hF12]
      rcases bg with ⟨z1, z2⟩ | ⟨h', σ', z1, z2, z3, z4, z5, z6, z7⟩
      · refine ⟨-9, 10, h, τ, ?_, fun k x => ?_, τ8, fun j => kf _ _ (by omega), Or.inr (Or.inl ⟨rfl, rfl, ⟨⟨_, _, _, _, cτ⟩, gcτ, gbτ, gfτ, hhτ, hA⟩, τ29, phτ⟩)⟩
        · rw [cst]
          simp only [x330_30, x330_33, x330_40, x330_42, X.k5, z1, Option.bind_some, Option.toList_some, Option.toList_none, List.singleton_append, List.nil_append, if_true]
        · obtain ⟨v', e⟩ := mst k x
          rw [e]
          simp only [x1143_142, x1143_143, x1143_144, x1143_147, x1143_148, x1143_151, x1143_154, x1143_161, x1143_163, hp_k_ms, x.k244, ms_r (show 244 ≤ 244 ∧ 244 < 276 by omega), τ47, τ46, z2 k x, Option.bind_some, Option.toList_some, Option.toList_none, List.singleton_append, List.nil_append, if_true]
      · refine ⟨-1, 0, h', σ', ?_, fun k x => ?_, z6.trans τ8, fun j => (z7 j).trans (kf _ _ (by omega)), Or.inr (Or.inr (Or.inr (Or.inr ⟨rfl, rfl, rfl, z3, z4, by omega, by omega⟩)))⟩
        · rw [cst]
          simp only [x330_30, x330_33, x330_36, x330_37, x330_42, X.k5, z1, Option.bind_some, Option.toList_some, Option.toList_none, List.singleton_append, List.nil_append, i32_10, if_false]
        · obtain ⟨v', e⟩ := mst k x
          rw [e]
          simp only [x1143_142, x1143_143, x1143_144, x1143_147, x1143_148, x1143_151, x1143_154, x1143_157, x1143_158, x1143_163, hp_k_ms, x.k244, ms_r (show 244 ≤ 244 ∧ 244 < 276 by omega), τ47, τ46, z2 k x, Option.bind_some, Option.toList_some, Option.toList_none, List.singleton_append, List.nil_append, i32_10, if_false]
end
