/-! THE ENGINE, 20: what an act may bring; jumps -/
/-- v, v': what class and model answer; F: the latest frame; B, u: what was left, and whether it is a walk -/
def AC (L : Nat) (h0 : HP) (A B : Nat) (u : Int32) (cd : Nat → Int32) (F : Nat) (op v v' : Int32) (h' : HP) (σ' : SM) : Prop :=
  σ' 244 8 = u ∧ (∀ j, σ' 247 j = cd j) ∧
  ((v = 0 ∧ v' = 0 ∧ ¬ op = 23 ∧ ∃ A', IV L h0 h' σ' A' False ∧ σ' 244 29 = nI (F + 1) ∧ A' + PH σ' ≤ A + B + 1 ∧ PH σ' ≤ B) ∨
   (v = -9 ∧ v' = 10 ∧ IV L h0 h' σ' A False ∧ σ' 244 29 = nI (F + 1) ∧ PH σ' ≤ B) ∨
   (∃ n : Nat, 1 ≤ n ∧ n ≤ 9 ∧ v = nI n ∧ v' = nI n ∧ (n = 9 → σ' 244 42 = hp_i h' 5 9) ∧ IV L h0 h' σ' A False ∧ σ' 244 29 = nI (F + 1) ∧ PH σ' ≤ B) ∨
   (v = -1 ∧ v' = 0 ∧ ¬ op = 23 ∧ ∃ to : Nat, σ' 267 F = nI to - 1 ∧ IV L h0 h' (hp_u σ' 267 F (nI to)) A True ∧ σ' 244 29 = nI (F + 1) ∧ PH (hp_u σ' 267 F (nI to)) + 1 ≤ B) ∨
   (v = -1 ∧ v' = 0 ∧ op = 23 ∧ IV L h0 h' σ' A True ∧ σ' 244 29 = nI (F + 2) ∧ F + 2 ≤ 12 ∧ PH σ' + 1 ≤ B))
/-- an act, by the methods that do it -/
def ACM (L : Nat) (h0 h : HP) (σ : SM) (A F : Nat) (op : Int32) (m1 : Nat) (l1 : List Value) (m2 : Nat) (l2 : List Value) : Prop := ∃ v v' h' σ', pX m1 0 l1 [] h = some (some (.int v), h') ∧ (∀ k, FX L k → pX m2 0 l2 [] (mset k σ) = some (some (.int v'), mset k σ')) ∧ AC L h0 A (PH σ) (σ 244 8) (σ 247) F op v v' h' σ'
section
variable {L : Nat} {h0 h : HP} {σ : SM} {A F : Nat} {op : Int32} {m1 m2 : Nat} {l1 l2 : List Value}
theorem SO.iv {h' : HP} {σ' : SM} (s : SO σ σ') (w : IV L h0 h σ A False) (c : ∃ ca ra hs sp, CR L h0 h' σ' ca ra hs sp) : IV L h0 h' σ' A False := by
  obtain ⟨_, gc, gb, gf, hh, hA⟩ := w
  exact ⟨c, s.gc gc, s.2.1, s.gf gf, s.hh hh, hA⟩
theorem LKS.ac (w : IV L h0 h σ A False) (hF : σ 244 29 = nI (F + 1)) (ho : ¬ op = 23) (k : LKS L h0 h σ m1 l1 m2 l2) : ACM L h0 h σ A F op m1 l1 m2 l2 := by
  obtain ⟨v, v', h', σ', e1, e2, c, s, o⟩ := k
  have iv := s.iv w c
  have s29 : σ' 244 29 = nI (F + 1) := by rw [s.1 _ _ (by unfold hard; omega)]; exact hF
  have ph := s.ph
  refine ⟨v, v', h', σ', e1, e2, s.1 _ _ (by unfold hard; omega), fun j => s.1 _ _ (by unfold hard; omega), ?_⟩
  rcases o with ⟨o1, o2⟩ | ⟨o1, o2⟩ | ⟨n, o1, o2, o3, o4, o5⟩
  · exact Or.inl ⟨o1, o2, ho, A, iv, s29, by omega, ph⟩
  · exact Or.inr (Or.inl ⟨o1, o2, iv, s29, ph⟩)
  · exact Or.inr (Or.inr (Or.inl ⟨n, o1, o2, o3, o4, o5, iv, s29, ph⟩))
theorem op_goes {to : Nat} (w : IV L h0 h σ A False) (hF : σ 244 29 = nI (F + 1)) (hF12 : F < 12) (ho : ¬ op = 23) (hto : to ≤ 40) : ACM L h0 h σ A F op 318 [.ref 5, .ref (106 + 11 * F), .int (nI to)] 1134 [.ref 244, .int (nI to), .retAddr 0] := by
  obtain ⟨r, n, a, t1, t2, t3, t4, t5, t6, t7, t8⟩ := w.top hF hF12
  have t7 := t7 id
  obtain ⟨⟨ca, ra, hs, sp, c⟩, gc, gb, gf, hh, hA⟩ := id w
  have X := c.fx
  have gp := gc.2.2.2.2
  have fr := (c.frm (f := F) (by omega)).2
  rw [t3] at fr
  have rM : r < ix (σ 244 0) := by
    obtain ⟨r', n', x1, x2, x3, x4, x5⟩ := gf.2.1 F (by omega)
    rw [t1] at x1
    have : r = r' := (nI_eq (by omega) (by
      obtain ⟨M, m1, m2⟩ := gc.1
      rw [m1, ix_nI (by omega)] at x2
      omega)).mp x1
    omega
  have n8 : nI (F + 1) - 1 = nI F := nI_pred F
  have b3 : inb (nI F) 12 = true := inb_nI (by omega) (by omega)
  have b4 : ix (nI F) = F := ix_nI (by omega)
  -- behind the paying
  have fin : ∀ (g : HP) (τ : SM), CR L h0 g τ ca ra hs sp → SO σ τ → (n < to ∨ ix (τ 244 38) + 1 ≤ ix (σ 244 38)) → pX 318 0 [.ref 5, .ref (106 + 11 * F), .int (nI to)] [] h = pX 318 22 [.ref 5, .ref (106 + 11 * F), .int (nI to)] [] g → (∀ k, FX L k → pX 1134 0 [.ref 244, .int (nI to), .retAddr 0] [] (mset k σ) = pX 1134 44 [.ref 244, .int (nI to), .int (nI F)] [] (mset k τ)) → ACM L h0 h σ A F op 318 [.ref 5, .ref (106 + 11 * F), .int (nI to)] 1134 [.ref 244, .int (nI to), .retAddr 0] := by
    intro g τ cg so hb e1 e2
    have τ29 : τ 244 29 = nI (F + 1) := by rw [so.1 _ _ (by unfold hard; omega)]; exact hF
    have c2 := cg.at (f := F) (V := nI to) (by rw [τ29, ix_nI (by omega)]; omega)
    have eu : hp_u (hp_u τ 267 F (nI to - 1)) 267 F (nI to) = hp_u τ 267 F (nI to) := by
      funext b j
      simp only [hu_at]
      by_cases q : b = 267 ∧ j = F
      · rw [if_pos q, if_pos q]
      · rw [if_neg q, if_neg q, if_neg q]
    refine ⟨-1, 0, hp_wi g (106 + 11 * F) 4 (nI to), hp_u τ 267 F (nI to - 1), ?_, fun k x => ?_, ?_, fun j => ?_, Or.inr (Or.inr (Or.inr (Or.inl ⟨rfl, rfl, ho, to, hu_same, ?_, ?_, ?_⟩)))⟩
    · rw [e1]
      simp only [x318_22, x318_23, x318_24, x318_27, x318_28, cg.fx.fk F hF12]
    · rw [e2 k x]
      simp only [x1134_44, x1134_45, x1134_48, x1134_49, x1134_50, x1134_51, x1134_52, x1134_53, x1134_54, hp_k_ms, hp_a_ms, hp_l_ms, x.k244, x.a244_31, x.k267, x.l267, ms_w (show 244 ≤ 267 ∧ 267 < 276 by omega), b3, b4]
    · rw [hu_cell (by omega)]; exact so.1 _ _ (by unfold hard; omega)
    · rw [hu_cell (by omega)]; exact so.1 _ _ (by unfold hard; omega)
    · rw [eu]
      exact ⟨⟨_, _, _, _, c2⟩, (so.gc gc).congr (fun b j h => hu_cell (by omega)), so.2.1.congr (fun j h => hu_cell (by omega)), (so.gf gf).go τ29 hF12 (by rw [so.1 _ _ (by unfold hard; omega)]; exact t1) t2 (by rw [so.1 _ _ (by unfold hard; omega)]; exact rM) hto, (so.hh hh).congr (fun b j h => hu_cell (by omega)), hA⟩
    · rw [hu_cell (by omega)]; exact τ29
    · rw [eu]
      have pg := PH.go (σ := τ) (V := nI to) τ29 hF12
      rw [so.1 267 F (by unfold hard; omega), t3, ix_nI (by omega), ix_nI (by omega)] at pg
      have pp := so.ph
      rcases hb with hb | hb
      · omega
      · have e2 : PH τ + 82 ≤ PH σ := by
          unfold PH
          have a7 : ∀ j, τ 267 j = σ 267 j := fun j => so.1 _ _ (by unfold hard; omega)
          simp only [a7, τ29, hF]
          omega
        omega
  by_cases q : n < to
  · have q1 : nI n < nI to := nI_lt q (by omega)
    refine fin h σ c (SO.refl gb) (Or.inl q) ?_ (fun k x => ?_)
    · simp only [x318_0, x318_1, x318_2, x318_5, X.fk F hF12, fr, q1, if_true]
    · simp only [x1134_0, x1134_1, x1134_4, x1134_5, x1134_6, x1134_7, x1134_8, x1134_9, x1134_12, x1134_13, x1134_14, hp_k_ms, hp_a_ms, hp_l_ms, x.k244, x.a244_31, x.k267, x.l267, ms_r (show 244 ≤ 244 ∧ 244 < 276 by omega), ms_r (show 244 ≤ 267 ∧ 267 < 276 by omega), hF, n8, b3, b4, t3, q1, if_true]
  · have q1 : ¬ nI n < nI to := nI_nlt (by omega) (by omega)
    have i1 : inb 1 5 = true := inb_lit (by decide) (by decide)
    have j1 : ix 1 = 1 := ix_lit (by decide)
    have i2 : inb 2 9 = true := inb_lit (by decide) (by decide)
    have j2 : ix 2 = 2 := ix_lit (by decide)
    rcases c.pays gb gp (q := 1) (by omega) with ⟨p1, p2⟩ | ⟨h1, σ1, σ2, p1, p2, p3, p4, p5, p6, p7⟩
    · rw [show nI 1 = 1 from rfl] at p1
      refine ⟨-9, 10, h, σ, ?_, fun k x => ?_, rfl, fun _ => rfl, Or.inr (Or.inl ⟨rfl, rfl, w, hF, Nat.le_refl _⟩)⟩
      · simp only [x318_0, x318_1, x318_2, x318_5, x318_8, x318_9, x318_12, x318_13, x318_16, x318_19, x318_21, X.fk F hF12, fr, q1, if_false, X.k5, X.a5_2, X.k7, p1, Option.bind_some, Option.toList_some, Option.toList_none, List.singleton_append, List.nil_append, if_true]
      · simp only [x1134_0, x1134_1, x1134_4, x1134_5, x1134_6, x1134_7, x1134_8, x1134_9, x1134_12, x1134_13, x1134_14, x1134_17, x1134_18, x1134_19, x1134_22, x1134_23, x1134_24, x1134_25, x1134_28, x1134_31, x1134_33, hp_k_ms, hp_a_ms, hp_l_ms, x.k244, x.a244_31, x.k267, x.l267, x.a244_7, x.k251, x.l251, ms_r (show 244 ≤ 244 ∧ 244 < 276 by omega), ms_r (show 244 ≤ 267 ∧ 267 < 276 by omega), ms_r (show 244 ≤ 251 ∧ 251 < 276 by omega), hF, n8, b3, b4, t3, q1, if_false, i1, j1, p2 k x, Option.bind_some, Option.toList_some, Option.toList_none, List.singleton_append, List.nil_append, if_true]
    · rw [show nI 1 = 1 from rfl] at p1
      refine fin h1 σ2 p4 p5 (Or.inr p6) ?_ (fun k x => ?_)
      · simp only [x318_0, x318_1, x318_2, x318_5, x318_8, x318_9, x318_12, x318_13, x318_16, X.fk F hF12, fr, q1, if_false, X.k5, X.a5_2, X.k7, p1, Option.bind_some, Option.toList_some, Option.toList_none, List.singleton_append, List.nil_append, i32_10]
      · rw [p3]
        simp only [x1134_0, x1134_1, x1134_4, x1134_5, x1134_6, x1134_7, x1134_8, x1134_9, x1134_12, x1134_13, x1134_14, x1134_17, x1134_18, x1134_19, x1134_22, x1134_23, x1134_24, x1134_25, x1134_28, x1134_34, x1134_35, x1134_38, x1134_39, x1134_40, x1134_41, x1134_42, x1134_43, hp_k_ms, hp_a_ms, hp_l_ms, x.k244, x.a244_31, x.k267, x.l267, x.a244_7, x.k251, x.l251, x.a244_39, x.k273, x.l273, ms_r (show 244 ≤ 244 ∧ 244 < 276 by omega), ms_r (show 244 ≤ 267 ∧ 267 < 276 by omega), ms_r (show 244 ≤ 251 ∧ 251 < 276 by omega), ms_r (show 244 ≤ 273 ∧ 273 < 276 by omega), ms_w (show 244 ≤ 273 ∧ 273 < 276 by omega), hF, n8, b3, b4, t3, q1, if_false, i1, j1, i2, j2, p2 k x, Option.bind_some, Option.toList_some, Option.toList_none, List.singleton_append, List.nil_append, i32_10]
theorem op_branch {a to : Nat} (w : IV L h0 h σ A False) (hF : σ 244 29 = nI (F + 1)) (hF12 : F < 12) (ho : ¬ op = 23) (ha : a < 8) (hto : to ≤ 40) (m0 : σ 244 45 = nI (8 * F)) (m1 : σ 244 46 = nI a) (m2 : σ 244 47 = nI to) : ACM L h0 h σ A F op 319 [.ref 5, .ref (106 + 11 * F), .ref (109 + 11 * F + a), .int (nI to), .retAddr 0] 1148 [.ref 244, .retAddr 0] := by
  obtain ⟨v, v', h', σ', g1, g2, g3⟩ := op_goes (op := op) (to := to) w hF hF12 ho hto
  obtain ⟨⟨ca, ra, hs, sp, c⟩, gc, gb, gf, hh, hA⟩ := id w
  have X := c.fx
  have f0 : ix (σ 244 29) = F + 1 := by rw [hF]; exact ix_nI (by omega)
  have ka := c.rk hF12 ha
  have ta := c.reg (f := F) (by omega) ha
  have mn := c.misN ka ta
  by_cases q2 : agV (σ 269 (8 * F + a)) 1 = 0
  · rw [agV_1.mp q2] at ta
    have b1 := ta.num.2
    generalize hV : σ 270 (8 * F + a) = V at b1
    by_cases q3 : V = 0
    · refine LKS.ac w hF ho (LKS.done c (SO.refl gb) ?_ (fun k x => ?_))
      · simp [x319_0, x319_1, x319_4, x319_6, x319_8, x319_11, x319_13, x319_14, x319_15, x319_18, x319_21, x319_22, x319_23, x319_24, x319_27, x319_30, x319_31, ka, mn, q2, b1, q3]
      · simp [x1148_0, x1148_1, x1148_2, x1148_5, x1148_6, x1148_9, x1148_10, x1148_11, x1148_14, x1148_15, x1148_18, x1148_19, x1148_20, x1148_23, x1148_26, x1148_29, x1148_30, x1148_31, x1148_34, x1148_37, x1148_40, x1148_41, hp_k_ms, hp_i_ms, x.k244, m1, sp_against x m0 hF12 ha, q2, sp_value x m0 hF12 ha, hV, q3]
    · refine ⟨v, v', h', σ', ?_, fun k x => ?_, g3⟩
      · simp [x319_0, x319_1, x319_4, x319_6, x319_8, x319_11, x319_13, x319_14, x319_15, x319_18, x319_21, x319_22, x319_23, x319_24, x319_27, x319_30, x319_31, ka, mn, q2, b1, q3, X.k5, g1]
      · simp [x1148_0, x1148_1, x1148_2, x1148_5, x1148_6, x1148_9, x1148_10, x1148_11, x1148_14, x1148_15, x1148_18, x1148_19, x1148_20, x1148_23, x1148_26, x1148_29, x1148_30, x1148_31, x1148_34, x1148_37, x1148_40, x1148_41, hp_k_ms, hp_i_ms, x.k244, m1, m2, sp_against x m0 hF12 ha, q2, sp_value x m0 hF12 ha, hV, q3, g2 k x]
  · refine LKS.ac w hF ho (LKS.ag _ 1 q2 c gb ?_ (fun k x => ?_))
    · simp [x319_0, x319_1, x319_4, x319_6, x319_8, x319_11, x319_13, x319_14, x319_15, x319_18, x319_21, x319_22, x319_23, x319_24, x319_27, x319_30, x319_31, ka, mn, q2]
    · simp [x1148_0, x1148_1, x1148_2, x1148_5, x1148_6, x1148_9, x1148_10, x1148_11, x1148_14, x1148_15, x1148_18, x1148_19, x1148_20, x1148_23, x1148_26, x1148_29, x1148_30, x1148_31, x1148_34, x1148_37, x1148_40, x1148_41, hp_k_ms, hp_i_ms, x.k244, m1, sp_against x m0 hF12 ha, q2, agV_p]
end
