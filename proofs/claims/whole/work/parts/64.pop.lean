/-! THE ENGINE, 9: a frame is over -/
/-- one hold is given back -/
def lvS (h : HP) (x : Nat) : HP := hp_wa (hp_wa (hp_wa (hp_wa (hp_wa (hp_wa h (hp_a h x 0) 3 (hp_a h x 3)) x 0 0) x 1 0) x 3 0) x 4 (hp_a h 10 0)) 10 0 x
theorem lvS_a {h : HP} {x y q : Nat} (hx : ¬ x = 10) (hc : ¬ hp_a h x 0 = 10) (hcx : ¬ hp_a h x 0 = x) : hp_a (lvS h x) y q = if y = 10 ∧ q = 0 then x else if y = x ∧ q = 4 then hp_a h 10 0 else if y = x ∧ (q = 0 ∨ q = 1 ∨ q = 3) then 0 else if y = hp_a h x 0 ∧ q = 3 then hp_a h x 3 else hp_a h y q := by
  unfold lvS
  simp only [hp_a_wa]
  by_cases h1 : y = 10 ∧ q = 0
  · rw [if_pos h1, if_pos h1]
  · rw [if_neg h1, if_neg h1]
    by_cases h2 : y = x ∧ q = 4
    · rw [if_pos h2, if_pos h2]
    · rw [if_neg h2, if_neg h2]
      by_cases h3 : y = x ∧ (q = 0 ∨ q = 1 ∨ q = 3)
      · rw [if_pos h3]
        obtain ⟨e, h3⟩ := h3
        rcases h3 with q' | q' | q'
        · rw [if_neg (by omega), if_neg (by omega), if_pos ⟨e, q'⟩]
        · rw [if_neg (by omega), if_pos ⟨e, q'⟩]
        · rw [if_pos ⟨e, q'⟩]
      · rw [if_neg h3, if_neg (by omega), if_neg (by omega), if_neg (by omega)]
theorem lvS_k (h : HP) (x : Nat) : hp_k (lvS h x) = hp_k h := rfl
theorem lvS_i (h : HP) (x : Nat) : hp_i (lvS h x) = hp_i h := rfl
theorem lvF_k : ∀ (l : List Nat) (h : HP), hp_k (l.foldl lvS h) = hp_k h
  | [], _ => rfl
  | x :: l, h => by rw [List.foldl_cons, lvF_k l (lvS h x)]; rfl
theorem lvF_r : ∀ (l : List Nat) (h : HP), hp_i (l.foldl lvS h) = hp_i h ∧ hp_n (l.foldl lvS h) = hp_n h ∧ hp_s (l.foldl lvS h) = hp_s h ∧ hp_l (l.foldl lvS h) = hp_l h
  | [], _ => ⟨rfl, rfl, rfl, rfl⟩
  | x :: l, h => by
    obtain ⟨a, b, c, d⟩ := lvF_r l (lvS h x)
    rw [List.foldl_cons, a, b, c, d]
    exact ⟨rfl, rfl, rfl, rfl⟩
/-- the holds of a chain -/
def lvOk (h : HP) (l : List Nat) : Prop := hp_k h 10 = 6 ∧ ∀ y ∈ l, hp_k h y = 3 ∧ 276 ≤ y ∧ 276 ≤ hp_a h y 0 ∧ hp_k h (hp_a h y 0) = 1
theorem lvOk.ne {h : HP} {l : List Nat} (w : lvOk h l) {y : Nat} (hy : y ∈ l) : ¬ y = 10 ∧ ¬ hp_a h y 0 = 10 ∧ ¬ hp_a h y 0 = y ∧ ¬ hp_a h y 0 = 0 ∧ ¬ y = 0 := by
  obtain ⟨a, b, c, d⟩ := w.2 y hy
  refine ⟨by omega, by omega, fun e => ?_, by omega, by omega⟩
  rw [e] at d
  omega
theorem lv_same {h : HP} {x : Nat} {l : List Nat} (w : lvOk h (x :: l)) {y q : Nat} (hy : ¬ y = x) (hk : ¬ hp_k h y = 1 ∨ ¬ q = 3) (h10 : ¬ (y = 10 ∧ q = 0)) : hp_a (lvS h x) y q = hp_a h y q := by
  obtain ⟨n1, n2, n3, n4, n5⟩ := w.ne (List.mem_cons_self ..)
  obtain ⟨a, b, c, d⟩ := w.2 x (List.mem_cons_self ..)
  rw [lvS_a n1 n2 n3, if_neg h10, if_neg (fun z => hy z.1), if_neg (fun z => hy z.1), if_neg]
  rintro ⟨e, e'⟩
  rcases hk with q' | q'
  · exact q' (by rw [e]; exact d)
  · exact q' e'
theorem lvOk.tail {h : HP} {x : Nat} {l : List Nat} (w : lvOk h (x :: l)) (hd : (x :: l).Nodup) : lvOk (lvS h x) l ∧ ∀ y ∈ l, ∀ q, hp_a (lvS h x) y q = hp_a h y q := by
  rw [List.nodup_cons] at hd
  have e : ∀ y ∈ l, ∀ q, hp_a (lvS h x) y q = hp_a h y q := by
    intro y hy q
    obtain ⟨a, b, c, d⟩ := w.2 y (List.mem_cons_of_mem _ hy)
    exact lv_same w (fun z => hd.1 (z ▸ hy)) (Or.inl (by rw [a]; omega)) (by omega)
  refine ⟨⟨w.1, fun y hy => ?_⟩, e⟩
  obtain ⟨a, b, c, d⟩ := w.2 y (List.mem_cons_of_mem _ hy)
  rw [e y hy, lvS_k]
  exact ⟨a, b, c, d⟩
theorem lv_loop : ∀ (l : List Nat) (h : HP) (x fr : Nat) (v3 : Value), chn (hp_a h) x l → l.Nodup → lvOk h l → ∃ v3', pX 504 5 [.ref 10, .ref fr, .ref x, v3] [] h = pX 504 65 [.ref 10, .ref fr, .ref 0, v3'] [] (l.foldl lvS h)
  | [], h, x, fr, v3, hc, hd, ok => by
    have e : x = 0 := hc
    subst e
    refine ⟨v3, ?_⟩
    rw [x504_5, x504_6, if_pos rfl]
    rfl
  | y :: l, h, x, fr, v3, hc, hd, ok => by
    obtain ⟨rfl, hc⟩ := hc
    obtain ⟨n1, n2, n3, n4, n5⟩ := ok.ne (List.mem_cons_self ..)
    obtain ⟨a, b, c, d⟩ := ok.2 x (List.mem_cons_self ..)
    obtain ⟨ok', eq⟩ := ok.tail hd
    have hd' := (List.nodup_cons.mp hd).2
    obtain ⟨v3', ih⟩ := lv_loop l (lvS h x) (hp_a h x 4) fr (.ref (hp_a h x 4)) (chn.congr (fun z hz => eq z hz 4) hc) hd' ok'
    refine ⟨v3', ?_⟩
    rw [List.foldl_cons, ← ih]
    have n6 : ¬ (10 = x) := fun e => n1 e.symm
    have n7 : ¬ (10 = hp_a h x 0) := fun e => n2 e.symm
    generalize hR : pX 504 5 [.ref 10, .ref fr, .ref (hp_a h x 4), .ref (hp_a h x 4)] [] (lvS h x) = R
    simp only [x504_0, x504_1, x504_4, x504_5, x504_6, x504_9, x504_10, x504_13, x504_14, x504_15, x504_18, x504_21, x504_22, x504_25, x504_26, x504_29, x504_32, x504_33, x504_34, x504_37, x504_38, x504_39, x504_42, x504_43, x504_44, x504_47, x504_48, x504_49, x504_52, x504_55, x504_56, x504_57, x504_60, x504_61, x504_65, x504_66, x504_67, x504_70, x504_71, x504_72, x504_75, n5, if_false, a, n4, d, hp_k_wa, ok.1, hp_a_wa, n6, n7, false_and]
    rw [x504_62]
    exact hR
theorem sp_leaveAll {h : HP} {l : List Nat} {fr : Nat} (k : hp_k h fr = 2) (hc : chn (hp_a h) (hp_a h fr 5) l) (hd : l.Nodup) (ok : lvOk h l) : pX 504 0 [.ref 10, .ref fr, .retAddr 0, .retAddr 0] [] h = some (none, hp_wi (hp_wa (l.foldl lvS h) fr 5 0) fr 6 0) := by
  obtain ⟨v3, e⟩ := lv_loop l h (hp_a h fr 5) fr (.retAddr 0) hc hd ok
  simp only [x504_0, x504_1, x504_4, k]
  rw [e]
  simp only [x504_65, x504_66, x504_67, x504_70, x504_71, x504_72, x504_75, hp_k_wa, lvF_k, k]
theorem lv_facts : ∀ (l : List Nat) (h : HP) (sp : List Nat), l.Nodup → lvOk h l → (∀ x ∈ l, ∀ y ∈ l, hp_a h x 0 = hp_a h y 0 → x = y) → (∀ y ∈ sp, y ∉ l ∧ hp_k h y = 3 ∧ 276 ≤ y) → chn (hp_a h) (hp_a h 10 0) sp →
    (∀ y q, y ∉ l → ¬ (hp_k h y = 1 ∧ q = 3) → ¬ (y = 10 ∧ q = 0) → hp_a (l.foldl lvS h) y q = hp_a h y q) ∧ (∀ x ∈ l, hp_a (l.foldl lvS h) (hp_a h x 0) 3 = hp_a h x 3) ∧ (∀ c, hp_k h c = 1 → (∀ x ∈ l, ¬ hp_a h x 0 = c) → hp_a (l.foldl lvS h) c 3 = hp_a h c 3) ∧ chn (hp_a (l.foldl lvS h)) (hp_a (l.foldl lvS h) 10 0) (l.reverse ++ sp)
  | [], h, sp, _, _, _, _, hc => ⟨fun _ _ _ _ _ => rfl, fun _ hx => (by cases hx), fun _ _ _ => rfl, hc⟩
  | x :: l, h, sp, hd, ok, hu, hsp, hc => by
    obtain ⟨n1, n2, n3, n4, n5⟩ := ok.ne (List.mem_cons_self ..)
    obtain ⟨a, b, c, d⟩ := ok.2 x (List.mem_cons_self ..)
    obtain ⟨ok', eq⟩ := ok.tail hd
    have hd2 := List.nodup_cons.mp hd
    have e10 : hp_a (lvS h x) 10 0 = x := by rw [lvS_a n1 n2 n3, if_pos ⟨rfl, rfl⟩]
    have e4 : hp_a (lvS h x) x 4 = hp_a h 10 0 := by rw [lvS_a n1 n2 n3, if_neg (by omega), if_pos ⟨rfl, rfl⟩]
    have ec : hp_a (lvS h x) (hp_a h x 0) 3 = hp_a h x 3 := by rw [lvS_a n1 n2 n3, if_neg (by omega), if_neg (by omega), if_neg (fun z => n3 z.1), if_pos ⟨rfl, rfl⟩]
    have esp : ∀ y ∈ sp, ∀ q, hp_a (lvS h x) y q = hp_a h y q := by
      intro y hy q
      obtain ⟨s1, s2, s3⟩ := hsp y hy
      exact lv_same ok (fun e => s1 (by rw [e]; exact List.mem_cons_self ..)) (Or.inl (by rw [s2]; omega)) (by omega)
    obtain ⟨f1, f2, f3, f4⟩ := lv_facts l (lvS h x) (x :: sp) hd2.2 ok' (fun y hy z hz e => hu y (List.mem_cons_of_mem _ hy) z (List.mem_cons_of_mem _ hz) (by rw [← eq y hy, ← eq z hz]; exact e)) (fun y hy => by
      rcases List.mem_cons.mp hy with e | e
      · rw [e]; exact ⟨hd2.1, a, b⟩
      · obtain ⟨s1, s2, s3⟩ := hsp y e
        exact ⟨fun z => s1 (List.mem_cons_of_mem _ z), s2, s3⟩) ⟨e10, by rw [e4]; exact chn.congr (fun y hy => esp y hy 4) hc⟩
    rw [List.foldl_cons]
    refine ⟨fun y q hy h1 h2 => ?_, fun y hy => ?_, fun c' hc' hn => ?_, ?_⟩
    · rw [f1 y q (fun z => hy (List.mem_cons_of_mem _ z)) h1 h2]
      refine lv_same ok (fun z => hy (by rw [z]; exact List.mem_cons_self ..)) ?_ h2
      by_cases q3 : q = 3
      · exact Or.inl (fun z => h1 ⟨z, q3⟩)
      · exact Or.inr q3
    · rcases List.mem_cons.mp hy with e | e
      · rw [e, f3 (hp_a h x 0) d (fun z hz ee => ?_), ec]
        rw [eq z hz] at ee
        have := hu z (List.mem_cons_of_mem _ hz) x (List.mem_cons_self ..) ee
        exact hd2.1 (this ▸ hz)
      · have := f2 y e
        rw [eq y e, eq y e] at this
        exact this
    · rw [f3 c' hc' (fun z hz => by rw [eq z hz]; exact hn z (List.mem_cons_of_mem _ hz))]
      rw [lvS_a n1 n2 n3, if_neg (by omega), if_neg (by omega), if_neg (fun z => by rw [z.1] at hc'; omega), if_neg]
      rintro ⟨e, -⟩
      exact hn x (List.mem_cons_self ..) e.symm
    · rw [List.reverse_cons, List.append_assoc]
      exact f4
/-! the model's release -/
def relL (σ : SM) (F i : Nat) : SM := fun b j => if b = 261 ∧ j < i then σ 261 j - σ 272 (6000 * F + j) else if b = 272 ∧ 6000 * F ≤ j ∧ j < 6000 * F + i then 0 else σ b j
def relS (σ : SM) (F : Nat) : SM := fun b j => if b = 261 ∧ j < ix (σ 244 17) then σ 261 j - σ 272 (6000 * F + j) else if b = 272 ∧ 6000 * F ≤ j ∧ j < 6000 * F + ix (σ 244 17) then 0 else if b = 271 ∧ j = F then 0 else if b = 273 ∧ j = 8 then σ 273 8 + σ 271 F else σ b j
theorem relL_0 (σ : SM) (F : Nat) : relL σ F 0 = σ := by
  funext b j
  unfold relL
  rw [if_neg (by omega), if_neg (by omega)]
theorem relL_s (σ : SM) (F i : Nat) : hp_u (hp_u (relL σ F i) 261 i (σ 261 i - σ 272 (6000 * F + i))) 272 (6000 * F + i) 0 = relL σ F (i + 1) := by
  funext b j
  unfold hp_u relL
  by_cases h1 : b = 272 ∧ j = 6000 * F + i
  · rw [if_pos h1, if_neg (by omega), if_pos (by omega)]
  · rw [if_neg h1]
    by_cases h2 : b = 261 ∧ j = i
    · rw [if_pos h2, if_pos (by omega), h2.2]
    · rw [if_neg h2]
      by_cases h3 : b = 261 ∧ j < i
      · rw [if_pos h3, if_pos (by omega)]
      · rw [if_neg h3, if_neg (show ¬ (b = 261 ∧ j < i + 1) by omega)]
        by_cases h4 : b = 272 ∧ 6000 * F ≤ j ∧ j < 6000 * F + i
        · rw [if_pos h4, if_pos (by omega)]
        · rw [if_neg h4, if_neg (by omega)]
theorem rel_loop {L : Nat} {k : HP} {F C : Nat} (x : FX L k) (hF : F < 12) (hC : C ≤ 6000) : ∀ (n i : Nat) (σ : SM), i + n = C → σ 244 17 = nI C → pX 1124 27 [.ref 244, .int (nI F), .int (nI i)] [] (mset k (relL σ F i)) = pX 1124 75 [.ref 244, .int (nI F), .int (nI C)] [] (mset k (relL σ F C)) := by
  intro n
  induction n with
  | zero =>
    intro i σ hi c
    obtain rfl : i = C := by omega
    have c' : relL σ F i 244 17 = nI i := by
      unfold relL
      rw [if_neg (by omega), if_neg (by omega)]; exact c
    simp only [x1124_27, x1124_28, x1124_29, x1124_32, hp_k_ms, x.k244, ms_r (show 244 ≤ 244 ∧ 244 < 276 by omega), c', Int32.le_refl, if_true]
  | succ n ih =>
    intro i σ hi c
    have c' : relL σ F i 244 17 = nI C := by
      unfold relL
      rw [if_neg (by omega), if_neg (by omega)]; exact c
    have q : ¬ nI C ≤ nI i := nI_nle2 (by omega) (by omega)
    have e1 : inb (nI i) 6000 = true := inb_nI (by omega) (by omega)
    have e2 : ix (nI i) = i := ix_nI (by omega)
    have e3 : (6000 : Int32) * nI F + nI i = nI (6000 * F + i) := by rw [show (6000 : Int32) = nI 6000 from rfl, nI_mul, nI_add]
    have e4 : inb (nI (6000 * F + i)) 72000 = true := inb_nI (by omega) (by omega)
    have e5 : ix (nI (6000 * F + i)) = 6000 * F + i := ix_nI (by omega)
    have r1 : relL σ F i 261 i = σ 261 i := by
      unfold relL
      rw [if_neg (by omega), if_neg (by omega)]
    have r2 : relL σ F i 272 (6000 * F + i) = σ 272 (6000 * F + i) := by
      unfold relL
      rw [if_neg (by omega), if_neg (by omega)]
    rw [← ih (i + 1) σ (by omega) c, ← relL_s]
    generalize hR : pX 1124 27 [.ref 244, .int (nI F), .int (nI (i + 1))] [] (mset k (hp_u (hp_u (relL σ F i) 261 i (σ 261 i - σ 272 (6000 * F + i))) 272 (6000 * F + i) 0)) = R
    simp only [x1124_0, x1124_1, x1124_4, x1124_5, x1124_6, x1124_9, x1124_10, x1124_13, x1124_15, x1124_16, x1124_17, x1124_18, x1124_21, x1124_22, x1124_23, x1124_24, x1124_25, x1124_26, x1124_27, x1124_28, x1124_29, x1124_32, x1124_35, x1124_36, x1124_39, x1124_40, x1124_41, x1124_42, x1124_43, x1124_46, x1124_49, x1124_50, x1124_51, x1124_52, x1124_53, x1124_54, x1124_55, x1124_56, x1124_57, x1124_60, x1124_63, x1124_64, x1124_65, x1124_66, x1124_67, x1124_68, x1124_69, x1124_75, x1124_76, x1124_79, x1124_80, x1124_81, x1124_82, hp_k_ms, hp_l_ms, hp_a_ms, x.k244, x.a244_22, x.k261, x.l261, x.a244_36, x.k272, x.l272, ms_r (show 244 ≤ 244 ∧ 244 < 276 by omega), ms_r (show 244 ≤ 261 ∧ 261 < 276 by omega), ms_r (show 244 ≤ 272 ∧ 272 < 276 by omega), ms_w (show 244 ≤ 261 ∧ 261 < 276 by omega), ms_w (show 244 ≤ 272 ∧ 272 < 276 by omega), c', q, if_false, e1, e2, e3, e4, e5, r1, r2, nI_1, hu_cell (f := relL σ F i) (a := 261) (b := 272) (k := i) (j := 6000 * F + i) (by omega)]
    rw [x1124_72]
    exact hR
theorem sp_release {L : Nat} {k : HP} {σ : SM} {F C : Nat} (x : FX L k) (hF : F < 12) (hC : σ 244 17 = nI C) (hC6 : C ≤ 6000) (hz : σ 271 F ≤ 0 → σ 271 F = 0 ∧ ∀ j, j < C → σ 272 (6000 * F + j) = 0) : pX 1124 0 [.ref 244, .int (nI F), .retAddr 0] [] (mset k σ) = some (none, mset k (relS σ F)) := by
  have e1 : inb (nI F) 12 = true := inb_nI (by omega) (by omega)
  have e2 : ix (nI F) = F := ix_nI (by omega)
  have cx : ix (σ 244 17) = C := by rw [hC]; exact ix_nI (by omega)
  have i8 : inb 8 9 = true := inb_lit (by decide) (by decide)
  have i9 : ix 8 = 8 := ix_lit (by decide)
  by_cases q : σ 271 F ≤ 0
  · obtain ⟨z1, z2⟩ := hz q
    have e : relS σ F = σ := by
      funext b j
      unfold relS
      rw [cx]
      by_cases h1 : b = 261 ∧ j < C
      · rw [if_pos h1, z2 j h1.2, h1.1, Int32.sub_zero]
      · rw [if_neg h1]
        by_cases h2 : b = 272 ∧ 6000 * F ≤ j ∧ j < 6000 * F + C
        · rw [if_pos h2, h2.1]
          have := z2 (j - 6000 * F) (by omega)
          rw [show 6000 * F + (j - 6000 * F) = j by omega] at this
          exact this.symm
        · rw [if_neg h2]
          by_cases h3 : b = 271 ∧ j = F
          · rw [if_pos h3, h3.1, h3.2, z1]
          · rw [if_neg h3]
            by_cases h4 : b = 273 ∧ j = 8
            · rw [if_pos h4, h4.1, h4.2, z1, Int32.add_zero]
            · rw [if_neg h4]
    rw [e]
    simp only [x1124_0, x1124_1, x1124_4, x1124_5, x1124_6, x1124_82, hp_k_ms, hp_l_ms, hp_a_ms, x.k244, x.a244_35, x.k271, x.l271, ms_r (show 244 ≤ 271 ∧ 271 < 276 by omega), e1, e2, q, if_true]
  · have c1 : hp_u σ 273 8 (σ 273 8 + σ 271 F) 244 17 = nI C := by rw [hu_cell (by omega)]; exact hC
    have lo := rel_loop x hF hC6 C 0 (hp_u σ 273 8 (σ 273 8 + σ 271 F)) (by omega) c1
    rw [relL_0, show nI 0 = 0 from rfl] at lo
    have fin : hp_u (relL (hp_u σ 273 8 (σ 273 8 + σ 271 F)) F C) 271 F 0 = relS σ F := by
      funext b j
      unfold relS relL
      rw [cx]
      simp only [hu_at]
      by_cases h1 : b = 261 ∧ j < C
      · rw [if_neg (by omega), if_pos h1, if_pos h1, if_neg (by omega), if_neg (by omega)]
      · rw [if_neg h1, if_neg h1]
        by_cases h2 : b = 272 ∧ 6000 * F ≤ j ∧ j < 6000 * F + C
        · rw [if_neg (by omega), if_pos h2, if_pos h2]
        · rw [if_neg h2, if_neg h2]
    rw [← fin]
    simp only [x1124_0, x1124_1, x1124_4, x1124_5, x1124_6, x1124_9, x1124_10, x1124_13, x1124_15, x1124_16, x1124_17, x1124_18, x1124_21, x1124_22, x1124_23, x1124_24, x1124_25, x1124_26, hp_k_ms, hp_l_ms, hp_a_ms, x.k244, x.a244_35, x.k271, x.l271, x.a244_39, x.k273, x.l273, ms_r (show 244 ≤ 271 ∧ 271 < 276 by omega), ms_r (show 244 ≤ 273 ∧ 273 < 276 by omega), ms_w (show 244 ≤ 273 ∧ 273 < 276 by omega), e1, e2, i8, i9, q, if_false]
    rw [lo]
    simp only [x1124_75, x1124_76, x1124_79, x1124_80, x1124_81, x1124_82, hp_k_ms, hp_l_ms, hp_a_ms, x.k244, x.a244_35, x.k271, x.l271, ms_w (show 244 ≤ 271 ∧ 271 < 276 by omega), e1, e2]
