/-! THE CONSTRUCTORS: MarkedSteps -/
/-- the cells 5 to 237, as the machine's constructor leaves them -/
def MC (g : HP) : Prop :=
  (hp_k g 5 = 4 ∧ hp_a g 5 0 = 6 ∧ hp_a g 5 2 = 7 ∧ hp_a g 5 3 = 10 ∧ hp_a g 5 4 = 11 ∧ hp_a g 5 5 = 12 ∧ hp_a g 5 6 = 13 ∧ hp_a g 5 8 = 14 ∧ hp_a g 5 10 = 15 ∧ ∀ j, hp_i g 5 j = 0) ∧
  (hp_k g 6 = 204 ∧ hp_l g 6 = 10 ∧ hp_k g 7 = 7 ∧ hp_a g 7 0 = 8 ∧ hp_a g 7 1 = 9 ∧ (∀ j, hp_i g 7 j = if j = 3 then 6000 else 0) ∧ hp_k g 8 = 100 ∧ hp_l g 8 = 5 ∧ (∀ j, j < 5 → hp_i g 8 j = 1)) ∧
  (hp_k g 9 = 100 ∧ hp_l g 9 = 9 ∧ (∀ j, hp_i g 9 j = 0) ∧ hp_k g 10 = 6 ∧ hp_a g 10 0 = 0 ∧ hp_k g 11 = 100 ∧ hp_l g 11 = 12 ∧ (∀ j, hp_i g 11 j = 0) ∧ hp_k g 12 = 100 ∧ hp_l g 12 = 12 ∧ (∀ j, hp_i g 12 j = 0)) ∧
  (hp_k g 13 = 201 ∧ hp_l g 13 = 12 ∧ hp_k g 14 = 9 ∧ hp_i g 14 0 = -5 ∧ hp_i g 14 1 = 0 ∧ hp_a g 14 2 = 0 ∧ hp_a g 14 3 = 0 ∧ hp_k g 15 = 100 ∧ hp_l g 15 = 100 ∧ (∀ j, hp_i g 15 j = 0)) ∧
  (∀ q, q < 10 → hp_a g 6 q = 16 + 9 * q ∧ MB g (16 + 9 * q)) ∧ (∀ q, q < 12 → hp_a g 13 q = 106 + 11 * q ∧ FB g (106 + 11 * q))
theorem machI {h : HP} (hn : hp_n h = 6) (hk : hp_k h 5 = 4) (hi : ∀ j, hp_i h 5 j = 0) : ∃ g, pX 300 0 [.ref 5, .retAddr 0] [] h = some (none, g) ∧ hp_n g = 238 ∧ hp_s g = hp_s h + 2741 ∧ MC g ∧
    (∀ y, y < 5 → hp_k g y = hp_k h y ∧ hp_l g y = hp_l h y ∧ (∀ j, hp_i g y j = hp_i h y j)) := by
  obtain ⟨A, a1, a2, a3, a4, a5, a6, a7⟩ := machA hn hk
  have kA : hp_k A 5 = 4 := by rw [a4]; simp [hk]
  obtain ⟨B, b1, b2, b3, b4, b5, b6, b7⟩ := machB a2 kA
  have Bk : ∀ y, hp_k B y = _ := fun y => (b4 y).trans (by rw [a4 y])
  have Bl : ∀ y, hp_l B y = _ := fun y => (b5 y).trans (by rw [a5 y])
  have Bi : ∀ y j, hp_i B y j = _ := fun y j => (b6 y j).trans (by rw [a6 y j])
  have Ba : ∀ y j, hp_a B y j = _ := fun y j => (b7 y j).trans (by rw [a7 y j])
  obtain ⟨C, c1, c2, c3, c4, c5⟩ := mem_loop 10 0 B (by omega) (by rw [b2]) (by rw [Bk]; simp [hk]) (by rw [Ba]; simp) (by rw [Bk]; simp) (by rw [Bl]; simp) (fun q hq => absurd hq (by omega))
  obtain ⟨D, d1, d2, d3, d4, d5⟩ := fra_loop 12 0 C (by omega) (by rw [c2]) ((c5 5 (by omega)).1.trans (by rw [Bk]; simp [hk])) (((c5 5 (by omega)).2.2.2 (by omega) 0).trans (by rw [Ba]; simp)) ((c5 6 (by omega)).1.trans (by rw [Bk]; simp)) ((c5 6 (by omega)).2.1.trans (by rw [Bl]; simp)) ((c4 0 (by omega)).1) (((c5 5 (by omega)).2.2.2 (by omega) 6).trans (by rw [Ba]; simp)) ((c5 13 (by omega)).1.trans (by rw [Bk]; simp)) ((c5 13 (by omega)).2.1.trans (by rw [Bl]; simp)) (fun q hq => absurd hq (by omega))
  have Dk : ∀ y, y < 16 → hp_k D y = hp_k B y := fun y hy => (d5 y (by omega)).1.trans (c5 y hy).1
  have Dl : ∀ y, y < 16 → hp_l D y = hp_l B y := fun y hy => (d5 y (by omega)).2.1.trans (c5 y hy).2.1
  have Di : ∀ y j, y < 16 → hp_i D y j = hp_i B y j := fun y j hy => ((d5 y (by omega)).2.2.1 j).trans ((c5 y hy).2.2.1 j)
  have Da : ∀ y j, y < 16 → y ≠ 6 → y ≠ 13 → hp_a D y j = hp_a B y j := fun y j hy h6 h13 => ((d5 y (by omega)).2.2.2 h13 j).trans ((c5 y hy).2.2.2 h6 j)
  refine ⟨D, ?_, d2, by omega, ⟨⟨?_, ?_, ?_, ?_, ?_, ?_, ?_, ?_, ?_, fun j => ?_⟩, ⟨?_, ?_, ?_, ?_, ?_, fun j => ?_, ?_, ?_, fun j hj => ?_⟩, ⟨?_, ?_, fun j => ?_, ?_, ?_, ?_, ?_, fun j => ?_, ?_, ?_, fun j => ?_⟩, ⟨?_, ?_, ?_, ?_, ?_, ?_, ?_, ?_, ?_, fun j => ?_⟩, fun q hq => ?_, d4⟩, fun y hy => ⟨?_, ?_, fun j => ?_⟩⟩
  · rw [a1, b1, c1, ← d1]
    generalize hR : pX 300 108 [.ref 5, .int (nI 0)] [] C = R
    simp only [x300_106, x300_107]
    exact hR
  · rw [Dk _ (by omega), Bk]; simp [hk]
  · rw [Da _ _ (by omega) (by omega) (by omega), Ba]; simp
  · rw [Da _ _ (by omega) (by omega) (by omega), Ba]; simp
  · rw [Da _ _ (by omega) (by omega) (by omega), Ba]; simp
  · rw [Da _ _ (by omega) (by omega) (by omega), Ba]; simp
  · rw [Da _ _ (by omega) (by omega) (by omega), Ba]; simp
  · rw [Da _ _ (by omega) (by omega) (by omega), Ba]; simp
  · rw [Da _ _ (by omega) (by omega) (by omega), Ba]; simp
  · rw [Da _ _ (by omega) (by omega) (by omega), Ba]; simp
  · rw [Di _ _ (by omega), Bi]; simp [hi]
  · rw [Dk _ (by omega), Bk]; simp
  · rw [Dl _ (by omega), Bl]; simp
  · rw [Dk _ (by omega), Bk]; simp
  · rw [Da _ _ (by omega) (by omega) (by omega), Ba]; simp
  · rw [Da _ _ (by omega) (by omega) (by omega), Ba]; simp
  · rw [Di _ _ (by omega), Bi]; simp
  · rw [Dk _ (by omega), Bk]; simp
  · rw [Dl _ (by omega), Bl]; simp
  · rw [Di _ _ (by omega), Bi]
    have : j = 0 ∨ j = 1 ∨ j = 2 ∨ j = 3 ∨ j = 4 := by omega
    rcases this with rfl | rfl | rfl | rfl | rfl <;> simp
  · rw [Dk _ (by omega), Bk]; simp
  · rw [Dl _ (by omega), Bl]; simp
  · rw [Di _ _ (by omega), Bi]; simp
  · rw [Dk _ (by omega), Bk]; simp
  · rw [Da _ _ (by omega) (by omega) (by omega), Ba]; simp
  · rw [Dk _ (by omega), Bk]; simp
  · rw [Dl _ (by omega), Bl]; simp
  · rw [Di _ _ (by omega), Bi]; simp
  · rw [Dk _ (by omega), Bk]; simp
  · rw [Dl _ (by omega), Bl]; simp
  · rw [Di _ _ (by omega), Bi]; simp
  · rw [Dk _ (by omega), Bk]; simp
  · rw [Dl _ (by omega), Bl]; simp
  · rw [Dk _ (by omega), Bk]; simp
  · rw [Di _ _ (by omega), Bi]; simp
  · rw [Di _ _ (by omega), Bi]; simp
  · rw [Da _ _ (by omega) (by omega) (by omega), Ba]; simp
  · rw [Da _ _ (by omega) (by omega) (by omega), Ba]; simp
  · rw [Dk _ (by omega), Bk]; simp
  · rw [Dl _ (by omega), Bl]; simp
  · rw [Di _ _ (by omega), Bi]; simp
  · have s : SE C D 106 13 0 ∨ True := Or.inr trivial
    obtain ⟨e1, e2⟩ := c4 q hq
    refine ⟨((d5 6 (by omega)).2.2.2 (by omega) q).trans e1, ?_⟩
    obtain ⟨w1, w2, w3, w4, w5, w6, w7⟩ := e2
    exact ⟨(d5 _ (by omega)).1.trans w1, fun j h1 h2 => (d5 _ (by omega)).1.trans (w2 j h1 h2), fun j h1 h2 => (d5 _ (by omega)).2.1.trans (w3 j h1 h2), fun j h1 h2 => (d5 _ (by omega)).2.1.trans (w4 j h1 h2), fun j h1 h2 => ((d5 _ (by omega)).2.2.2 (by omega) _).trans (w5 j h1 h2), fun j h1 h2 => ((d5 _ (by omega)).2.2.2 (by omega) _).trans (w6 j h1 h2), fun c j hc => ((d5 _ (by omega)).2.2.1 j).trans (w7 c j hc)⟩
  · have q : ∀ c, 6 ≤ c → ¬ y = c := by intro c hc; omega
    rw [Dk _ (by omega), Bk]; simp only [q 15 (by omega), q 14 (by omega), q 13 (by omega), q 12 (by omega), q 11 (by omega), q 10 (by omega), q 9 (by omega), q 8 (by omega), q 7 (by omega), q 6 (by omega), if_false]
  · have q : ∀ c, 6 ≤ c → ¬ y = c := by intro c hc; omega
    rw [Dl _ (by omega), Bl]; simp only [q 15 (by omega), q 14 (by omega), q 13 (by omega), q 12 (by omega), q 11 (by omega), q 10 (by omega), q 9 (by omega), q 8 (by omega), q 7 (by omega), q 6 (by omega), if_false]
  · have q : ∀ c, 6 ≤ c → ¬ y = c := by intro c hc; omega
    rw [Di _ _ (by omega), Bi]; simp only [q 15 (by omega), q 14 (by omega), q 13 (by omega), q 12 (by omega), q 11 (by omega), q 10 (by omega), q 9 (by omega), q 8 (by omega), q 7 (by omega), q 6 (by omega), if_false, false_and]
/-- the rest of the face's constructor -/
theorem faceB {g : HP} (hn : hp_n g = 238) (hk : hp_k g 4 = 11) : ∃ F, pX 1000 15 [.ref 4, .retAddr 0] [] g = some (none, F) ∧ hp_n F = 244 ∧ hp_s F = hp_s g + 57 ∧
    (∀ y, hp_k F y = if y = 243 then 9 else if y = 242 then 9 else if y = 241 then 9 else if y = 240 then 208 else if y = 239 then 100 else if y = 238 then 10 else hp_k g y) ∧
    (∀ y, hp_l F y = if y = 243 then 0 else if y = 242 then 0 else if y = 241 then 0 else if y = 240 then 3 else if y = 239 then 40 else if y = 238 then 0 else hp_l g y) ∧
    (∀ y j, hp_i F y j = if y = 243 ∧ j = 0 then -5 else if y = 243 then 0 else if y = 242 ∧ j = 0 then -5 else if y = 242 then 0 else if y = 241 ∧ j = 0 then -5 else if y = 241 then 0 else if y = 240 then 0 else if y = 239 then 0 else if y = 238 then 0 else hp_i g y j) ∧
    (∀ y j, hp_a F y j = if y = 240 ∧ j = 2 then 243 else if y = 243 then 0 else if y = 240 ∧ j = 1 then 242 else if y = 242 then 0 else if y = 240 ∧ j = 0 then 241 else if y = 241 then 0 else if y = 4 ∧ j = 2 then 240 else if y = 240 then 0 else if y = 4 ∧ j = 1 then 238 else if y = 238 ∧ j = 0 then 239 else if y = 239 then 0 else if y = 238 then 0 else hp_a g y j) := by
  have e40 : ix (40 : Int32) = 40 := ix_nI (n := 40) (by omega)
  have z40 : (0 : Int32) ≤ 40 := by decide
  have e3 : ix (3 : Int32) = 3 := ix_nI (n := 3) (by omega)
  have z3 : (0 : Int32) ≤ 3 := by decide
  have x0 : ix (0 : Int32) = 0 := ix_nI (n := 0) (by omega)
  have x1 : ix (1 : Int32) = 1 := ix_nI (n := 1) (by omega)
  have x2 : ix (2 : Int32) = 2 := ix_nI (n := 2) (by omega)
  have i0 : inb (0 : Int32) 3 = true := inb_nI (n := 0) (by omega) (by omega)
  have i1 : inb (1 : Int32) 3 = true := inb_nI (n := 1) (by omega) (by omega)
  have i2 : inb (2 : Int32) 3 = true := inb_nI (n := 2) (by omega) (by omega)
  generalize hV : hp_wa (hp_mk (hp_wa (hp_wa (hp_mk (hp_mk g 10 0 2) 100 40 40) 238 0 239) 4 1 238) 208 3 3) 4 2 240 = V
  have Vn : hp_n V = 241 := by rw [← hV]; simp only [hp_n_mk, hp_n_wa, hn]
  have Vs : hp_s V = hp_s g + 45 := by rw [← hV]; simp only [hp_s_mk, hp_s_wa, Nat.add_assoc]
  have Vk : ∀ y, hp_k V y = if y = 240 then 208 else if y = 239 then 100 else if y = 238 then 10 else hp_k g y := by intro y; rw [← hV]; simp only [hp_n_mk, hp_n_wa, hp_k_mk, hp_k_wa, hn]
  have Vl : ∀ y, hp_l V y = if y = 240 then 3 else if y = 239 then 40 else if y = 238 then 0 else hp_l g y := by intro y; rw [← hV]; simp only [hp_n_mk, hp_n_wa, hp_l_mk, hp_l_wa, hn]
  have Vi : ∀ y j, hp_i V y j = if y = 240 then 0 else if y = 239 then 0 else if y = 238 then 0 else hp_i g y j := by intro y j; rw [← hV]; simp only [hp_n_mk, hp_n_wa, hp_i_mk, hp_i_wa, hn]
  have Va : ∀ y j, hp_a V y j = if y = 4 ∧ j = 2 then 240 else if y = 240 then 0 else if y = 4 ∧ j = 1 then 238 else if y = 238 ∧ j = 0 then 239 else if y = 239 then 0 else if y = 238 then 0 else hp_a g y j := by intro y j; rw [← hV]; simp only [hp_n_mk, hp_n_wa, hp_a_mk, hp_a_wa, hn]
  have e1 : pX 1000 15 [.ref 4, .retAddr 0] [] g = pX 1000 36 [.ref 4, .int 0] [] V := by
    simp only [x1000_15, x1000_16, x1000_19, x1000_20, x1000_23, x1000_26, x1000_27, x1000_28, x1000_31, x1000_34, x1000_35, x900_0, x900_1, x900_4, x900_5, x900_7, x900_9, x900_12, e40, z40, e3, z3, show 40 ≤ 134217728 from by omega, show 3 ≤ 134217728 from by omega, show ¬ 238 = 0 from by omega, not_false_eq_true, hn, hp_n_mk, hp_n_wa, hp_k_mk, hp_k_wa, hk, if_true, if_false, Nat.reduceAdd, show ¬ 238 = 239 from by omega, show ¬ 4 = 238 from by omega, show ¬ 4 = 239 from by omega, show ¬ 4 = 240 from by omega, Option.bind_some, Option.toList_some, Option.toList_none, List.singleton_append, List.nil_append, List.cons_append, hV]
  have V4 : hp_k V 4 = 11 := by rw [Vk]; simp [hk]
  have V42 : hp_a V 4 2 = 240 := by rw [Va]; simp
  have V240 : hp_k V 240 = 208 := by rw [Vk]; simp
  have W240 : hp_l V 240 = 3 := by rw [Vl]; simp
  have st : ∀ (x : HP) (q : Nat) (jq jn : Int32), hp_n x = 241 + q → hp_k x 4 = 11 → hp_a x 4 2 = 240 → hp_k x 240 = 208 → hp_l x 240 = 3 → ix jq = q → inb jq 3 = true → ¬ (3 : Int32) ≤ jq → jq + 1 = jn → pX 1000 36 [.ref 4, .int jq] [] x = pX 1000 36 [.ref 4, .int jn] [] (hp_wa (hp_wi (hp_mk x 9 0 4) (241 + q) 0 (-5)) 240 q (241 + q)) := by
    intro x q jq jn xn xk xa x240 xl240 hq1 hq2 hq3 hq4
    have so : pX 800 0 [.ref (241 + q)] [] (hp_mk x 9 0 4) = some (none, hp_wi (hp_mk x 9 0 4) (241 + q) 0 (-5)) := sp_slotI (by rw [hp_k_mk, xn, if_pos rfl]) (by omega)
    have q1 : ¬ 240 = 241 + q := by omega
    generalize hR : pX 1000 36 [.ref 4, .int jn] [] _ = R
    simp only [x1000_36, x1000_37, x1000_38, x1000_41, x1000_42, x1000_45, x1000_46, x1000_49, x1000_50, x1000_53, x1000_54, hq3, if_false, xk, xa, xn, so, hp_k_mk, hp_k_wi, hp_l_mk, hp_l_wi, q1, x240, xl240, hq1, hq2, hq4, if_true, show 200 ≤ 208 from by omega, show 9 + 199 = 208 from rfl, or_true, Option.bind_some, Option.toList_some, Option.toList_none, List.singleton_append, List.nil_append, List.cons_append]
    rw [x1000_57]
    exact hR
  have s1 := st V 0 0 1 (by rw [Vn]) V4 V42 V240 W240 x0 i0 (by decide) (by decide)
  have s2 := st (hp_wa (hp_wi (hp_mk V 9 0 4) 241 0 (-5)) 240 0 241) 1 1 2 (by simp only [hp_n_wa, hp_n_wi, hp_n_mk, Vn]) (by simp only [hp_k_wa, hp_k_wi, hp_k_mk, Vn, V4]; simp) (by simp only [hp_a_wa, hp_a_wi, hp_a_mk, Vn, V42]; simp) (by simp only [hp_k_wa, hp_k_wi, hp_k_mk, Vn, V240]; simp) (by simp only [hp_l_wa, hp_l_wi, hp_l_mk, Vn, W240]; simp) x1 i1 (by decide) (by decide)
  have s3 := st (hp_wa (hp_wi (hp_mk (hp_wa (hp_wi (hp_mk V 9 0 4) 241 0 (-5)) 240 0 241) 9 0 4) 242 0 (-5)) 240 1 242) 2 2 3 (by simp only [hp_n_wa, hp_n_wi, hp_n_mk, Vn]) (by simp only [hp_n_wa, hp_n_wi, hp_n_mk, hp_k_wa, hp_k_wi, hp_k_mk, Vn, V4]; simp) (by simp only [hp_n_wa, hp_n_wi, hp_n_mk, hp_a_wa, hp_a_wi, hp_a_mk, Vn, V42]; simp) (by simp only [hp_n_wa, hp_n_wi, hp_n_mk, hp_k_wa, hp_k_wi, hp_k_mk, Vn, V240]; simp) (by simp only [hp_n_wa, hp_n_wi, hp_n_mk, hp_l_wa, hp_l_wi, hp_l_mk, Vn, W240]; simp) x2 i2 (by decide) (by decide)
  refine ⟨hp_wa (hp_wi (hp_mk (hp_wa (hp_wi (hp_mk (hp_wa (hp_wi (hp_mk V 9 0 4) 241 0 (-5)) 240 0 241) 9 0 4) 242 0 (-5)) 240 1 242) 9 0 4) 243 0 (-5)) 240 2 243, ?_, ?_, ?_, ?_, ?_, ?_, ?_⟩
  · rw [e1]
    refine s1.trans (s2.trans (s3.trans ?_))
    simp only [x1000_36, x1000_37, x1000_38, x1000_60, show (3 : Int32) ≤ 3 from by decide, if_true]
  · simp only [hp_n_mk, hp_n_wa, hp_n_wi, Vn]
  · simp only [hp_s_mk, hp_s_wa, hp_s_wi, Vs, Nat.add_assoc]
  · intro y; simp only [hp_n_mk, hp_n_wa, hp_n_wi, hp_k_mk, hp_k_wa, hp_k_wi, Vn, Vk]
  · intro y; simp only [hp_n_mk, hp_n_wa, hp_n_wi, hp_l_mk, hp_l_wa, hp_l_wi, Vn, Vl]
  · intro y j; simp only [hp_n_mk, hp_n_wa, hp_n_wi, hp_i_mk, hp_i_wa, hp_i_wi, Vn, Vi]
  · intro y j; simp only [hp_n_mk, hp_n_wa, hp_n_wi, hp_a_mk, hp_a_wa, hp_a_wi, Vn, Va]
