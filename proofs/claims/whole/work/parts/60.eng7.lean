/-! THE ENGINE, 7: row -/
theorem i64_3 {x y z : Int64} {X Y Z : Nat} (hx : x.toInt = X) (hy : y.toInt = Y) (hz : z.toInt = Z) (hX : X ≤ 9) (hY : Y ≤ 9) (hZ : Z < 2147483648) : (x + y * z).toInt = (X + Y * Z : Nat) := by
  have e1 : (Y : Int) * (Z : Int) = ((Y * Z : Nat) : Int) := (Int.natCast_mul Y Z).symm
  have e2 : Y * Z ≤ 9 * Z := Nat.mul_le_mul_right Z hY
  rw [Int64.toInt_add, Int64.toInt_mul, hx, hy, hz, e1]
  generalize Y * Z = W at e2
  have e3 : ((W : Int)).bmod (2 ^ 64) = W := by
    rw [Int.bmod_def]
    omega
  rw [e3, Int.bmod_def]
  omega
section
variable {L : Nat} {h0 h : HP} {σ : SM} {ca ra : Nat → Nat} {hs : Nat → List Nat} {sp : List Nat} {f a b c : Nat}
/-- the heap with a new row -/
def rowH (h : HP) (l z : Nat) : HP := hp_wa (hp_mk (hp_wa (hp_mk (hp_wi (hp_wi (hp_mk h 8 0 4) (hp_n h) 0 (nI l)) (hp_n h) 1 (nI z)) 100 (if l = 4 then 0 else z) (if l = 4 then 0 else z)) (hp_n h) 2 (hp_n h + 1)) 207 (if l = 4 then z else 0) (if l = 4 then z else 0)) (hp_n h) 3 (hp_n h + 2)
theorem rowH_n (h : HP) (l z : Nat) : hp_n (rowH h l z) = hp_n h + 3 := by
  unfold rowH
  rw [hp_n_wa, hp_n_mk, hp_n_wa, hp_n_mk, hp_n_wi, hp_n_wi, hp_n_mk]
theorem rowH_s (h : HP) (l z : Nat) : hp_s (rowH h l z) = hp_s h + 4 + z := by
  unfold rowH
  rw [hp_s_wa, hp_s_mk, hp_s_wa, hp_s_mk, hp_s_wi, hp_s_wi, hp_s_mk]
  by_cases q : l = 4
  · rw [if_pos q, if_pos q]
  · rw [if_neg q, if_neg q]; rfl
theorem rowH_k (h : HP) (l z x : Nat) : hp_k (rowH h l z) x = if x = hp_n h + 2 then 207 else if x = hp_n h + 1 then 100 else if x = hp_n h then 8 else hp_k h x := by
  unfold rowH
  rw [hp_k_wa, hp_k_mk, hp_n_wa, hp_n_mk, hp_n_wi, hp_n_wi, hp_n_mk, hp_k_wa, hp_k_mk, hp_n_wi, hp_n_wi, hp_n_mk, hp_k_wi, hp_k_wi, hp_k_mk]
theorem rowH_l (h : HP) (l z x : Nat) : hp_l (rowH h l z) x = if x = hp_n h + 2 then (if l = 4 then z else 0) else if x = hp_n h + 1 then (if l = 4 then 0 else z) else if x = hp_n h then 0 else hp_l h x := by
  unfold rowH
  rw [hp_l_wa, hp_l_mk, hp_n_wa, hp_n_mk, hp_n_wi, hp_n_wi, hp_n_mk, hp_l_wa, hp_l_mk, hp_n_wi, hp_n_wi, hp_n_mk, hp_l_wi, hp_l_wi, hp_l_mk]
theorem rowH_i (h : HP) (l z x q : Nat) : hp_i (rowH h l z) x q = if x = hp_n h + 2 then 0 else if x = hp_n h + 1 then 0 else if x = hp_n h ∧ q = 1 then nI z else if x = hp_n h ∧ q = 0 then nI l else if x = hp_n h then 0 else hp_i h x q := by
  unfold rowH
  rw [hp_i_wa, hp_i_mk, hp_n_wa, hp_n_mk, hp_n_wi, hp_n_wi, hp_n_mk, hp_i_wa, hp_i_mk, hp_n_wi, hp_n_wi, hp_n_mk, hp_i_wi, hp_i_wi, hp_i_mk]
theorem rowH_a (h : HP) (l z x q : Nat) : hp_a (rowH h l z) x q = if x = hp_n h ∧ q = 3 then hp_n h + 2 else if x = hp_n h + 2 then 0 else if x = hp_n h ∧ q = 2 then hp_n h + 1 else if x = hp_n h + 1 then 0 else if x = hp_n h then 0 else hp_a h x q := by
  unfold rowH
  rw [hp_a_wa, hp_a_mk, hp_n_wa, hp_n_mk, hp_n_wi, hp_n_wi, hp_n_mk, hp_a_wa, hp_a_mk, hp_n_wi, hp_n_wi, hp_n_mk, hp_a_wi, hp_a_wi, hp_a_mk]
theorem FX.rH {l z : Nat} (x : FX L h) : FX L (rowH h l z) := by
  have x1 : FX L (hp_mk h 8 0 4) := FX.mk_ x
  have x2 : FX L (hp_wi (hp_mk h 8 0 4) (hp_n h) 0 (nI l)) := FX.wi x1
  have x3 : FX L (hp_wi (hp_wi (hp_mk h 8 0 4) (hp_n h) 0 (nI l)) (hp_n h) 1 (nI z)) := FX.wi x2
  have x4 : FX L (hp_mk (hp_wi (hp_wi (hp_mk h 8 0 4) (hp_n h) 0 (nI l)) (hp_n h) 1 (nI z)) 100 (if l = 4 then 0 else z) (if l = 4 then 0 else z)) := FX.mk_ x3
  have x5 : FX L (hp_wa (hp_mk (hp_wi (hp_wi (hp_mk h 8 0 4) (hp_n h) 0 (nI l)) (hp_n h) 1 (nI z)) 100 (if l = 4 then 0 else z) (if l = 4 then 0 else z)) (hp_n h) 2 (hp_n h + 1)) := by
    refine FX.wa x4 ?_
    unfold mov
    rw [hp_k_mk, hp_n_wi, hp_n_wi, hp_n_mk, if_neg (by omega), hp_k_wi, hp_k_wi, hp_k_mk, if_pos rfl]
    omega
  have x6 : FX L (hp_mk (hp_wa (hp_mk (hp_wi (hp_wi (hp_mk h 8 0 4) (hp_n h) 0 (nI l)) (hp_n h) 1 (nI z)) 100 (if l = 4 then 0 else z) (if l = 4 then 0 else z)) (hp_n h) 2 (hp_n h + 1)) 207 (if l = 4 then z else 0) (if l = 4 then z else 0)) := FX.mk_ x5
  unfold rowH
  refine FX.wa x6 ?_
  unfold mov
  rw [hp_k_mk, hp_n_wa, hp_n_mk, hp_n_wi, hp_n_wi, hp_n_mk, if_neg (by omega), hp_k_wa, hp_k_mk, hp_n_wi, hp_n_wi, hp_n_mk, if_neg (by omega), hp_k_wi, hp_k_wi, hp_k_mk, if_pos rfl]
  omega
/-- a new row stands behind the others -/
theorem CR.newRow {R T z l : Nat} (w : CR L h0 h σ ca ra hs sp) (hR : σ 244 23 = nI R) (hR2 : R < 6000) (hT : σ 244 28 = nI T) (hTz : T + z ≤ 6000) (hl4 : l ≤ 4) :
    CR L h0 (rowH h l z) (hp_u (hp_u (hp_u (hp_u (hp_u σ 262 R (nI l)) 263 R (nI T)) 264 R (nI z)) 244 28 (nI (T + z))) 244 23 (nI (R + 1))) ca (fun k => if k = R then hp_n h else ra k) hs sp := by
  have hF := w.hF
  obtain ⟨w1, w2, w3, w4, w6, w5⟩ := w
  have hn := w1.n
  refine ⟨w1.rH, ?_, w3, ?_, ?_, ?_⟩
  · intro b j hb
    rw [rowH_i, if_neg (by omega), if_neg (by omega), if_neg (by omega), if_neg (by omega), if_neg (by omega)]
    exact w2 b j hb
  · refine FI.so (FI.so (FI.so (FI.so (FI.so ?_ (ncm_s (by omega))) (ncm_s (by omega))) (ncm_s (by omega))) (ncm_s (by omega))) (ncm_s (by omega))
    intro b k b' j' e
    have := cm_lt e
    rw [rowH_i, if_neg (by omega), if_neg (by omega), if_neg (by omega), if_neg (by omega), if_neg (by omega)]
    exact w4 b k b' j' e
  · rw [hu_idx (by omega), hu_idx (by omega), hu_cell (by omega), hu_cell (by omega), hu_cell (by omega)]
    exact hF
  · rw [rowH_n, rowH_s, mS_n (by unfold depS; omega), mS_n (by unfold depS; omega), mS_n (by unfold depS; omega), mS_n (by unfold depS; omega), mS_n (by unfold depS; omega)]
    refine RXo.newRow (R := R) (T := T) (z := z) (l := l) w5 (by rw [mS_x (by omega)]; exact hR) hR2 hu_same (by rw [mS_x (by omega)]; exact hT) (by rw [hu_idx (by omega), hu_same]) hTz (by rw [hu_cell (by omega), hu_cell (by omega), hu_cell (by omega), hu_cell (by omega), hu_same]) hl4 (by rw [hu_cell (by omega), hu_cell (by omega), hu_cell (by omega), hu_same]) (by rw [hu_cell (by omega), hu_cell (by omega), hu_same]) (fun p q h1 h2 => by rw [hu_at, if_neg (by omega), hu_at, if_neg (by omega), hu_at, if_neg (by omega), hu_at, if_neg (by omega), hu_at, if_neg (by omega)]) (fun x hx => ⟨?_, ?_⟩) (fun x q hx => ?_) (fun x q hx => ?_) ?_ ?_ ?_ ?_ ?_ (fun j => ?_) ?_ ?_ (fun j => ?_) ?_ ?_ w1.k14 w1.argk w1.fgk w1.frs w1.fk w1.k10 hn (by rw [mS_x (by omega)]; exact hF)
    · rw [rowH_k, if_neg (by omega), if_neg (by omega), if_neg (by omega)]
    · rw [rowH_l, if_neg (by omega), if_neg (by omega), if_neg (by omega)]
    · rw [rowH_a, if_neg (by omega), if_neg (by omega), if_neg (by omega), if_neg (by omega), if_neg (by omega)]
    · unfold mI
      by_cases q' : dynI x q
      · rw [if_pos q', if_pos q', rowH_i, if_neg (by omega), if_neg (by omega), if_neg (by omega), if_neg (by omega), if_neg (by omega)]
      · rw [if_neg q', if_neg q']
    · rw [rowH_k, if_neg (by omega), if_neg (by omega), if_pos rfl]
    · rw [rowH_k, if_neg (by omega), if_pos rfl]
    · rw [rowH_k, if_pos rfl]
    · rw [mI_at (by unfold dynI; omega), rowH_i, if_neg (by omega), if_neg (by omega), if_neg (by omega), if_pos ⟨rfl, rfl⟩]
    · rw [mI_at (by unfold dynI; omega), rowH_i, if_neg (by omega), if_neg (by omega), if_pos ⟨rfl, rfl⟩]
    · rw [mI_at (by unfold dynI; omega), rowH_i, if_neg (by omega), if_pos rfl]
    · rw [rowH_a, if_neg (by omega), if_neg (by omega), if_pos ⟨rfl, rfl⟩]
    · rw [rowH_a, if_pos ⟨rfl, rfl⟩]
    · rw [rowH_a, if_neg (by omega), if_pos rfl]
    · rw [rowH_l, if_neg (by omega), if_pos rfl]
    · rw [rowH_l, if_pos rfl]
end
