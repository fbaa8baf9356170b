/-! SLOTS -/
/-- slot a becomes this -/
def slSet (h : HP) (a : Nat) (kd nm : Int32) (ce ro : Nat) : HP := hp_wa (hp_wa (hp_wi (hp_wi h a 0 kd) a 1 nm) a 2 ce) a 3 ro
theorem hp_ext {h h' : HP} (e1 : hp_n h = hp_n h') (e2 : hp_s h = hp_s h') (e3 : ∀ a, hp_k h a = hp_k h' a) (e4 : ∀ a, hp_l h a = hp_l h' a) (e5 : ∀ a j, hp_i h a j = hp_i h' a j) (e6 : ∀ a j, hp_a h a j = hp_a h' a j) : h = h' :=
  Prod.ext e1 (Prod.ext e2 (Prod.ext (funext e3) (Prod.ext (funext e4) (Prod.ext (funext fun a => funext (e5 a)) (funext fun a => funext (e6 a))))))
theorem hp_n_sl (h : HP) (a : Nat) (kd nm : Int32) (ce ro : Nat) : hp_n (slSet h a kd nm ce ro) = hp_n h := rfl
theorem hp_s_sl (h : HP) (a : Nat) (kd nm : Int32) (ce ro : Nat) : hp_s (slSet h a kd nm ce ro) = hp_s h := rfl
theorem hp_k_sl (h : HP) (a : Nat) (kd nm : Int32) (ce ro : Nat) : hp_k (slSet h a kd nm ce ro) = hp_k h := rfl
theorem hp_l_sl (h : HP) (a : Nat) (kd nm : Int32) (ce ro : Nat) : hp_l (slSet h a kd nm ce ro) = hp_l h := rfl
theorem ite4 {α : Type} {p q : Prop} [Decidable p] [Decidable q] {x y z : α} (h : p → ¬ q) : (if q then y else if p then x else z) = if p then x else if q then y else z := by
  by_cases hp : p
  · rw [if_neg (h hp), if_pos hp, if_pos hp]
  · by_cases hq : q
    · rw [if_pos hq, if_neg hp, if_pos hq]
    · rw [if_neg hq, if_neg hp, if_neg hp, if_neg hq]
theorem ite_same {α : Type} {p : Prop} [Decidable p] {x y z : α} : (if p then x else if p then y else z) = if p then x else z := by
  by_cases hp : p
  · rw [if_pos hp, if_pos hp]
  · rw [if_neg hp, if_neg hp, if_neg hp]
theorem hp_i_sl (h : HP) (a : Nat) (kd nm : Int32) (ce ro : Nat) (b j : Nat) : hp_i (slSet h a kd nm ce ro) b j = if b = a ∧ j = 0 then kd else if b = a ∧ j = 1 then nm else hp_i h b j := by
  show (if b = a ∧ j = 1 then nm else if b = a ∧ j = 0 then kd else hp_i h b j) = _
  exact ite4 (fun h1 h2 => by omega)
theorem hp_a_sl (h : HP) (a : Nat) (kd nm : Int32) (ce ro : Nat) (b j : Nat) : hp_a (slSet h a kd nm ce ro) b j = if b = a ∧ j = 2 then ce else if b = a ∧ j = 3 then ro else hp_a h b j := by
  show (if b = a ∧ j = 3 then ro else if b = a ∧ j = 2 then ce else hp_a h b j) = _
  exact ite4 (fun h1 h2 => by omega)
theorem sl_k0 (h : HP) (a : Nat) (kd nm x : Int32) (ce ro : Nat) : hp_wi (slSet h a kd nm ce ro) a 0 x = slSet h a x nm ce ro := by
  refine hp_ext (by rw [hp_n_wi, hp_n_sl, hp_n_sl]) (by rw [hp_s_wi, hp_s_sl, hp_s_sl]) (fun _ => by rw [hp_k_wi, hp_k_sl, hp_k_sl]) (fun _ => by rw [hp_l_wi, hp_l_sl, hp_l_sl]) (fun b j => ?_) (fun b j => ?_)
  · rw [hp_i_wi, hp_i_sl, hp_i_sl]
    exact ite_same
  · rw [hp_a_wi, hp_a_sl, hp_a_sl]
theorem sl_k1 (h : HP) (a : Nat) (kd nm x : Int32) (ce ro : Nat) : hp_wi (slSet h a kd nm ce ro) a 1 x = slSet h a kd x ce ro := by
  refine hp_ext (by rw [hp_n_wi, hp_n_sl, hp_n_sl]) (by rw [hp_s_wi, hp_s_sl, hp_s_sl]) (fun _ => by rw [hp_k_wi, hp_k_sl, hp_k_sl]) (fun _ => by rw [hp_l_wi, hp_l_sl, hp_l_sl]) (fun b j => ?_) (fun b j => ?_)
  · rw [hp_i_wi, hp_i_sl, hp_i_sl, ite4 (fun h1 h2 => by omega), ite_same]
  · rw [hp_a_wi, hp_a_sl, hp_a_sl]
theorem sl_k2 (h : HP) (a : Nat) (kd nm : Int32) (ce ro x : Nat) : hp_wa (slSet h a kd nm ce ro) a 2 x = slSet h a kd nm x ro := by
  refine hp_ext (by rw [hp_n_wa, hp_n_sl, hp_n_sl]) (by rw [hp_s_wa, hp_s_sl, hp_s_sl]) (fun _ => by rw [hp_k_wa, hp_k_sl, hp_k_sl]) (fun _ => by rw [hp_l_wa, hp_l_sl, hp_l_sl]) (fun b j => ?_) (fun b j => ?_)
  · rw [hp_i_wa, hp_i_sl, hp_i_sl]
  · rw [hp_a_wa, hp_a_sl, hp_a_sl]
    exact ite_same
theorem sl_k3 (h : HP) (a : Nat) (kd nm : Int32) (ce ro x : Nat) : hp_wa (slSet h a kd nm ce ro) a 3 x = slSet h a kd nm ce x := by
  refine hp_ext (by rw [hp_n_wa, hp_n_sl, hp_n_sl]) (by rw [hp_s_wa, hp_s_sl, hp_s_sl]) (fun _ => by rw [hp_k_wa, hp_k_sl, hp_k_sl]) (fun _ => by rw [hp_l_wa, hp_l_sl, hp_l_sl]) (fun b j => ?_) (fun b j => ?_)
  · rw [hp_i_wa, hp_i_sl, hp_i_sl]
  · rw [hp_a_wa, hp_a_sl, hp_a_sl, ite4 (fun h1 h2 => by omega), ite_same]
theorem sp_nothing {h : HP} {a : Nat} (hk : hp_k h a = 9) : pX 801 0 [.ref a] [] h = some (none, slSet h a (-5) 0 0 0) := by
  simp only [x801_0, x801_1, x801_3, x801_6, x801_7, x801_8, x801_11, x801_12, x801_13, x801_16, x801_17, x801_18, x801_21, hk, hp_k_wi, hp_k_wa]
  rfl
theorem sp_number {h : HP} {a : Nat} {n : Int32} (hk : hp_k h a = 9) : pX 802 0 [.ref a, .int n] [] h = some (none, slSet h a 0 n 0 0) := by
  simp only [x802_0, x802_1, x802_4, x802_5, x802_6, x802_9, x802_10, x802_11, x802_14, sp_nothing hk, Option.bind_some, Option.toList_none, List.nil_append, hk, hp_k_wi, hp_k_sl, sl_k0, sl_k1]
theorem sp_cell {h : HP} {a c : Nat} (hk : hp_k h a = 9) (hc : hp_k h c = 1) : pX 803 0 [.ref a, .ref c] [] h = some (none, slSet h a (1 + hp_i h c 0) 0 c 0) := by
  have hne : ¬ c = a := fun e => by rw [e, hk] at hc; cases hc
  simp only [x803_0, x803_1, x803_4, x803_5, x803_6, x803_7, x803_10, x803_11, x803_14, x803_15, x803_16, x803_19, sp_nothing hk, Option.bind_some, Option.toList_none, List.nil_append, hk, hc, hp_k_wi, hp_k_wa, hp_k_sl, hp_i_sl, hne, false_and, if_false, sl_k0, sl_k2]
theorem sp_row {h : HP} {a c : Nat} (hk : hp_k h a = 9) (hc : hp_k h c = 8) : pX 804 0 [.ref a, .ref c] [] h = some (none, slSet h a (5 + hp_i h c 0) 0 0 c) := by
  have hne : ¬ c = a := fun e => by rw [e, hk] at hc; cases hc
  simp only [x804_0, x804_1, x804_4, x804_5, x804_6, x804_7, x804_10, x804_11, x804_14, x804_15, x804_16, x804_19, sp_nothing hk, Option.bind_some, Option.toList_none, List.nil_append, hk, hc, hp_k_wi, hp_k_wa, hp_k_sl, hp_i_sl, hne, false_and, if_false, sl_k0, sl_k3]
theorem sp_copy {h : HP} {a b : Nat} (hk : hp_k h a = 9) (hb : hp_k h b = 9) : pX 805 0 [.ref a, .ref b] [] h = some (none, slSet h a (hp_i h b 0) (hp_i h b 1) (hp_a h b 2) (hp_a h b 3)) := by
  simp only [x805_0, x805_1, x805_2, x805_5, x805_8, x805_9, x805_10, x805_13, x805_16, x805_17, x805_18, x805_21, x805_24, x805_25, x805_26, x805_29, x805_32, hk, hb, hp_k_wi, hp_k_wa, hp_i_wi, hp_i_wa, hp_a_wi, hp_a_wa]
  simp only [slSet, Nat.reduceEqDiff, and_false, if_false]
theorem sp_isNothing {h : HP} {a : Nat} (hk : hp_k h a = 9) : pX 806 0 [.ref a] [] h = some (some (.int (if hp_i h a 0 = -5 then 1 else 0)), h) := by
  simp only [x806_0, x806_1, x806_4, x806_6, x806_9, x806_10, x806_13, x806_14, hk]
  split <;> simp only [x806_0, x806_1, x806_4, x806_6, x806_9, x806_10, x806_13, x806_14, true_or, or_true]
theorem sp_misfit {h : HP} {a : Nat} (hk : hp_k h a = 9) : pX 810 0 [.ref a] [] h = some (some (.int (if hp_i h a 0 = -5 then 1 else 3)), h) := by
  simp only [x810_0, x810_1, x810_4, x810_6, x810_9, x810_10, x810_13, x810_14, hk]
  split <;> simp only [x810_0, x810_1, x810_4, x810_6, x810_9, x810_10, x810_13, x810_14]
theorem sp_misfitNum {h : HP} {a : Nat} (hk : hp_k h a = 9) : pX 811 0 [.ref a] [] h = some (some (.int (if hp_i h a 0 = 0 then 0 else if hp_i h a 0 = -5 then 1 else 3)), h) := by
  simp only [x811_0, x811_1, x811_4, x811_7, x811_8, x811_11, x811_12, x811_15, hk, sp_misfit hk, Option.bind_some, Option.toList_some, List.singleton_append]
  split <;> simp only [x811_0, x811_1, x811_4, x811_7, x811_8, x811_11, x811_12, x811_15, sp_misfit hk, Option.bind_some, Option.toList_some, List.singleton_append, hk]
theorem sp_measure {h : HP} {a : Nat} (hk : hp_k h a = 9) (hc : hp_a h a 2 = 0 ∨ hp_k h (hp_a h a 2) = 1) (hr : hp_a h a 3 = 0 ∨ hp_k h (hp_a h a 3) = 8) : pX 809 0 [.ref a] [] h = some (some (.int (if hp_a h a 2 = 0 then (if hp_a h a 3 = 0 then hp_i h a 1 else hp_i h (hp_a h a 3) 1) else hp_i h (hp_a h a 2) 2)), h) := by
  simp only [x809_0, x809_1, x809_4, x809_7, x809_8, x809_11, x809_14, x809_15, x809_16, x809_19, x809_22, x809_23, x809_26, x809_29, x809_32, x809_33, x809_36, hk]
  by_cases h2 : hp_a h a 2 = 0
  · simp only [h2, if_true, x809_0, x809_1, x809_4, x809_7, x809_8, x809_11, x809_14, x809_15, x809_16, x809_19, x809_22, x809_23, x809_26, x809_29, x809_32, x809_33, x809_36, hk]
    by_cases h3 : hp_a h a 3 = 0
    · simp only [h3, if_true, x809_0, x809_1, x809_4, x809_7, x809_8, x809_11, x809_14, x809_15, x809_16, x809_19, x809_22, x809_23, x809_26, x809_29, x809_32, x809_33, x809_36, hk]
    · rcases hr with q | q
      · exact absurd q h3
      · simp only [h3, if_false, x809_0, x809_1, x809_4, x809_7, x809_8, x809_11, x809_14, x809_15, x809_16, x809_19, x809_22, x809_23, x809_26, x809_29, x809_32, x809_33, x809_36, hk, q]
  · rcases hc with q | q
    · exact absurd q h2
    · simp only [h2, if_false, x809_0, x809_1, x809_4, x809_7, x809_8, x809_11, x809_14, x809_15, x809_16, x809_19, x809_22, x809_23, x809_26, x809_29, x809_32, x809_33, x809_36, hk, q]
