/-! SMALL METHODS OF THE CLASS -/
theorem sp_isOutside {h : HP} {n lo hi : Int32} : pX 1025 0 [.int n, .int lo, .int hi] [] h = some (some (.int (if n < lo ∨ hi < n then 1 else 0)), h) := by
  by_cases h1 : n < lo <;> by_cases h2 : hi < n <;> simp [x1025_0, x1025_1, x1025_2, x1025_5, x1025_6, x1025_7, x1025_10, x1025_11, x1025_14, x1025_15, *]
theorem sp_in {h : HP} {n lo hi : Int32} : pX 1101 0 [.int n, .int lo, .int hi] [] h = some (some (.int (if n < lo ∨ hi < n then 0 else 1)), h) := by
  by_cases h1 : n < lo <;> by_cases h2 : hi < n <;> simp [x1101_0, x1101_1, x1101_2, x1101_5, x1101_6, x1101_7, x1101_10, x1101_11, x1101_14, x1101_15, *]
def isOfV (kd : Int32) (ce ro : Nat) (w : Int32) : Int32 := if kd = -5 then 0 else if w < 1 ∨ 4 < w then (if w = 10 then (if ro = 0 then 0 else 1) else if w = 11 then 1 else if kd = w then 1 else 0) else if ce = 0 then 0 else if kd < w then 0 else 1
theorem sp_isOf {h : HP} {a : Nat} {w : Int32} (hk : hp_k h a = 9) : pX 807 0 [.ref a, .int w] [] h = some (some (.int (isOfV (hp_i h a 0) (hp_a h a 2) (hp_a h a 3) w)), h) := by
  simp only [x807_0, x807_1, x807_4, x807_7, x807_8, x807_9, x807_10, x807_11, x807_14, x807_15, x807_16, x807_19, x807_20, x807_23, x807_26, x807_27, x807_30, x807_31, x807_34, x807_35, x807_38, x807_39, x807_40, x807_41, x807_43, x807_46, x807_47, x807_50, x807_53, x807_54, x807_57, x807_58, x807_59, x807_60, x807_62, x807_65, x807_66, x807_69, x807_70, x807_73, x807_74, x807_77, x807_78, sp_isNothing hk, hk, Option.bind_some, Option.toList_some, List.singleton_append, true_or, or_true, isOfV]
  generalize hp_i h a 0 = kd
  generalize hp_a h a 2 = ce
  generalize hp_a h a 3 = ro
  by_cases h0 : kd = -5
  · simp [h0]
  · simp only [h0, if_false]
    by_cases h1 : w < 1 <;> by_cases h2 : 4 < w <;> by_cases h3 : w = 10 <;> by_cases h4 : w = 11 <;> by_cases h5 : kd = w <;> by_cases h6 : ce = 0 <;> by_cases h7 : ro = 0 <;> by_cases h8 : kd < w <;> simp [h1, h2, h3, h4, h5, h6, h7, h8]
theorem sp_sameAs {h : HP} {a b : Nat} (hk : hp_k h a = 9) (hb : hp_k h b = 9) (o1 : okr (hp_a h a 2) = true) (o2 : okr (hp_a h b 2) = true) (o3 : okr (hp_a h a 3) = true) (o4 : okr (hp_a h b 3) = true) : pX 808 0 [.ref a, .ref b] [] h = some (some (.int (if hp_i h a 0 = hp_i h b 0 ∧ hp_i h a 1 = hp_i h b 1 ∧ hp_a h a 2 = hp_a h b 2 ∧ hp_a h a 3 = hp_a h b 3 then 1 else 0)), h) := by
  simp only [x808_0, x808_1, x808_4, x808_5, x808_8, x808_11, x808_12, x808_15, x808_16, x808_19, x808_22, x808_23, x808_26, x808_27, x808_30, x808_33, x808_34, x808_37, x808_38, x808_41, x808_44, x808_45, x808_48, x808_49, hk, hb, o1, o2, o3, o4, true_or, or_true]
  generalize hp_i h a 0 = x1
  generalize hp_i h b 0 = x2
  generalize hp_i h a 1 = x3
  generalize hp_i h b 1 = x4
  generalize hp_a h a 2 = x5
  generalize hp_a h b 2 = x6
  generalize hp_a h a 3 = x7
  generalize hp_a h b 3 = x8
  by_cases h1 : x1 = x2 <;> by_cases h2 : x3 = x4 <;> by_cases h3 : x5 = x6 <;> by_cases h4 : x7 = x8 <;> simp [h1, h2, h3, h4]
/-! rows -/
theorem sp_lacks {h : HP} {r : Nat} {i : Int32} (hk : hp_k h r = 8) : pX 701 0 [.ref r, .int i] [] h = some (some (.int (if i < 0 ∨ hp_i h r 1 ≤ i then 1 else 0)), h) := by
  by_cases h1 : i < 0 <;> by_cases h2 : hp_i h r 1 ≤ i <;> simp [x701_0, x701_1, x701_4, x701_5, x701_6, x701_9, x701_12, x701_13, x701_16, x701_17, *]
def narV (lane n : Int32) : Int32 := if lane = 1 then n.toInt8.toInt32 else if lane = 2 then n &&& 65535 else n
theorem sp_narrowed {h : HP} {r : Nat} {n : Int32} (hk : hp_k h r = 8) : pX 702 0 [.ref r, .int n] [] h = some (some (.int (narV (hp_i h r 0) n)), h) := by
  simp only [x702_0, x702_1, x702_4, x702_5, x702_8, x702_9, x702_10, x702_11, x702_12, x702_15, x702_16, x702_19, x702_20, x702_22, x702_23, x702_26, x702_27, hk, narV]
  generalize hp_i h r 0 = x
  by_cases h1 : x = 1
  · simp [h1]
  · by_cases h2 : x = 2 <;> simp [h1, h2]
theorem sp_misfitIn {h : HP} {r a : Nat} (hk : hp_k h r = 8) (ha : hp_k h a = 9) : pX 703 0 [.ref r, .ref a] [] h = some (some (.int (if hp_i h r 0 = 4 then (if hp_i h a 0 = -5 ∨ hp_i h a 0 = 5 then 0 else 3) else if hp_i h a 0 = 0 then 0 else if hp_i h a 0 = -5 then 1 else 3)), h) := by
  simp only [x703_0, x703_1, x703_4, x703_5, x703_8, x703_9, x703_12, x703_13, x703_14, x703_17, x703_20, x703_21, x703_24, x703_25, x703_28, x703_29, x703_32, x703_33, sp_isNothing ha, sp_misfitNum ha, hk, ha, Option.bind_some, Option.toList_some, List.singleton_append]
  generalize hp_i h r 0 = x
  generalize hp_i h a 0 = y
  by_cases h1 : x = 4
  · by_cases h2 : y = -5
    · simp [h1, h2]
    · by_cases h3 : y = 5 <;> simp [h1, h2, h3]
  · simp [h1]
/-! cells -/
theorem sp_otherMark {h : HP} {c : Nat} (hk : hp_k h c = 1) : pX 1 0 [.ref c] [] h = some (some (.int (if hp_i h c 0 < 2 then 1 else 7)), h) := by
  by_cases h1 : hp_i h c 0 < 2 <;> simp [x1_0, x1_1, x1_4, x1_5, x1_8, x1_10, x1_13, x1_14, *]
theorem sp_bodies {h : HP} {c : Nat} (hk : hp_k h c = 1) : pX 3 0 [.ref c] [] h = some (some (.int (if hp_i h c 0 = 3 then 3 else if hp_i h c 0 < 1 then 1 else 2)), h) := by
  simp only [x3_0, x3_1, x3_4, x3_5, x3_8, x3_9, x3_12, x3_13, x3_16, x3_17, x3_20, x3_21, x3_24, x3_25, hk]
  generalize hp_i h c 0 = x
  by_cases h1 : x = 3
  · simp [h1]
  · by_cases h2 : x < 1 <;> simp [h1, h2]
def weighV (sort v : Int32) : Int32 := if sort = 3 then (if sort < 1 then v + 1 else 2 * (v + 1)) + 7 else if sort < 1 then v + 1 else 2 * (v + 1)
theorem sp_weight {h : HP} {c : Nat} (hk : hp_k h c = 1) : pX 4 0 [.ref c, .retAddr 0, .retAddr 0] [] h = some (some (.int (weighV (hp_i h c 0) (hp_i h c 2))), h) := by
  simp only [x4_0, x4_1, x4_4, x4_5, x4_6, x4_7, x4_8, x4_11, x4_12, x4_15, x4_16, x4_17, x4_18, x4_21, x4_22, x4_23, x4_24, x4_27, x4_28, x4_31, x4_32, x4_34, x4_35, x4_38, x4_39, hk, weighV]
  generalize hp_i h c 0 = x
  generalize hp_i h c 2 = v
  by_cases h1 : x = 3 <;> by_cases h2 : x < 1 <;> simp [h1, h2]
/-! members -/
theorem sp_lacksMember {h : HP} {m : Nat} {n : Int32} (hk : hp_k h m = 4) : pX 301 0 [.ref m, .int n] [] h = some (some (.int (if n < 0 ∨ hp_i h m 1 ≤ n then 1 else 0)), h) := by
  by_cases h1 : n < 0 <;> by_cases h2 : hp_i h m 1 ≤ n <;> simp [x301_0, x301_1, x301_4, x301_5, x301_6, x301_9, x301_12, x301_13, x301_16, x301_17, *]
theorem sp_isWalked {h : HP} {m : Nat} (hk : hp_k h m = 4) : pX 302 0 [.ref m] [] h = some (some (.int (if hp_i h m 7 ≤ 0 then 0 else 1)), h) := by
  by_cases h1 : hp_i h m 7 ≤ 0 <;> simp [x302_0, x302_1, x302_4, x302_7, x302_8, x302_11, x302_12, *]
/-! the purse -/
/-- prices are paid, or nothing is -/
def payH (h : HP) (n : Int32) : HP := hp_wi (hp_wi (hp_wi h 7 2 (hp_i h 7 2 - n)) 7 3 (hp_i h 7 3 - n)) 9 0 (hp_i h 9 0 + n)
theorem sp_takes {L : Nat} {h : HP} {z : Int64} (w : FX L h) : pX 602 0 [.ref 7, .long z, .retAddr 0] [] h = some (if ¬ (hp_i h 7 2).toInt64 < z ∧ z ≤ (hp_i h 7 3).toInt64 then (some (.int 1), payH h z.toInt32) else (some (.int 0), h)) := by
  simp only [x602_0, x602_1, x602_2, x602_5, x602_6, x602_7, x602_10, x602_11, x602_12, x602_15, x602_16, x602_17, x602_20, x602_21, x602_22, x602_23, x602_24, x602_27, x602_28, x602_29, x602_30, x602_33, x602_34, x602_35, x602_38, x602_39, x602_40, x602_41, x602_44, x602_45, x602_48, x602_49, x602_50, x602_51, x602_52, x602_53, x602_54, x602_55, x602_56, w.k7, w.k9, w.l9, w.a7_1, hp_k_wi, hp_l_wi, hp_a_wi, hp_i_wi, true_or, or_true, lg_cmp_le, lg_cmp_gt, inb_lit (show 0 < 9 by decide) (by decide), ix_lit (show 0 < 2147483648 by decide)]
  by_cases h1 : (hp_i h 7 2).toInt64 < z <;> by_cases h2 : z ≤ (hp_i h 7 3).toInt64 <;> simp [h1, h2, payH]
/-- a price is paid and counted -/
def paysH (h : HP) (k : Nat) : HP := hp_wi (payH h (hp_i h 8 k)) 9 (k + 1) (hp_i h 9 (k + 1) + 1)
def canPay (h : HP) (z : Int64) : Prop := ¬ (hp_i h 7 2).toInt64 < z ∧ z ≤ (hp_i h 7 3).toInt64
theorem ix_add1 {k : Nat} (h : k < 2147483647) : ix (nI k + 1) = k + 1 := by rw [nI_1]; exact ix_nI (by omega)
theorem FX.payH {L : Nat} {h : HP} {n : Int32} (w : FX L h) : FX L (payH h n) := w
theorem sp_paysFor {L : Nat} {h : HP} {k : Nat} (w : FX L h) (hk : k < 5) : pX 603 0 [.ref 7, .int (nI k)] [] h = some (@ite _ (canPay h (hp_i h 8 k).toInt64) (Classical.propDecidable _) (some (.int 1), paysH h k) (some (.int 0), h)) := by
  have e1 : inb (nI k) 5 = true := inb_nI hk (by omega)
  have e2 : inb (nI k + 1) 9 = true := by rw [nI_1]; exact inb_nI (by omega) (by omega)
  have e3 : ix (nI k) = k := ix_nI (by omega)
  have e4 : ix (nI k + 1) = k + 1 := ix_add1 (by omega)
  have e5 : (hp_i h 8 k).toInt64.toInt32 = hp_i h 8 k := by simp
  simp only [x603_0, x603_1, x603_2, x603_5, x603_6, x603_7, x603_8, x603_11, x603_14, x603_15, x603_16, x603_17, x603_20, x603_21, x603_22, x603_23, x603_24, x603_25, x603_26, x603_27, x603_28, x603_29, w.k7, w.k8, w.l8, w.a7_0, e1, e3, sp_takes w, Option.bind_some]
  by_cases hc : canPay h (hp_i h 8 k).toInt64
  · have hc2 := hc
    unfold canPay at hc2
    have hx : ¬ (9 = 7 ∧ k + 1 = 3) := by omega
    simp only [hc2, hc, not_false_eq_true, and_self, if_true, x603_0, x603_1, x603_2, x603_5, x603_6, x603_7, x603_8, x603_11, x603_14, x603_15, x603_16, x603_17, x603_20, x603_21, x603_22, x603_23, x603_24, x603_25, x603_26, x603_27, x603_28, x603_29, Option.toList_some, List.singleton_append, Int32.reduceOfNat, w.payH.k7, w.payH.a7_1, w.payH.k9, w.payH.l9, e2, e4, e5]
    simp [paysH, payH, hp_i_wi, x603_0, x603_1, x603_2, x603_5, x603_6, x603_7, x603_8, x603_11, x603_14, x603_15, x603_16, x603_17, x603_20, x603_21, x603_22, x603_23, x603_24, x603_25, x603_26, x603_27, x603_28, x603_29, w.payH.k7, w.payH.a7_1, w.payH.k9, w.payH.l9, e2, e4, e5]
  · have hc2 := hc
    unfold canPay at hc2
    rw [if_neg hc2]
    simp [x603_0, x603_1, x603_2, x603_5, x603_6, x603_7, x603_8, x603_11, x603_14, x603_15, x603_16, x603_17, x603_20, x603_21, x603_22, x603_23, x603_24, x603_25, x603_26, x603_27, x603_28, x603_29, hc]
