/-! VERIFY: the model's spreading -/
def ru (s : SM) (v : Nat → Int32) (c : Int32) : SM := fun b j => if b = 252 then v j else if b = 244 ∧ j = 10 then c else s b j
def MH (k : HP) (s : SM) (v : Nat → Int32) (c : Int32) : HP := mset k (ru s v c)
theorem MH_k (k : HP) (s : SM) (v : Nat → Int32) (c : Int32) : hp_k (MH k s v c) = hp_k k := rfl
theorem MH_l (k : HP) (s : SM) (v : Nat → Int32) (c : Int32) : hp_l (MH k s v c) = hp_l k := rfl
theorem MH_a (k : HP) (s : SM) (v : Nat → Int32) (c : Int32) : hp_a (MH k s v c) = hp_a k := rfl
theorem MH_v {k : HP} {s : SM} {v : Nat → Int32} {c : Int32} {j : Nat} : hp_i (MH k s v c) 252 j = v j := rfl
theorem MH_c {k : HP} {s : SM} {v : Nat → Int32} {c : Int32} : hp_i (MH k s v c) 244 10 = c := rfl
theorem MH_0 {k : HP} {s : SM} {v : Nat → Int32} {c : Int32} : hp_i (MH k s v c) 244 0 = s 244 0 := rfl
theorem MH_245 {k : HP} {s : SM} {v : Nat → Int32} {c : Int32} {j : Nat} : hp_i (MH k s v c) 245 j = s 245 j := rfl
theorem MH_246 {k : HP} {s : SM} {v : Nat → Int32} {c : Int32} {j : Nat} : hp_i (MH k s v c) 246 j = s 246 j := rfl
theorem MH_247 {k : HP} {s : SM} {v : Nat → Int32} {c : Int32} {j : Nat} : hp_i (MH k s v c) 247 j = s 247 j := rfl
theorem MH_248 {k : HP} {s : SM} {v : Nat → Int32} {c : Int32} {j : Nat} : hp_i (MH k s v c) 248 j = s 248 j := rfl
theorem MH_249 {k : HP} {s : SM} {v : Nat → Int32} {c : Int32} {j : Nat} : hp_i (MH k s v c) 249 j = s 249 j := rfl
theorem MH_wv {k : HP} {s : SM} {v : Nat → Int32} {c : Int32} {j : Nat} {x : Int32} : hp_wi (MH k s v c) 252 j x = MH k s (fun i => if i = j then x else v i) c := by
  unfold MH
  rw [ms_w (by omega)]
  congr 1
  funext b i
  unfold hp_u ru
  by_cases p : b = 252
  · by_cases q : i = j
    · rw [if_pos ⟨p, q⟩, if_pos p]; exact (if_pos q).symm
    · rw [if_neg (fun z => q z.2), if_pos p, if_pos p]; exact (if_neg q).symm
  · rw [if_neg (fun z => p z.1), if_neg p, if_neg p]
theorem MH_wc {k : HP} {s : SM} {v : Nat → Int32} {c x : Int32} : hp_wi (MH k s v c) 244 10 x = MH k s v x := by
  unfold MH
  rw [ms_w (by omega)]
  congr 1
  funext b i
  unfold hp_u ru
  by_cases p : b = 252
  · rw [if_neg (by omega), if_pos p, if_pos p]
  · rw [if_neg p, if_neg p]
    by_cases q : b = 244 ∧ i = 10
    · rw [if_pos q, if_pos q]
    · rw [if_neg q, if_neg q, if_neg q]
section
variable {L m A H M : Nat} {k : HP} {s : SM}
theorem or1 {c : Int32} (h : c = 0 ∨ c = 1) : c ||| 1 = 1 := by rcases h with rfl | rfl <;> decide
theorem sp_comes (X : FX L k) {t : Nat} (ht : t ≤ 40) {v f : Nat → Int32} {b c : Int32} (ag : ∀ i, i < 41 → v i = EE (f i)) (ok : ∀ i, okv (f i)) (hb : lw b) (hc : c = 0 ∨ c = 1) :
    ∃ v' c', pX 1110 0 [.ref 244, .int (nI t), .int (NB b)] [] (MH k s v c) = some (none, MH k s v' (c ||| c')) ∧ (∀ i, i < 41 → v' i = EE (cmE f t b i)) ∧ Chg 41 c' f (cmE f t b) := by
  have l1 : ¬ (41 : Int32) ≤ nI t := fun z => by have := (vle (a := 41) (b := t) (by omega) (by omega)).mp z; omega
  have e1 : inb (nI t) 41 = true := inb_nI (by omega) (by omega)
  have e2 : ix (nI t) = t := ix_nI (by omega)
  have at_ := ag t (by omega)
  by_cases z : f t &&& b = f t
  · refine ⟨v, 0, ?_, fun i hi => ?_, Chg.cm (ok t) hb (fun _ => (if_pos z).symm) (fun _ => rfl)⟩
    · have z2 : EE (f t) ||| NB b ||| 256 = EE (f t) := (EE_inj (ok t) hb).mpr z
      simp only [x1110_0, x1110_1, x1110_3, x1110_6, x1110_7, x1110_10, x1110_11, x1110_12, x1110_13, x1110_14, x1110_17, x1110_18, x1110_19, x1110_22, x1110_23, x1110_24, x1110_46, MH_k, MH_l, MH_a, MH_v, X.k244, X.a244_9, X.k252, X.l252, l1, if_false, e1, e2, at_, z2, if_true, Int32.or_zero]
    · rw [ag i hi]
      unfold cmE
      by_cases q : i = t
      · rw [if_pos q, q, z]
      · rw [if_neg q]
  · refine ⟨fun i => if i = t then EE (f t) ||| (NB b ||| 256) else v i, 1, ?_, fun i hi => ?_, Chg.cm (ok t) hb (fun _ => (if_neg z).symm) (fun q => absurd q (by omega))⟩
    · have z2 : ¬ EE (f t) ||| NB b ||| 256 = EE (f t) := fun q => z ((EE_inj (ok t) hb).mp q)
      simp only [x1110_0, x1110_1, x1110_3, x1110_6, x1110_7, x1110_10, x1110_11, x1110_12, x1110_13, x1110_14, x1110_17, x1110_18, x1110_19, x1110_22, x1110_23, x1110_24, x1110_27, x1110_28, x1110_31, x1110_32, x1110_33, x1110_34, x1110_35, x1110_38, x1110_39, x1110_40, x1110_41, x1110_42, x1110_43, MH_k, MH_l, MH_a, MH_v, MH_wv, X.k244, X.a244_9, X.k252, X.l252, l1, if_false, e1, e2, at_, z2, or1 hc, or_true]
      rw [MH_wc, x1110_46]
    · show (if i = t then EE (f t) ||| (NB b ||| 256) else v i) = _
      unfold cmE
      by_cases q : i = t
      · rw [if_pos q, if_pos q, q, EE_and (ok t) hb, Int32.or_assoc]
      · rw [if_neg q, if_neg q]; exact ag i hi
theorem mk_br {n : Nat} (hn : n ≤ 27) {l0 l1 l3 : Value} {h : HP} : pX 1112 7 [l0, l1, .int (nI n), l3] [] h = if makeT n = 0 then pX 1112 65 [l0, l1, .int (nI n), l3] [] h else pX 1112 61 [l0, l1, .int (nI n), l3] [] h := by
  generalize hA : pX 1112 65 [l0, l1, .int (nI n), l3] [] h = RA
  generalize hB : pX 1112 61 [l0, l1, .int (nI n), l3] [] h = RB
  by_cases q1 : nI n < 9
  · have : makeT n ≠ 0 := by
      have q2 : n < 9 := (vlt (a := n) (b := 9) (by omega) (by omega)).mp q1
      have : ∀ k : Fin 9, makeT k.val ≠ 0 := by decide
      exact this ⟨n, q2⟩
    rw [if_neg this]
    simp only [x1112_7, x1112_8, x1112_10, q1, if_true]
    exact hB
  · have q2 : ¬ n < 9 := fun z => q1 ((vlt (a := n) (b := 9) (by omega) (by omega)).mpr z)
    have e : ∀ y : Nat, y ≤ 27 → ((nI n = nI y) ↔ n = y) := fun y hy => nI_eq (by omega) (by omega)
    have e11 : (nI n = 11) ↔ n = 11 := e 11 (by omega)
    have e12 : (nI n = 12) ↔ n = 12 := e 12 (by omega)
    have e14 : (nI n = 14) ↔ n = 14 := e 14 (by omega)
    have e15 : (nI n = 15) ↔ n = 15 := e 15 (by omega)
    have e16 : (nI n = 16) ↔ n = 16 := e 16 (by omega)
    have e18 : (nI n = 18) ↔ n = 18 := e 18 (by omega)
    have e23 : (nI n = 23) ↔ n = 23 := e 23 (by omega)
    have e25 : (nI n ≤ 25) ↔ n ≤ 25 := vle (a := n) (b := 25) (by omega) (by omega)
    have mt : makeT n = 0 ↔ ¬ (n = 11 ∨ n = 12 ∨ n = 14 ∨ n = 15 ∨ n = 16 ∨ n = 18 ∨ n = 23 ∨ ¬ n ≤ 25) := by
      have : ∀ k : Fin 28, 9 ≤ k.val → (makeT k.val = 0 ↔ ¬ (k.val = 11 ∨ k.val = 12 ∨ k.val = 14 ∨ k.val = 15 ∨ k.val = 16 ∨ k.val = 18 ∨ k.val = 23 ∨ ¬ k.val ≤ 25)) := by decide
      exact this ⟨n, by omega⟩ (by show 9 ≤ n; omega)
    simp only [x1112_7, x1112_8, x1112_10, x1112_13, x1112_14, x1112_16, x1112_19, x1112_20, x1112_22, x1112_25, x1112_26, x1112_28, x1112_31, x1112_32, x1112_34, x1112_37, x1112_38, x1112_40, x1112_43, x1112_44, x1112_46, x1112_49, x1112_50, x1112_52, x1112_55, x1112_56, x1112_58, q1, if_false, e11, e12, e14, e15, e16, e18, e23, e25, hA, hB]
    by_cases y11 : n = 11
    · rw [if_pos y11, if_neg (fun z => mt.mp z (by omega))]
    rw [if_neg y11]
    by_cases y12 : n = 12
    · rw [if_pos y12, if_neg (fun z => mt.mp z (by omega))]
    rw [if_neg y12]
    by_cases y14 : n = 14
    · rw [if_pos y14, if_neg (fun z => mt.mp z (by omega))]
    rw [if_neg y14]
    by_cases y15 : n = 15
    · rw [if_pos y15, if_neg (fun z => mt.mp z (by omega))]
    rw [if_neg y15]
    by_cases y16 : n = 16
    · rw [if_pos y16, if_neg (fun z => mt.mp z (by omega))]
    rw [if_neg y16]
    by_cases y18 : n = 18
    · rw [if_pos y18, if_neg (fun z => mt.mp z (by omega))]
    rw [if_neg y18]
    by_cases y23 : n = 23
    · rw [if_pos y23, if_neg (fun z => mt.mp z (by omega))]
    rw [if_neg y23]
    by_cases y25 : n ≤ 25
    · rw [if_pos y25, if_pos (mt.mpr (by omega))]
    · rw [if_neg y25, if_neg (fun z => mt.mp z (by omega))]
theorem sp_vmakes (X : FX L k) (hm : m < 10) {t : Nat} (ht : t < 40) {v : Nat → Int32} {c : Int32} (hop : nb (s 247 (160 * m + 4 * t)) 27) :
    pX 1112 0 [.ref 244, .int (nI (160 * m + 4 * t)), .retAddr 0, .retAddr 0] [] (MH k s v c) = some (some (.int (mkv (s 247 (160 * m + 4 * t)) (s 247 (160 * m + 4 * t + 1)))), MH k s v c) := by
  obtain ⟨n, hn, hn27⟩ := hop
  have e1 : inb (nI (160 * m + 4 * t)) 1600 = true := inb_nI (by omega) (by omega)
  have e2 : ix (nI (160 * m + 4 * t)) = 160 * m + 4 * t := ix_nI (by omega)
  have e3 : inb (nI (160 * m + 4 * t + 1)) 1600 = true := inb_nI (by omega) (by omega)
  have e4 : ix (nI (160 * m + 4 * t + 1)) = 160 * m + 4 * t + 1 := ix_nI (by omega)
  have et : nI (160 * m + 4 * t) + 1 = nI (160 * m + 4 * t + 1) := nI_add _ 1
  unfold mkv
  rw [hn, ix_nI (by omega)]
  simp only [x1112_0, x1112_1, x1112_4, x1112_5, x1112_6, MH_k, MH_l, MH_a, MH_247, X.k244, X.a244_3, X.k247, X.l247, e1, e2, hn]
  rw [mk_br hn27]
  by_cases z : makeT n = 0
  · rw [if_pos z, if_pos z]
    simp only [x1112_65, x1112_66, x1112_67, x1112_68, x1112_84, x1112_85, if_true]
  · rw [if_neg z, if_neg z]
    simp only [x1112_61, x1112_62, x1112_66, x1112_67, x1112_68, x1112_71, x1112_72, x1112_73, x1112_76, x1112_77, x1112_78, x1112_79, x1112_80, x1112_81, x1112_85, MH_k, MH_l, MH_a, MH_247, X.k244, X.a244_3, X.k247, X.l247, e3, e4, et, show ¬ (1 : Int32) = 0 from by decide, if_false]
end
