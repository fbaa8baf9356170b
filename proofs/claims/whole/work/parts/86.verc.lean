/-! VERIFY: one step of the spreading, pure, and as the class does it -/
def hrow (h : HP) (a : Nat) (u : Nat → Int32) : HP := (hp_n h, hp_s h, hp_k h, hp_l h, fun b j => if b = a then u j else hp_i h b j, hp_a h)
theorem hp_n_row (h : HP) (a : Nat) (u : Nat → Int32) : hp_n (hrow h a u) = hp_n h := rfl
theorem hp_s_row (h : HP) (a : Nat) (u : Nat → Int32) : hp_s (hrow h a u) = hp_s h := rfl
theorem hp_k_row (h : HP) (a : Nat) (u : Nat → Int32) : hp_k (hrow h a u) = hp_k h := rfl
theorem hp_l_row (h : HP) (a : Nat) (u : Nat → Int32) : hp_l (hrow h a u) = hp_l h := rfl
theorem hp_a_row (h : HP) (a : Nat) (u : Nat → Int32) : hp_a (hrow h a u) = hp_a h := rfl
theorem hp_i_row (h : HP) (a : Nat) (u : Nat → Int32) (b j : Nat) : hp_i (hrow h a u) b j = if b = a then u j else hp_i h b j := rfl
theorem hp_i_row1 {h : HP} {a : Nat} {u : Nat → Int32} {b j : Nat} (q : ¬ b = a) : hp_i (hrow h a u) b j = hp_i h b j := if_neg q
theorem hp_i_row2 {h : HP} {a : Nat} {u : Nat → Int32} {j : Nat} : hp_i (hrow h a u) a j = u j := if_pos rfl
theorem hp_wi_row {h : HP} {a j : Nat} {u : Nat → Int32} {x : Int32} : hp_wi (hrow h a u) a j x = hrow h a (fun i => if i = j then x else u i) := by
  refine hp_ext rfl rfl (fun _ => rfl) (fun _ => rfl) (fun b i => ?_) (fun _ _ => rfl)
  rw [hp_i_wi, hp_i_row, hp_i_row]
  by_cases p : b = a
  · by_cases q : i = j
    · rw [if_pos ⟨p, q⟩, if_pos p, if_pos q]
    · rw [if_neg (fun z => q z.2), if_pos p, if_pos p, if_neg q]
  · rw [if_neg (fun z => p z.1), if_neg p, if_neg p]
theorem FX.row {L : Nat} {h : HP} {a : Nat} {u : Nat → Int32} (w : FX L h) : FX L (hrow h a u) := w
/-- the verifier's flag and its row -/
def hv (h : HP) (c : Int32) (u : Nat → Int32) : HP := hrow (hp_wi h 238 1 c) 239 u
theorem hp_k_hv (h : HP) (c : Int32) (u : Nat → Int32) : hp_k (hv h c u) = hp_k h := rfl
theorem hp_l_hv (h : HP) (c : Int32) (u : Nat → Int32) : hp_l (hv h c u) = hp_l h := rfl
theorem hp_a_hv (h : HP) (c : Int32) (u : Nat → Int32) : hp_a (hv h c u) = hp_a h := rfl
theorem hp_i_hv1 {h : HP} {c : Int32} {u : Nat → Int32} {b j : Nat} (q : ¬ b = 239 ∧ ¬ b = 238) : hp_i (hv h c u) b j = hp_i h b j := by
  unfold hv
  rw [hp_i_row1 q.1, hp_i_wi, if_neg (fun z => q.2 z.1)]
theorem hp_i_hv2 {h : HP} {c : Int32} {u : Nat → Int32} {j : Nat} : hp_i (hv h c u) 239 j = u j := hp_i_row2
theorem hp_i_hv3 {h : HP} {c : Int32} {u : Nat → Int32} : hp_i (hv h c u) 238 1 = c := by
  unfold hv
  rw [hp_i_row1 (by omega), hp_i_wi, if_pos ⟨rfl, rfl⟩]
theorem hp_wi_hv {h : HP} {j : Nat} {c : Int32} {u : Nat → Int32} {x : Int32} : hp_wi (hv h c u) 239 j x = hv h c (fun i => if i = j then x else u i) := hp_wi_row
theorem hp_wi_rr {h : HP} {a b k : Nat} {c : Int32} {u : Nat → Int32} {x : Int32} (q : ¬ b = a) : hp_wi (hrow (hp_wi h b k c) a u) b k x = hrow (hp_wi h b k x) a u := by
  refine hp_ext (by simp only [hp_n_wi, hp_n_row]) (by simp only [hp_s_wi, hp_s_row]) (fun _ => by simp only [hp_k_wi, hp_k_row]) (fun _ => by simp only [hp_l_wi, hp_l_row]) (fun d i => ?_) (fun _ _ => by simp only [hp_a_wi, hp_a_row])
  rw [hp_i_wi, hp_i_row, hp_i_row, hp_i_wi, hp_i_wi]
  by_cases p : d = a
  · rw [if_pos p, if_pos p, if_neg (fun z => q (z.1.symm.trans p))]
  · rw [if_neg p, if_neg p]
    by_cases z : d = b ∧ i = k
    · rw [if_pos z, if_pos z]
    · rw [if_neg z, if_neg z, if_neg z]
theorem hp_wi_hw {h : HP} {c : Int32} {u : Nat → Int32} {x : Int32} : hp_wi (hv h c u) 238 1 x = hv h x u := hp_wi_rr (by omega)
theorem hv_self {h : HP} : hv h (hp_i h 238 1) (hp_i h 239) = h := by
  refine hp_ext rfl rfl (fun _ => rfl) (fun _ => rfl) (fun b j => ?_) (fun _ _ => rfl)
  unfold hv
  rw [hp_i_row, hp_i_wi]
  split
  · next q => rw [q]
  · split
    · next q => rw [q.1, q.2]
    · rfl
theorem CR.vhv {L : Nat} {h0 h : HP} {σ : SM} {ca ra : Nat → Nat} {hs : Nat → List Nat} {sp : List Nat} (w : CR L h0 h σ ca ra hs sp) (c : Int32) (u : Nat → Int32) : CR L h0 (hv h c u) σ ca ra hs sp := by
  obtain ⟨w1, w2, w3, w4, w6, w5⟩ := w
  refine ⟨w1, fun a j ha => ?_, w3, fun a k b j e => ?_, w6, ?_⟩
  · rw [hp_i_hv1 (by omega)]; exact w2 a j ha
  · have := cm_lt e
    rw [hp_i_hv1 (by omega)]; exact w4 a k b j e
  · have e : mI (hp_i (hv h c u)) = mI (hp_i h) := by
      funext b j
      unfold mI
      by_cases q : dynI b j
      · rw [if_pos q, if_pos q, hp_i_hv1 (by unfold dynI at q; omega)]
      · rw [if_neg q, if_neg q]
    rw [e]
    exact w5
/-- the flag behind a change -/
def orc (c d : Int32) : Int32 := if d = 0 then c else 1
theorem Chg.oc {N : Nat} {c d : Int32} {f g k : Nat → Int32} (h1 : Chg N c f g) (h2 : Chg N d g k) : Chg N (orc c d) f k := by
  rcases h2 with ⟨rfl, e2⟩ | ⟨rfl, e2⟩
  · rw [show orc c 0 = c from if_pos rfl]
    rcases h1 with ⟨rfl, e1⟩ | ⟨rfl, e1⟩
    · exact Or.inl ⟨rfl, fun i hi => (e2 i hi).trans (e1 i hi)⟩
    · exact Or.inr ⟨rfl, by rw [mu_congr (g := g) e2]; exact e1⟩
  · rw [show orc c 1 = 1 from if_neg (by decide)]
    rcases h1 with ⟨rfl, e1⟩ | ⟨rfl, e1⟩
    · exact Or.inr ⟨rfl, by rw [mu_congr (g := g) (fun i hi => (e1 i hi).symm)]; exact e2⟩
    · exact Or.inr ⟨rfl, by omega⟩
theorem orc_orc {c d e : Int32} : orc (orc c d) e = orc c (orc d e) := by
  unfold orc
  by_cases p : e = 0
  · rw [if_pos p, if_pos p]
  · rw [if_neg p, if_neg p, if_neg (by decide)]
def mkv (op a : Int32) : Int32 := if makeT (ix op) = 0 then 0 else 1 <<< (a &&& 31)
def gof (op va vb : Int32) (t : Nat) (f : Nat → Int32) (b : Int32) : Nat → Int32 :=
  if op = 9 then cmE f (ix va) b else if op = 10 then cmE (cmE f (ix vb) b) (t + 1) b else if op = 22 ∨ op = 24 then f else cmE f (t + 1) b
def hdf (σ : SM) (m t : Nat) (b : Int32) (f : Nat → Int32) : Nat → Nat → Int32
  | 0 => f
  | q + 1 => if nI t < σ 249 (24 * m + 4 * q) ∨ σ 249 (24 * m + 4 * q + 1) ≤ nI t then hdf σ m t b f q else cmE (hdf σ m t b f q) (ix (σ 249 (24 * m + 4 * q + 3))) b
def gos (σ : SM) (m t : Nat) (f : Nat → Int32) : Nat → Int32 :=
  gof (σ 247 (160 * m + 4 * t)) (σ 247 (160 * m + 4 * t + 1)) (σ 247 (160 * m + 4 * t + 2)) t f (f t ||| mkv (σ 247 (160 * m + 4 * t)) (σ 247 (160 * m + 4 * t + 1)))
def stf (σ : SM) (m H t : Nat) (f : Nat → Int32) : Nat → Int32 := if f t = -1 then f else hdf σ m t (f t ||| 128) (gos σ m t f) H
def psf (σ : SM) (m H : Nat) (f : Nat → Int32) : Nat → Nat → Int32
  | 0 => f
  | n + 1 => stf σ m H n (psf σ m H f n)
def itf (σ : SM) (m H A : Nat) (f : Nat → Int32) : Nat → Nat → Int32
  | 0 => f
  | n + 1 => psf σ m H (itf σ m H A f n) A
theorem vlt {a b : Nat} (ha : a < 2147483648) (hb : b < 2147483648) : (nI a < nI b) ↔ a < b := by
  rw [Int32.lt_iff_toInt_lt, nI_toInt ha, nI_toInt hb]; omega
theorem vle {a b : Nat} (ha : a < 2147483648) (hb : b < 2147483648) : (nI a ≤ nI b) ↔ a ≤ b := by
  rw [Int32.le_iff_toInt_le, nI_toInt ha, nI_toInt hb]; omega
theorem and_or_me {x y : Int32} : x &&& (x ||| y) = x := by
  refine i32_bits fun k hk => ?_
  rw [band, bor]
  cases x.toBitVec.getLsbD k <;> simp
theorem cmE_at {f : Nat → Int32} {t s : Nat} {x y : Int32} (h : f s = x) : cmE f t (x ||| y) s = x := by
  unfold cmE
  split
  · rw [h, and_or_me]
  · exact h
theorem gos_at {σ : SM} {m t : Nat} {f : Nat → Int32} : gos σ m t f t = f t := by
  unfold gos gof
  split
  · exact cmE_at rfl
  · split
    · exact cmE_at (cmE_at rfl)
    · split
      · rfl
      · exact cmE_at rfl
theorem hdf_at {σ : SM} {m t : Nat} {f : Nat → Int32} {x y : Int32} (h : f t = x) : ∀ q, hdf σ m t (x ||| y) f q t = x
  | 0 => h
  | q + 1 => by
    unfold hdf
    split
    · exact hdf_at h q
    · exact cmE_at (hdf_at h q)
theorem lw_128 : lw 128 := by unfold lw; decide
theorem lw_sh {n : Nat} (h : n ≤ 7) : lw ((1 : Int32) <<< (nI n &&& 31)) := by
  have : ∀ k : Fin 8, ((1 : Int32) <<< (nI k.val &&& 31)) &&& 255 = (1 : Int32) <<< (nI k.val &&& 31) := by decide
  exact this ⟨n, by omega⟩
theorem makeT_bit {j : Nat} (h : j ≤ 27) : makeT j = 0 ∨ makeT j = 1 := by
  have : ∀ k : Fin 28, makeT k.val = 0 ∨ makeT k.val = 1 := by decide
  exact this ⟨j, by omega⟩
theorem lw_mkv {op a b c : Int32} (h : okAct op a b c) : lw (mkv op a) := by
  unfold mkv
  obtain ⟨⟨n, rfl, hn⟩, h1, _⟩ := h
  rw [ix_nI (by omega)] at h1 ⊢
  split
  · unfold lw; decide
  · next q =>
    have q1 : makeT n = 1 := (makeT_bit hn).resolve_left q
    have : (lookT n ||| makeT n) &&& 1 ≠ 0 := by
      rw [q1]
      intro z
      have e : ((lookT n ||| 1) &&& 1).toBitVec.getLsbD 0 = (0 : Int32).toBitVec.getLsbD 0 := by rw [z]
      rw [band, bor] at e
      revert e
      simp
    obtain ⟨k, rfl, hk⟩ := h1 this
    exact lw_sh hk
theorem ok_gof {op va vb b : Int32} {t : Nat} {f : Nat → Int32} (h : ∀ i, okv (f i)) (hb : lw b) : ∀ i, okv (gof op va vb t f b i) := by
  unfold gof
  split
  · exact ok_cm h hb
  · split
    · exact ok_cm (ok_cm h hb) hb
    · split
      · exact h
      · exact ok_cm h hb
theorem ok_hdf {σ : SM} {m t : Nat} {b : Int32} {f : Nat → Int32} (h : ∀ i, okv (f i)) (hb : lw b) : ∀ q i, okv (hdf σ m t b f q i)
  | 0 => h
  | q + 1 => by
    intro i
    unfold hdf
    split
    · exact ok_hdf h hb q i
    · exact ok_cm (ok_hdf h hb q) hb i
theorem ok_stf {σ : SM} {m t H : Nat} {f : Nat → Int32} (h : ∀ i, okv (f i)) (hk : okAct (σ 247 (160 * m + 4 * t)) (σ 247 (160 * m + 4 * t + 1)) (σ 247 (160 * m + 4 * t + 2)) (σ 247 (160 * m + 4 * t + 3))) : ∀ i, okv (stf σ m H t f i) := by
  unfold stf
  split
  · exact h
  · next q =>
    have hl : lw (f t) := (h t).resolve_left q
    exact ok_hdf (ok_gof h (lw_or hl (lw_mkv hk))) (lw_or hl lw_128) H
/-- what lies at or behind A is not asked of -/
theorem cm_loc {A t : Nat} {f g : Nat → Int32} {b d : Int32} (h : ∀ i, i < A → f i = g i) (e : b = d) : ∀ i, i < A → cmE f t b i = cmE g t d i := by
  intro i hi
  unfold cmE
  rw [h i hi, e]
theorem gof_loc {A t : Nat} {op va vb b d : Int32} {f g : Nat → Int32} (h : ∀ i, i < A → f i = g i) (e : b = d) : ∀ i, i < A → gof op va vb t f b i = gof op va vb t g d i := by
  unfold gof
  split
  · exact cm_loc h e
  · split
    · exact cm_loc (cm_loc h e) e
    · split
      · exact h
      · exact cm_loc h e
theorem hdf_loc {A t m : Nat} {σ : SM} {b d : Int32} {f g : Nat → Int32} (h : ∀ i, i < A → f i = g i) (e : b = d) : ∀ q i, i < A → hdf σ m t b f q i = hdf σ m t d g q i
  | 0 => h
  | q + 1 => by
    intro i hi
    unfold hdf
    split
    · exact hdf_loc h e q i hi
    · exact cm_loc (hdf_loc h e q) e i hi
theorem stf_loc {A t m H : Nat} {σ : SM} {f g : Nat → Int32} (ht : t < A) (h : ∀ i, i < A → f i = g i) : ∀ i, i < A → stf σ m H t f i = stf σ m H t g i := by
  unfold stf
  rw [h t ht]
  split
  · exact h
  · refine hdf_loc ?_ rfl H
    unfold gos
    exact gof_loc h (by rw [h t ht])
theorem psf_loc {A m H : Nat} {σ : SM} {f g : Nat → Int32} (h : ∀ i, i < A → f i = g i) : ∀ n, n ≤ A → ∀ i, i < A → psf σ m H f n i = psf σ m H g n i
  | 0, _ => h
  | n + 1, hn => stf_loc (by omega) (psf_loc h n (by omega))
def STB (σ : SM) (m H A : Nat) (f : Nat → Int32) : Prop := ∀ i, i < A → psf σ m H f A i = f i
theorem STB.it {σ : SM} {m H A k : Nat} {f : Nat → Int32} (h : STB σ m H A (itf σ m H A f k)) : ∀ d i, i < A → itf σ m H A f (k + d) i = itf σ m H A f k i
  | 0 => fun _ _ => rfl
  | d + 1 => by
    intro i hi
    show psf σ m H (itf σ m H A f (k + d)) A i = _
    rw [psf_loc (STB.it h d) A (Nat.le_refl A) i hi]
    exact h i hi
theorem STB.same {σ : SM} {m H A k k' : Nat} {f : Nat → Int32} (h : STB σ m H A (itf σ m H A f k)) (h' : STB σ m H A (itf σ m H A f k')) : ∀ i, i < A → itf σ m H A f k i = itf σ m H A f k' i := by
  intro i hi
  rcases Nat.le_total k k' with q | q
  · obtain ⟨d, rfl⟩ := Nat.exists_eq_add_of_le q
    exact (h.it d i hi).symm
  · obtain ⟨d, rfl⟩ := Nat.exists_eq_add_of_le q
    exact h'.it d i hi
/-- comeTo -/
theorem sp_come {L m A t : Nat} {h : HP} {u f : Nat → Int32} {b : Int32} (c : Int32) (X : FX L h) (hm : m < 10) (hA : hp_i h (16 + 9 * m) 2 = nI A) (hA40 : A ≤ 40) (ht : t ≤ 40) (ag : ∀ i, i < A → u i = f i) (ok : ∀ i, okv (f i)) (hb : lw b) :
    ∃ u' d, pX 905 0 [.ref 238, .ref (16 + 9 * m), .int (nI t), .int b, .retAddr 0] [] (hv h c u) = some (none, hv h (orc c d) u') ∧ (∀ i, i < A → u' i = cmE f t b i) ∧ Chg A d f (cmE f t b) := by
  have k5 := X.mk m hm
  have n1 : ¬ 16 + 9 * m = 239 ∧ ¬ 16 + 9 * m = 238 := by omega
  by_cases q : t < A
  · have e1 : inb (nI t) 40 = true := inb_nI (by omega) (by omega)
    have e2 : ix (nI t) = t := ix_nI (by omega)
    have l1 : nI t < nI A := (vlt (by omega) (by omega)).mpr q
    refine ⟨fun i => if i = t then f t &&& b else u i, if f t &&& b = f t then 0 else 1, ?_, fun i hi => ?_, Chg.cm (ok t) hb (fun _ => rfl) (fun z => absurd z (by omega))⟩
    · by_cases z : f t &&& b = f t
      · simp only [x905_0, x905_1, x905_2, x905_5, x905_9, x905_10, x905_13, x905_14, x905_14R, x905_15, x905_17, x905_18, x905_21, x905_22, x905_24, x905_25, x905_26, x905_27, x905_28, x905_31, x905_32, x905_32R, x905_33, x905_35, x905_38, x905_39, x905_40, x905_43, hp_k_hv, hp_l_hv, hp_a_hv, hp_i_hv1 n1, hp_i_hv2, hp_wi_hv, X.k238, X.a238_0, X.k239, X.l239, k5, hA, l1, e1, e2, if_true, ag t q, z, orc]
      · simp only [x905_0, x905_1, x905_2, x905_5, x905_9, x905_10, x905_13, x905_14, x905_14R, x905_15, x905_17, x905_18, x905_21, x905_22, x905_24, x905_25, x905_26, x905_27, x905_28, x905_31, x905_32, x905_32R, x905_33, x905_35, x905_38, x905_39, x905_40, x905_43, hp_k_hv, hp_l_hv, hp_a_hv, hp_i_hv1 n1, hp_i_hv2, hp_wi_hv, hp_wi_hw, X.k238, X.a238_0, X.k239, X.l239, k5, hA, l1, e1, e2, if_true, if_false, ag t q, z, orc, or_true, show ¬ (1 : Int32) = 0 from by decide]
    · show (if i = t then f t &&& b else u i) = cmE f t b i
      unfold cmE
      by_cases z : i = t
      · rw [if_pos z, if_pos z, z]
      · rw [if_neg z, if_neg z]; exact ag i hi
  · have l1 : ¬ nI t < nI A := fun z => q ((vlt (by omega) (by omega)).mp z)
    refine ⟨u, 0, ?_, fun i hi => ?_, Chg.cm (ok t) hb (fun z => absurd z q) (fun _ => rfl)⟩
    · simp only [x905_0, x905_1, x905_2, x905_5, x905_8, hp_k_hv, hp_i_hv1 n1, k5, hA, l1, if_false, orc, if_true]
    · rw [ag i hi]
      unfold cmE
      rw [if_neg (by omega)]
