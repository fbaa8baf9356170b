theorem law_gt {i L : Nat} (hi : i ≤ 4000) (hL : L ≤ 3072) : (Int32.ofNat L - 6 < nI i) ↔ L < i + 6 := by
  have h1 : (Int32.ofNat L).toInt = L := nI_toInt (n := L) (by omega)
  have h2 : (Int32.ofNat L - 6).toInt = (L : Int) - 6 := by
    rw [Int32.toInt_sub, h1, show (6 : Int32).toInt = 6 from rfl, Int.bmod_def]
    omega
  rw [Int32.lt_iff_toInt_lt, h2, nI_toInt (by omega)]
  omega
theorem and31 (x : Int32) : ∃ n : Nat, x &&& 31 = nI n ∧ n < 32 := by
  refine ⟨(x &&& 31).toBitVec.toNat, Int32.toBitVec_inj.mp ?_, ?_⟩
  · show _ = BitVec.ofNat 32 _
    simp
  · have h1 : (x &&& 31).toBitVec = x.toBitVec &&& 31#32 := rfl
    rw [h1, BitVec.toNat_and]
    have h2 : x.toBitVec.toNat &&& (31#32).toNat ≤ (31#32).toNat := Nat.and_le_right
    have h3 : (31#32).toNat = 31 := rfl
    omega
theorem law_loop {L : Nat} {xs : Nat → Int32} {RL : HP → Prop} (hL : L ≤ 3072) (hRL : ∀ h, RL h → FX L h ∧ ∀ j, hp_i h 1 j = xs j) (p_member : PR_member L RL) (p_act : PR_act L RL) (p_handler : PR_handler L RL) (p_cut : PR_cut L RL) (p_price : PR_price L RL) (p_verify : PR_verify L RL) (p_info : PR_info L RL) (p_set : PR_set L RL) (p_plan : PR_plan L RL) (p_argument : PR_argument L RL) (p_run : PR_run L RL) (p_result : PR_result L RL) (p_into : PR_into L RL) (p_cell : PR_cell L RL) (p_counted : PR_counted L RL) (p_trace : PR_trace L RL) (p_left : PR_left L RL) (p_walk : PR_walk L RL) (p_step : PR_step L RL) (p_frame : PR_frame L RL) (p_register : PR_register L RL) (p_drop : PR_drop L RL) (p_told : PR_told L RL) : ∀ (n i : Nat) (h : HP), L + 7 ≤ i + n → i ≤ L + 6 → RL h → ∃ h', RL h' ∧ pX 1200 18 [.ref 1, .ref 4, .ref 244, .int (nI i)] [] h = some (some (.int 1), h') := by
  intro n
  induction n with
  | zero => intro i h h1 h2; exact absurd h1 (by omega)
  | succ n ih =>
    intro i h h1 h2 hr
    obtain ⟨w, hx⟩ := hRL h hr
    by_cases hend : L < i + 6
    · refine ⟨h, hr, ?_⟩
      have hg := (law_gt (i := i) (L := L) (by omega) hL).mpr hend
      simp only [x1200_18, x1200_19, x1200_20, x1200_21, x1200_23, x1200_24, x1200_27, x1200_28, x1200_29, x1200_30, x1200_32, x1200_815, x1200_816, w.k1, w.l1, hg, if_true, show 99 ≤ 99 from Nat.le_refl 99, true_or, or_true]
    · have hg : ¬ (Int32.ofNat L - 6 < nI i) := fun q => hend ((law_gt (by omega) hL).mp q)
      have hi6 : i + 6 ≤ L := by omega
      have b0 : inb (nI i) L = true := inb_nI (by omega) (by omega)
      have next : ∀ h2, RL h2 → ∃ h', RL h' ∧ pX 1200 809 [.ref 1, .ref 4, .ref 244, .int (nI i)] [] h2 = some (some (.int 1), h') := by
        intro h2 r2
        obtain ⟨h', r', e'⟩ := ih (i + 6) h2 (by omega) (by omega) r2
        refine ⟨h', r', ?_⟩
        have e6 : nI i + 6 = nI (i + 6) := nI_add i 6
        simp only [x1200_809, x1200_812, e6, e']
      obtain ⟨k, hk, hk32⟩ := and31 (hp_i h 1 (ix (nI i)))
      have e0 : pX 1200 18 [.ref 1, .ref 4, .ref 244, .int (nI i)] [] h = pX 1200 33 [.ref 1, .ref 4, .ref 244, .int (nI i)] [.int (nI k)] h := by
        simp only [x1200_18, x1200_19, x1200_20, x1200_21, x1200_23, x1200_24, x1200_27, x1200_28, x1200_29, x1200_30, x1200_32, w.k1, w.l1, hg, if_false, b0, hk, show 99 ≤ 99 from Nat.le_refl 99]
      rw [e0]
      by_cases c0 : k = 0
      · subst c0
        obtain ⟨h2, r2, e2⟩ := lawc_member hRL p_member hi6 hL hr
        rw [show (Value.int (nI 0)) = .int 0 from rfl, x1200_33_0, e2]
        exact next h2 r2
      by_cases c1 : k = 1
      · subst c1
        obtain ⟨h2, r2, e2⟩ := lawc_act hRL p_act hi6 hL hr
        rw [show (Value.int (nI 1)) = .int 1 from rfl, x1200_33_1, e2]
        exact next h2 r2
      by_cases c2 : k = 2
      · subst c2
        obtain ⟨h2, r2, e2⟩ := lawc_handler hRL p_handler hi6 hL hr
        rw [show (Value.int (nI 2)) = .int 2 from rfl, x1200_33_2, e2]
        exact next h2 r2
      by_cases c3 : k = 3
      · subst c3
        obtain ⟨h2, r2, e2⟩ := lawc_cut hRL p_cut hi6 hL hr
        rw [show (Value.int (nI 3)) = .int 3 from rfl, x1200_33_3, e2]
        exact next h2 r2
      by_cases c4 : k = 4
      · subst c4
        obtain ⟨h2, r2, e2⟩ := lawc_price hRL p_price hi6 hL hr
        rw [show (Value.int (nI 4)) = .int 4 from rfl, x1200_33_4, e2]
        exact next h2 r2
      by_cases c5 : k = 5
      · subst c5
        obtain ⟨h2, r2, e2⟩ := lawc_verify hRL p_verify hi6 hL hr
        rw [show (Value.int (nI 5)) = .int 5 from rfl, x1200_33_5, e2]
        exact next h2 r2
      by_cases c6 : k = 6
      · subst c6
        obtain ⟨h2, r2, e2⟩ := lawc_info hRL p_info hi6 hL hr
        rw [show (Value.int (nI 6)) = .int 6 from rfl, x1200_33_6, e2]
        exact next h2 r2
      by_cases c7 : k = 7
      · subst c7
        obtain ⟨h2, r2, e2⟩ := lawc_set hRL p_set hi6 hL hr
        rw [show (Value.int (nI 7)) = .int 7 from rfl, x1200_33_7, e2]
        exact next h2 r2
      by_cases c8 : k = 8
      · subst c8
        obtain ⟨h2, r2, e2⟩ := lawc_plan hRL p_plan hi6 hL hr
        rw [show (Value.int (nI 8)) = .int 8 from rfl, x1200_33_8, e2]
        exact next h2 r2
      by_cases c9 : k = 9
      · subst c9
        obtain ⟨h2, r2, e2⟩ := lawc_argument hRL p_argument hi6 hL hr
        rw [show (Value.int (nI 9)) = .int 9 from rfl, x1200_33_9, e2]
        exact next h2 r2
      by_cases c10 : k = 10
      · subst c10
        obtain ⟨h2, r2, e2⟩ := lawc_run hRL p_run hi6 hL hr
        rw [show (Value.int (nI 10)) = .int 10 from rfl, x1200_33_10, e2]
        exact next h2 r2
      by_cases c11 : k = 11
      · subst c11
        obtain ⟨h2, r2, e2⟩ := lawc_result hRL p_result hi6 hL hr
        rw [show (Value.int (nI 11)) = .int 11 from rfl, x1200_33_11, e2]
        exact next h2 r2
      by_cases c12 : k = 12
      · subst c12
        obtain ⟨h2, r2, e2⟩ := lawc_into hRL p_into hi6 hL hr
        rw [show (Value.int (nI 12)) = .int 12 from rfl, x1200_33_12, e2]
        exact next h2 r2
      by_cases c13 : k = 13
      · subst c13
        obtain ⟨h2, r2, e2⟩ := lawc_cell hRL p_cell hi6 hL hr
        rw [show (Value.int (nI 13)) = .int 13 from rfl, x1200_33_13, e2]
        exact next h2 r2
      by_cases c14 : k = 14
      · subst c14
        obtain ⟨h2, r2, e2⟩ := lawc_counted hRL p_counted hi6 hL hr
        rw [show (Value.int (nI 14)) = .int 14 from rfl, x1200_33_14, e2]
        exact next h2 r2
      by_cases c15 : k = 15
      · subst c15
        obtain ⟨h2, r2, e2⟩ := lawc_trace hRL p_trace hi6 hL hr
        rw [show (Value.int (nI 15)) = .int 15 from rfl, x1200_33_15, e2]
        exact next h2 r2
      by_cases c16 : k = 16
      · subst c16
        obtain ⟨h2, r2, e2⟩ := lawc_left hRL p_left hi6 hL hr
        rw [show (Value.int (nI 16)) = .int 16 from rfl, x1200_33_16, e2]
        exact next h2 r2
      by_cases c17 : k = 17
      · subst c17
        obtain ⟨h2, r2, e2⟩ := lawc_walk hRL p_walk hi6 hL hr
        rw [show (Value.int (nI 17)) = .int 17 from rfl, x1200_33_17, e2]
        exact next h2 r2
      by_cases c18 : k = 18
      · subst c18
        obtain ⟨h2, r2, e2⟩ := lawc_step hRL p_step hi6 hL hr
        rw [show (Value.int (nI 18)) = .int 18 from rfl, x1200_33_18, e2]
        exact next h2 r2
      by_cases c19 : k = 19
      · subst c19
        obtain ⟨h2, r2, e2⟩ := lawc_frame hRL p_frame hi6 hL hr
        rw [show (Value.int (nI 19)) = .int 19 from rfl, x1200_33_19, e2]
        exact next h2 r2
      by_cases c20 : k = 20
      · subst c20
        obtain ⟨h2, r2, e2⟩ := lawc_register hRL p_register hi6 hL hr
        rw [show (Value.int (nI 20)) = .int 20 from rfl, x1200_33_20, e2]
        exact next h2 r2
      by_cases c21 : k = 21
      · subst c21
        obtain ⟨h2, r2, e2⟩ := lawc_drop hRL p_drop hi6 hL hr
        rw [show (Value.int (nI 21)) = .int 21 from rfl, x1200_33_21, e2]
        exact next h2 r2
      by_cases c22 : k = 22
      · subst c22
        obtain ⟨h2, r2, e2⟩ := lawc_told hRL p_told hi6 hL hr
        rw [show (Value.int (nI 22)) = .int 22 from rfl, x1200_33_22, e2]
        exact next h2 r2
      have hout : (nI k).toInt < 0 ∨ 22 < (nI k).toInt := by rw [nI_toInt (by omega)]; omega
      rw [x1200_33_d hout]
      exact next h hr
theorem PURE_of (RL : (Nat → Int32) → Nat → HP → Prop) (hRL : ∀ xs L h, RL xs L h → FX L h ∧ ∀ j, hp_i h 1 j = xs j) (hB : ∀ xs L h, RL xs L h → hp_n h ≤ 600004 ∧ hp_s h ≤ 7302250)
    (hC : ∀ xs L, L ≤ 3072 → ∃ h, RL xs L h ∧ pX 1200 0 [.ref 1, .retAddr 0, .retAddr 0, .retAddr 0] [] (h00 xs L) = pX 1200 18 [.ref 1, .ref 4, .ref 244, .int (nI 0)] [] h)
    (p_member : ∀ xs L, PR_member L (RL xs L))
    (p_act : ∀ xs L, PR_act L (RL xs L))
    (p_handler : ∀ xs L, PR_handler L (RL xs L))
    (p_cut : ∀ xs L, PR_cut L (RL xs L))
    (p_price : ∀ xs L, PR_price L (RL xs L))
    (p_verify : ∀ xs L, PR_verify L (RL xs L))
    (p_info : ∀ xs L, PR_info L (RL xs L))
    (p_set : ∀ xs L, PR_set L (RL xs L))
    (p_plan : ∀ xs L, PR_plan L (RL xs L))
    (p_argument : ∀ xs L, PR_argument L (RL xs L))
    (p_run : ∀ xs L, PR_run L (RL xs L))
    (p_result : ∀ xs L, PR_result L (RL xs L))
    (p_into : ∀ xs L, PR_into L (RL xs L))
    (p_cell : ∀ xs L, PR_cell L (RL xs L))
    (p_counted : ∀ xs L, PR_counted L (RL xs L))
    (p_trace : ∀ xs L, PR_trace L (RL xs L))
    (p_left : ∀ xs L, PR_left L (RL xs L))
    (p_walk : ∀ xs L, PR_walk L (RL xs L))
    (p_step : ∀ xs L, PR_step L (RL xs L))
    (p_frame : ∀ xs L, PR_frame L (RL xs L))
    (p_register : ∀ xs L, PR_register L (RL xs L))
    (p_drop : ∀ xs L, PR_drop L (RL xs L))
    (p_told : ∀ xs L, PR_told L (RL xs L))
    : PURE := by
  intro xs L hL
  obtain ⟨h, hr, e⟩ := hC xs L hL
  obtain ⟨h', r', e'⟩ := law_loop hL (hRL xs L) (p_member xs L) (p_act xs L) (p_handler xs L) (p_cut xs L) (p_price xs L) (p_verify xs L) (p_info xs L) (p_set xs L) (p_plan xs L) (p_argument xs L) (p_run xs L) (p_result xs L) (p_into xs L) (p_cell xs L) (p_counted xs L) (p_trace xs L) (p_left xs L) (p_walk xs L) (p_step xs L) (p_frame xs L) (p_register xs L) (p_drop xs L) (p_told xs L) (L + 7) 0 h (by omega) (by omega) hr
  exact ⟨h', e.trans e', hB xs L h' r'⟩
