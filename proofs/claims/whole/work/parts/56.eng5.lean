/-! THE ENGINE, 5: is, same, weigh -/
def isOfM (k w : Int32) : Int32 := if k = -5 then 0 else if w = 11 then 1 else if w = 10 then (if k ≤ 4 then 0 else 1) else if w ≤ 0 then (if k = w then 1 else 0) else if 5 ≤ w then (if k = w then 1 else 0) else if k < w then 0 else if 5 ≤ k then 0 else 1
theorem isOf_cel : ∀ s : Nat, s < 4 → ∀ n : Nat, n < 12 → isOfV (nI (1 + s)) 1 0 (nI n) = isOfM (nI (1 + s)) (nI n) := by decide +kernel
theorem isOf_row : ∀ l : Nat, l < 5 → ∀ n : Nat, n < 12 → isOfV (nI (5 + l)) 0 1 (nI n) = isOfM (nI (5 + l)) (nI n) := by decide +kernel
theorem isOf_num : ∀ n : Nat, n < 12 → isOfV 0 0 0 (nI n) = isOfM 0 (nI n) := by decide +kernel
theorem isOf_01 (k w : Int32) : isOfM k w = 0 ∨ isOfM k w = 1 := by
  unfold isOfM
  repeat' split
  all_goals first | exact Or.inl rfl | exact Or.inr rfl
theorem isOfV_ce {kd w : Int32} {ce ro : Nat} (h : ¬ ce = 0) : isOfV kd ce ro w = isOfV kd 1 ro w := by
  unfold isOfV
  rw [if_neg h, if_neg (show ¬ 1 = 0 by omega)]
theorem isOfV_ro {kd w : Int32} {ce ro : Nat} (h : ¬ ro = 0) : isOfV kd ce ro w = isOfV kd ce 1 w := by
  unfold isOfV
  rw [if_neg h, if_neg (show ¬ 1 = 0 by omega)]
section
variable {L : Nat} {h0 h : HP} {σ : SM} {ca ra : Nat → Nat} {hs : Nat → List Nat} {sp : List Nat} {f a b c : Nat}
theorem sp_isOfM {k : HP} {K V w : Int32} (x : FX L k) (ok : okX K V) : pX 1121 0 [.ref 244, .int K, .int V, .int w, .retAddr 0] [] (mset k σ) = some (some (.int (isOfM (thK σ K V) w)), mset k σ) := by
  have i1 := sp_kindOf (x.ms (σ := σ)) ok
  rw [thK_ms] at i1
  simp only [x1121_0, x1121_1, x1121_2, x1121_3, x1121_6, x1121_8, x1121_10, x1121_12, x1121_15, x1121_16, x1121_17, x1121_18, x1121_20, x1121_23, x1121_24, x1121_26, x1121_29, x1121_31, x1121_32, x1121_35, x1121_38, x1121_39, x1121_42, x1121_43, x1121_44, x1121_47, x1121_49, x1121_50, x1121_53, x1121_55, x1121_56, x1121_59, x1121_62, x1121_64, x1121_65, x1121_68, x1121_69, x1121_72, x1121_73, hp_k_ms, x.k244, i1, Option.bind_some, Option.toList_some, Option.toList_none, List.singleton_append, List.nil_append]
  generalize thK σ K V = kd
  unfold isOfM
  by_cases h1 : kd = -5
  · simp [x1121_16, x1121_73, h1]
  · by_cases h2 : w = 11
    · simp [x1121_16, x1121_73, h1, h2]
    · by_cases h3 : w = 10
      · by_cases h4 : kd ≤ 4 <;> simp [x1121_16, x1121_73, h1, h3, h4]
      · by_cases h4 : w ≤ 0
        · by_cases h5 : kd = w
          · subst h5
            simp [x1121_16, x1121_73, h1, h2, h3, h4]
          · simp [x1121_16, x1121_73, h1, h2, h3, h4, h5]
        · by_cases h5 : 5 ≤ w
          · by_cases h6 : kd = w
            · subst h6
              simp [x1121_16, x1121_73, h1, h2, h3, h4, h5]
            · simp [x1121_16, x1121_73, h1, h2, h3, h4, h5, h6]
          · by_cases h6 : kd < w
            · simp [x1121_16, x1121_73, h1, h2, h3, h4, h5, h6]
            · by_cases h7 : 5 ≤ kd <;> simp [x1121_16, x1121_73, h1, h2, h3, h4, h5, h6, h7]
theorem CR.isOf {a : Nat} {K V : Int32} {n : Nat} (w : CR L h0 h σ ca ra hs sp) (hk : hp_k h a = 9) (z : SLn h σ ca ra a K V) (hn : n ≤ 11) : pX 807 0 [.ref a, .int (nI n)] [] h = some (some (.int (isOfM (thK σ K V) (nI n))), h) := by
  have t := w.th_ z
  rw [← z.1, sp_isOf hk]
  rcases t with ⟨rfl, t1, t2, t3, t4⟩ | ⟨rfl, t1, t2, t3, t4⟩ | ⟨m, s, rfl, rfl, t0, ts, ts3, t1, t2, t3, t4⟩ | ⟨m, l, rfl, rfl, t0, ts, ts3, t1, t2, t3, t4⟩
  · rw [t1]; rfl
  · rw [t1, t3, t4, isOf_num n (by omega)]
  · have c1 := (w.cel t0).1
    rw [t1, t3, t4, isOfV_ce (by omega), isOf_cel s (by omega) n (by omega)]
  · have c1 := (w.row t0).1
    rw [t1, t3, t4, isOfV_ro (by omega), isOf_row l (by omega) n (by omega)]
/-- two registers are the same -/
def sameP (σ : SM) (i j : Nat) : Prop := σ 269 i = σ 269 j ∧ (σ 269 i = 0 ∨ σ 270 i = σ 270 j)
theorem SLn.okk {a : Nat} {K V : Int32} (w : CR L h0 h σ ca ra hs sp) (z : SLn h σ ca ra a K V) : okr (hp_a h a 2) = true ∧ okr (hp_a h a 3) = true := by
  unfold okr
  rcases w.th_ z with ⟨rfl, t1, t2, t3, t4⟩ | ⟨rfl, t1, t2, t3, t4⟩ | ⟨m, s, rfl, rfl, t0, ts, ts3, t1, t2, t3, t4⟩ | ⟨m, l, rfl, rfl, t0, ts, ts3, t1, t2, t3, t4⟩
  · rw [t3, t4]; exact ⟨rfl, rfl⟩
  · rw [t3, t4]; exact ⟨rfl, rfl⟩
  · have c1 := (w.cel t0).1
    rw [t3, t4]
    refine ⟨?_, rfl⟩
    rw [Bool.or_eq_true]
    exact Or.inr (decide_eq_true (by omega))
  · have c1 := (w.row t0).1
    rw [t3, t4]
    refine ⟨rfl, ?_⟩
    rw [Bool.or_eq_true]
    exact Or.inr (decide_eq_true (by omega))
theorem CR.rinj (w : CR L h0 h σ ca ra hs sp) {k k' : Nat} (hk : k < ix (σ 244 23)) (hk' : k' < ix (σ 244 23)) (e : ra k = ra k') : k = k' :=
  w.rx.2.2.2.1.2.1 k k' (by rw [mS_x (by omega)]; exact hk) (by rw [mS_x (by omega)]; exact hk') e
theorem same_iff {a b : Nat} {K V K' V' : Int32} (w : CR L h0 h σ ca ra hs sp) (t : TH h σ ca ra a K V) (t' : TH h σ ca ra b K' V') : (hp_i h a 0 = hp_i h b 0 ∧ hp_i h a 1 = hp_i h b 1 ∧ hp_a h a 2 = hp_a h b 2 ∧ hp_a h a 3 = hp_a h b 3) ↔ (K = K' ∧ (K = 0 ∨ V = V')) := by
  have f1 := ix_lt (σ 244 17)
  have f2 := ix_lt (σ 244 23)
  have d01 : ¬ (-5 : Int32) = 0 := by decide
  have d10 : ¬ (0 : Int32) = -5 := by decide
  have n5 : ∀ n : Nat, n < 2147483648 → ¬ (-5 : Int32) = nI n := fun n hn e => nI_n5 hn e.symm
  have n0 : ∀ n : Nat, 0 < n → n < 2147483648 → ¬ (0 : Int32) = nI n := fun n h1 h2 e => nI_ne0 h1 h2 e.symm
  rcases t with ⟨rfl, t1, t2, t3, t4⟩ | ⟨rfl, t1, t2, t3, t4⟩ | ⟨m, s, rfl, rfl, t0, ts, ts3, t1, t2, t3, t4⟩ | ⟨m, s, rfl, rfl, t0, ts, ts3, t1, t2, t3, t4⟩ <;>
  rcases t' with ⟨rfl, u1, u2, u3, u4⟩ | ⟨rfl, u1, u2, u3, u4⟩ | ⟨m', s', rfl, rfl, u0, us, us3, u1, u2, u3, u4⟩ | ⟨m', s', rfl, rfl, u0, us, us3, u1, u2, u3, u4⟩ <;>
  rw [t1, t2, t3, t4, u1, u2, u3, u4]
  · simp
  · simp [d01]
  · simp [n5 (1 + s') (by omega)]
  · simp [n5 (5 + s') (by omega)]
  · simp [d10]
  · simp
  · simp [n0 (1 + s') (by omega) (by omega)]
  · simp [n0 (5 + s') (by omega) (by omega)]
  · simp [nI_n5 (n := 1 + s) (by omega)]
  · simp [nI_ne0 (n := 1 + s) (by omega) (by omega)]
  · constructor
    · intro e
      have := w.cinj t0 u0 e.2.2.1
      exact ⟨rfl, Or.inr (by rw [this])⟩
    · rintro ⟨-, e | e⟩
      · exact absurd e (by decide)
      · have e1 := (nI_eq (by omega) (by omega)).mp e
        subst e1
        rw [ts] at us
        exact ⟨by rw [(nI_eq (by omega) (by omega)).mp us], rfl, rfl, rfl⟩
  · have : ¬ nI (1 + s) = nI (5 + s') := fun e => by have := (nI_eq (by omega) (by omega)).mp e; omega
    simp [this]
  · simp [nI_n5 (n := 5 + s) (by omega)]
  · simp [nI_ne0 (n := 5 + s) (by omega) (by omega)]
  · have : ¬ nI (5 + s) = nI (1 + s') := fun e => by have := (nI_eq (by omega) (by omega)).mp e; omega
    simp [this]
  · constructor
    · intro e
      have := w.rinj t0 u0 e.2.2.2
      exact ⟨rfl, Or.inr (by rw [this])⟩
    · rintro ⟨-, e | e⟩
      · exact absurd e (by decide)
      · have e1 := (nI_eq (by omega) (by omega)).mp e
        subst e1
        rw [ts] at us
        exact ⟨by rw [(nI_eq (by omega) (by omega)).mp us], rfl, rfl, rfl⟩
/-- model: same -/
theorem sp_same {k : HP} (x : FX L k) (m0 : σ 244 45 = nI (8 * f)) (m1 : σ 244 46 = nI a) (m2 : σ 244 47 = nI b) (m3 : σ 244 48 = nI c) (hf : f < 12) (ha : a < 8) (hb : b < 8) (hc : c < 8) : pX 1147 0 [.ref 244, .retAddr 0] [] (mset k σ) = some (some (.int 0), mset k (rgS σ (8 * f + a) 1 (@ite _ (sameP σ (8 * f + b) (8 * f + c)) (Classical.propDecidable _) 1 0))) := by
  have b1 : inb (nI (8 * f + b)) 96 = true := inb_nI (by omega) (by omega)
  have b2 : ix (nI (8 * f + b)) = 8 * f + b := ix_nI (by omega)
  have c1 : inb (nI (8 * f + c)) 96 = true := inb_nI (by omega) (by omega)
  have c2 : ix (nI (8 * f + c)) = 8 * f + c := ix_nI (by omega)
  unfold sameP
  simp only [x1147_0, x1147_1, x1147_4, x1147_5, x1147_8, x1147_9, x1147_12, x1147_13, x1147_14, x1147_15, x1147_18, x1147_19, x1147_22, x1147_23, x1147_26, x1147_27, x1147_28, x1147_31, x1147_32, x1147_35, x1147_36, x1147_39, x1147_40, x1147_43, x1147_44, x1147_45, x1147_48, x1147_50, x1147_53, x1147_56, x1147_57, x1147_58, x1147_61, x1147_64, x1147_67, x1147_68, x1147_71, x1147_72, x1147_73, x1147_74, x1147_75, x1147_76, x1147_79, x1147_80, x1147_83, x1147_84, x1147_87, x1147_88, hp_k_ms, hp_a_ms, hp_l_ms, ms_r (show 244 ≤ 244 ∧ 244 < 276 by omega), ms_r (show 244 ≤ 269 ∧ 269 < 276 by omega), x.k244, x.a244_33, x.k269, x.l269, m0, m2, m3, nI_add, b1, b2, c1, c2, sp_value x m0 hf hb, sp_value x m0 hf hc, Option.bind_some, Option.toList_some, Option.toList_none, List.singleton_append, List.nil_append]
  by_cases h1 : σ 269 (8 * f + b) = σ 269 (8 * f + c)
  · by_cases h2 : σ 269 (8 * f + b) = 0
    · have h3 : σ 269 (8 * f + c) = 0 := h1 ▸ h2
      simp [x1147_0, x1147_1, x1147_4, x1147_5, x1147_8, x1147_9, x1147_12, x1147_13, x1147_14, x1147_15, x1147_18, x1147_19, x1147_22, x1147_23, x1147_26, x1147_27, x1147_28, x1147_31, x1147_32, x1147_35, x1147_36, x1147_39, x1147_40, x1147_43, x1147_44, x1147_45, x1147_48, x1147_49, x1147_50, x1147_53, x1147_56, x1147_57, x1147_58, x1147_61, x1147_64, x1147_67, x1147_68, x1147_71, x1147_72, x1147_73, x1147_74, x1147_75, x1147_76, x1147_79, x1147_80, x1147_83, x1147_84, x1147_87, x1147_88, h2, h3, hp_k_ms, x.k244, sp_makes x m0 m1 hf ha]
    · have h3 : ¬ σ 269 (8 * f + c) = 0 := h1 ▸ h2
      by_cases h4 : σ 270 (8 * f + b) = σ 270 (8 * f + c) <;> simp [x1147_0, x1147_1, x1147_4, x1147_5, x1147_8, x1147_9, x1147_12, x1147_13, x1147_14, x1147_15, x1147_18, x1147_19, x1147_22, x1147_23, x1147_26, x1147_27, x1147_28, x1147_31, x1147_32, x1147_35, x1147_36, x1147_39, x1147_40, x1147_43, x1147_44, x1147_45, x1147_48, x1147_49, x1147_50, x1147_53, x1147_56, x1147_57, x1147_58, x1147_61, x1147_64, x1147_67, x1147_68, x1147_71, x1147_72, x1147_73, x1147_74, x1147_75, x1147_76, x1147_79, x1147_80, x1147_83, x1147_84, x1147_87, x1147_88, h1, h3, h4, hp_k_ms, hp_i_ms, m2, m3, sp_value x m0 hf hb, sp_value x m0 hf hc, x.k244, sp_makes x m0 m1 hf ha]
  · simp [x1147_0, x1147_1, x1147_4, x1147_5, x1147_8, x1147_9, x1147_12, x1147_13, x1147_14, x1147_15, x1147_18, x1147_19, x1147_22, x1147_23, x1147_26, x1147_27, x1147_28, x1147_31, x1147_32, x1147_35, x1147_36, x1147_39, x1147_40, x1147_43, x1147_44, x1147_45, x1147_48, x1147_49, x1147_50, x1147_53, x1147_56, x1147_57, x1147_58, x1147_61, x1147_64, x1147_67, x1147_68, x1147_71, x1147_72, x1147_73, x1147_74, x1147_75, x1147_76, x1147_79, x1147_80, x1147_83, x1147_84, x1147_87, x1147_88, h1, hp_k_ms, x.k244, sp_makes x m0 m1 hf ha]
theorem weigh_loop {sA sB cn B : Nat} {lz : Int32} {nz : Int32} (hB : B ≤ 3) : ∀ (m i : Nat) (h : HP) (σ : SM), i + m = B → CR L h0 h σ ca ra hs sp → GB σ → GP σ →
    (∃ h' σ', pX 333 23 [.ref 5, .ref sA, .ref sB, .ref cn, .int (nI B), .int (nI i)] [] h = some (some (.int (-9)), h') ∧ (∀ k, FX L k → pX 1146 57 [.ref 244, .int lz, .int nz, .int (nI B), .int (nI i)] [] (mset k σ) = some (some (.int 10), mset k σ')) ∧ CR L h0 h' σ' ca ra hs sp ∧ SO σ σ') ∨
    (∃ h' σ', pX 333 23 [.ref 5, .ref sA, .ref sB, .ref cn, .int (nI B), .int (nI i)] [] h = pX 333 50 [.ref 5, .ref sA, .ref sB, .ref cn, .int (nI B), .int (nI B)] [] h' ∧ (∀ k, FX L k → pX 1146 57 [.ref 244, .int lz, .int nz, .int (nI B), .int (nI i)] [] (mset k σ) = pX 1146 96 [.ref 244, .int lz, .int nz, .int (nI B), .int (nI B)] [] (mset k σ')) ∧ CR L h0 h' σ' ca ra hs sp ∧ SO σ σ' ∧ (∀ b j, ¬ (b = 244 ∧ (j = 37 ∨ j = 38)) → ¬ b = 273 → σ' b j = σ b j)) := by
  intro m
  induction m with
  | zero =>
    intro i h σ hi w g gp
    obtain rfl : i = B := by omega
    refine Or.inr ⟨h, σ, ?_, fun k x => ?_, w, SO.refl g, fun _ _ _ _ => rfl⟩
    · simp only [x333_23, x333_25, x333_27, nI_le (Nat.le_refl i) (show i < 2147483648 by omega), if_true]
    · simp only [x1146_57, x1146_59, x1146_60, nI_le (Nat.le_refl i) (show i < 2147483648 by omega), if_true]
  | succ m ih =>
    intro i h σ hi w g gp
    have X := w.fx
    have q1 : ¬ nI B ≤ nI i := nI_nle2 (by omega) (by omega)
    rcases w.pays g gp (q := 0) (by omega) with ⟨p1, p2⟩ | ⟨h', σ1, σ2, p1, p2, p3, p4, p5, p6, p7⟩
    · rw [show nI 0 = 0 from rfl] at p1
      refine Or.inl ⟨h, σ, ?_, fun k x => ?_, w, SO.refl g⟩
      · simp [x333_23, x333_25, x333_27, x333_30, x333_31, x333_34, x333_35, x333_38, x333_41, x333_43, q1, X.k5, X.a5_2, X.k7, p1]
      · simp [x1146_57, x1146_59, x1146_60, x1146_63, x1146_64, x1146_65, x1146_68, x1146_69, x1146_70, x1146_71, x1146_74, x1146_77, x1146_79, q1, hp_k_ms, hp_a_ms, hp_l_ms, hp_i_ms, x.k244, x.a244_7, x.k251, x.l251, p2 k x, inb_lit (show 0 < 5 by decide) (by decide), ix_lit (show 0 < 2147483648 by decide)]
    · rw [show nI 0 = 0 from rfl] at p1
      have e1 : pX 333 23 [.ref 5, .ref sA, .ref sB, .ref cn, .int (nI B), .int (nI i)] [] h = pX 333 23 [.ref 5, .ref sA, .ref sB, .ref cn, .int (nI B), .int (nI (i + 1))] [] h' := by
        generalize hR : pX 333 23 [.ref 5, .ref sA, .ref sB, .ref cn, .int (nI B), .int (nI (i + 1))] [] h' = R
        simp only [x333_23, x333_25, x333_27, q1, if_false, x333_30, x333_31, x333_34, x333_35, x333_38, x333_44, X.k5, X.a5_2, X.k7, p1, Option.bind_some, Option.toList_some, Option.toList_none, List.singleton_append, List.nil_append, i32_10, nI_1]
        rw [x333_47, hR]
      have e2 : ∀ k, FX L k → pX 1146 57 [.ref 244, .int lz, .int nz, .int (nI B), .int (nI i)] [] (mset k σ) = pX 1146 57 [.ref 244, .int lz, .int nz, .int (nI B), .int (nI (i + 1))] [] (mset k σ2) := by
        intro k x
        generalize hR : pX 1146 57 [.ref 244, .int lz, .int nz, .int (nI B), .int (nI (i + 1))] [] (mset k σ2) = R
        rw [p3] at hR
        simp only [x1146_57, x1146_59, x1146_60, q1, if_false, x1146_63, x1146_64, x1146_65, x1146_68, x1146_69, x1146_70, x1146_71, x1146_74, x1146_80, x1146_81, x1146_84, x1146_85, x1146_86, x1146_87, x1146_88, x1146_89, x1146_90, hp_k_ms, hp_a_ms, hp_l_ms, ms_r (show 244 ≤ 251 ∧ 251 < 276 by omega), ms_r (show 244 ≤ 273 ∧ 273 < 276 by omega), ms_w (show 244 ≤ 273 ∧ 273 < 276 by omega), x.k244, x.a244_7, x.k251, x.l251, x.a244_39, x.k273, x.l273, p2 k x, Option.bind_some, Option.toList_some, Option.toList_none, List.singleton_append, List.nil_append, i32_10, nI_1, inb_lit (show 0 < 5 by decide) (by decide), ix_lit (show 0 < 2147483648 by decide), inb_lit (show 1 < 9 by decide) (by decide), ix_lit (show 1 < 2147483648 by decide)]
        rw [x1146_93]
        exact hR
      rcases ih (i + 1) h' σ2 (by omega) p4 p5.2.1 (p5.gp gp) with ⟨h3, σ3, r1, r2, r3, r4⟩ | ⟨h3, σ3, r1, r2, r3, r4, r5⟩
      · exact Or.inl ⟨h3, σ3, e1.trans r1, fun k x => (e2 k x).trans (r2 k x), r3, p5.trans r4⟩
      · refine Or.inr ⟨h3, σ3, e1.trans r1, fun k x => (e2 k x).trans (r2 k x), r3, p5.trans r4, fun b j h1 h2 => ?_⟩
        rw [r5 b j h1 h2, p3, hu_cell h2]
        exact p7 b j h1 h2
end
