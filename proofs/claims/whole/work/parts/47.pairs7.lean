/-! PAIRS: argument, cell, into; the model's kindOf, toldOf -/
theorem RGc.irr {s : SM} {b j : Nat} {x : Int32} (g : RGc s) (hb : ¬ (244 ≤ b ∧ b ≤ 249) ∧ b ≠ 251 ∧ ¬ (266 ≤ b ∧ b ≤ 268) ∧ ((b = 269 ∨ b = 270) → j < 96)) : RGc (hp_u s b j x) := by
  have e : ∀ p q, (244 ≤ p ∧ p ≤ 249) ∨ p = 251 ∨ (266 ≤ p ∧ p ≤ 268) → hp_u s b j x p q = s p q := fun p q hp => if_neg (by omega)
  have e1 : ∀ f, hp_u s b j x 269 (96 + f) = s 269 (96 + f) := fun f => if_neg (by omega)
  have e2 : ∀ f, hp_u s b j x 270 (96 + f) = s 270 (96 + f) := fun f => if_neg (by omega)
  unfold RGc
  simp only [e 244 _ (by omega), e 245 _ (by omega), e 246 _ (by omega), e 247 _ (by omega), e 248 _ (by omega), e 249 _ (by omega), e 251 _ (by omega), e 266 _ (by omega), e 267 _ (by omega), e 268 _ (by omega), e1, e2]
  exact g
theorem RG_irr {σ : SM} {b j : Nat} {x : Int32} (g : RG σ) (hb : ¬ (244 ≤ b ∧ b ≤ 249) ∧ b ≠ 251 ∧ ¬ (266 ≤ b ∧ b ≤ 268) ∧ ((b = 269 ∨ b = 270) → j < 96)) : RG (hp_u σ b j x) := by
  by_cases q : freeS b j
  · exact RG_u g q
  · show RGc _
    rw [mG_n q]
    exact RGc.irr g hb
theorem RG.res {σ : SM} {K V : Int32} (g : RG σ) (hz : σ 244 29 = 0) : RG (hp_u (hp_u σ 244 15 K) 244 16 V) := by
  show RGc _
  rw [mG_n (by unfold freeS; omega), mG_n (by unfold freeS; omega)]
  have hz' : mG σ 244 29 = 0 := by rw [mG_at (by unfold freeS; omega)]; exact hz
  have g' : RGc (mG σ) := g
  generalize mG σ = s at hz' g'
  obtain ⟨g1, g2, g3, g4, g5, g6, g7, g8, g9, g10, g11, g12, g13, g14, g15, g16, g17⟩ := g'
  have z0 : ix (s 244 29) = 0 := by rw [hz']; rfl
  unfold RGc
  simp only [hp_u, Nat.reduceEqDiff, false_and, if_false, true_and, and_false]
  exact ⟨g1, g2, g3, g4, g5, g6, g7, g8, g9, g10, g11, g12, g13, g14, g15, fun q => absurd q (by omega), g17⟩
theorem RL.cnt {xs : Nat → Int32} {L : Nat} {h : HP} (w : RL xs L h) : ∃ C R N : Nat, hp_i h 244 17 = nI C ∧ C ≤ 6000 ∧ hp_i h 244 23 = nI R ∧ R ≤ 6000 ∧ hp_i h 244 28 = nI N ∧ N ≤ 6000 := by
  obtain ⟨_, _, _, _, _, _, _, _, _, ⟨C, c1, c2⟩, ⟨R, r1, r2⟩, ⟨N, n1, n2⟩, _⟩ := w.g
  rw [mG_at (by unfold freeS; omega)] at c1 r1 n1
  exact ⟨C, R, N, c1, c2, r1, r2, n1, n2⟩
/-- a THING whose number the model's arrays have -/
def okX (K V : Int32) : Prop := K = 0 ∨ K = 1 ∨ (K = 2 ∧ ∃ n : Nat, V = nI n ∧ n < 6000) ∨ (K = 3 ∧ ∃ n : Nat, V = nI n ∧ n < 6000)
theorem okT.x {σ : SM} {K V : Int32} (w : okT σ K V) (h1 : ix (σ 244 17) ≤ 6000) (h2 : ix (σ 244 23) ≤ 6000) : okX K V := by
  rcases w with rfl | rfl | ⟨rfl, n, rfl, hn⟩ | ⟨rfl, n, rfl, hn⟩
  · exact Or.inl rfl
  · exact Or.inr (Or.inl rfl)
  · exact Or.inr (Or.inr (Or.inl ⟨rfl, n, rfl, by omega⟩))
  · exact Or.inr (Or.inr (Or.inr ⟨rfl, n, rfl, by omega⟩))
theorem sp_kindOf {L : Nat} {g : HP} {K V : Int32} (x : FX L g) (ok : okX K V) : pX 1119 0 [.ref 244, .int K, .int V] [] g = some (some (.int (thK (hp_i g) K V)), g) := by
  rcases ok with rfl | rfl | ⟨rfl, n, rfl, hn⟩ | ⟨rfl, n, rfl, hn⟩
  · simp [x1119_0, x1119_1, x1119_4, x1119_6, x1119_9, x1119_10, x1119_11, x1119_14, x1119_15, x1119_18, x1119_19, x1119_20, x1119_23, x1119_24, x1119_25, x1119_28, x1119_29, x1119_30, x1119_31, x1119_34, x1119_35, x1119_36, x1119_39, x1119_40, x1119_41, x1119_42, thK]
  · simp [x1119_0, x1119_1, x1119_4, x1119_6, x1119_9, x1119_10, x1119_11, x1119_14, x1119_15, x1119_18, x1119_19, x1119_20, x1119_23, x1119_24, x1119_25, x1119_28, x1119_29, x1119_30, x1119_31, x1119_34, x1119_35, x1119_36, x1119_39, x1119_40, x1119_41, x1119_42, thK]
  · have e1 : inb (nI n) 6000 = true := inb_nI (by omega) (by omega)
    simp [x1119_0, x1119_1, x1119_4, x1119_6, x1119_9, x1119_10, x1119_11, x1119_14, x1119_15, x1119_18, x1119_19, x1119_20, x1119_23, x1119_24, x1119_25, x1119_28, x1119_29, x1119_30, x1119_31, x1119_34, x1119_35, x1119_36, x1119_39, x1119_40, x1119_41, x1119_42, thK, x.k244, x.a244_18, x.k257, x.l257, e1]
  · have e1 : inb (nI n) 6000 = true := inb_nI (by omega) (by omega)
    simp [x1119_0, x1119_1, x1119_4, x1119_6, x1119_9, x1119_10, x1119_11, x1119_14, x1119_15, x1119_18, x1119_19, x1119_20, x1119_23, x1119_24, x1119_25, x1119_28, x1119_29, x1119_30, x1119_31, x1119_34, x1119_35, x1119_36, x1119_39, x1119_40, x1119_41, x1119_42, thK, x.k244, x.a244_24, x.k262, x.l262, e1]
def thV (σ : SM) (K V : Int32) : Int32 := if K = 0 then 0 else if K = 1 then V else if K = 2 then σ 258 (ix V) else σ 264 (ix V)
theorem sp_toldOf {L : Nat} {g : HP} {K V : Int32} (x : FX L g) (ok : okX K V) : pX 1120 0 [.ref 244, .int K, .int V] [] g = some (some (.int (thV (hp_i g) K V)), g) := by
  rcases ok with rfl | rfl | ⟨rfl, n, rfl, hn⟩ | ⟨rfl, n, rfl, hn⟩
  · simp [x1120_0, x1120_1, x1120_4, x1120_5, x1120_8, x1120_9, x1120_10, x1120_13, x1120_14, x1120_17, x1120_18, x1120_19, x1120_22, x1120_23, x1120_26, x1120_27, x1120_28, x1120_31, x1120_32, x1120_35, x1120_36, x1120_37, thV]
  · simp [x1120_0, x1120_1, x1120_4, x1120_5, x1120_8, x1120_9, x1120_10, x1120_13, x1120_14, x1120_17, x1120_18, x1120_19, x1120_22, x1120_23, x1120_26, x1120_27, x1120_28, x1120_31, x1120_32, x1120_35, x1120_36, x1120_37, thV]
  · have e1 : inb (nI n) 6000 = true := inb_nI (by omega) (by omega)
    simp [x1120_0, x1120_1, x1120_4, x1120_5, x1120_8, x1120_9, x1120_10, x1120_13, x1120_14, x1120_17, x1120_18, x1120_19, x1120_22, x1120_23, x1120_26, x1120_27, x1120_28, x1120_31, x1120_32, x1120_35, x1120_36, x1120_37, thV, x.k244, x.a244_19, x.k258, x.l258, e1]
  · have e1 : inb (nI n) 6000 = true := inb_nI (by omega) (by omega)
    simp [x1120_0, x1120_1, x1120_4, x1120_5, x1120_8, x1120_9, x1120_10, x1120_13, x1120_14, x1120_17, x1120_18, x1120_19, x1120_22, x1120_23, x1120_26, x1120_27, x1120_28, x1120_31, x1120_32, x1120_35, x1120_36, x1120_37, thV, x.k244, x.a244_26, x.k264, x.l264, e1]
theorem thK_ms {h : HP} {σ : SM} (K V : Int32) : thK (hp_i (mset h σ)) K V = thK σ K V := by
  unfold thK
  rw [ms_r (by omega), ms_r (by omega)]
/-- what a slot tells -/
theorem CR.measure {L : Nat} {h0 h : HP} {σ : SM} {ca ra : Nat → Nat} {hs : Nat → List Nat} {sp : List Nat} {a : Nat} {K V : Int32} (w : CR L h0 h σ ca ra hs sp) (hk : hp_k h a = 9) (t : TH h σ ca ra a K V) : pX 809 0 [.ref a] [] h = some (some (.int (thV σ K V)), h) := by
  have f1 := ix_lt (σ 244 17)
  have f2 := ix_lt (σ 244 23)
  rcases t with ⟨rfl, t1, t2, t3, t4⟩ | ⟨rfl, t1, t2, t3, t4⟩ | ⟨n, s, rfl, rfl, t0, ts, ts3, t1, t2, t3, t4⟩ | ⟨n, l, rfl, rfl, t0, ts, ts3, t1, t2, t3, t4⟩
  · rw [sp_measure hk (Or.inl t3) (Or.inl t4), if_pos t3, if_pos t4, t2]; rfl
  · rw [sp_measure hk (Or.inl t3) (Or.inl t4), if_pos t3, if_pos t4, t2]; rfl
  · obtain ⟨c1, c2, c3, c4, c5, c6, c7, c8⟩ := w.cel t0
    rw [sp_measure hk (Or.inr (by rw [t3]; exact c3)) (Or.inl t4), if_neg (by omega), t3, c7]
    unfold thV
    rw [ix_nI (by omega), if_neg (by decide), if_neg (by decide), if_pos rfl]
  · obtain ⟨c1, c2, c3, c4, c5, c6, c7, c8⟩ := w.row t0
    rw [sp_measure hk (Or.inl t3) (Or.inr (by rw [t4]; exact c3)), if_pos t3, if_neg (by omega), t4, c7]
    unfold thV
    rw [ix_nI (by omega), if_neg (by decide), if_neg (by decide), if_neg (by decide)]
theorem pr_argument (xs : Nat → Int32) (L : Nat) : PR_argument L (RL xs L) := by
  intro h a1 a2 a3 w
  have x := w.fx
  rcases out_cases a1 2 (by decide) with q | ⟨k, rfl, hk, q⟩
  · refine pr_same (v := -2) w ?_ ?_
    · simp only [x1010_0, x1010_1, x1010_2, x1010_3, x1010_6, x1010_9, x1010_11, x1010_12, x1010_13_0, x1010_13_1, x1010_13_2, x1010_40, x1010_41, x1010_44, x1010_45, x1010_46, x1010_49, x1010_50, x1010_51, x1010_52, x1010_55, x1010_56, x1010_57, x1010_58, x1010_61, x1010_62, x1010_63, x1010_64, x1010_67, x1010_68, x1010_69, x1010_70, x1010_73, x1010_76, x1010_79, x1010_80, x1010_81, x1010_83, sp_isOutside, if_pos q, Option.bind_some, Option.toList_some, Option.toList_none, List.singleton_append, List.nil_append]
      simp [x1010_0, x1010_1, x1010_2, x1010_3, x1010_6, x1010_9, x1010_11, x1010_12, x1010_13_0, x1010_13_1, x1010_13_2, x1010_40, x1010_41, x1010_44, x1010_45, x1010_46, x1010_49, x1010_50, x1010_51, x1010_52, x1010_55, x1010_56, x1010_57, x1010_58, x1010_61, x1010_62, x1010_63, x1010_64, x1010_67, x1010_68, x1010_69, x1010_70, x1010_73, x1010_76, x1010_79, x1010_80, x1010_81, x1010_83]
    · simp only [x1118_0, x1118_1, x1118_2, x1118_3, x1118_6, x1118_9, x1118_10, x1118_11, x1118_12, x1118_15, x1118_18, x1118_20, x1118_21, x1118_22, x1118_25, x1118_26, x1118_27, x1118_30, x1118_31, x1118_34, x1118_35, x1118_36, x1118_39, x1118_40, x1118_43, x1118_44, x1118_47, x1118_48, x1118_49, x1118_52, x1118_53, x1118_54, x1118_57, x1118_58, x1118_61, x1118_62, x1118_63, x1118_66, x1118_67, x1118_70, x1118_71, x1118_74, x1118_75, x1118_76, sp_in, if_pos q, Option.bind_some, Option.toList_some, Option.toList_none, List.singleton_append, List.nil_append]
      simp [x1118_0, x1118_1, x1118_2, x1118_3, x1118_6, x1118_9, x1118_10, x1118_11, x1118_12, x1118_15, x1118_18, x1118_20, x1118_21, x1118_22, x1118_25, x1118_26, x1118_27, x1118_30, x1118_31, x1118_34, x1118_35, x1118_36, x1118_39, x1118_40, x1118_43, x1118_44, x1118_47, x1118_48, x1118_49, x1118_52, x1118_53, x1118_54, x1118_57, x1118_58, x1118_61, x1118_62, x1118_63, x1118_66, x1118_67, x1118_70, x1118_71, x1118_74, x1118_75, x1118_76]
  rcases out_cases a2 2 (by decide) with q2 | ⟨n, rfl, hn, q2⟩
  · have q3 : a2.toInt < 0 ∨ 2 < a2.toInt := by
      rcases q2 with q | q
      · rw [Int32.lt_iff_toInt_lt] at q; exact Or.inl q
      · rw [Int32.lt_iff_toInt_lt] at q; exact Or.inr q
    refine pr_same (v := -2) w ?_ ?_
    · simp only [x1010_0, x1010_1, x1010_2, x1010_3, x1010_6, x1010_9, x1010_11, x1010_12, x1010_13_0, x1010_13_1, x1010_13_2, x1010_40, x1010_41, x1010_44, x1010_45, x1010_46, x1010_49, x1010_50, x1010_51, x1010_52, x1010_55, x1010_56, x1010_57, x1010_58, x1010_61, x1010_62, x1010_63, x1010_64, x1010_67, x1010_68, x1010_69, x1010_70, x1010_73, x1010_76, x1010_79, x1010_80, x1010_81, x1010_83, sp_isOutside, if_neg q, Option.bind_some, Option.toList_some, Option.toList_none, List.singleton_append, List.nil_append]
      simp [x1010_0, x1010_1, x1010_2, x1010_3, x1010_6, x1010_9, x1010_11, x1010_12, x1010_13_0, x1010_13_1, x1010_13_2, x1010_40, x1010_41, x1010_44, x1010_45, x1010_46, x1010_49, x1010_50, x1010_51, x1010_52, x1010_55, x1010_56, x1010_57, x1010_58, x1010_61, x1010_62, x1010_63, x1010_64, x1010_67, x1010_68, x1010_69, x1010_70, x1010_73, x1010_76, x1010_79, x1010_80, x1010_81, x1010_83, x1010_13_d q3]
    · simp only [x1118_0, x1118_1, x1118_2, x1118_3, x1118_6, x1118_9, x1118_10, x1118_11, x1118_12, x1118_15, x1118_18, x1118_20, x1118_21, x1118_22, x1118_25, x1118_26, x1118_27, x1118_30, x1118_31, x1118_34, x1118_35, x1118_36, x1118_39, x1118_40, x1118_43, x1118_44, x1118_47, x1118_48, x1118_49, x1118_52, x1118_53, x1118_54, x1118_57, x1118_58, x1118_61, x1118_62, x1118_63, x1118_66, x1118_67, x1118_70, x1118_71, x1118_74, x1118_75, x1118_76, sp_in, if_neg q, if_pos q2, Option.bind_some, Option.toList_some, Option.toList_none, List.singleton_append, List.nil_append]
      simp [x1118_0, x1118_1, x1118_2, x1118_3, x1118_6, x1118_9, x1118_10, x1118_11, x1118_12, x1118_15, x1118_18, x1118_20, x1118_21, x1118_22, x1118_25, x1118_26, x1118_27, x1118_30, x1118_31, x1118_34, x1118_35, x1118_36, x1118_39, x1118_40, x1118_43, x1118_44, x1118_47, x1118_48, x1118_49, x1118_52, x1118_53, x1118_54, x1118_57, x1118_58, x1118_61, x1118_62, x1118_63, x1118_66, x1118_67, x1118_70, x1118_71, x1118_74, x1118_75, x1118_76]
  obtain ⟨ca, ra, hs, sp, c⟩ := w.cr
  have e1 : inb (nI k) 3 = true := inb_nI (by omega) (by omega)
  have e2 : ix (nI k) = k := ix_nI (by omega)
  have k1 := x.argk k (by omega)
  have a1 := x.arg k (by omega)
  have p : SLP (hp_i h) ca (241 + k) 255 k 256 k := Or.inr (Or.inl ⟨k, by omega, rfl, rfl, rfl, rfl, rfl⟩)
  have hg : ∀ K V, RG (hp_u (hp_u (hp_i h) 255 k K) 256 k V) := fun K V => RG_irr (RG_irr w.g (by omega)) (by omega)
  have hh : ∀ K V, RH (hp_u (hp_u (hp_i h) 255 k K) 256 k V) := fun K V => RH_u (RH_u w.2.2.2.2.2.1 (by unfold depH; omega)) (by unfold depH; omega)
  match n, hn with
  | 0, _ =>
    refine pr_end (v := 1) w ?_ (c.slot (K := 0) (V := 0) p (Or.inl rfl)) (hg _ _) (hh _ _) ?_
    · simp only [x1010_0, x1010_1, x1010_2, x1010_3, x1010_6, x1010_9, x1010_11, x1010_12, x1010_13_0, x1010_13_1, x1010_13_2, x1010_40, x1010_41, x1010_44, x1010_45, x1010_46, x1010_49, x1010_50, x1010_51, x1010_52, x1010_55, x1010_56, x1010_57, x1010_58, x1010_61, x1010_62, x1010_63, x1010_64, x1010_67, x1010_68, x1010_69, x1010_70, x1010_73, x1010_76, x1010_79, x1010_80, x1010_81, x1010_83, sp_isOutside, if_neg q, Option.bind_some, Option.toList_some, Option.toList_none, List.singleton_append, List.nil_append, show nI 0 = 0 from rfl]
      simp [x1010_0, x1010_1, x1010_2, x1010_3, x1010_6, x1010_9, x1010_11, x1010_12, x1010_13_0, x1010_13_1, x1010_13_2, x1010_40, x1010_41, x1010_44, x1010_45, x1010_46, x1010_49, x1010_50, x1010_51, x1010_52, x1010_55, x1010_56, x1010_57, x1010_58, x1010_61, x1010_62, x1010_63, x1010_64, x1010_67, x1010_68, x1010_69, x1010_70, x1010_73, x1010_76, x1010_79, x1010_80, x1010_81, x1010_83, x.k4, x.a4_2, x.k240, x.l240, e1, e2, a1, k1, sp_nothing, thK]
    · intro g x
      simp only [x1118_0, x1118_1, x1118_2, x1118_3, x1118_6, x1118_9, x1118_10, x1118_11, x1118_12, x1118_15, x1118_18, x1118_20, x1118_21, x1118_22, x1118_25, x1118_26, x1118_27, x1118_30, x1118_31, x1118_34, x1118_35, x1118_36, x1118_39, x1118_40, x1118_43, x1118_44, x1118_47, x1118_48, x1118_49, x1118_52, x1118_53, x1118_54, x1118_57, x1118_58, x1118_61, x1118_62, x1118_63, x1118_66, x1118_67, x1118_70, x1118_71, x1118_74, x1118_75, x1118_76, sp_in, if_neg q, if_neg q2, Option.bind_some, Option.toList_some, Option.toList_none, List.singleton_append, List.nil_append, show nI 0 = 0 from rfl]
      simp [x1118_0, x1118_1, x1118_2, x1118_3, x1118_6, x1118_9, x1118_10, x1118_11, x1118_12, x1118_15, x1118_18, x1118_20, x1118_21, x1118_22, x1118_25, x1118_26, x1118_27, x1118_30, x1118_31, x1118_34, x1118_35, x1118_36, x1118_39, x1118_40, x1118_43, x1118_44, x1118_47, x1118_48, x1118_49, x1118_52, x1118_53, x1118_54, x1118_57, x1118_58, x1118_61, x1118_62, x1118_63, x1118_66, x1118_67, x1118_70, x1118_71, x1118_74, x1118_75, x1118_76, sp_in, hp_k_ms, hp_a_ms, hp_l_ms, hp_i_ms, ms_w, x.k244, x.a244_13, x.a244_14, x.k255, x.l255, x.k256, x.l256, e1, e2]
  | 1, _ =>
    refine pr_end (v := 1) w ?_ (c.slot (K := 1) (V := a3) p (Or.inr (Or.inl rfl))) (hg _ _) (hh _ _) ?_
    · simp only [x1010_0, x1010_1, x1010_2, x1010_3, x1010_6, x1010_9, x1010_11, x1010_12, x1010_13_0, x1010_13_1, x1010_13_2, x1010_40, x1010_41, x1010_44, x1010_45, x1010_46, x1010_49, x1010_50, x1010_51, x1010_52, x1010_55, x1010_56, x1010_57, x1010_58, x1010_61, x1010_62, x1010_63, x1010_64, x1010_67, x1010_68, x1010_69, x1010_70, x1010_73, x1010_76, x1010_79, x1010_80, x1010_81, x1010_83, sp_isOutside, if_neg q, Option.bind_some, Option.toList_some, Option.toList_none, List.singleton_append, List.nil_append, show nI 1 = 1 from rfl]
      simp [x1010_0, x1010_1, x1010_2, x1010_3, x1010_6, x1010_9, x1010_11, x1010_12, x1010_13_0, x1010_13_1, x1010_13_2, x1010_40, x1010_41, x1010_44, x1010_45, x1010_46, x1010_49, x1010_50, x1010_51, x1010_52, x1010_55, x1010_56, x1010_57, x1010_58, x1010_61, x1010_62, x1010_63, x1010_64, x1010_67, x1010_68, x1010_69, x1010_70, x1010_73, x1010_76, x1010_79, x1010_80, x1010_81, x1010_83, x.k4, x.a4_2, x.k240, x.l240, e1, e2, a1, k1, sp_number, thK]
    · intro g x
      simp only [x1118_0, x1118_1, x1118_2, x1118_3, x1118_6, x1118_9, x1118_10, x1118_11, x1118_12, x1118_15, x1118_18, x1118_20, x1118_21, x1118_22, x1118_25, x1118_26, x1118_27, x1118_30, x1118_31, x1118_34, x1118_35, x1118_36, x1118_39, x1118_40, x1118_43, x1118_44, x1118_47, x1118_48, x1118_49, x1118_52, x1118_53, x1118_54, x1118_57, x1118_58, x1118_61, x1118_62, x1118_63, x1118_66, x1118_67, x1118_70, x1118_71, x1118_74, x1118_75, x1118_76, sp_in, if_neg q, if_neg q2, Option.bind_some, Option.toList_some, Option.toList_none, List.singleton_append, List.nil_append, show nI 1 = 1 from rfl]
      simp [x1118_0, x1118_1, x1118_2, x1118_3, x1118_6, x1118_9, x1118_10, x1118_11, x1118_12, x1118_15, x1118_18, x1118_20, x1118_21, x1118_22, x1118_25, x1118_26, x1118_27, x1118_30, x1118_31, x1118_34, x1118_35, x1118_36, x1118_39, x1118_40, x1118_43, x1118_44, x1118_47, x1118_48, x1118_49, x1118_52, x1118_53, x1118_54, x1118_57, x1118_58, x1118_61, x1118_62, x1118_63, x1118_66, x1118_67, x1118_70, x1118_71, x1118_74, x1118_75, x1118_76, sp_in, hp_k_ms, hp_a_ms, hp_l_ms, hp_i_ms, ms_w, x.k244, x.a244_13, x.a244_14, x.k255, x.l255, x.k256, x.l256, e1, e2]
  | 2, _ =>
    obtain ⟨z1, z2, z3, z4, z5⟩ := c.at_ (Or.inl ⟨rfl, rfl, rfl, rfl, rfl⟩)
    refine pr_end (v := 1) w ?_ (c.slot p z5) (hg _ _) (hh _ _) ?_
    · simp only [x1010_0, x1010_1, x1010_2, x1010_3, x1010_6, x1010_9, x1010_11, x1010_12, x1010_13_0, x1010_13_1, x1010_13_2, x1010_40, x1010_41, x1010_44, x1010_45, x1010_46, x1010_49, x1010_50, x1010_51, x1010_52, x1010_55, x1010_56, x1010_57, x1010_58, x1010_61, x1010_62, x1010_63, x1010_64, x1010_67, x1010_68, x1010_69, x1010_70, x1010_73, x1010_76, x1010_79, x1010_80, x1010_81, x1010_83, sp_isOutside, if_neg q, Option.bind_some, Option.toList_some, Option.toList_none, List.singleton_append, List.nil_append, show nI 2 = 2 from rfl]
      simp [x1010_0, x1010_1, x1010_2, x1010_3, x1010_6, x1010_9, x1010_11, x1010_12, x1010_13_0, x1010_13_1, x1010_13_2, x1010_40, x1010_41, x1010_44, x1010_45, x1010_46, x1010_49, x1010_50, x1010_51, x1010_52, x1010_55, x1010_56, x1010_57, x1010_58, x1010_61, x1010_62, x1010_63, x1010_64, x1010_67, x1010_68, x1010_69, x1010_70, x1010_73, x1010_76, x1010_79, x1010_80, x1010_81, x1010_83, x.k4, x.a4_0, x.k5, x.a5_8, x.k14, x.a4_2, x.k240, x.l240, e1, e2, a1, k1, sp_copy, z1, z2, z3, z4]
    · intro g x
      simp only [x1118_0, x1118_1, x1118_2, x1118_3, x1118_6, x1118_9, x1118_10, x1118_11, x1118_12, x1118_15, x1118_18, x1118_20, x1118_21, x1118_22, x1118_25, x1118_26, x1118_27, x1118_30, x1118_31, x1118_34, x1118_35, x1118_36, x1118_39, x1118_40, x1118_43, x1118_44, x1118_47, x1118_48, x1118_49, x1118_52, x1118_53, x1118_54, x1118_57, x1118_58, x1118_61, x1118_62, x1118_63, x1118_66, x1118_67, x1118_70, x1118_71, x1118_74, x1118_75, x1118_76, sp_in, if_neg q, if_neg q2, Option.bind_some, Option.toList_some, Option.toList_none, List.singleton_append, List.nil_append, show nI 2 = 2 from rfl]
      simp [x1118_0, x1118_1, x1118_2, x1118_3, x1118_6, x1118_9, x1118_10, x1118_11, x1118_12, x1118_15, x1118_18, x1118_20, x1118_21, x1118_22, x1118_25, x1118_26, x1118_27, x1118_30, x1118_31, x1118_34, x1118_35, x1118_36, x1118_39, x1118_40, x1118_43, x1118_44, x1118_47, x1118_48, x1118_49, x1118_52, x1118_53, x1118_54, x1118_57, x1118_58, x1118_61, x1118_62, x1118_63, x1118_66, x1118_67, x1118_70, x1118_71, x1118_74, x1118_75, x1118_76, sp_in, hp_k_ms, hp_a_ms, hp_l_ms, hp_i_ms, ms_w, x.k244, x.a244_13, x.a244_14, x.k255, x.l255, x.k256, x.l256, e1, e2, hu_at]
