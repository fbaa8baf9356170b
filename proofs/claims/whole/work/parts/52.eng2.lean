/-! THE ENGINE, 2: acts that only reckon -/
theorem nI_n5 {n : Nat} (h : n < 2147483648) : ¬ nI n = -5 := by
  intro e
  have := nI_toInt h
  rw [e] at this
  have e2 : (-5 : Int32).toInt = -5 := by decide
  omega
theorem agV_c (K kd : Int32) : agV K kd = 0 ∨ agV K kd = 1 ∨ agV K kd = 3 := by
  unfold agV
  split
  · exact Or.inr (Or.inl rfl)
  · split
    · exact Or.inl rfl
    · exact Or.inr (Or.inr rfl)
theorem agV_z {K : Int32} {kd : Nat} (h1 : 1 ≤ kd) (h2 : kd ≤ 3) : agV K (nI kd) = 0 ↔ K = nI kd := by
  unfold agV
  by_cases q : K = 0
  · rw [if_pos q, q]
    constructor
    · intro z; exact absurd z (by decide)
    · intro z; exact absurd z.symm (nI_ne0 (by omega) (by omega))
  · rw [if_neg q]
    by_cases q2 : K = nI kd
    · rw [if_pos q2]; exact ⟨fun _ => q2, fun _ => rfl⟩
    · rw [if_neg q2]; exact ⟨fun z => absurd z (by decide), fun z => absurd z q2⟩
def OK1 (L : Nat) (h0 : HP) (σ : SM) (v v' : Int32) (h' : HP) (σ' : SM) : Prop := (∃ ca ra hs sp, CR L h0 h' σ' ca ra hs sp) ∧ SO σ σ' ∧ ((v = 0 ∧ v' = 0) ∨ (v = -9 ∧ v' = 10) ∨ ∃ n : Nat, 1 ≤ n ∧ n ≤ 9 ∧ v = nI n ∧ v' = nI n ∧ (n = 9 → σ' 244 42 = hp_i h' 5 9))
def LKS (L : Nat) (h0 h : HP) (σ : SM) (m1 : Nat) (l1 : List Value) (m2 : Nat) (l2 : List Value) : Prop := ∃ v v' h' σ', pX m1 0 l1 [] h = some (some (.int v), h') ∧ (∀ k, FX L k → pX m2 0 l2 [] (mset k σ) = some (some (.int v'), mset k σ')) ∧ OK1 L h0 σ v v' h' σ'
section
variable {L : Nat} {h0 h : HP} {σ : SM} {ca ra : Nat → Nat} {hs : Nat → List Nat} {sp : List Nat} {m1 m2 : Nat} {l1 l2 : List Value}
theorem LKS.kind (n : Nat) (h1 : 1 ≤ n) (h2 : n ≤ 8) (w : CR L h0 h σ ca ra hs sp) (g : GB σ) (c : pX m1 0 l1 [] h = some (some (.int (nI n)), h)) (m : ∀ k, FX L k → pX m2 0 l2 [] (mset k σ) = some (some (.int (nI n)), mset k σ)) : LKS L h0 h σ m1 l1 m2 l2 :=
  ⟨_, _, h, σ, c, m, ⟨ca, ra, hs, sp, w⟩, SO.refl g, Or.inr (Or.inr ⟨n, h1, by omega, rfl, rfl, by omega⟩)⟩
theorem LKS.done {h' : HP} {σ' : SM} (w : CR L h0 h' σ' ca ra hs sp) (s : SO σ σ') (c : pX m1 0 l1 [] h = some (some (.int 0), h')) (m : ∀ k, FX L k → pX m2 0 l2 [] (mset k σ) = some (some (.int 0), mset k σ')) : LKS L h0 h σ m1 l1 m2 l2 :=
  ⟨_, _, h', σ', c, m, ⟨ca, ra, hs, sp, w⟩, s, Or.inl ⟨rfl, rfl⟩⟩
theorem LKS.stop {h' : HP} {σ' : SM} (w : CR L h0 h' σ' ca ra hs sp) (s : SO σ σ') (c : pX m1 0 l1 [] h = some (some (.int (-9)), h')) (m : ∀ k, FX L k → pX m2 0 l2 [] (mset k σ) = some (some (.int 10), mset k σ')) : LKS L h0 h σ m1 l1 m2 l2 :=
  ⟨_, _, h', σ', c, m, ⟨ca, ra, hs, sp, w⟩, s, Or.inr (Or.inl ⟨rfl, rfl⟩)⟩
theorem CR.rk (w : CR L h0 h σ ca ra hs sp) {f r : Nat} (hf : f < 12) (hr : r < 8) : hp_k h (109 + 11 * f + r) = 9 := w.fx.frs f r hf hr
theorem SLP.reg {f r : Nat} (hf : f < ix (σ 244 29)) (hr : r < 8) : SLP σ ca (109 + 11 * f + r) 269 (8 * f + r) 270 (8 * f + r) := Or.inr (Or.inr (Or.inl ⟨f, r, hf, hr, rfl, rfl, rfl, rfl, rfl⟩))
theorem CR.reg (w : CR L h0 h σ ca ra hs sp) {f r : Nat} (hf : f < ix (σ 244 29)) (hr : r < 8) : TH h σ ca ra (109 + 11 * f + r) (σ 269 (8 * f + r)) (σ 270 (8 * f + r)) := w.th (SLP.reg hf hr)
theorem CR.regw {K V : Int32} (w : CR L h0 h σ ca ra hs sp) {f r : Nat} (hf : f < ix (σ 244 29)) (hr : r < 8) (ok : okT σ K V) : CR L h0 (slSet h (109 + 11 * f + r) (thK σ K V) (if K = 1 then V else 0) (if K = 2 then ca (ix V) else 0) (if K = 3 then ra (ix V) else 0)) (rgS σ (8 * f + r) K V) ca ra hs sp := w.slot (SLP.reg hf hr) ok
theorem CR.num {V : Int32} (w : CR L h0 h σ ca ra hs sp) {f r : Nat} (hf : f < ix (σ 244 29)) (hr : r < 8) : CR L h0 (slSet h (109 + 11 * f + r) 0 V 0 0) (rgS σ (8 * f + r) 1 V) ca ra hs sp := w.regw (K := 1) hf hr (Or.inr (Or.inl rfl))
theorem CR.nothing {V : Int32} (w : CR L h0 h σ ca ra hs sp) {f r : Nat} (hf : f < ix (σ 244 29)) (hr : r < 8) : CR L h0 (slSet h (109 + 11 * f + r) (-5) 0 0 0) (rgS σ (8 * f + r) 0 V) ca ra hs sp := w.regw (K := 0) hf hr (Or.inl rfl)
theorem CR.cpy {K V : Int32} {a : Nat} (w : CR L h0 h σ ca ra hs sp) {f r : Nat} (hf : f < ix (σ 244 29)) (hr : r < 8) (z : SLn h σ ca ra a K V) : CR L h0 (slSet h (109 + 11 * f + r) (hp_i h a 0) (hp_i h a 1) (hp_a h a 2) (hp_a h a 3)) (rgS σ (8 * f + r) K V) ca ra hs sp := by
  obtain ⟨z1, z2, z3, z4, z5⟩ := z
  rw [z1, z2, z3, z4]
  exact w.regw hf hr z5
theorem SO.reg {σ1 : SM} {f r : Nat} {K V : Int32} (s : SO σ σ1) (hf : f < 12) (hr : r < 8) : SO σ (rgS σ1 (8 * f + r) K V) := (s.u (by unfold hard; omega) (by omega)).u (by unfold hard; omega) (by omega)
theorem TH.k0 {a : Nat} {K V : Int32} (w : CR L h0 h σ ca ra hs sp) (t : TH h σ ca ra a K V) : (if hp_i h a 0 = 0 then (0 : Int32) else if hp_i h a 0 = -5 then 1 else 3) = agV K 1 := by
  have c1 := ix_lt (σ 244 17)
  rcases t with ⟨rfl, t1, _⟩ | ⟨rfl, t1, _⟩ | ⟨n, s, rfl, rfl, t0, ts, ts3, t1, _⟩ | ⟨n, l, rfl, rfl, t0, ts, ts3, t1, _⟩
  · rw [t1]; rfl
  · rw [t1]; rfl
  · rw [t1, if_neg (nI_ne0 (by omega) (by omega)), if_neg (nI_n5 (by omega))]; rfl
  · rw [t1, if_neg (nI_ne0 (by omega) (by omega)), if_neg (nI_n5 (by omega))]; rfl
theorem CR.misN {a : Nat} {K V : Int32} (w : CR L h0 h σ ca ra hs sp) (hk : hp_k h a = 9) (t : TH h σ ca ra a K V) : pX 811 0 [.ref a] [] h = some (some (.int (agV K 1)), h) := by
  rw [sp_misfitNum hk, t.k0 w]
theorem CR.mis {a : Nat} {K V kd : Int32} (w : CR L h0 h σ ca ra hs sp) (hk : hp_k h a = 9) (t : TH h σ ca ra a K V) (hd : ¬ K = kd) : pX 810 0 [.ref a] [] h = some (some (.int (agV K kd)), h) := by
  rw [sp_misfit hk]
  unfold agV
  rw [if_neg hd]
  rcases t with ⟨rfl, t1, _⟩ | ⟨rfl, t1, _⟩ | ⟨n, s, rfl, rfl, t0, ts, ts3, t1, _⟩ | ⟨n, l, rfl, rfl, t0, ts, ts3, t1, _⟩
  · rw [t1]; rfl
  · rw [t1]; rfl
  · rw [t1, if_neg (nI_n5 (by omega))]; rfl
  · rw [t1, if_neg (nI_n5 (by omega))]; rfl
theorem CR.misNs {a b : Nat} {K V K' V' : Int32} (w : CR L h0 h σ ca ra hs sp) (hk : hp_k h a = 9) (hk' : hp_k h b = 9) (t : TH h σ ca ra a K V) (t' : TH h σ ca ra b K' V') : pX 316 0 [.ref a, .ref b, .retAddr 0] [] h = some (some (.int (if agV K 1 = 0 then agV K' 1 else agV K 1)), h) := by
  simp only [x316_0, x316_1, x316_4, x316_5, x316_6, x316_9, x316_10, x316_13, x316_14, x316_17, hk, hk', w.misN hk t, w.misN hk' t', Option.bind_some, Option.toList_some, Option.toList_none, List.singleton_append, List.nil_append]
  rcases agV_c K 1 with q | q | q <;> simp [q]
theorem TH.num {a : Nat} {V : Int32} (t : TH h σ ca ra a 1 V) : hp_i h a 0 = 0 ∧ hp_i h a 1 = V := by
  rcases t with ⟨e, _⟩ | ⟨_, t1, t2, _⟩ | ⟨n, s, e, _⟩ | ⟨n, l, e, _⟩
  · exact absurd e (by decide)
  · exact ⟨t1, t2⟩
  · exact absurd e (by decide)
  · exact absurd e (by decide)
theorem agV_v (K : Int32) {kd : Int32} (q : ¬ agV K kd = 0) : agV K kd = nI 1 ∨ agV K kd = nI 3 := by
  rcases agV_c K kd with e | e | e
  · exact absurd e q
  · exact Or.inl e
  · exact Or.inr e
theorem agV_1 {K : Int32} : agV K 1 = 0 ↔ K = 1 := agV_z (kd := 1) (by omega) (by omega)
theorem agV_2 {K : Int32} : agV K 2 = 0 ↔ K = 2 := agV_z (kd := 2) (by omega) (by omega)
theorem agV_3 {K : Int32} : agV K 3 = 0 ↔ K = 3 := agV_z (kd := 3) (by omega) (by omega)
theorem agV_p {K kd : Int32} : agV K kd ≤ 0 ↔ agV K kd = 0 := by
  rcases agV_c K kd with e | e | e <;> rw [e] <;> decide
theorem sp_agBoth {k : HP} {f b c : Nat} (x : FX L k) (m0 : σ 244 45 = nI (8 * f)) (m2 : σ 244 47 = nI b) (m3 : σ 244 48 = nI c) (hf : f < 12) (hb : b < 8) (hc : c < 8) : pX 1132 0 [.ref 244, .retAddr 0] [] (mset k σ) = some (some (.int (if agV (σ 269 (8 * f + b)) 1 = 0 then agV (σ 269 (8 * f + c)) 1 else agV (σ 269 (8 * f + b)) 1)), mset k σ) := by
  simp only [x1132_0, x1132_1, x1132_2, x1132_5, x1132_6, x1132_9, x1132_10, x1132_11, x1132_14, x1132_15, x1132_18, x1132_19, x1132_20, x1132_23, x1132_24, x1132_27, hp_k_ms, x.k244, ms_r (show 244 ≤ 244 ∧ 244 < 276 by omega), m2, m3, sp_against x m0 hf hb, sp_against x m0 hf hc, Option.bind_some, Option.toList_some, Option.toList_none, List.singleton_append, List.nil_append]
  rcases agV_c (σ 269 (8 * f + b)) 1 with q | q | q <;> simp [q]
/-- a kind that both throw -/
theorem LKS.ag (K kd : Int32) (q : ¬ agV K kd = 0) (w : CR L h0 h σ ca ra hs sp) (g : GB σ) (c : pX m1 0 l1 [] h = some (some (.int (agV K kd)), h)) (m : ∀ k, FX L k → pX m2 0 l2 [] (mset k σ) = some (some (.int (agV K kd)), mset k σ)) : LKS L h0 h σ m1 l1 m2 l2 := by
  rcases agV_v K q with e | e
  · rw [e] at c; exact LKS.kind 1 (by omega) (by omega) w g c (fun k x => by rw [m k x, e])
  · rw [e] at c; exact LKS.kind 3 (by omega) (by omega) w g c (fun k x => by rw [m k x, e])
theorem op_reckon {f a b c : Nat} {op : Int32} (w : CR L h0 h σ ca ra hs sp) (g : GB σ) (hf : f < ix (σ 244 29)) (ha : a < 8) (hb : b < 8) (hc : c < 8) (m0 : σ 244 45 = nI (8 * f)) (m1 : σ 244 46 = nI a) (m2 : σ 244 47 = nI b) (m3 : σ 244 48 = nI c) (ho : op = 2 ∨ op = 3 ∨ op = 4 ∨ op = 5 ∨ op = 6 ∨ op = 7) :
    LKS L h0 h σ 317 [.int op, .ref (109 + 11 * f + a), .ref (109 + 11 * f + b), .ref (109 + 11 * f + c), .retAddr 0, .retAddr 0, .retAddr 0] 1133 [.ref 244, .int op, .retAddr 0, .retAddr 0, .retAddr 0] := by
  have f12 : f < 12 := Nat.lt_of_lt_of_le hf w.hF
  have ka := w.rk f12 ha
  have kb := w.rk f12 hb
  have kc := w.rk f12 hc
  have tb := w.reg hf hb
  have tc := w.reg hf hc
  by_cases q1 : agV (σ 269 (8 * f + b)) 1 = 0
  · by_cases q2 : agV (σ 269 (8 * f + c)) 1 = 0
    · rw [agV_1.mp q1] at tb
      rw [agV_1.mp q2] at tc
      have b1 := tb.num.2
      have c1 := tc.num.2
      generalize hVb : σ 270 (8 * f + b) = Vb at b1
      generalize hVc : σ 270 (8 * f + c) = Vc at c1
      have hz : (Vc = 0 ∧ (op = 5 ∨ op = 6)) ∨ ¬ (Vc = 0 ∧ (op = 5 ∨ op = 6)) := Classical.em _
      rcases hz with ⟨rfl, hz⟩ | hz
      · refine LKS.kind 5 (by omega) (by omega) w g ?_ (fun k x => ?_)
        · rcases hz with rfl | rfl
          · simp [x317_0, x317_1, x317_2, x317_5, x317_7, x317_9, x317_12, x317_14, x317_15, x317_16, x317_19, x317_21, x317_22, x317_25, x317_27, x317_28, x317_29, x317_32, x317_33, x317_35, x317_38, x317_40, x317_43, x317_44, x317_45, x317_46_2, x317_46_3, x317_46_4, x317_46_5, x317_46_6, x317_46_7, x317_84, x317_85, x317_87, x317_89, x317_90, x317_93, x317_96, x317_97, x317_99, x317_101, x317_102, x317_105, x317_108, x317_109, x317_111, x317_113, x317_114, x317_117, x317_120, x317_121, x317_123, x317_125, x317_126, x317_129, x317_132, x317_133, x317_135, x317_137, x317_138, x317_141, x317_144, x317_145, x317_147, x317_149, x317_152, x317_153, x317_156, x317_157, x317_160, x317_163, x317_164, w.misNs kb kc (w.reg hf hb) (w.reg hf hc), kb, kc, b1, c1, q1, q2]; rfl
          · simp [x317_0, x317_1, x317_2, x317_5, x317_7, x317_9, x317_12, x317_14, x317_15, x317_16, x317_19, x317_21, x317_22, x317_25, x317_27, x317_28, x317_29, x317_32, x317_33, x317_35, x317_38, x317_40, x317_43, x317_44, x317_45, x317_46_2, x317_46_3, x317_46_4, x317_46_5, x317_46_6, x317_46_7, x317_84, x317_85, x317_87, x317_89, x317_90, x317_93, x317_96, x317_97, x317_99, x317_101, x317_102, x317_105, x317_108, x317_109, x317_111, x317_113, x317_114, x317_117, x317_120, x317_121, x317_123, x317_125, x317_126, x317_129, x317_132, x317_133, x317_135, x317_137, x317_138, x317_141, x317_144, x317_145, x317_147, x317_149, x317_152, x317_153, x317_156, x317_157, x317_160, x317_163, x317_164, w.misNs kb kc (w.reg hf hb) (w.reg hf hc), kb, kc, b1, c1, q1, q2]; rfl
        · rcases hz with rfl | rfl
          · simp [x1133_0, x1133_1, x1133_4, x1133_5, x1133_6, x1133_9, x1133_10, x1133_11, x1133_12, x1133_13, x1133_16, x1133_19, x1133_20, x1133_21, x1133_22, x1133_25, x1133_28, x1133_30, x1133_31, x1133_32, x1133_35, x1133_36, x1133_38, x1133_41, x1133_43, x1133_46, x1133_47, x1133_48, x1133_49, x1133_50, x1133_51, x1133_52, x1133_55, x1133_56, x1133_58, x1133_59, x1133_62, x1133_63, x1133_64, x1133_67, x1133_68, x1133_70, x1133_71, x1133_74, x1133_75, x1133_76, x1133_79, x1133_80, x1133_82, x1133_83, x1133_86, x1133_87, x1133_88, x1133_91, x1133_92, x1133_94, x1133_95, x1133_98, x1133_99, x1133_101, x1133_104, x1133_105, x1133_107, x1133_108, x1133_111, x1133_112, x1133_114, x1133_117, x1133_118, x1133_121, x1133_122, x1133_125, x1133_126, hp_k_ms, hp_i_ms, x.k244, sp_agBoth x m0 m2 m3 f12 hb hc, sp_value x m0 f12 hb, sp_value x m0 f12 hc, q1, q2, m2, m3, hVb, hVc]; rfl
          · simp [x1133_0, x1133_1, x1133_4, x1133_5, x1133_6, x1133_9, x1133_10, x1133_11, x1133_12, x1133_13, x1133_16, x1133_19, x1133_20, x1133_21, x1133_22, x1133_25, x1133_28, x1133_30, x1133_31, x1133_32, x1133_35, x1133_36, x1133_38, x1133_41, x1133_43, x1133_46, x1133_47, x1133_48, x1133_49, x1133_50, x1133_51, x1133_52, x1133_55, x1133_56, x1133_58, x1133_59, x1133_62, x1133_63, x1133_64, x1133_67, x1133_68, x1133_70, x1133_71, x1133_74, x1133_75, x1133_76, x1133_79, x1133_80, x1133_82, x1133_83, x1133_86, x1133_87, x1133_88, x1133_91, x1133_92, x1133_94, x1133_95, x1133_98, x1133_99, x1133_101, x1133_104, x1133_105, x1133_107, x1133_108, x1133_111, x1133_112, x1133_114, x1133_117, x1133_118, x1133_121, x1133_122, x1133_125, x1133_126, hp_k_ms, hp_i_ms, x.k244, sp_agBoth x m0 m2 m3 f12 hb hc, sp_value x m0 f12 hb, sp_value x m0 f12 hc, q1, q2, m2, m3, hVb, hVc]; rfl
      · have rs : ∀ V, (pX 317 0 [.int op, .ref (109 + 11 * f + a), .ref (109 + 11 * f + b), .ref (109 + 11 * f + c), .retAddr 0, .retAddr 0, .retAddr 0] [] h = some (some (.int 0), slSet h (109 + 11 * f + a) 0 V 0 0)) → (∀ k, FX L k → pX 1133 0 [.ref 244, .int op, .retAddr 0, .retAddr 0, .retAddr 0] [] (mset k σ) = some (some (.int 0), mset k (rgS σ (8 * f + a) 1 V))) → LKS L h0 h σ 317 [.int op, .ref (109 + 11 * f + a), .ref (109 + 11 * f + b), .ref (109 + 11 * f + c), .retAddr 0, .retAddr 0, .retAddr 0] 1133 [.ref 244, .int op, .retAddr 0, .retAddr 0, .retAddr 0] := fun V c m => LKS.done (w.num hf ha) ((SO.refl g).reg f12 ha) c m
        have nz : op = 5 ∨ op = 6 → ¬ Vc = 0 := fun z y => hz ⟨y, z⟩
        rcases ho with rfl | rfl | rfl | rfl | rfl | rfl
        · refine rs (Vb + Vc) ?_ (fun k x => ?_)
          · simp [x317_0, x317_1, x317_2, x317_5, x317_7, x317_9, x317_12, x317_14, x317_15, x317_16, x317_19, x317_21, x317_22, x317_25, x317_27, x317_28, x317_29, x317_32, x317_33, x317_35, x317_38, x317_40, x317_43, x317_44, x317_45, x317_46_2, x317_46_3, x317_46_4, x317_46_5, x317_46_6, x317_46_7, x317_84, x317_85, x317_87, x317_89, x317_90, x317_93, x317_96, x317_97, x317_99, x317_101, x317_102, x317_105, x317_108, x317_109, x317_111, x317_113, x317_114, x317_117, x317_120, x317_121, x317_123, x317_125, x317_126, x317_129, x317_132, x317_133, x317_135, x317_137, x317_138, x317_141, x317_144, x317_145, x317_147, x317_149, x317_152, x317_153, x317_156, x317_157, x317_160, x317_163, x317_164, w.misNs kb kc (w.reg hf hb) (w.reg hf hc), ka, kb, kc, b1, c1, q1, q2, sp_number]
          · simp [x1133_0, x1133_1, x1133_4, x1133_5, x1133_6, x1133_9, x1133_10, x1133_11, x1133_12, x1133_13, x1133_16, x1133_19, x1133_20, x1133_21, x1133_22, x1133_25, x1133_28, x1133_30, x1133_31, x1133_32, x1133_35, x1133_36, x1133_38, x1133_41, x1133_43, x1133_46, x1133_47, x1133_48, x1133_49, x1133_50, x1133_51, x1133_52, x1133_55, x1133_56, x1133_58, x1133_59, x1133_62, x1133_63, x1133_64, x1133_67, x1133_68, x1133_70, x1133_71, x1133_74, x1133_75, x1133_76, x1133_79, x1133_80, x1133_82, x1133_83, x1133_86, x1133_87, x1133_88, x1133_91, x1133_92, x1133_94, x1133_95, x1133_98, x1133_99, x1133_101, x1133_104, x1133_105, x1133_107, x1133_108, x1133_111, x1133_112, x1133_114, x1133_117, x1133_118, x1133_121, x1133_122, x1133_125, x1133_126, hp_k_ms, hp_i_ms, x.k244, sp_agBoth x m0 m2 m3 f12 hb hc, sp_value x m0 f12 hb, sp_value x m0 f12 hc, sp_makes x m0 m1 f12 ha, q1, q2, m2, m3, hVb, hVc]
        · refine rs (Vb - Vc) ?_ (fun k x => ?_)
          · simp [x317_0, x317_1, x317_2, x317_5, x317_7, x317_9, x317_12, x317_14, x317_15, x317_16, x317_19, x317_21, x317_22, x317_25, x317_27, x317_28, x317_29, x317_32, x317_33, x317_35, x317_38, x317_40, x317_43, x317_44, x317_45, x317_46_2, x317_46_3, x317_46_4, x317_46_5, x317_46_6, x317_46_7, x317_84, x317_85, x317_87, x317_89, x317_90, x317_93, x317_96, x317_97, x317_99, x317_101, x317_102, x317_105, x317_108, x317_109, x317_111, x317_113, x317_114, x317_117, x317_120, x317_121, x317_123, x317_125, x317_126, x317_129, x317_132, x317_133, x317_135, x317_137, x317_138, x317_141, x317_144, x317_145, x317_147, x317_149, x317_152, x317_153, x317_156, x317_157, x317_160, x317_163, x317_164, w.misNs kb kc (w.reg hf hb) (w.reg hf hc), ka, kb, kc, b1, c1, q1, q2, sp_number]
          · simp [x1133_0, x1133_1, x1133_4, x1133_5, x1133_6, x1133_9, x1133_10, x1133_11, x1133_12, x1133_13, x1133_16, x1133_19, x1133_20, x1133_21, x1133_22, x1133_25, x1133_28, x1133_30, x1133_31, x1133_32, x1133_35, x1133_36, x1133_38, x1133_41, x1133_43, x1133_46, x1133_47, x1133_48, x1133_49, x1133_50, x1133_51, x1133_52, x1133_55, x1133_56, x1133_58, x1133_59, x1133_62, x1133_63, x1133_64, x1133_67, x1133_68, x1133_70, x1133_71, x1133_74, x1133_75, x1133_76, x1133_79, x1133_80, x1133_82, x1133_83, x1133_86, x1133_87, x1133_88, x1133_91, x1133_92, x1133_94, x1133_95, x1133_98, x1133_99, x1133_101, x1133_104, x1133_105, x1133_107, x1133_108, x1133_111, x1133_112, x1133_114, x1133_117, x1133_118, x1133_121, x1133_122, x1133_125, x1133_126, hp_k_ms, hp_i_ms, x.k244, sp_agBoth x m0 m2 m3 f12 hb hc, sp_value x m0 f12 hb, sp_value x m0 f12 hc, sp_makes x m0 m1 f12 ha, q1, q2, m2, m3, hVb, hVc]
        · refine rs (Vb * Vc) ?_ (fun k x => ?_)
          · simp [x317_0, x317_1, x317_2, x317_5, x317_7, x317_9, x317_12, x317_14, x317_15, x317_16, x317_19, x317_21, x317_22, x317_25, x317_27, x317_28, x317_29, x317_32, x317_33, x317_35, x317_38, x317_40, x317_43, x317_44, x317_45, x317_46_2, x317_46_3, x317_46_4, x317_46_5, x317_46_6, x317_46_7, x317_84, x317_85, x317_87, x317_89, x317_90, x317_93, x317_96, x317_97, x317_99, x317_101, x317_102, x317_105, x317_108, x317_109, x317_111, x317_113, x317_114, x317_117, x317_120, x317_121, x317_123, x317_125, x317_126, x317_129, x317_132, x317_133, x317_135, x317_137, x317_138, x317_141, x317_144, x317_145, x317_147, x317_149, x317_152, x317_153, x317_156, x317_157, x317_160, x317_163, x317_164, w.misNs kb kc (w.reg hf hb) (w.reg hf hc), ka, kb, kc, b1, c1, q1, q2, sp_number]
          · simp [x1133_0, x1133_1, x1133_4, x1133_5, x1133_6, x1133_9, x1133_10, x1133_11, x1133_12, x1133_13, x1133_16, x1133_19, x1133_20, x1133_21, x1133_22, x1133_25, x1133_28, x1133_30, x1133_31, x1133_32, x1133_35, x1133_36, x1133_38, x1133_41, x1133_43, x1133_46, x1133_47, x1133_48, x1133_49, x1133_50, x1133_51, x1133_52, x1133_55, x1133_56, x1133_58, x1133_59, x1133_62, x1133_63, x1133_64, x1133_67, x1133_68, x1133_70, x1133_71, x1133_74, x1133_75, x1133_76, x1133_79, x1133_80, x1133_82, x1133_83, x1133_86, x1133_87, x1133_88, x1133_91, x1133_92, x1133_94, x1133_95, x1133_98, x1133_99, x1133_101, x1133_104, x1133_105, x1133_107, x1133_108, x1133_111, x1133_112, x1133_114, x1133_117, x1133_118, x1133_121, x1133_122, x1133_125, x1133_126, hp_k_ms, hp_i_ms, x.k244, sp_agBoth x m0 m2 m3 f12 hb hc, sp_value x m0 f12 hb, sp_value x m0 f12 hc, sp_makes x m0 m1 f12 ha, q1, q2, m2, m3, hVb, hVc]
        · have nz := nz (Or.inl rfl)
          refine rs (Vb / Vc) ?_ (fun k x => ?_)
          · simp [x317_0, x317_1, x317_2, x317_5, x317_7, x317_9, x317_12, x317_14, x317_15, x317_16, x317_19, x317_21, x317_22, x317_25, x317_27, x317_28, x317_29, x317_32, x317_33, x317_35, x317_38, x317_40, x317_43, x317_44, x317_45, x317_46_2, x317_46_3, x317_46_4, x317_46_5, x317_46_6, x317_46_7, x317_84, x317_85, x317_87, x317_89, x317_90, x317_93, x317_96, x317_97, x317_99, x317_101, x317_102, x317_105, x317_108, x317_109, x317_111, x317_113, x317_114, x317_117, x317_120, x317_121, x317_123, x317_125, x317_126, x317_129, x317_132, x317_133, x317_135, x317_137, x317_138, x317_141, x317_144, x317_145, x317_147, x317_149, x317_152, x317_153, x317_156, x317_157, x317_160, x317_163, x317_164, w.misNs kb kc (w.reg hf hb) (w.reg hf hc), ka, kb, kc, b1, c1, q1, q2, nz, sp_number]
          · simp [x1133_0, x1133_1, x1133_4, x1133_5, x1133_6, x1133_9, x1133_10, x1133_11, x1133_12, x1133_13, x1133_16, x1133_19, x1133_20, x1133_21, x1133_22, x1133_25, x1133_28, x1133_30, x1133_31, x1133_32, x1133_35, x1133_36, x1133_38, x1133_41, x1133_43, x1133_46, x1133_47, x1133_48, x1133_49, x1133_50, x1133_51, x1133_52, x1133_55, x1133_56, x1133_58, x1133_59, x1133_62, x1133_63, x1133_64, x1133_67, x1133_68, x1133_70, x1133_71, x1133_74, x1133_75, x1133_76, x1133_79, x1133_80, x1133_82, x1133_83, x1133_86, x1133_87, x1133_88, x1133_91, x1133_92, x1133_94, x1133_95, x1133_98, x1133_99, x1133_101, x1133_104, x1133_105, x1133_107, x1133_108, x1133_111, x1133_112, x1133_114, x1133_117, x1133_118, x1133_121, x1133_122, x1133_125, x1133_126, hp_k_ms, hp_i_ms, x.k244, sp_agBoth x m0 m2 m3 f12 hb hc, sp_value x m0 f12 hb, sp_value x m0 f12 hc, sp_makes x m0 m1 f12 ha, q1, q2, m2, m3, hVb, hVc, nz]
        · have nz := nz (Or.inr rfl)
          refine rs (Vb - Vb / Vc * Vc) ?_ (fun k x => ?_)
          · simp [x317_0, x317_1, x317_2, x317_5, x317_7, x317_9, x317_12, x317_14, x317_15, x317_16, x317_19, x317_21, x317_22, x317_25, x317_27, x317_28, x317_29, x317_32, x317_33, x317_35, x317_38, x317_40, x317_43, x317_44, x317_45, x317_46_2, x317_46_3, x317_46_4, x317_46_5, x317_46_6, x317_46_7, x317_84, x317_85, x317_87, x317_89, x317_90, x317_93, x317_96, x317_97, x317_99, x317_101, x317_102, x317_105, x317_108, x317_109, x317_111, x317_113, x317_114, x317_117, x317_120, x317_121, x317_123, x317_125, x317_126, x317_129, x317_132, x317_133, x317_135, x317_137, x317_138, x317_141, x317_144, x317_145, x317_147, x317_149, x317_152, x317_153, x317_156, x317_157, x317_160, x317_163, x317_164, w.misNs kb kc (w.reg hf hb) (w.reg hf hc), ka, kb, kc, b1, c1, q1, q2, nz, sp_number]
          · simp [x1133_0, x1133_1, x1133_4, x1133_5, x1133_6, x1133_9, x1133_10, x1133_11, x1133_12, x1133_13, x1133_16, x1133_19, x1133_20, x1133_21, x1133_22, x1133_25, x1133_28, x1133_30, x1133_31, x1133_32, x1133_35, x1133_36, x1133_38, x1133_41, x1133_43, x1133_46, x1133_47, x1133_48, x1133_49, x1133_50, x1133_51, x1133_52, x1133_55, x1133_56, x1133_58, x1133_59, x1133_62, x1133_63, x1133_64, x1133_67, x1133_68, x1133_70, x1133_71, x1133_74, x1133_75, x1133_76, x1133_79, x1133_80, x1133_82, x1133_83, x1133_86, x1133_87, x1133_88, x1133_91, x1133_92, x1133_94, x1133_95, x1133_98, x1133_99, x1133_101, x1133_104, x1133_105, x1133_107, x1133_108, x1133_111, x1133_112, x1133_114, x1133_117, x1133_118, x1133_121, x1133_122, x1133_125, x1133_126, hp_k_ms, hp_i_ms, x.k244, sp_agBoth x m0 m2 m3 f12 hb hc, sp_value x m0 f12 hb, sp_value x m0 f12 hc, sp_makes x m0 m1 f12 ha, q1, q2, m2, m3, hVb, hVc, nz]
        · by_cases q3 : Vc ≤ Vb
          · refine rs 0 ?_ (fun k x => ?_)
            · simp [x317_0, x317_1, x317_2, x317_5, x317_7, x317_9, x317_12, x317_14, x317_15, x317_16, x317_19, x317_21, x317_22, x317_25, x317_27, x317_28, x317_29, x317_32, x317_33, x317_35, x317_38, x317_40, x317_43, x317_44, x317_45, x317_46_2, x317_46_3, x317_46_4, x317_46_5, x317_46_6, x317_46_7, x317_84, x317_85, x317_87, x317_89, x317_90, x317_93, x317_96, x317_97, x317_99, x317_101, x317_102, x317_105, x317_108, x317_109, x317_111, x317_113, x317_114, x317_117, x317_120, x317_121, x317_123, x317_125, x317_126, x317_129, x317_132, x317_133, x317_135, x317_137, x317_138, x317_141, x317_144, x317_145, x317_147, x317_149, x317_152, x317_153, x317_156, x317_157, x317_160, x317_163, x317_164, w.misNs kb kc (w.reg hf hb) (w.reg hf hc), ka, kb, kc, b1, c1, q1, q2, q3, sp_number]
            · simp [x1133_0, x1133_1, x1133_4, x1133_5, x1133_6, x1133_9, x1133_10, x1133_11, x1133_12, x1133_13, x1133_16, x1133_19, x1133_20, x1133_21, x1133_22, x1133_25, x1133_28, x1133_30, x1133_31, x1133_32, x1133_35, x1133_36, x1133_38, x1133_41, x1133_43, x1133_46, x1133_47, x1133_48, x1133_49, x1133_50, x1133_51, x1133_52, x1133_55, x1133_56, x1133_58, x1133_59, x1133_62, x1133_63, x1133_64, x1133_67, x1133_68, x1133_70, x1133_71, x1133_74, x1133_75, x1133_76, x1133_79, x1133_80, x1133_82, x1133_83, x1133_86, x1133_87, x1133_88, x1133_91, x1133_92, x1133_94, x1133_95, x1133_98, x1133_99, x1133_101, x1133_104, x1133_105, x1133_107, x1133_108, x1133_111, x1133_112, x1133_114, x1133_117, x1133_118, x1133_121, x1133_122, x1133_125, x1133_126, hp_k_ms, hp_i_ms, x.k244, sp_agBoth x m0 m2 m3 f12 hb hc, sp_value x m0 f12 hb, sp_value x m0 f12 hc, sp_makes x m0 m1 f12 ha, q1, q2, m2, m3, hVb, hVc, q3]
          · refine rs 1 ?_ (fun k x => ?_)
            · simp [x317_0, x317_1, x317_2, x317_5, x317_7, x317_9, x317_12, x317_14, x317_15, x317_16, x317_19, x317_21, x317_22, x317_25, x317_27, x317_28, x317_29, x317_32, x317_33, x317_35, x317_38, x317_40, x317_43, x317_44, x317_45, x317_46_2, x317_46_3, x317_46_4, x317_46_5, x317_46_6, x317_46_7, x317_84, x317_85, x317_87, x317_89, x317_90, x317_93, x317_96, x317_97, x317_99, x317_101, x317_102, x317_105, x317_108, x317_109, x317_111, x317_113, x317_114, x317_117, x317_120, x317_121, x317_123, x317_125, x317_126, x317_129, x317_132, x317_133, x317_135, x317_137, x317_138, x317_141, x317_144, x317_145, x317_147, x317_149, x317_152, x317_153, x317_156, x317_157, x317_160, x317_163, x317_164, w.misNs kb kc (w.reg hf hb) (w.reg hf hc), ka, kb, kc, b1, c1, q1, q2, q3, sp_number]
            · simp [x1133_0, x1133_1, x1133_4, x1133_5, x1133_6, x1133_9, x1133_10, x1133_11, x1133_12, x1133_13, x1133_16, x1133_19, x1133_20, x1133_21, x1133_22, x1133_25, x1133_28, x1133_30, x1133_31, x1133_32, x1133_35, x1133_36, x1133_38, x1133_41, x1133_43, x1133_46, x1133_47, x1133_48, x1133_49, x1133_50, x1133_51, x1133_52, x1133_55, x1133_56, x1133_58, x1133_59, x1133_62, x1133_63, x1133_64, x1133_67, x1133_68, x1133_70, x1133_71, x1133_74, x1133_75, x1133_76, x1133_79, x1133_80, x1133_82, x1133_83, x1133_86, x1133_87, x1133_88, x1133_91, x1133_92, x1133_94, x1133_95, x1133_98, x1133_99, x1133_101, x1133_104, x1133_105, x1133_107, x1133_108, x1133_111, x1133_112, x1133_114, x1133_117, x1133_118, x1133_121, x1133_122, x1133_125, x1133_126, hp_k_ms, hp_i_ms, x.k244, sp_agBoth x m0 m2 m3 f12 hb hc, sp_value x m0 f12 hb, sp_value x m0 f12 hc, sp_makes x m0 m1 f12 ha, q1, q2, m2, m3, hVb, hVc, q3]
    · refine LKS.ag _ 1 q2 w g ?_ (fun k x => ?_)
      · simp [x317_0, x317_1, x317_2, x317_5, x317_7, x317_9, x317_12, x317_14, x317_15, x317_16, x317_19, x317_21, x317_22, x317_25, x317_27, x317_28, x317_29, x317_32, x317_33, x317_35, x317_38, x317_40, x317_43, x317_44, x317_45, x317_46_2, x317_46_3, x317_46_4, x317_46_5, x317_46_6, x317_46_7, x317_84, x317_85, x317_87, x317_89, x317_90, x317_93, x317_96, x317_97, x317_99, x317_101, x317_102, x317_105, x317_108, x317_109, x317_111, x317_113, x317_114, x317_117, x317_120, x317_121, x317_123, x317_125, x317_126, x317_129, x317_132, x317_133, x317_135, x317_137, x317_138, x317_141, x317_144, x317_145, x317_147, x317_149, x317_152, x317_153, x317_156, x317_157, x317_160, x317_163, x317_164, w.misNs kb kc tb tc, q1, q2]
      · simp [x1133_0, x1133_1, x1133_4, x1133_5, x1133_6, x1133_9, x1133_10, x1133_11, x1133_12, x1133_13, x1133_16, x1133_19, x1133_20, x1133_21, x1133_22, x1133_25, x1133_28, x1133_30, x1133_31, x1133_32, x1133_35, x1133_36, x1133_38, x1133_41, x1133_43, x1133_46, x1133_47, x1133_48, x1133_49, x1133_50, x1133_51, x1133_52, x1133_55, x1133_56, x1133_58, x1133_59, x1133_62, x1133_63, x1133_64, x1133_67, x1133_68, x1133_70, x1133_71, x1133_74, x1133_75, x1133_76, x1133_79, x1133_80, x1133_82, x1133_83, x1133_86, x1133_87, x1133_88, x1133_91, x1133_92, x1133_94, x1133_95, x1133_98, x1133_99, x1133_101, x1133_104, x1133_105, x1133_107, x1133_108, x1133_111, x1133_112, x1133_114, x1133_117, x1133_118, x1133_121, x1133_122, x1133_125, x1133_126, hp_k_ms, x.k244, sp_agBoth x m0 m2 m3 f12 hb hc, q1, q2, agV_p]
  · refine LKS.ag _ 1 q1 w g ?_ (fun k x => ?_)
    · simp [x317_0, x317_1, x317_2, x317_5, x317_7, x317_9, x317_12, x317_14, x317_15, x317_16, x317_19, x317_21, x317_22, x317_25, x317_27, x317_28, x317_29, x317_32, x317_33, x317_35, x317_38, x317_40, x317_43, x317_44, x317_45, x317_46_2, x317_46_3, x317_46_4, x317_46_5, x317_46_6, x317_46_7, x317_84, x317_85, x317_87, x317_89, x317_90, x317_93, x317_96, x317_97, x317_99, x317_101, x317_102, x317_105, x317_108, x317_109, x317_111, x317_113, x317_114, x317_117, x317_120, x317_121, x317_123, x317_125, x317_126, x317_129, x317_132, x317_133, x317_135, x317_137, x317_138, x317_141, x317_144, x317_145, x317_147, x317_149, x317_152, x317_153, x317_156, x317_157, x317_160, x317_163, x317_164, w.misNs kb kc tb tc, q1]
    · simp [x1133_0, x1133_1, x1133_4, x1133_5, x1133_6, x1133_9, x1133_10, x1133_11, x1133_12, x1133_13, x1133_16, x1133_19, x1133_20, x1133_21, x1133_22, x1133_25, x1133_28, x1133_30, x1133_31, x1133_32, x1133_35, x1133_36, x1133_38, x1133_41, x1133_43, x1133_46, x1133_47, x1133_48, x1133_49, x1133_50, x1133_51, x1133_52, x1133_55, x1133_56, x1133_58, x1133_59, x1133_62, x1133_63, x1133_64, x1133_67, x1133_68, x1133_70, x1133_71, x1133_74, x1133_75, x1133_76, x1133_79, x1133_80, x1133_82, x1133_83, x1133_86, x1133_87, x1133_88, x1133_91, x1133_92, x1133_94, x1133_95, x1133_98, x1133_99, x1133_101, x1133_104, x1133_105, x1133_107, x1133_108, x1133_111, x1133_112, x1133_114, x1133_117, x1133_118, x1133_121, x1133_122, x1133_125, x1133_126, hp_k_ms, x.k244, sp_agBoth x m0 m2 m3 f12 hb hc, q1, agV_p]
end
