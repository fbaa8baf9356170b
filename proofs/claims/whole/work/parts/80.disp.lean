/-! THE ENGINE, 24: an act, by its op -/
/-- ahead of an act: o its op -/
def AH (L : Nat) (h0 h : HP) (σ : SM) (A F r n : Nat) (o : Int32) : Prop := IV L h0 h σ A False ∧ A + PH σ ≤ 492000 ∧ σ 244 29 = nI (F + 1) ∧ F < 12 ∧ σ 266 F = nI r ∧ r < 10 ∧ σ 267 F = nI n ∧ n < ix (σ 246 r) ∧ ix (σ 246 r) ≤ 40 ∧ σ 247 (160 * r + 4 * n) = o ∧ σ 244 45 = nI (8 * F) ∧ σ 244 46 = σ 247 (160 * r + 4 * n + 1) ∧ σ 244 47 = σ 247 (160 * r + 4 * n + 2) ∧ σ 244 48 = σ 247 (160 * r + 4 * n + 3)
section
variable {L : Nat} {h0 h : HP} {σ : SM} {A F r n : Nat} {o : Int32}
theorem AH.ok (H : AH L h0 h σ A F r n o) : okAct o (σ 244 46) (σ 244 47) (σ 244 48) := by
  obtain ⟨⟨_, gc, _⟩, hAP, hF, hF12, t1, hr, t3, hn, h40, ho, m0, m1, m2, m3⟩ := H
  rw [m1, m2, m3, ← ho]
  exact gc.2.2.1 r n hr hn
theorem perf_pre {a b c : Nat} (H : AH L h0 h σ A F r n o) (ea : σ 244 46 &&& 7 = nI a) (ha : a < 8) (eb : σ 244 47 &&& 7 = nI b) (hb : b < 8) (ec : σ 244 48 &&& 7 = nI c) (hc : c < 8) : pX 315 0 [.ref 5, .ref (106 + 11 * F), .retAddr 0, .retAddr 0, .retAddr 0, .retAddr 0, .retAddr 0, .retAddr 0, .retAddr 0] [] h = pX 315 78 [.ref 5, .ref (106 + 11 * F), .ref (16 + 9 * r), .int o, .int (σ 244 47), .int (σ 244 48), .ref (109 + 11 * F + a), .ref (109 + 11 * F + b), .ref (109 + 11 * F + c)] [.int o] h := by
  obtain ⟨⟨⟨ca, ra, hs, sp, cr⟩, gc, gb, gf, hh, hA⟩, hAP, hF, hF12, t1, hr, t3, hn, h40, ho, m0, m1, m2, m3⟩ := H
  have X := cr.fx
  have f0 : ix (σ 244 29) = F + 1 := by rw [hF]; exact ix_nI (by omega)
  obtain ⟨ac, ac1, ac2⟩ := (gc.2.1 r hr).2.1
  have hn' : n < ac := by rw [ac1, ix_nI (by omega)] at hn; exact hn
  have bh := cr.behind (f := F) (r := r) (m := n) (a := ac) (by omega) t1 hr t3 ac1 (by omega) (by omega)
  rw [if_pos hn'] at bh
  obtain ⟨fr1, fr2⟩ := cr.frm (f := F) (by omega)
  rw [t1, ix_nI (by omega)] at fr1
  rw [t3] at fr2
  have im : inb (nI n) 40 = true := inb_nI (by omega) (by omega)
  have im2 : ix (nI n) = n := ix_nI (by omega)
  have q0 : hp_i h (16 + 9 * r + 1) n = o := by
    have := cr.fi _ _ _ _ (CMR.code (i := r) (r := 0) (q := n) hr (by omega) (by omega))
    rw [show 17 + 9 * r + 0 = 16 + 9 * r + 1 by omega] at this
    rw [this]; exact ho
  have q1 : hp_i h (16 + 9 * r + 2) n = σ 244 46 := by
    have := cr.fi _ _ _ _ (CMR.code (i := r) (r := 1) (q := n) hr (by omega) (by omega))
    rw [show 17 + 9 * r + 1 = 16 + 9 * r + 2 by omega] at this
    rw [this, m1]
  have q2 : hp_i h (16 + 9 * r + 3) n = σ 244 47 := by
    have := cr.fi _ _ _ _ (CMR.code (i := r) (r := 2) (q := n) hr (by omega) (by omega))
    rw [show 17 + 9 * r + 2 = 16 + 9 * r + 3 by omega] at this
    rw [this, m2]
  have q3 : hp_i h (16 + 9 * r + 4) n = σ 244 48 := by
    have := cr.fi _ _ _ _ (CMR.code (i := r) (r := 3) (q := n) hr (by omega) (by omega))
    rw [show 17 + 9 * r + 3 = 16 + 9 * r + 4 by omega] at this
    rw [this, m3]
  have na := sp_named2 (h := h) X hF12 ea ha
  have nb' := sp_named2 (h := h) X hF12 eb hb
  have nc := sp_named2 (h := h) X hF12 ec hc
  simp only [x315_0, x315_1, x315_4, x315_9, x315_10, x315_13, x315_14, x315_15, x315_18, x315_19, x315_22, x315_23, x315_24, x315_25, x315_28, x315_29, x315_32, x315_33, x315_35, x315_36, x315_39, x315_40, x315_43, x315_44, x315_46, x315_47, x315_48, x315_51, x315_52, x315_55, x315_56, x315_59, x315_61, x315_62, x315_64, x315_67, x315_69, x315_70, x315_72, x315_75, x315_77, X.fk F hF12, bh, Option.bind_some, Option.toList_some, Option.toList_none, List.singleton_append, List.nil_append, if_true, fr1, fr2, X.mk r hr, X.mpa r 1 hr (by omega) (by omega), X.mpa r 2 hr (by omega) (by omega), X.mpa r 3 hr (by omega) (by omega), X.mpa r 4 hr (by omega) (by omega), X.mka r 1 hr (by omega) (by omega), X.mka r 2 hr (by omega) (by omega), X.mka r 3 hr (by omega) (by omega), X.mka r 4 hr (by omega) (by omega), X.mla r 1 hr (by omega) (by omega), X.mla r 2 hr (by omega) (by omega), X.mla r 3 hr (by omega) (by omega), X.mla r 4 hr (by omega) (by omega), im, im2, q0, q1, q2, q3, na, nb', nc]
/-- the same, by the act's own methods -/
theorem ACM.lift {m1 m2 : Nat} {l1 l2 : List Value} (k : ACM L h0 h σ A F o m1 l1 m2 l2) (f1 : ∀ v h', pX m1 0 l1 [] h = some (some (.int v), h') → pX 315 0 [.ref 5, .ref (106 + 11 * F), .retAddr 0, .retAddr 0, .retAddr 0, .retAddr 0, .retAddr 0, .retAddr 0, .retAddr 0] [] h = some (some (.int v), h')) (f2 : ∀ k, FX L k → ∀ v σ', pX m2 0 l2 [] (mset k σ) = some (some (.int v), mset k σ') → pX 1150 0 [.ref 244, .int o, .retAddr 0] [] (mset k σ) = some (some (.int v), mset k σ')) : ACM L h0 h σ A F o 315 [.ref 5, .ref (106 + 11 * F), .retAddr 0, .retAddr 0, .retAddr 0, .retAddr 0, .retAddr 0, .retAddr 0, .retAddr 0] 1150 [.ref 244, .int o, .retAddr 0] := by
  obtain ⟨v, v', h', σ', e1, e2, e3⟩ := k
  exact ⟨v, v', h', σ', f1 _ _ e1, fun k x => f2 k x _ _ (e2 k x), e3⟩
theorem act_2 (H : AH L h0 h σ A F r n 2) : ACM L h0 h σ A F 2 315 [.ref 5, .ref (106 + 11 * F), .retAddr 0, .retAddr 0, .retAddr 0, .retAddr 0, .retAddr 0, .retAddr 0, .retAddr 0] 1150 [.ref 244, .int 2, .retAddr 0] := by
  have okA := H.ok
  obtain ⟨a, ea, la⟩ := okA.2.1 (by decide)
  have a8 : a < 8 := by omega
  have na : σ 244 46 &&& 7 = nI a := by rw [ea]; exact and7_nI a8
  obtain ⟨b, eb, lb⟩ := okA.2.2.1 (by decide)
  have b8 : b < 8 := by omega
  have nb : σ 244 47 &&& 7 = nI b := by rw [eb]; exact and7_nI b8
  obtain ⟨c, ec, lc⟩ := okA.2.2.2.1 (by decide)
  have c8 : c < 8 := by omega
  have nc : σ 244 48 &&& 7 = nI c := by rw [ec]; exact and7_nI c8
  have pre := perf_pre H na a8 nb b8 nc c8
  obtain ⟨iv, hAP, hF, hF12, t1, hr, t3, hn, h40, ho, m0, m1, m2, m3⟩ := id H
  obtain ⟨⟨ca, ra, hs, sp, cr⟩, gc, gb, gf, hh, hA⟩ := id iv
  have X := cr.fx
  have gp := gc.2.2.2.2
  have f0 : ix (σ 244 29) = F + 1 := by rw [hF]; exact ix_nI (by omega)
  have lf : F < ix (σ 244 29) := by omega
  rw [eb, ec] at pre
  refine ACM.lift (LKS.ac iv hF (by decide) (op_reckon (op := 2) cr gb lf a8 b8 c8 m0 ea eb ec (by decide))) (fun v h' e => ?_) (fun k x v σ' e => ?_)
  · rw [pre]
    simp only [x315_78_2, x315_451, x315_452, x315_454, x315_456, x315_458, x315_461, X.k5, e, Option.bind_some, Option.toList_some, Option.toList_none, List.singleton_append, List.nil_append]
  · simp only [x1150_0, x1150_1_2, x1150_411, x1150_412, x1150_413, x1150_416, hp_k_ms, x.k244, e, Option.bind_some, Option.toList_some, Option.toList_none, List.singleton_append, List.nil_append]
theorem act_3 (H : AH L h0 h σ A F r n 3) : ACM L h0 h σ A F 3 315 [.ref 5, .ref (106 + 11 * F), .retAddr 0, .retAddr 0, .retAddr 0, .retAddr 0, .retAddr 0, .retAddr 0, .retAddr 0] 1150 [.ref 244, .int 3, .retAddr 0] := by
  have okA := H.ok
  obtain ⟨a, ea, la⟩ := okA.2.1 (by decide)
  have a8 : a < 8 := by omega
  have na : σ 244 46 &&& 7 = nI a := by rw [ea]; exact and7_nI a8
  obtain ⟨b, eb, lb⟩ := okA.2.2.1 (by decide)
  have b8 : b < 8 := by omega
  have nb : σ 244 47 &&& 7 = nI b := by rw [eb]; exact and7_nI b8
  obtain ⟨c, ec, lc⟩ := okA.2.2.2.1 (by decide)
  have c8 : c < 8 := by omega
  have nc : σ 244 48 &&& 7 = nI c := by rw [ec]; exact and7_nI c8
  have pre := perf_pre H na a8 nb b8 nc c8
  obtain ⟨iv, hAP, hF, hF12, t1, hr, t3, hn, h40, ho, m0, m1, m2, m3⟩ := id H
  obtain ⟨⟨ca, ra, hs, sp, cr⟩, gc, gb, gf, hh, hA⟩ := id iv
  have X := cr.fx
  have gp := gc.2.2.2.2
  have f0 : ix (σ 244 29) = F + 1 := by rw [hF]; exact ix_nI (by omega)
  have lf : F < ix (σ 244 29) := by omega
  rw [eb, ec] at pre
  refine ACM.lift (LKS.ac iv hF (by decide) (op_reckon (op := 3) cr gb lf a8 b8 c8 m0 ea eb ec (by decide))) (fun v h' e => ?_) (fun k x v σ' e => ?_)
  · rw [pre]
    simp only [x315_78_3, x315_451, x315_452, x315_454, x315_456, x315_458, x315_461, X.k5, e, Option.bind_some, Option.toList_some, Option.toList_none, List.singleton_append, List.nil_append]
  · simp only [x1150_0, x1150_1_3, x1150_411, x1150_412, x1150_413, x1150_416, hp_k_ms, x.k244, e, Option.bind_some, Option.toList_some, Option.toList_none, List.singleton_append, List.nil_append]
theorem act_4 (H : AH L h0 h σ A F r n 4) : ACM L h0 h σ A F 4 315 [.ref 5, .ref (106 + 11 * F), .retAddr 0, .retAddr 0, .retAddr 0, .retAddr 0, .retAddr 0, .retAddr 0, .retAddr 0] 1150 [.ref 244, .int 4, .retAddr 0] := by
  have okA := H.ok
  obtain ⟨a, ea, la⟩ := okA.2.1 (by decide)
  have a8 : a < 8 := by omega
  have na : σ 244 46 &&& 7 = nI a := by rw [ea]; exact and7_nI a8
  obtain ⟨b, eb, lb⟩ := okA.2.2.1 (by decide)
  have b8 : b < 8 := by omega
  have nb : σ 244 47 &&& 7 = nI b := by rw [eb]; exact and7_nI b8
  obtain ⟨c, ec, lc⟩ := okA.2.2.2.1 (by decide)
  have c8 : c < 8 := by omega
  have nc : σ 244 48 &&& 7 = nI c := by rw [ec]; exact and7_nI c8
  have pre := perf_pre H na a8 nb b8 nc c8
  obtain ⟨iv, hAP, hF, hF12, t1, hr, t3, hn, h40, ho, m0, m1, m2, m3⟩ := id H
  obtain ⟨⟨ca, ra, hs, sp, cr⟩, gc, gb, gf, hh, hA⟩ := id iv
  have X := cr.fx
  have gp := gc.2.2.2.2
  have f0 : ix (σ 244 29) = F + 1 := by rw [hF]; exact ix_nI (by omega)
  have lf : F < ix (σ 244 29) := by omega
  rw [eb, ec] at pre
  refine ACM.lift (LKS.ac iv hF (by decide) (op_reckon (op := 4) cr gb lf a8 b8 c8 m0 ea eb ec (by decide))) (fun v h' e => ?_) (fun k x v σ' e => ?_)
  · rw [pre]
    simp only [x315_78_4, x315_451, x315_452, x315_454, x315_456, x315_458, x315_461, X.k5, e, Option.bind_some, Option.toList_some, Option.toList_none, List.singleton_append, List.nil_append]
  · simp only [x1150_0, x1150_1_4, x1150_411, x1150_412, x1150_413, x1150_416, hp_k_ms, x.k244, e, Option.bind_some, Option.toList_some, Option.toList_none, List.singleton_append, List.nil_append]
theorem act_5 (H : AH L h0 h σ A F r n 5) : ACM L h0 h σ A F 5 315 [.ref 5, .ref (106 + 11 * F), .retAddr 0, .retAddr 0, .retAddr 0, .retAddr 0, .retAddr 0, .retAddr 0, .retAddr 0] 1150 [.ref 244, .int 5, .retAddr 0] := by
  have okA := H.ok
  obtain ⟨a, ea, la⟩ := okA.2.1 (by decide)
  have a8 : a < 8 := by omega
  have na : σ 244 46 &&& 7 = nI a := by rw [ea]; exact and7_nI a8
  obtain ⟨b, eb, lb⟩ := okA.2.2.1 (by decide)
  have b8 : b < 8 := by omega
  have nb : σ 244 47 &&& 7 = nI b := by rw [eb]; exact and7_nI b8
  obtain ⟨c, ec, lc⟩ := okA.2.2.2.1 (by decide)
  have c8 : c < 8 := by omega
  have nc : σ 244 48 &&& 7 = nI c := by rw [ec]; exact and7_nI c8
  have pre := perf_pre H na a8 nb b8 nc c8
  obtain ⟨iv, hAP, hF, hF12, t1, hr, t3, hn, h40, ho, m0, m1, m2, m3⟩ := id H
  obtain ⟨⟨ca, ra, hs, sp, cr⟩, gc, gb, gf, hh, hA⟩ := id iv
  have X := cr.fx
  have gp := gc.2.2.2.2
  have f0 : ix (σ 244 29) = F + 1 := by rw [hF]; exact ix_nI (by omega)
  have lf : F < ix (σ 244 29) := by omega
  rw [eb, ec] at pre
  refine ACM.lift (LKS.ac iv hF (by decide) (op_reckon (op := 5) cr gb lf a8 b8 c8 m0 ea eb ec (by decide))) (fun v h' e => ?_) (fun k x v σ' e => ?_)
  · rw [pre]
    simp only [x315_78_5, x315_451, x315_452, x315_454, x315_456, x315_458, x315_461, X.k5, e, Option.bind_some, Option.toList_some, Option.toList_none, List.singleton_append, List.nil_append]
  · simp only [x1150_0, x1150_1_5, x1150_411, x1150_412, x1150_413, x1150_416, hp_k_ms, x.k244, e, Option.bind_some, Option.toList_some, Option.toList_none, List.singleton_append, List.nil_append]
theorem act_6 (H : AH L h0 h σ A F r n 6) : ACM L h0 h σ A F 6 315 [.ref 5, .ref (106 + 11 * F), .retAddr 0, .retAddr 0, .retAddr 0, .retAddr 0, .retAddr 0, .retAddr 0, .retAddr 0] 1150 [.ref 244, .int 6, .retAddr 0] := by
  have okA := H.ok
  obtain ⟨a, ea, la⟩ := okA.2.1 (by decide)
  have a8 : a < 8 := by omega
  have na : σ 244 46 &&& 7 = nI a := by rw [ea]; exact and7_nI a8
  obtain ⟨b, eb, lb⟩ := okA.2.2.1 (by decide)
  have b8 : b < 8 := by omega
  have nb : σ 244 47 &&& 7 = nI b := by rw [eb]; exact and7_nI b8
  obtain ⟨c, ec, lc⟩ := okA.2.2.2.1 (by decide)
  have c8 : c < 8 := by omega
  have nc : σ 244 48 &&& 7 = nI c := by rw [ec]; exact and7_nI c8
  have pre := perf_pre H na a8 nb b8 nc c8
  obtain ⟨iv, hAP, hF, hF12, t1, hr, t3, hn, h40, ho, m0, m1, m2, m3⟩ := id H
  obtain ⟨⟨ca, ra, hs, sp, cr⟩, gc, gb, gf, hh, hA⟩ := id iv
  have X := cr.fx
  have gp := gc.2.2.2.2
  have f0 : ix (σ 244 29) = F + 1 := by rw [hF]; exact ix_nI (by omega)
  have lf : F < ix (σ 244 29) := by omega
  rw [eb, ec] at pre
  refine ACM.lift (LKS.ac iv hF (by decide) (op_reckon (op := 6) cr gb lf a8 b8 c8 m0 ea eb ec (by decide))) (fun v h' e => ?_) (fun k x v σ' e => ?_)
  · rw [pre]
    simp only [x315_78_6, x315_451, x315_452, x315_454, x315_456, x315_458, x315_461, X.k5, e, Option.bind_some, Option.toList_some, Option.toList_none, List.singleton_append, List.nil_append]
  · simp only [x1150_0, x1150_1_6, x1150_411, x1150_412, x1150_413, x1150_416, hp_k_ms, x.k244, e, Option.bind_some, Option.toList_some, Option.toList_none, List.singleton_append, List.nil_append]
theorem act_7 (H : AH L h0 h σ A F r n 7) : ACM L h0 h σ A F 7 315 [.ref 5, .ref (106 + 11 * F), .retAddr 0, .retAddr 0, .retAddr 0, .retAddr 0, .retAddr 0, .retAddr 0, .retAddr 0] 1150 [.ref 244, .int 7, .retAddr 0] := by
  have okA := H.ok
  obtain ⟨a, ea, la⟩ := okA.2.1 (by decide)
  have a8 : a < 8 := by omega
  have na : σ 244 46 &&& 7 = nI a := by rw [ea]; exact and7_nI a8
  obtain ⟨b, eb, lb⟩ := okA.2.2.1 (by decide)
  have b8 : b < 8 := by omega
  have nb : σ 244 47 &&& 7 = nI b := by rw [eb]; exact and7_nI b8
  obtain ⟨c, ec, lc⟩ := okA.2.2.2.1 (by decide)
  have c8 : c < 8 := by omega
  have nc : σ 244 48 &&& 7 = nI c := by rw [ec]; exact and7_nI c8
  have pre := perf_pre H na a8 nb b8 nc c8
  obtain ⟨iv, hAP, hF, hF12, t1, hr, t3, hn, h40, ho, m0, m1, m2, m3⟩ := id H
  obtain ⟨⟨ca, ra, hs, sp, cr⟩, gc, gb, gf, hh, hA⟩ := id iv
  have X := cr.fx
  have gp := gc.2.2.2.2
  have f0 : ix (σ 244 29) = F + 1 := by rw [hF]; exact ix_nI (by omega)
  have lf : F < ix (σ 244 29) := by omega
  rw [eb, ec] at pre
  refine ACM.lift (LKS.ac iv hF (by decide) (op_reckon (op := 7) cr gb lf a8 b8 c8 m0 ea eb ec (by decide))) (fun v h' e => ?_) (fun k x v σ' e => ?_)
  · rw [pre]
    simp only [x315_78_7, x315_451, x315_452, x315_454, x315_456, x315_458, x315_461, X.k5, e, Option.bind_some, Option.toList_some, Option.toList_none, List.singleton_append, List.nil_append]
  · simp only [x1150_0, x1150_1_7, x1150_411, x1150_412, x1150_413, x1150_416, hp_k_ms, x.k244, e, Option.bind_some, Option.toList_some, Option.toList_none, List.singleton_append, List.nil_append]
theorem act_9 (H : AH L h0 h σ A F r n 9) : ACM L h0 h σ A F 9 315 [.ref 5, .ref (106 + 11 * F), .retAddr 0, .retAddr 0, .retAddr 0, .retAddr 0, .retAddr 0, .retAddr 0, .retAddr 0] 1150 [.ref 244, .int 9, .retAddr 0] := by
  have okA := H.ok
  obtain ⟨a, ea, la⟩ := okA.2.2.2.2.1 rfl
  obtain ⟨a7, na, a8⟩ := and7 (σ 244 46)
  obtain ⟨b7, nb, b8⟩ := and7 (σ 244 47)
  obtain ⟨c7, nc, c8⟩ := and7 (σ 244 48)
  have pre := perf_pre H na a8 nb b8 nc c8
  obtain ⟨iv, hAP, hF, hF12, t1, hr, t3, hn, h40, ho, m0, m1, m2, m3⟩ := id H
  obtain ⟨⟨ca, ra, hs, sp, cr⟩, gc, gb, gf, hh, hA⟩ := id iv
  have X := cr.fx
  have gp := gc.2.2.2.2
  have f0 : ix (σ 244 29) = F + 1 := by rw [hF]; exact ix_nI (by omega)
  have lf : F < ix (σ 244 29) := by omega
  refine ACM.lift (op_goes (to := a) iv hF hF12 (by decide) la) (fun v h' e => ?_) (fun k x v σ' e => ?_)
  · rw [pre]
    obtain ⟨fr1, fr2⟩ := cr.frm (f := F) lf
    rw [t1, ix_nI (by omega)] at fr1
    rw [t3] at fr2
    have im : inb (nI n) 40 = true := inb_nI (by omega) (by omega)
    have im2 : ix (nI n) = n := ix_nI (by omega)
    have q1 : hp_i h (16 + 9 * r + 2) n = nI a := by
      have := cr.fi _ _ _ _ (CMR.code (i := r) (r := 1) (q := n) hr (by omega) (by omega))
      rw [show 17 + 9 * r + 1 = 16 + 9 * r + 2 by omega] at this
      rw [this, ← m1, ea]
    simp only [x315_78_9, x315_244, x315_245, x315_246, x315_247, x315_250, x315_251, x315_254, x315_255, x315_258, X.k5, X.fk F hF12, fr1, fr2, X.mk r hr, X.mpa r 2 hr (by omega) (by omega), X.mka r 2 hr (by omega) (by omega), X.mla r 2 hr (by omega) (by omega), im, im2, q1, e, Option.bind_some, Option.toList_some, Option.toList_none, List.singleton_append, List.nil_append]
  · simp only [x1150_0, x1150_1_9, x1150_178, x1150_179, x1150_180, x1150_183, x1150_186, hp_k_ms, x.k244, ms_r (show 244 ≤ 244 ∧ 244 < 276 by omega), ea, e, Option.bind_some, Option.toList_some, Option.toList_none, List.singleton_append, List.nil_append]
theorem act_10 (H : AH L h0 h σ A F r n 10) : ACM L h0 h σ A F 10 315 [.ref 5, .ref (106 + 11 * F), .retAddr 0, .retAddr 0, .retAddr 0, .retAddr 0, .retAddr 0, .retAddr 0, .retAddr 0] 1150 [.ref 244, .int 10, .retAddr 0] := by
  have okA := H.ok
  obtain ⟨a, ea, la⟩ := okA.2.1 (by decide)
  have a8 : a < 8 := by omega
  have na : σ 244 46 &&& 7 = nI a := by rw [ea]; exact and7_nI a8
  obtain ⟨b, eb, lb⟩ := okA.2.2.2.2.2.1 rfl
  obtain ⟨b7, nb, b8⟩ := and7 (σ 244 47)
  obtain ⟨c7, nc, c8⟩ := and7 (σ 244 48)
  have pre := perf_pre H na a8 nb b8 nc c8
  obtain ⟨iv, hAP, hF, hF12, t1, hr, t3, hn, h40, ho, m0, m1, m2, m3⟩ := id H
  obtain ⟨⟨ca, ra, hs, sp, cr⟩, gc, gb, gf, hh, hA⟩ := id iv
  have X := cr.fx
  have gp := gc.2.2.2.2
  have f0 : ix (σ 244 29) = F + 1 := by rw [hF]; exact ix_nI (by omega)
  have lf : F < ix (σ 244 29) := by omega
  rw [eb] at pre
  refine ACM.lift (op_branch (to := b) iv hF hF12 (by decide) a8 lb m0 ea eb) (fun v h' e => ?_) (fun k x v σ' e => ?_)
  · rw [pre]
    simp only [x315_78_10, x315_259, x315_260, x315_261, x315_263, x315_265, x315_268, X.k5, e, Option.bind_some, Option.toList_some, Option.toList_none, List.singleton_append, List.nil_append]
  · simp only [x1150_0, x1150_1_10, x1150_187, x1150_188, x1150_191, hp_k_ms, x.k244, e, Option.bind_some, Option.toList_some, Option.toList_none, List.singleton_append, List.nil_append]
theorem act_11 (H : AH L h0 h σ A F r n 11) : ACM L h0 h σ A F 11 315 [.ref 5, .ref (106 + 11 * F), .retAddr 0, .retAddr 0, .retAddr 0, .retAddr 0, .retAddr 0, .retAddr 0, .retAddr 0] 1150 [.ref 244, .int 11, .retAddr 0] := by
  have okA := H.ok
  obtain ⟨a, ea, la⟩ := okA.2.1 (by decide)
  have a8 : a < 8 := by omega
  have na : σ 244 46 &&& 7 = nI a := by rw [ea]; exact and7_nI a8
  obtain ⟨b, eb, lb⟩ := okA.2.2.1 (by decide)
  have b8 : b < 8 := by omega
  have nb : σ 244 47 &&& 7 = nI b := by rw [eb]; exact and7_nI b8
  obtain ⟨c, ec, lc⟩ := okA.2.2.2.2.2.2.1 rfl
  obtain ⟨c7, nc, c8⟩ := and7 (σ 244 48)
  have pre := perf_pre H na a8 nb b8 nc c8
  obtain ⟨iv, hAP, hF, hF12, t1, hr, t3, hn, h40, ho, m0, m1, m2, m3⟩ := id H
  obtain ⟨⟨ca, ra, hs, sp, cr⟩, gc, gb, gf, hh, hA⟩ := id iv
  have X := cr.fx
  have gp := gc.2.2.2.2
  have f0 : ix (σ 244 29) = F + 1 := by rw [hF]; exact ix_nI (by omega)
  have lf : F < ix (σ 244 29) := by omega
  rw [eb, ec] at pre
  refine ACM.lift (LKS.ac iv hF (by decide) (op_row cr gb gp lf a8 b8 lc m0 ea eb ec)) (fun v h' e => ?_) (fun k x v σ' e => ?_)
  · rw [pre]
    simp only [x315_78_11, x315_269, x315_270, x315_272, x315_274, x315_276, x315_279, X.k5, e, Option.bind_some, Option.toList_some, Option.toList_none, List.singleton_append, List.nil_append]
  · simp only [x1150_0, x1150_1_11, x1150_192, x1150_193, x1150_196, hp_k_ms, x.k244, e, Option.bind_some, Option.toList_some, Option.toList_none, List.singleton_append, List.nil_append]
theorem act_12 (H : AH L h0 h σ A F r n 12) : ACM L h0 h σ A F 12 315 [.ref 5, .ref (106 + 11 * F), .retAddr 0, .retAddr 0, .retAddr 0, .retAddr 0, .retAddr 0, .retAddr 0, .retAddr 0] 1150 [.ref 244, .int 12, .retAddr 0] := by
  have okA := H.ok
  obtain ⟨a, ea, la⟩ := okA.2.1 (by decide)
  have a8 : a < 8 := by omega
  have na : σ 244 46 &&& 7 = nI a := by rw [ea]; exact and7_nI a8
  obtain ⟨b, eb, lb⟩ := okA.2.2.2.2.2.2.2.1 rfl
  obtain ⟨b7, nb, b8⟩ := and7 (σ 244 47)
  obtain ⟨c7, nc, c8⟩ := and7 (σ 244 48)
  have pre := perf_pre H na a8 nb b8 nc c8
  obtain ⟨iv, hAP, hF, hF12, t1, hr, t3, hn, h40, ho, m0, m1, m2, m3⟩ := id H
  obtain ⟨⟨ca, ra, hs, sp, cr⟩, gc, gb, gf, hh, hA⟩ := id iv
  have X := cr.fx
  have gp := gc.2.2.2.2
  have f0 : ix (σ 244 29) = F + 1 := by rw [hF]; exact ix_nI (by omega)
  have lf : F < ix (σ 244 29) := by omega
  rw [eb] at pre
  have hz : ∀ f k, f < ix (σ 244 29) → ix (σ 244 17) ≤ k → k < 6000 → σ 272 (6000 * f + k) = 0 := by
    intro f k hf hk hk6
    obtain ⟨n', n1, n2, n3⟩ := hh.1 f k (by omega) hk6
    rw [n1, n3 (Or.inr hk)]
    rfl
  refine ACM.lift (LKS.ac iv hF (by decide) (op_cell cr gb gp hz lf a8 lb m0 ea eb)) (fun v h' e => ?_) (fun k x v σ' e => ?_)
  · rw [pre]
    simp only [x315_78_12, x315_280, x315_281, x315_283, x315_285, x315_288, X.k5, e, Option.bind_some, Option.toList_some, Option.toList_none, List.singleton_append, List.nil_append]
  · simp only [x1150_0, x1150_1_12, x1150_197, x1150_198, x1150_201, hp_k_ms, x.k244, e, Option.bind_some, Option.toList_some, Option.toList_none, List.singleton_append, List.nil_append]
theorem act_13 (H : AH L h0 h σ A F r n 13) : ACM L h0 h σ A F 13 315 [.ref 5, .ref (106 + 11 * F), .retAddr 0, .retAddr 0, .retAddr 0, .retAddr 0, .retAddr 0, .retAddr 0, .retAddr 0] 1150 [.ref 244, .int 13, .retAddr 0] := by
  have okA := H.ok
  obtain ⟨a, ea, la⟩ := okA.2.1 (by decide)
  have a8 : a < 8 := by omega
  have na : σ 244 46 &&& 7 = nI a := by rw [ea]; exact and7_nI a8
  obtain ⟨b, eb, lb⟩ := okA.2.2.1 (by decide)
  have b8 : b < 8 := by omega
  have nb : σ 244 47 &&& 7 = nI b := by rw [eb]; exact and7_nI b8
  obtain ⟨c, ec, lc⟩ := okA.2.2.2.1 (by decide)
  have c8 : c < 8 := by omega
  have nc : σ 244 48 &&& 7 = nI c := by rw [ec]; exact and7_nI c8
  have pre := perf_pre H na a8 nb b8 nc c8
  obtain ⟨iv, hAP, hF, hF12, t1, hr, t3, hn, h40, ho, m0, m1, m2, m3⟩ := id H
  obtain ⟨⟨ca, ra, hs, sp, cr⟩, gc, gb, gf, hh, hA⟩ := id iv
  have X := cr.fx
  have gp := gc.2.2.2.2
  have f0 : ix (σ 244 29) = F + 1 := by rw [hF]; exact ix_nI (by omega)
  have lf : F < ix (σ 244 29) := by omega
  rw [eb, ec] at pre
  refine ACM.lift (LKS.ac iv hF (by decide) (op_put cr gb lf a8 b8 c8 m0 ea eb ec)) (fun v h' e => ?_) (fun k x v σ' e => ?_)
  · rw [pre]
    simp only [x315_78_13, x315_289, x315_291, x315_293, x315_295, x315_298, X.k5, e, Option.bind_some, Option.toList_some, Option.toList_none, List.singleton_append, List.nil_append]
  · simp only [x1150_0, x1150_1_13, x1150_202, x1150_203, x1150_206, hp_k_ms, x.k244, e, Option.bind_some, Option.toList_some, Option.toList_none, List.singleton_append, List.nil_append]
theorem act_14 (H : AH L h0 h σ A F r n 14) : ACM L h0 h σ A F 14 315 [.ref 5, .ref (106 + 11 * F), .retAddr 0, .retAddr 0, .retAddr 0, .retAddr 0, .retAddr 0, .retAddr 0, .retAddr 0] 1150 [.ref 244, .int 14, .retAddr 0] := by
  have okA := H.ok
  obtain ⟨a, ea, la⟩ := okA.2.1 (by decide)
  have a8 : a < 8 := by omega
  have na : σ 244 46 &&& 7 = nI a := by rw [ea]; exact and7_nI a8
  obtain ⟨b, eb, lb⟩ := okA.2.2.1 (by decide)
  have b8 : b < 8 := by omega
  have nb : σ 244 47 &&& 7 = nI b := by rw [eb]; exact and7_nI b8
  obtain ⟨c, ec, lc⟩ := okA.2.2.2.1 (by decide)
  have c8 : c < 8 := by omega
  have nc : σ 244 48 &&& 7 = nI c := by rw [ec]; exact and7_nI c8
  have pre := perf_pre H na a8 nb b8 nc c8
  obtain ⟨iv, hAP, hF, hF12, t1, hr, t3, hn, h40, ho, m0, m1, m2, m3⟩ := id H
  obtain ⟨⟨ca, ra, hs, sp, cr⟩, gc, gb, gf, hh, hA⟩ := id iv
  have X := cr.fx
  have gp := gc.2.2.2.2
  have f0 : ix (σ 244 29) = F + 1 := by rw [hF]; exact ix_nI (by omega)
  have lf : F < ix (σ 244 29) := by omega
  rw [eb, ec] at pre
  refine ACM.lift (LKS.ac iv hF (by decide) (op_get cr gb lf a8 b8 c8 m0 ea eb ec)) (fun v h' e => ?_) (fun k x v σ' e => ?_)
  · rw [pre]
    simp only [x315_78_14, x315_299, x315_301, x315_303, x315_305, x315_308, X.k5, e, Option.bind_some, Option.toList_some, Option.toList_none, List.singleton_append, List.nil_append]
  · simp only [x1150_0, x1150_1_14, x1150_207, x1150_208, x1150_211, hp_k_ms, x.k244, e, Option.bind_some, Option.toList_some, Option.toList_none, List.singleton_append, List.nil_append]
theorem act_15 (H : AH L h0 h σ A F r n 15) : ACM L h0 h σ A F 15 315 [.ref 5, .ref (106 + 11 * F), .retAddr 0, .retAddr 0, .retAddr 0, .retAddr 0, .retAddr 0, .retAddr 0, .retAddr 0] 1150 [.ref 244, .int 15, .retAddr 0] := by
  have okA := H.ok
  obtain ⟨a, ea, la⟩ := okA.2.1 (by decide)
  have a8 : a < 8 := by omega
  have na : σ 244 46 &&& 7 = nI a := by rw [ea]; exact and7_nI a8
  obtain ⟨b, eb, lb⟩ := okA.2.2.1 (by decide)
  have b8 : b < 8 := by omega
  have nb : σ 244 47 &&& 7 = nI b := by rw [eb]; exact and7_nI b8
  obtain ⟨c7, nc, c8⟩ := and7 (σ 244 48)
  have pre := perf_pre H na a8 nb b8 nc c8
  obtain ⟨iv, hAP, hF, hF12, t1, hr, t3, hn, h40, ho, m0, m1, m2, m3⟩ := id H
  obtain ⟨⟨ca, ra, hs, sp, cr⟩, gc, gb, gf, hh, hA⟩ := id iv
  have X := cr.fx
  have gp := gc.2.2.2.2
  have f0 : ix (σ 244 29) = F + 1 := by rw [hF]; exact ix_nI (by omega)
  have lf : F < ix (σ 244 29) := by omega
  rw [eb] at pre
  refine ACM.lift (LKS.ac iv hF (by decide) (op_length cr gb lf a8 b8 m0 ea eb)) (fun v h' e => ?_) (fun k x v σ' e => ?_)
  · rw [pre]
    simp only [x315_78_15, x315_309, x315_311, x315_313, x315_316, X.k5, e, Option.bind_some, Option.toList_some, Option.toList_none, List.singleton_append, List.nil_append]
  · simp only [x1150_0, x1150_1_15, x1150_212, x1150_213, x1150_216, hp_k_ms, x.k244, e, Option.bind_some, Option.toList_some, Option.toList_none, List.singleton_append, List.nil_append]
theorem act_16 (H : AH L h0 h σ A F r n 16) : ACM L h0 h σ A F 16 315 [.ref 5, .ref (106 + 11 * F), .retAddr 0, .retAddr 0, .retAddr 0, .retAddr 0, .retAddr 0, .retAddr 0, .retAddr 0] 1150 [.ref 244, .int 16, .retAddr 0] := by
  have okA := H.ok
  obtain ⟨a, ea, la⟩ := okA.2.1 (by decide)
  have a8 : a < 8 := by omega
  have na : σ 244 46 &&& 7 = nI a := by rw [ea]; exact and7_nI a8
  obtain ⟨b, eb, lb⟩ := okA.2.2.1 (by decide)
  have b8 : b < 8 := by omega
  have nb : σ 244 47 &&& 7 = nI b := by rw [eb]; exact and7_nI b8
  obtain ⟨c, ec, lc⟩ := okA.2.2.2.2.2.2.2.2.1 rfl
  obtain ⟨c7, nc, c8⟩ := and7 (σ 244 48)
  have pre := perf_pre H na a8 nb b8 nc c8
  obtain ⟨iv, hAP, hF, hF12, t1, hr, t3, hn, h40, ho, m0, m1, m2, m3⟩ := id H
  obtain ⟨⟨ca, ra, hs, sp, cr⟩, gc, gb, gf, hh, hA⟩ := id iv
  have X := cr.fx
  have gp := gc.2.2.2.2
  have f0 : ix (σ 244 29) = F + 1 := by rw [hF]; exact ix_nI (by omega)
  have lf : F < ix (σ 244 29) := by omega
  rw [eb, ec] at pre
  refine ACM.lift (LKS.ac iv hF (by decide) (op_field cr gb lf a8 b8 lc m0 ea eb ec)) (fun v h' e => ?_) (fun k x v σ' e => ?_)
  · rw [pre]
    simp only [x315_78_16, x315_317, x315_319, x315_321, x315_323, x315_326, X.k5, e, Option.bind_some, Option.toList_some, Option.toList_none, List.singleton_append, List.nil_append]
  · simp only [x1150_0, x1150_1_16, x1150_217, x1150_218, x1150_221, hp_k_ms, x.k244, e, Option.bind_some, Option.toList_some, Option.toList_none, List.singleton_append, List.nil_append]
theorem act_17 (H : AH L h0 h σ A F r n 17) : ACM L h0 h σ A F 17 315 [.ref 5, .ref (106 + 11 * F), .retAddr 0, .retAddr 0, .retAddr 0, .retAddr 0, .retAddr 0, .retAddr 0, .retAddr 0] 1150 [.ref 244, .int 17, .retAddr 0] := by
  have okA := H.ok
  obtain ⟨a, ea, la⟩ := okA.2.1 (by decide)
  have a8 : a < 8 := by omega
  have na : σ 244 46 &&& 7 = nI a := by rw [ea]; exact and7_nI a8
  obtain ⟨b, eb, lb⟩ := okA.2.2.2.2.2.2.2.2.2.1 rfl
  obtain ⟨b7, nb, b8⟩ := and7 (σ 244 47)
  obtain ⟨c, ec, lc⟩ := okA.2.2.2.1 (by decide)
  have c8 : c < 8 := by omega
  have nc : σ 244 48 &&& 7 = nI c := by rw [ec]; exact and7_nI c8
  have pre := perf_pre H na a8 nb b8 nc c8
  obtain ⟨iv, hAP, hF, hF12, t1, hr, t3, hn, h40, ho, m0, m1, m2, m3⟩ := id H
  obtain ⟨⟨ca, ra, hs, sp, cr⟩, gc, gb, gf, hh, hA⟩ := id iv
  have X := cr.fx
  have gp := gc.2.2.2.2
  have f0 : ix (σ 244 29) = F + 1 := by rw [hF]; exact ix_nI (by omega)
  have lf : F < ix (σ 244 29) := by omega
  rw [eb, ec] at pre
  refine ACM.lift (LKS.ac iv hF (by decide) (op_fill cr gb lf a8 lb c8 m0 ea eb ec)) (fun v h' e => ?_) (fun k x v σ' e => ?_)
  · rw [pre]
    simp only [x315_78_17, x315_327, x315_329, x315_331, x315_333, x315_336, X.k5, e, Option.bind_some, Option.toList_some, Option.toList_none, List.singleton_append, List.nil_append]
  · simp only [x1150_0, x1150_1_17, x1150_222, x1150_223, x1150_226, hp_k_ms, x.k244, e, Option.bind_some, Option.toList_some, Option.toList_none, List.singleton_append, List.nil_append]
theorem act_20 (H : AH L h0 h σ A F r n 20) : ACM L h0 h σ A F 20 315 [.ref 5, .ref (106 + 11 * F), .retAddr 0, .retAddr 0, .retAddr 0, .retAddr 0, .retAddr 0, .retAddr 0, .retAddr 0] 1150 [.ref 244, .int 20, .retAddr 0] := by
  have okA := H.ok
  obtain ⟨a, ea, la⟩ := okA.2.1 (by decide)
  have a8 : a < 8 := by omega
  have na : σ 244 46 &&& 7 = nI a := by rw [ea]; exact and7_nI a8
  obtain ⟨b7, nb, b8⟩ := and7 (σ 244 47)
  obtain ⟨c7, nc, c8⟩ := and7 (σ 244 48)
  have pre := perf_pre H na a8 nb b8 nc c8
  obtain ⟨iv, hAP, hF, hF12, t1, hr, t3, hn, h40, ho, m0, m1, m2, m3⟩ := id H
  obtain ⟨⟨ca, ra, hs, sp, cr⟩, gc, gb, gf, hh, hA⟩ := id iv
  have X := cr.fx
  have gp := gc.2.2.2.2
  have f0 : ix (σ 244 29) = F + 1 := by rw [hF]; exact ix_nI (by omega)
  have lf : F < ix (σ 244 29) := by omega
  refine ACM.lift (op_enter iv hAP hF hF12 (by decide) a8 m0 ea) (fun v h' e => ?_) (fun k x v σ' e => ?_)
  · rw [pre]
    simp only [x315_78_20, x315_383, x315_384, x315_385, x315_387, x315_390, X.k5, e, Option.bind_some, Option.toList_some, Option.toList_none, List.singleton_append, List.nil_append]
  · simp only [x1150_0, x1150_1_20, x1150_340, x1150_341, x1150_342, x1150_345, hp_k_ms, x.k244, e, Option.bind_some, Option.toList_some, Option.toList_none, List.singleton_append, List.nil_append]
theorem act_21 (H : AH L h0 h σ A F r n 21) : ACM L h0 h σ A F 21 315 [.ref 5, .ref (106 + 11 * F), .retAddr 0, .retAddr 0, .retAddr 0, .retAddr 0, .retAddr 0, .retAddr 0, .retAddr 0] 1150 [.ref 244, .int 21, .retAddr 0] := by
  have okA := H.ok
  obtain ⟨a, ea, la⟩ := okA.2.1 (by decide)
  have a8 : a < 8 := by omega
  have na : σ 244 46 &&& 7 = nI a := by rw [ea]; exact and7_nI a8
  obtain ⟨b7, nb, b8⟩ := and7 (σ 244 47)
  obtain ⟨c7, nc, c8⟩ := and7 (σ 244 48)
  have pre := perf_pre H na a8 nb b8 nc c8
  obtain ⟨iv, hAP, hF, hF12, t1, hr, t3, hn, h40, ho, m0, m1, m2, m3⟩ := id H
  obtain ⟨⟨ca, ra, hs, sp, cr⟩, gc, gb, gf, hh, hA⟩ := id iv
  have X := cr.fx
  have gp := gc.2.2.2.2
  have f0 : ix (σ 244 29) = F + 1 := by rw [hF]; exact ix_nI (by omega)
  have lf : F < ix (σ 244 29) := by omega
  refine ACM.lift (op_leave iv hAP hF hF12 (by decide) a8 m0 ea) (fun v h' e => ?_) (fun k x v σ' e => ?_)
  · rw [pre]
    simp only [x315_78_21, x315_391, x315_392, x315_393, x315_395, x315_398, X.k5, e, Option.bind_some, Option.toList_some, Option.toList_none, List.singleton_append, List.nil_append]
  · simp only [x1150_0, x1150_1_21, x1150_346, x1150_347, x1150_348, x1150_351, hp_k_ms, x.k244, e, Option.bind_some, Option.toList_some, Option.toList_none, List.singleton_append, List.nil_append]
theorem act_22 (H : AH L h0 h σ A F r n 22) : ACM L h0 h σ A F 22 315 [.ref 5, .ref (106 + 11 * F), .retAddr 0, .retAddr 0, .retAddr 0, .retAddr 0, .retAddr 0, .retAddr 0, .retAddr 0] 1150 [.ref 244, .int 22, .retAddr 0] := by
  have okA := H.ok
  obtain ⟨a, ea, la⟩ := okA.2.1 (by decide)
  have a8 : a < 8 := by omega
  have na : σ 244 46 &&& 7 = nI a := by rw [ea]; exact and7_nI a8
  obtain ⟨b7, nb, b8⟩ := and7 (σ 244 47)
  obtain ⟨c7, nc, c8⟩ := and7 (σ 244 48)
  have pre := perf_pre H na a8 nb b8 nc c8
  obtain ⟨iv, hAP, hF, hF12, t1, hr, t3, hn, h40, ho, m0, m1, m2, m3⟩ := id H
  obtain ⟨⟨ca, ra, hs, sp, cr⟩, gc, gb, gf, hh, hA⟩ := id iv
  have X := cr.fx
  have gp := gc.2.2.2.2
  have f0 : ix (σ 244 29) = F + 1 := by rw [hF]; exact ix_nI (by omega)
  have lf : F < ix (σ 244 29) := by omega
  refine ACM.lift (LKS.ac iv hF (by decide) (op_throw cr gb lf a8 m0 ea)) (fun v h' e => ?_) (fun k x v σ' e => e)
  rw [pre]
  simp only [x315_78_22, x315_399, x315_400, x315_402, x315_405, X.k5, e, Option.bind_some, Option.toList_some, Option.toList_none, List.singleton_append, List.nil_append]
theorem act_23 (H : AH L h0 h σ A F r n 23) : ACM L h0 h σ A F 23 315 [.ref 5, .ref (106 + 11 * F), .retAddr 0, .retAddr 0, .retAddr 0, .retAddr 0, .retAddr 0, .retAddr 0, .retAddr 0] 1150 [.ref 244, .int 23, .retAddr 0] := by
  have okA := H.ok
  obtain ⟨a, ea, la⟩ := okA.2.1 (by decide)
  have a8 : a < 8 := by omega
  have na : σ 244 46 &&& 7 = nI a := by rw [ea]; exact and7_nI a8
  obtain ⟨b7, nb, b8⟩ := and7 (σ 244 47)
  obtain ⟨c, ec, lc⟩ := okA.2.2.2.1 (by decide)
  have c8 : c < 8 := by omega
  have nc : σ 244 48 &&& 7 = nI c := by rw [ec]; exact and7_nI c8
  have pre := perf_pre H na a8 nb b8 nc c8
  obtain ⟨iv, hAP, hF, hF12, t1, hr, t3, hn, h40, ho, m0, m1, m2, m3⟩ := id H
  obtain ⟨⟨ca, ra, hs, sp, cr⟩, gc, gb, gf, hh, hA⟩ := id iv
  have X := cr.fx
  have gp := gc.2.2.2.2
  have f0 : ix (σ 244 29) = F + 1 := by rw [hF]; exact ix_nI (by omega)
  have lf : F < ix (σ 244 29) := by omega
  rw [ec] at pre
  refine ACM.lift (op_call (r := r) (n := n) iv hF hF12 a8 c8 m0 ea rfl ec t1 hr t3 (by omega) ho (by rw [← m1]; exact ea)) (fun v h' e => ?_) (fun k x v σ' e => ?_)
  · rw [pre]
    simp only [x315_78_23, x315_406, x315_407, x315_408, x315_410, x315_412, x315_415, X.k5, e, Option.bind_some, Option.toList_some, Option.toList_none, List.singleton_append, List.nil_append]
  · simp only [x1150_0, x1150_1_23, x1150_391, x1150_392, x1150_395, hp_k_ms, x.k244, e, Option.bind_some, Option.toList_some, Option.toList_none, List.singleton_append, List.nil_append]
theorem act_25 (H : AH L h0 h σ A F r n 25) : ACM L h0 h σ A F 25 315 [.ref 5, .ref (106 + 11 * F), .retAddr 0, .retAddr 0, .retAddr 0, .retAddr 0, .retAddr 0, .retAddr 0, .retAddr 0] 1150 [.ref 244, .int 25, .retAddr 0] := by
  have okA := H.ok
  obtain ⟨a, ea, la⟩ := okA.2.1 (by decide)
  have a8 : a < 8 := by omega
  have na : σ 244 46 &&& 7 = nI a := by rw [ea]; exact and7_nI a8
  obtain ⟨b, eb, lb⟩ := okA.2.2.1 (by decide)
  have b8 : b < 8 := by omega
  have nb : σ 244 47 &&& 7 = nI b := by rw [eb]; exact and7_nI b8
  obtain ⟨c7, nc, c8⟩ := and7 (σ 244 48)
  have pre := perf_pre H na a8 nb b8 nc c8
  obtain ⟨iv, hAP, hF, hF12, t1, hr, t3, hn, h40, ho, m0, m1, m2, m3⟩ := id H
  obtain ⟨⟨ca, ra, hs, sp, cr⟩, gc, gb, gf, hh, hA⟩ := id iv
  have X := cr.fx
  have gp := gc.2.2.2.2
  have f0 : ix (σ 244 29) = F + 1 := by rw [hF]; exact ix_nI (by omega)
  have lf : F < ix (σ 244 29) := by omega
  rw [eb] at pre
  refine ACM.lift (LKS.ac iv hF (by decide) (op_note cr gb lf a8 b8 m0 ea eb)) (fun v h' e => ?_) (fun k x v σ' e => ?_)
  · rw [pre]
    simp only [x315_78_25, x315_424, x315_425, x315_427, x315_429, x315_432, X.k5, e, Option.bind_some, Option.toList_some, Option.toList_none, List.singleton_append, List.nil_append]
  · simp only [x1150_0, x1150_1_25, x1150_396, x1150_397, x1150_400, hp_k_ms, x.k244, e, Option.bind_some, Option.toList_some, Option.toList_none, List.singleton_append, List.nil_append]
theorem act_26 (H : AH L h0 h σ A F r n 26) : ACM L h0 h σ A F 26 315 [.ref 5, .ref (106 + 11 * F), .retAddr 0, .retAddr 0, .retAddr 0, .retAddr 0, .retAddr 0, .retAddr 0, .retAddr 0] 1150 [.ref 244, .int 26, .retAddr 0] := by
  have okA := H.ok
  obtain ⟨a, ea, la⟩ := okA.2.1 (by decide)
  have a8 : a < 8 := by omega
  have na : σ 244 46 &&& 7 = nI a := by rw [ea]; exact and7_nI a8
  obtain ⟨b, eb, lb⟩ := okA.2.2.1 (by decide)
  have b8 : b < 8 := by omega
  have nb : σ 244 47 &&& 7 = nI b := by rw [eb]; exact and7_nI b8
  obtain ⟨c7, nc, c8⟩ := and7 (σ 244 48)
  have pre := perf_pre H na a8 nb b8 nc c8
  obtain ⟨iv, hAP, hF, hF12, t1, hr, t3, hn, h40, ho, m0, m1, m2, m3⟩ := id H
  obtain ⟨⟨ca, ra, hs, sp, cr⟩, gc, gb, gf, hh, hA⟩ := id iv
  have X := cr.fx
  have gp := gc.2.2.2.2
  have f0 : ix (σ 244 29) = F + 1 := by rw [hF]; exact ix_nI (by omega)
  have lf : F < ix (σ 244 29) := by omega
  rw [eb] at pre
  refine ACM.lift (LKS.ac iv hF (by decide) (op_ask cr gb lf a8 b8 m0 ea eb)) (fun v h' e => ?_) (fun k x v σ' e => ?_)
  · rw [pre]
    simp only [x315_78_26, x315_433, x315_434, x315_436, x315_438, x315_441, X.k5, e, Option.bind_some, Option.toList_some, Option.toList_none, List.singleton_append, List.nil_append]
  · simp only [x1150_0, x1150_1_26, x1150_401, x1150_402, x1150_405, hp_k_ms, x.k244, e, Option.bind_some, Option.toList_some, Option.toList_none, List.singleton_append, List.nil_append]
theorem act_27 (H : AH L h0 h σ A F r n 27) : ACM L h0 h σ A F 27 315 [.ref 5, .ref (106 + 11 * F), .retAddr 0, .retAddr 0, .retAddr 0, .retAddr 0, .retAddr 0, .retAddr 0, .retAddr 0] 1150 [.ref 244, .int 27, .retAddr 0] := by
  have okA := H.ok
  obtain ⟨a, ea, la⟩ := okA.2.1 (by decide)
  have a8 : a < 8 := by omega
  have na : σ 244 46 &&& 7 = nI a := by rw [ea]; exact and7_nI a8
  obtain ⟨b, eb, lb⟩ := okA.2.2.1 (by decide)
  have b8 : b < 8 := by omega
  have nb : σ 244 47 &&& 7 = nI b := by rw [eb]; exact and7_nI b8
  obtain ⟨c7, nc, c8⟩ := and7 (σ 244 48)
  have pre := perf_pre H na a8 nb b8 nc c8
  obtain ⟨iv, hAP, hF, hF12, t1, hr, t3, hn, h40, ho, m0, m1, m2, m3⟩ := id H
  obtain ⟨⟨ca, ra, hs, sp, cr⟩, gc, gb, gf, hh, hA⟩ := id iv
  have X := cr.fx
  have gp := gc.2.2.2.2
  have f0 : ix (σ 244 29) = F + 1 := by rw [hF]; exact ix_nI (by omega)
  have lf : F < ix (σ 244 29) := by omega
  rw [eb] at pre
  refine ACM.lift (LKS.ac iv hF (by decide) (op_weigh cr gb gp lf a8 b8 m0 ea eb)) (fun v h' e => ?_) (fun k x v σ' e => ?_)
  · rw [pre]
    simp only [x315_78_27, x315_442, x315_443, x315_445, x315_447, x315_450, X.k5, e, Option.bind_some, Option.toList_some, Option.toList_none, List.singleton_append, List.nil_append]
  · simp only [x1150_0, x1150_1_27, x1150_406, x1150_407, x1150_410, hp_k_ms, x.k244, e, Option.bind_some, Option.toList_some, Option.toList_none, List.singleton_append, List.nil_append]
theorem act_0 (H : AH L h0 h σ A F r n 0) : ACM L h0 h σ A F 0 315 [.ref 5, .ref (106 + 11 * F), .retAddr 0, .retAddr 0, .retAddr 0, .retAddr 0, .retAddr 0, .retAddr 0, .retAddr 0] 1150 [.ref 244, .int 0, .retAddr 0] := by
  have okA := H.ok
  obtain ⟨a, ea, la⟩ := okA.2.1 (by decide)
  have a8 : a < 8 := by omega
  have na : σ 244 46 &&& 7 = nI a := by rw [ea]; exact and7_nI a8
  obtain ⟨b7, nb, b8⟩ := and7 (σ 244 47)
  obtain ⟨c7, nc, c8⟩ := and7 (σ 244 48)
  have pre := perf_pre H na a8 nb b8 nc c8
  obtain ⟨iv, hAP, hF, hF12, t1, hr, t3, hn, h40, ho, m0, m1, m2, m3⟩ := id H
  obtain ⟨⟨ca, ra, hs, sp, cr⟩, gc, gb, gf, hh, hA⟩ := id iv
  have X := cr.fx
  have gp := gc.2.2.2.2
  have f0 : ix (σ 244 29) = F + 1 := by rw [hF]; exact ix_nI (by omega)
  have lf : F < ix (σ 244 29) := by omega
  have ka := cr.rk hF12 a8
  refine LKS.ac iv hF (by decide) (LKS.done (cr.num (V := σ 244 47) lf a8) ((SO.refl gb).reg hF12 a8) ?_ (fun k x => ?_))
  · rw [pre]
    simp only [x315_78_0, x315_204, x315_206, x315_208, x315_211, x315_212, ka, sp_number ka, Option.bind_some, Option.toList_some, Option.toList_none, List.singleton_append, List.nil_append]
  · simp only [x1150_0, x1150_1_0, x1150_128, x1150_129, x1150_130, x1150_131, x1150_134, x1150_137, x1150_138, hp_k_ms, x.k244, ms_r (show 244 ≤ 244 ∧ 244 < 276 by omega), sp_makes x m0 ea hF12 a8, Option.bind_some, Option.toList_some, Option.toList_none, List.singleton_append, List.nil_append]
theorem act_1 (H : AH L h0 h σ A F r n 1) : ACM L h0 h σ A F 1 315 [.ref 5, .ref (106 + 11 * F), .retAddr 0, .retAddr 0, .retAddr 0, .retAddr 0, .retAddr 0, .retAddr 0, .retAddr 0] 1150 [.ref 244, .int 1, .retAddr 0] := by
  have okA := H.ok
  obtain ⟨a, ea, la⟩ := okA.2.1 (by decide)
  have a8 : a < 8 := by omega
  have na : σ 244 46 &&& 7 = nI a := by rw [ea]; exact and7_nI a8
  obtain ⟨b, eb, lb⟩ := okA.2.2.1 (by decide)
  have b8 : b < 8 := by omega
  have nb : σ 244 47 &&& 7 = nI b := by rw [eb]; exact and7_nI b8
  obtain ⟨c7, nc, c8⟩ := and7 (σ 244 48)
  have pre := perf_pre H na a8 nb b8 nc c8
  obtain ⟨iv, hAP, hF, hF12, t1, hr, t3, hn, h40, ho, m0, m1, m2, m3⟩ := id H
  obtain ⟨⟨ca, ra, hs, sp, cr⟩, gc, gb, gf, hh, hA⟩ := id iv
  have X := cr.fx
  have gp := gc.2.2.2.2
  have f0 : ix (σ 244 29) = F + 1 := by rw [hF]; exact ix_nI (by omega)
  have lf : F < ix (σ 244 29) := by omega
  rw [eb] at pre
  have ka := cr.rk hF12 a8
  have kb := cr.rk hF12 b8
  have z := cr.at_ (SLP.reg lf b8)
  have d1 : inb (nI (8 * F + b)) 96 = true := inb_nI (by omega) (by omega)
  have d2 : ix (nI (8 * F + b)) = 8 * F + b := ix_nI (by omega)
  refine LKS.ac iv hF (by decide) (LKS.done (cr.cpy lf a8 z) ((SO.refl gb).reg hF12 a8) ?_ (fun k x => ?_))
  · rw [pre]
    simp only [x315_78_1, x315_213, x315_215, x315_217, x315_220, x315_221, ka, kb, sp_copy ka kb, Option.bind_some, Option.toList_some, Option.toList_none, List.singleton_append, List.nil_append]
  · simp only [x1150_0, x1150_1_1, x1150_139, x1150_140, x1150_141, x1150_144, x1150_145, x1150_148, x1150_149, x1150_152, x1150_153, x1150_154, x1150_155, x1150_158, x1150_159, x1150_162, x1150_163, x1150_166, x1150_167, x1150_168, x1150_171, x1150_172, hp_k_ms, hp_a_ms, hp_l_ms, x.k244, x.a244_33, x.k269, x.l269, x.a244_34, x.k270, x.l270, ms_r (show 244 ≤ 244 ∧ 244 < 276 by omega), ms_r (show 244 ≤ 269 ∧ 269 < 276 by omega), ms_r (show 244 ≤ 270 ∧ 270 < 276 by omega), m0, eb, nI_add, d1, d2, sp_makes x m0 ea hF12 a8, Option.bind_some, Option.toList_some, Option.toList_none, List.singleton_append, List.nil_append]
theorem act_8 (H : AH L h0 h σ A F r n 8) : ACM L h0 h σ A F 8 315 [.ref 5, .ref (106 + 11 * F), .retAddr 0, .retAddr 0, .retAddr 0, .retAddr 0, .retAddr 0, .retAddr 0, .retAddr 0] 1150 [.ref 244, .int 8, .retAddr 0] := by
  have okA := H.ok
  obtain ⟨a, ea, la⟩ := okA.2.1 (by decide)
  have a8 : a < 8 := by omega
  have na : σ 244 46 &&& 7 = nI a := by rw [ea]; exact and7_nI a8
  obtain ⟨b, eb, lb⟩ := okA.2.2.1 (by decide)
  have b8 : b < 8 := by omega
  have nb : σ 244 47 &&& 7 = nI b := by rw [eb]; exact and7_nI b8
  obtain ⟨c, ec, lc⟩ := okA.2.2.2.1 (by decide)
  have c8 : c < 8 := by omega
  have nc : σ 244 48 &&& 7 = nI c := by rw [ec]; exact and7_nI c8
  have pre := perf_pre H na a8 nb b8 nc c8
  obtain ⟨iv, hAP, hF, hF12, t1, hr, t3, hn, h40, ho, m0, m1, m2, m3⟩ := id H
  obtain ⟨⟨ca, ra, hs, sp, cr⟩, gc, gb, gf, hh, hA⟩ := id iv
  have X := cr.fx
  have gp := gc.2.2.2.2
  have f0 : ix (σ 244 29) = F + 1 := by rw [hF]; exact ix_nI (by omega)
  have lf : F < ix (σ 244 29) := by omega
  rw [eb, ec] at pre
  have ka := cr.rk hF12 a8
  have kb := cr.rk hF12 b8
  have kc := cr.rk hF12 c8
  have zb := cr.at_ (SLP.reg lf b8)
  have zc := cr.at_ (SLP.reg lf c8)
  have sm := sp_sameAs kb kc (SLn.okk cr zb).1 (SLn.okk cr zc).1 (SLn.okk cr zb).2 (SLn.okk cr zc).2
  have iff := same_iff cr (cr.reg lf b8) (cr.reg lf c8)
  by_cases q : sameP σ (8 * F + b) (8 * F + c)
  · rw [if_pos (iff.mpr q)] at sm
    refine LKS.ac iv hF (by decide) (LKS.done (cr.num (V := 1) lf a8) ((SO.refl gb).reg hF12 a8) ?_ (fun k x => ?_))
    · rw [pre]
      simp only [x315_78_8, x315_222, x315_224, x315_226, x315_228, x315_231, x315_234, x315_235, x315_238, x315_239, x315_242, x315_243, ka, kb, sm, Option.bind_some, Option.toList_some, Option.toList_none, List.singleton_append, List.nil_append, i32_10, if_false, sp_number ka, List.cons_append]
    · have ss := sp_same x m0 ea eb ec hF12 a8 b8 c8
      rw [if_pos q] at ss
      simp only [x1150_0, x1150_1_8, x1150_173, x1150_174, x1150_177, hp_k_ms, x.k244, ss, Option.bind_some, Option.toList_some, Option.toList_none, List.singleton_append, List.nil_append]
  · rw [if_neg (fun z => q (iff.mp z))] at sm
    refine LKS.ac iv hF (by decide) (LKS.done (cr.num (V := 0) lf a8) ((SO.refl gb).reg hF12 a8) ?_ (fun k x => ?_))
    · rw [pre]
      simp only [x315_78_8, x315_222, x315_224, x315_226, x315_228, x315_231, x315_234, x315_235, x315_238, x315_239, x315_242, x315_243, ka, kb, sm, Option.bind_some, Option.toList_some, Option.toList_none, List.singleton_append, List.nil_append, if_true, sp_number ka, List.cons_append]
    · have ss := sp_same x m0 ea eb ec hF12 a8 b8 c8
      rw [if_neg q] at ss
      simp only [x1150_0, x1150_1_8, x1150_173, x1150_174, x1150_177, hp_k_ms, x.k244, ss, Option.bind_some, Option.toList_some, Option.toList_none, List.singleton_append, List.nil_append]
theorem act_18 (H : AH L h0 h σ A F r n 18) : ACM L h0 h σ A F 18 315 [.ref 5, .ref (106 + 11 * F), .retAddr 0, .retAddr 0, .retAddr 0, .retAddr 0, .retAddr 0, .retAddr 0, .retAddr 0] 1150 [.ref 244, .int 18, .retAddr 0] := by
  have okA := H.ok
  obtain ⟨a, ea, la⟩ := okA.2.1 (by decide)
  have a8 : a < 8 := by omega
  have na : σ 244 46 &&& 7 = nI a := by rw [ea]; exact and7_nI a8
  obtain ⟨b, eb, lb⟩ := okA.2.2.1 (by decide)
  have b8 : b < 8 := by omega
  have nb : σ 244 47 &&& 7 = nI b := by rw [eb]; exact and7_nI b8
  obtain ⟨c, ec, lc⟩ := okA.2.2.2.2.2.2.2.2.2.2.1 rfl
  obtain ⟨c7, nc, c8⟩ := and7 (σ 244 48)
  have pre := perf_pre H na a8 nb b8 nc c8
  obtain ⟨iv, hAP, hF, hF12, t1, hr, t3, hn, h40, ho, m0, m1, m2, m3⟩ := id H
  obtain ⟨⟨ca, ra, hs, sp, cr⟩, gc, gb, gf, hh, hA⟩ := id iv
  have X := cr.fx
  have gp := gc.2.2.2.2
  have f0 : ix (σ 244 29) = F + 1 := by rw [hF]; exact ix_nI (by omega)
  have lf : F < ix (σ 244 29) := by omega
  rw [eb, ec] at pre
  have ka := cr.rk hF12 a8
  have kb := cr.rk hF12 b8
  have z := cr.at_ (SLP.reg lf b8)
  have n6 := gb.cr
  have okx := z.2.2.2.2.x (by omega) (by omega)
  have io := cr.isOf kb z lc
  have d1 : inb (nI (8 * F + b)) 96 = true := inb_nI (by omega) (by omega)
  have d2 : ix (nI (8 * F + b)) = 8 * F + b := ix_nI (by omega)
  have im := fun k (x : FX L k) => sp_isOfM (σ := σ) (w := nI c) x okx
  rcases isOf_01 (thK σ (σ 269 (8 * F + b)) (σ 270 (8 * F + b))) (nI c) with q | q
  · rw [q] at io
    refine LKS.ac iv hF (by decide) (LKS.done (cr.num (V := 0) lf a8) ((SO.refl gb).reg hF12 a8) ?_ (fun k x => ?_))
    · rw [pre]
      simp only [x315_78_18, x315_337, x315_339, x315_341, x315_343, x315_346, x315_349, x315_350, x315_353, x315_354, x315_357, x315_358, ka, kb, io, Option.bind_some, Option.toList_some, Option.toList_none, List.singleton_append, List.nil_append, if_true, sp_number ka, List.cons_append]
    · have i2 := im k x
      rw [q] at i2
      simp only [x1150_0, x1150_1_18, x1150_227, x1150_228, x1150_229, x1150_230, x1150_231, x1150_234, x1150_235, x1150_238, x1150_239, x1150_242, x1150_243, x1150_244, x1150_245, x1150_248, x1150_249, x1150_252, x1150_253, x1150_256, x1150_257, x1150_258, x1150_259, x1150_262, x1150_265, x1150_268, x1150_269, x1150_272, x1150_273, x1150_276, x1150_277, hp_k_ms, hp_a_ms, hp_l_ms, x.k244, x.a244_33, x.k269, x.l269, x.a244_34, x.k270, x.l270, ms_r (show 244 ≤ 244 ∧ 244 < 276 by omega), ms_r (show 244 ≤ 269 ∧ 269 < 276 by omega), ms_r (show 244 ≤ 270 ∧ 270 < 276 by omega), m0, eb, ec, nI_add, d1, d2, i2, Option.bind_some, Option.toList_some, Option.toList_none, List.singleton_append, List.nil_append, if_true, sp_makes x m0 ea hF12 a8, List.cons_append]
  · rw [q] at io
    refine LKS.ac iv hF (by decide) (LKS.done (cr.num (V := 1) lf a8) ((SO.refl gb).reg hF12 a8) ?_ (fun k x => ?_))
    · rw [pre]
      simp only [x315_78_18, x315_337, x315_339, x315_341, x315_343, x315_346, x315_349, x315_350, x315_353, x315_354, x315_357, x315_358, ka, kb, io, Option.bind_some, Option.toList_some, Option.toList_none, List.singleton_append, List.nil_append, i32_10, if_false, sp_number ka, List.cons_append]
    · have i2 := im k x
      rw [q] at i2
      simp only [x1150_0, x1150_1_18, x1150_227, x1150_228, x1150_229, x1150_230, x1150_231, x1150_234, x1150_235, x1150_238, x1150_239, x1150_242, x1150_243, x1150_244, x1150_245, x1150_248, x1150_249, x1150_252, x1150_253, x1150_256, x1150_257, x1150_258, x1150_259, x1150_262, x1150_265, x1150_268, x1150_269, x1150_272, x1150_273, x1150_276, x1150_277, hp_k_ms, hp_a_ms, hp_l_ms, x.k244, x.a244_33, x.k269, x.l269, x.a244_34, x.k270, x.l270, ms_r (show 244 ≤ 244 ∧ 244 < 276 by omega), ms_r (show 244 ≤ 269 ∧ 269 < 276 by omega), ms_r (show 244 ≤ 270 ∧ 270 < 276 by omega), m0, eb, ec, nI_add, d1, d2, i2, Option.bind_some, Option.toList_some, Option.toList_none, List.singleton_append, List.nil_append, i32_10, if_false, sp_makes x m0 ea hF12 a8, List.cons_append]
theorem act_19 (H : AH L h0 h σ A F r n 19) : ACM L h0 h σ A F 19 315 [.ref 5, .ref (106 + 11 * F), .retAddr 0, .retAddr 0, .retAddr 0, .retAddr 0, .retAddr 0, .retAddr 0, .retAddr 0] 1150 [.ref 244, .int 19, .retAddr 0] := by
  have okA := H.ok
  obtain ⟨a, ea, la⟩ := okA.2.1 (by decide)
  have a8 : a < 8 := by omega
  have na : σ 244 46 &&& 7 = nI a := by rw [ea]; exact and7_nI a8
  obtain ⟨b, eb, lb⟩ := okA.2.2.2.2.2.2.2.2.2.2.2 rfl
  obtain ⟨b7, nb, b8⟩ := and7 (σ 244 47)
  obtain ⟨c7, nc, c8⟩ := and7 (σ 244 48)
  have pre := perf_pre H na a8 nb b8 nc c8
  obtain ⟨iv, hAP, hF, hF12, t1, hr, t3, hn, h40, ho, m0, m1, m2, m3⟩ := id H
  obtain ⟨⟨ca, ra, hs, sp, cr⟩, gc, gb, gf, hh, hA⟩ := id iv
  have X := cr.fx
  have gp := gc.2.2.2.2
  have f0 : ix (σ 244 29) = F + 1 := by rw [hF]; exact ix_nI (by omega)
  have lf : F < ix (σ 244 29) := by omega
  rw [eb] at pre
  have ka := cr.rk hF12 a8
  have z := cr.at_ (SLP.reg lf a8)
  have ta := cr.reg lf a8
  have n6 := gb.cr
  have okx := z.2.2.2.2.x (by omega) (by omega)
  have io := cr.isOf ka z lb
  have d1 : inb (nI (8 * F + a)) 96 = true := inb_nI (by omega) (by omega)
  have d2 : ix (nI (8 * F + a)) = 8 * F + a := ix_nI (by omega)
  have im := fun k (x : FX L k) => sp_isOfM (σ := σ) (w := nI b) x okx
  have nth := sp_isNothing (h := h) ka
  by_cases q0 : σ 269 (8 * F + a) = 0
  · have k5 : hp_i h (109 + 11 * F + a) 0 = -5 := by
      have := z.1
      rw [q0] at this
      exact this
    rw [if_pos k5] at nth
    refine LKS.ac iv hF (by decide) (LKS.done cr (SO.refl gb) ?_ (fun k x => ?_))
    · rw [pre]
      simp only [x315_78_19, x315_359, x315_361, x315_364, x315_367, x315_369, x315_371, x315_374, x315_377, x315_378, x315_381, x315_382, ka, nth, Option.bind_some, Option.toList_some, Option.toList_none, List.singleton_append, List.nil_append, i32_10, if_false]
    · simp only [x1150_0, x1150_1_19, x1150_278, x1150_279, x1150_282, x1150_283, x1150_286, x1150_287, x1150_290, x1150_291, x1150_292, x1150_295, x1150_296, x1150_297, x1150_300, x1150_301, x1150_304, x1150_305, x1150_308, x1150_309, x1150_310, x1150_311, x1150_314, x1150_315, x1150_318, x1150_319, x1150_322, x1150_323, x1150_324, x1150_325, x1150_328, x1150_331, x1150_334, x1150_335, x1150_338, x1150_339, hp_k_ms, hp_a_ms, hp_l_ms, x.k244, x.a244_33, x.k269, x.l269, ms_r (show 244 ≤ 244 ∧ 244 < 276 by omega), ms_r (show 244 ≤ 269 ∧ 269 < 276 by omega), m0, ea, nI_add, d1, d2, q0, if_true]
  · have k5 : ¬ hp_i h (109 + 11 * F + a) 0 = -5 := by
      rcases ta with ⟨tk, _⟩ | ⟨tk, t1', _⟩ | ⟨n', s, tk, tv, t0, ts, ts3, t1', _⟩ | ⟨n', l, tk, tv, t0, ts, ts3, t1', _⟩
      · exact absurd tk q0
      · rw [t1']; decide
      · rw [t1']; exact nI_n5 (by omega)
      · rw [t1']; exact nI_n5 (by omega)
    rw [if_neg k5] at nth
    rcases isOf_01 (thK σ (σ 269 (8 * F + a)) (σ 270 (8 * F + a))) (nI b) with q | q
    · rw [q] at io
      refine LKS.ac iv hF (by decide) (LKS.kind 3 (by omega) (by omega) cr gb ?_ (fun k x => ?_))
      · rw [pre]
        simp only [x315_78_19, x315_359, x315_361, x315_364, x315_367, x315_369, x315_371, x315_374, x315_377, x315_378, x315_381, x315_382, ka, nth, io, Option.bind_some, Option.toList_some, Option.toList_none, List.singleton_append, List.nil_append, if_true, if_true]
        rfl
      · have i2 := im k x
        rw [q] at i2
        simp only [x1150_0, x1150_1_19, x1150_278, x1150_279, x1150_282, x1150_283, x1150_286, x1150_287, x1150_290, x1150_291, x1150_292, x1150_295, x1150_296, x1150_297, x1150_300, x1150_301, x1150_304, x1150_305, x1150_308, x1150_309, x1150_310, x1150_311, x1150_314, x1150_315, x1150_318, x1150_319, x1150_322, x1150_323, x1150_324, x1150_325, x1150_328, x1150_331, x1150_334, x1150_335, x1150_338, x1150_339, hp_k_ms, hp_a_ms, hp_l_ms, x.k244, x.a244_33, x.k269, x.l269, x.a244_34, x.k270, x.l270, ms_r (show 244 ≤ 244 ∧ 244 < 276 by omega), ms_r (show 244 ≤ 269 ∧ 269 < 276 by omega), ms_r (show 244 ≤ 270 ∧ 270 < 276 by omega), m0, ea, eb, nI_add, d1, d2, q0, if_false, i2, Option.bind_some, Option.toList_some, Option.toList_none, List.singleton_append, List.nil_append, if_true]
        rfl
    · rw [q] at io
      refine LKS.ac iv hF (by decide) (LKS.done cr (SO.refl gb) ?_ (fun k x => ?_))
      · rw [pre]
        simp only [x315_78_19, x315_359, x315_361, x315_364, x315_367, x315_369, x315_371, x315_374, x315_377, x315_378, x315_381, x315_382, ka, nth, io, Option.bind_some, Option.toList_some, Option.toList_none, List.singleton_append, List.nil_append, if_true, i32_10, if_false]
      · have i2 := im k x
        rw [q] at i2
        simp only [x1150_0, x1150_1_19, x1150_278, x1150_279, x1150_282, x1150_283, x1150_286, x1150_287, x1150_290, x1150_291, x1150_292, x1150_295, x1150_296, x1150_297, x1150_300, x1150_301, x1150_304, x1150_305, x1150_308, x1150_309, x1150_310, x1150_311, x1150_314, x1150_315, x1150_318, x1150_319, x1150_322, x1150_323, x1150_324, x1150_325, x1150_328, x1150_331, x1150_334, x1150_335, x1150_338, x1150_339, hp_k_ms, hp_a_ms, hp_l_ms, x.k244, x.a244_33, x.k269, x.l269, x.a244_34, x.k270, x.l270, ms_r (show 244 ≤ 244 ∧ 244 < 276 by omega), ms_r (show 244 ≤ 269 ∧ 269 < 276 by omega), ms_r (show 244 ≤ 270 ∧ 270 < 276 by omega), m0, ea, eb, nI_add, d1, d2, q0, if_false, i2, Option.bind_some, Option.toList_some, Option.toList_none, List.singleton_append, List.nil_append, i32_10, if_false]
theorem act_all (H : AH L h0 h σ A F r n o) (h24 : ¬ o = 24) : ACM L h0 h σ A F o 315 [.ref 5, .ref (106 + 11 * F), .retAddr 0, .retAddr 0, .retAddr 0, .retAddr 0, .retAddr 0, .retAddr 0, .retAddr 0] 1150 [.ref 244, .int o, .retAddr 0] := by
  obtain ⟨m, rfl, hm⟩ := H.ok.1
  match m, hm with
  | 0, _ => exact act_0 H
  | 1, _ => exact act_1 H
  | 2, _ => exact act_2 H
  | 3, _ => exact act_3 H
  | 4, _ => exact act_4 H
  | 5, _ => exact act_5 H
  | 6, _ => exact act_6 H
  | 7, _ => exact act_7 H
  | 8, _ => exact act_8 H
  | 9, _ => exact act_9 H
  | 10, _ => exact act_10 H
  | 11, _ => exact act_11 H
  | 12, _ => exact act_12 H
  | 13, _ => exact act_13 H
  | 14, _ => exact act_14 H
  | 15, _ => exact act_15 H
  | 16, _ => exact act_16 H
  | 17, _ => exact act_17 H
  | 18, _ => exact act_18 H
  | 19, _ => exact act_19 H
  | 20, _ => exact act_20 H
  | 21, _ => exact act_21 H
  | 22, _ => exact act_22 H
  | 23, _ => exact act_23 H
  | 24, _ => exact absurd rfl h24
  | 25, _ => exact act_25 H
  | 26, _ => exact act_26 H
  | 27, _ => exact act_27 H
  | m + 28, hm => exact absurd hm (by omega)
end
