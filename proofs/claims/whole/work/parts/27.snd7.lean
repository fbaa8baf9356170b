/-! SOUNDNESS 7: the theorem -/
/-- what okm says, piece by piece -/
theorem okm_1 {t : Nat} (h : okm t = true) : mcl t < 13 ∧ (match mkd t == 1 with
    | true => Cond.static (my t)
    | false => Cond.instanceMethod (my t)) ∈ lw_tbl ∧ (mkd t = 0 → Cond.selects (cname (mcl t)) (my t) (my t) ∈ lw_tbl) ∧ (my t).cls = cname (mcl t) ∧ ((my t).cls ≠ "java/lang/invoke/MethodHandle" ∧ (my t).cls ≠ "java/lang/invoke/VarHandle") ∧ plainName (my t).cls = true := by
  simp only [okm, Bool.and_eq_true, decide_eq_true_eq] at h
  obtain ⟨⟨⟨⟨⟨⟨⟨⟨⟨⟨⟨⟨a1, a2⟩, a3⟩, a4⟩, a5⟩, a6⟩, a7⟩, a8⟩, a9⟩, a10⟩, a11⟩, a12⟩, a13⟩ := h
  refine ⟨a1, at_mem a2, fun h0 => ?_, a4, ⟨a5, a6⟩, a7⟩
  simp only [h0, beq_self_eq_true, Bool.not_true, Bool.false_or] at a3
  exact at_mem a3
theorem okm_2 {t : Nat} (h : okm t = true) : (parseMethodDescriptor (my t).desc).map (fun d => d.parameters.length + (match mkd t == 1 with
    | true => 0
    | false => 1)) = some (mnp t) ∧ (mkd t = 2 → (my t).name = "<init>" ∧ mret t = none) ∧ mkd t ≤ 2 ∧ 1 ≤ mrf t ∧ 40 ≤ mrl t := by
  simp only [okm, Bool.and_eq_true, decide_eq_true_eq] at h
  obtain ⟨⟨⟨⟨⟨⟨⟨⟨⟨⟨⟨⟨a1, a2⟩, a3⟩, a4⟩, a5⟩, a6⟩, a7⟩, a8⟩, a9⟩, a10⟩, a11⟩, a12⟩, a13⟩ := h
  refine ⟨a8, fun h0 => ?_, a10, a11, a12⟩
  simp only [h0, beq_self_eq_true, Bool.not_true, Bool.false_or, Bool.and_eq_true, decide_eq_true_eq] at a9
  exact a9
theorem map_toList (G : SG) (r : Option Value) (S : List Value) : (r.map (vv G)).toList ++ S.map (vv G) = (r.toList ++ S).map (vv G) := by cases r <;> rfl
theorem rets_some {m : Nat} {i : Instr} {len : Nat} {S : List Value} {r : Option Value} (h : rets m i len S = some r) : len = 1 ∧ ((i = .return_ ∧ S = [] ∧ r = none ∧ mret m = none) ∨ (∃ x, i = .ireturn ∧ S = [.int x] ∧ r = some (.int x) ∧ (mret m = some .int ∨ (mret m = some .boolean ∧ (x = 0 ∨ x = 1)))) ∨ ∃ a, i = .areturn ∧ S = [.ref a] ∧ r = some (.ref a) ∧ mrra m = true) := by
  unfold rets at h
  split at h
  · obtain ⟨q, h⟩ := gd_some h
    simp only [Bool.and_eq_true, beq_iff_eq] at q
    cases h
    exact ⟨q.1, Or.inl ⟨rfl, rfl, rfl, q.2⟩⟩
  · obtain ⟨q, h⟩ := gd_some h
    simp only [Bool.and_eq_true, Bool.or_eq_true, beq_iff_eq] at q
    cases h
    exact ⟨q.1, Or.inr (Or.inl ⟨_, rfl, rfl, rfl, q.2⟩)⟩
  · obtain ⟨q, h⟩ := gd_some h
    simp only [Bool.and_eq_true, beq_iff_eq] at q
    cases h
    exact ⟨q.1, Or.inr (Or.inr ⟨_, rfl, rfl, rfl, q.2⟩)⟩
  · cases h
def SndW (G : SG) (k : Nat) : Prop := ∀ (mm pc : Nat) (L S : List Value) (h : HP) (r : Option Value) (h' : HP), prun k mm pc L S h = some (r, h') → ∀ {p : Program} {l : Launch} {e : Env} {R : Room} {s : State} {m : MethodId} {args : Array Value} {below : List Frame} {meth : Method} {c : Code} {H : Heap} {locs : List Loc} {cells slots : Nat} {Q : State → Prop} {ls : Array Slot},
  CX G p R s m args meth c mm → mrf mm ≤ R.frames → mrl mm ≤ R.locals → HR G h H → va_S (AX G) s.heap H locs → LH G mm L ls → cells + (hp_n h' - hp_n h) ≤ R.cells → slots + (hp_s h' - hp_s h) ≤ R.slots →
  (∀ (pc1 : Nat) (i : Instr) (S1 : List Value) (ls1 : Array Slot) (H1 : Heap) (locs1 : List Loc), decode (mb mm) pc1 = .ok (i, 1) → rets mm i 1 S1 = some r → HR G h' H1 → va_S (AX G) s.heap H1 locs1 → W p l e R s m args below meth c H1 locs1 (cells + (hp_n h' - hp_n h)) (slots + (hp_s h' - hp_s h)) Q (F0 m pc1 ls1 (S1.map (vv G)))) →
  W p l e R s m args below meth c H locs cells slots Q (F0 m pc ls (S.map (vv G)))
set_option maxHeartbeats 4000000 in
/-- a method's contract out of its pure run -/
theorem snd_met (G : SG) {k : Nat} (ih : SndW G k) (l : Launch) {m' : Nat} {as : List Value} {h h1 : HP} {r : Option Value} (hok : okm m' = true) (hlen : as.length = mnp m') (hc : mlong m' = true ∨ ∀ v ∈ as, v.category = 1) (hr : rcv m' as (hp_k h) = true) (e : prun k m' 0 (locs0 m' as) [] h = some (r, h1)) :
    Met l (my m') (WS m') { frames := mrf m', cells := hp_n h1 - hp_n h, slots := hp_s h1 - hp_s h, locals := mrl m' } (PcG G as h) (QcG G r h1) (hp_n h1 - hp_n h) (hp_s h1 - hp_s h) (AX G) := by
  obtain ⟨o1, o2, o3, o4, o5, o6⟩ := okm_1 hok
  obtain ⟨o7, o8, o9, o10, o11⟩ := okm_2 hok
  refine Met.ofW (cc := mb m') (maxL := mxl m') (ret := mret m') o6 rfl ?_
  intro p e0 s m args below meth c s₁ B hml hv
  obtain ⟨rfl, hR, hST, hsz⟩ := hv
  have hx := B.exec
  have hb := B.bytes
  have hrt := B.returns
  have hts := atoms_spec (ws := WS m') B.pre
  have hown : s.vm.findClass (my m').cls = some m.cls := findClass_of_methodNamed B.named
  have hlocks := B.notSynchronized
  have hname : meth.name = (my m').name := (name_of_methodNamed B.named B.method).1
  rw [o4] at hown
  obtain ⟨hlh1, hLH⟩ := LH_entry G hok hlen hc hr
  rw [lg_entry_eq]
  refine ih m' 0 (locs0 m' as) [] h r h1 e ⟨hx, hb, hml, hown, fun w hw => hts w (List.mem_cons_of_mem _ hw), fun hm => ?_, o1, o10, Nat.le_trans (by decide) o11, hsz, hST⟩ (Nat.le_refl _) (Nat.le_refl _) hR va_S.rf hLH (by show 0 + _ ≤ hp_n h1 - hp_n h; omega) (by show 0 + _ ≤ hp_s h1 - hp_s h; omega) ?_
  · rw [hname]
    exact (o8 (by simpa [mini] using hm)).1
  · intro pc1 i S1 ls1 H1 locs1 hd hrs hR1 hS1
    refine W.cs (Nat.zero_add _) (Nat.zero_add _) ?_
    have hq : ∀ t : State, t.heap = H1 → s.WarmedH t.vm → QcG G r h1 (as.map (vv G)).toArray s (.returned (r.map (vv G))) t := fun t ht _ => ⟨rfl, by rw [ht]; exact hR1, hS1.F ht⟩
    obtain ⟨-, ⟨rfl, rfl, rfl, q⟩ | ⟨x, rfl, rfl, rfl, q⟩ | ⟨a, rfl, rfl, rfl, q⟩⟩ := rets_some hrs
    · exact W.vret hx hb (hrt.trans q) hq hS1.2.2 hd
    · rcases q with q | ⟨q, q2⟩
      · exact W.iret hx hb (hrt.trans q) hq hS1.2.2 hd
      · exact W.zret (ty := .boolean) hx hb (hrt.trans q) (by rcases q2 with rfl | rfl <;> rfl) hq hS1.2.2 hd
    · have q3 : ∃ rt, mret m' = some rt ∧ ((∃ n, rt = .object n) ∨ ∃ t, rt = .array t) := by
        unfold mrra at q
        split at q
        · rename_i n hn
          exact ⟨_, hn, Or.inl ⟨_, rfl⟩⟩
        · rename_i n hn
          exact ⟨_, hn, Or.inr ⟨_, rfl⟩⟩
        · cases q
      obtain ⟨rt, q4, q5⟩ := q3
      exact W.aret hx hb (hrt.trans q4) q5 (v := va_rf (rfo G a)) (by cases rfo G a <;> simp [va_rf]) hq hS1.2.2 hd
set_option maxHeartbeats 4000000 in
theorem snd_all (G : SG) : ∀ k, SndW G k := by
  intro k
  induction k with
  | zero => intro mm pc L S h r h' e; cases e
  | succ k ih =>
    intro mm pc L S h r h' hrun p l e R s m args below meth c H locs cells slots Q ls C hF hLo hR hS hl hcells hslots KR
    have hmono := prun_mono _ _ _ _ _ _ _ _ hrun
    rw [prun] at hrun
    cases hd : decode (mb mm) pc with
    | error x => rw [hd] at hrun; cases hrun
    | ok q =>
      obtain ⟨i, len⟩ := q
      rw [hd] at hrun
      simp only at hrun
      cases hr : rets mm i len S with
      | some r0 =>
        rw [hr] at hrun
        cases hrun
        obtain ⟨rfl, -⟩ := rets_some hr
        have := KR pc i S ls H locs hd hr hR hS
        simpa only [Nat.sub_self, Nat.add_zero] using this
      | none =>
        rw [hr] at hrun
        simp only at hrun
        cases hc : call mm i len S h with
        | none =>
          rw [hc] at hrun
          simp only at hrun
          cases hs : stp mm pc i len L S h with
          | none => rw [hs] at hrun; cases hrun
          | some q1 =>
            obtain ⟨pc', L', S', h1⟩ := q1
            rw [hs] at hrun
            simp only at hrun
            have m1 := stp_mono mm pc i len L S h _ _ _ _ hs
            have m2 := prun_mono _ _ _ _ _ _ _ _ hrun
            have go : ∀ (H' : Heap) (locs' : List Loc) (ls' : Array Slot), HR G h1 H' → va_S (AX G) s.heap H' locs' → LH G mm L' ls' → W p l e R s m args below meth c H' locs' (cells + (hp_n h1 - hp_n h)) (slots + (hp_s h1 - hp_s h)) Q (F0 m pc' ls' (S'.map (vv G))) := by
              intro H' locs' ls' a1 a2 a3
              refine ih mm pc' L' S' h1 r h' hrun C hF hLo a1 a2 a3 (by omega) (by omega) (fun pc1 i1 S1 ls1 H1 locs1 b1 b2 b3 b4 => ?_)
              exact W.cs (by omega) (by omega) (KR pc1 i1 S1 ls1 H1 locs1 b1 b2 b3 b4)
            cases hh : heapI i with
            | false =>
              refine snd_same C hd hs hl hh (fun he ls' hl' => ?_)
              subst he
              have := go H locs ls' hR hS hl'
              simpa only [Nat.sub_self, Nat.add_zero] using this
            | true =>
              refine snd_heap C hd hs hR hS hl hh (by omega) (by omega) (fun hL H' locs' a1 a2 => ?_)
              subst hL
              exact go H' locs' ls a1 a2 hl
        | some q1 =>
          obtain ⟨m', as, S'⟩ := q1
          rw [hc] at hrun
          simp only at hrun
          cases h1 : prun k m' 0 (locs0 m' as) [] h with
          | none => rw [h1] at hrun; cases hrun
          | some q2 =>
            obtain ⟨r1, h2⟩ := q2
            rw [h1] at hrun
            simp only at hrun
            obtain ⟨idx, nest, rfl, hf, hk, hlt, c1, c2, c3, c4, c5, c6, rfl, c7⟩ := call_some hc
            have m1 := prun_mono _ _ _ _ _ _ _ _ h1
            have m2 := prun_mono _ _ _ _ _ _ _ _ hrun
            obtain ⟨hx, hb, hml, hown, hts, hin, hcl, hfr, hlo, hsz, hST⟩ := id C
            obtain ⟨w1, w2⟩ := lkM_ok hcl hf
            have w3 : okm m' = true := (w2 hlt).1
            have w4 : Cond.code (my m') (mb m') (mxl m') (mret m') ∈ lw_tbl := (w2 hlt).2
            have hyo : yOf m' = my m' := by
              unfold yOf
              split <;> first | rfl | (exact absurd hlt (by decide))
            have hM := snd_met G ih l w3 c7 c5 c6 h1
            obtain ⟨o1, o2, o3, o4, o5, o6⟩ := okm_1 w3
            obtain ⟨o7, o8, o9, o10, o11⟩ := okm_2 w3
            have hpay : ∀ w ∈ WS m', ∀ (a' : Array Value) (U : State), s.WarmedH U.vm → w.before a' U = true := by
              refine pay_in (big := GW) hts (fun w hw => ?_)
              rcases List.mem_cons.mp hw with rfl | hw
              · exact ⟨gw w4 rfl, Or.inl rfl⟩
              · exact ⟨hw, good_of_word (List.mem_filter.mp hw).2⟩
            have hini : (Cond.initialized (my m').cls).before args s = true := by rw [o4]; exact hts _ (w_init o1)
            have hcode : (Cond.code (my m') (mb m') (mxl m') (mret m')).before args s = true := hts _ (gw w4 rfl)
            have hcs : (List.map (fun v => v.category) (List.map (vv G) S')).sum ≤ 8 := by
              rw [List.map_map]
              have : (fun v : Value => v.category) ∘ vv G = Value.category := funext fun v => vv_cat G v
              rw [this]
              exact c4
            have hpre : ∀ U : State, U.heap = H → s.WarmedH U.vm → PcG G as h (as.map (vv G)).toArray U := by
              intro U hU hW
              refine ⟨rfl, by rw [hU]; exact hR, hST.warm hW hsz (fun q g1 g2 => by rw [hU]; exact hS.2.1 q g1 g2), ?_⟩
              rw [hU]
              exact Nat.le_trans hsz hS.1
            have fin : ∀ (a : Array Value), va_Run p l e R s m args below meth c H locs cells slots (hp_n h2 - hp_n h) (hp_s h2 - hp_s h) (F0 m pc ls (List.map (vv G) (as.reverse ++ S'))) (List.map (vv G) S') (QcG G r1 h2 a) (AX G) → W p l e R s m args below meth c H locs cells slots Q (F0 m pc ls (List.map (vv G) (as.reverse ++ S'))) := by
              intro a hR2
              refine run_go hR2 hS (fun H1 locs1 a1 a2 => ?_)
              rw [map_toList]
              refine ih mm (pc + 3) L (r1.toList ++ S') h2 r h' hrun C hF hLo a1 a2 hl (by omega) (by omega) (fun pc1 i1 S1 ls1 H1 locs1 b1 b2 b3 b4 => ?_)
              exact W.cs (by omega) (by omega) (KR pc1 i1 S1 ls1 H1 locs1 b1 b2 b3 b4)
            have hB : (hp_n h2 - hp_n h : Nat) = hp_n h2 - hp_n h ∧ (hp_s h2 - hp_s h : Nat) = hp_s h2 - hp_s h ∧ mrf m' + 1 ≤ R.frames ∧ 8 + (mxl m' + 11) + mrl m' ≤ R.locals := ⟨rfl, rfl, by omega, by omega⟩
            have hW8 : 2 * (F0 m pc ls (List.map (vv G) (as.reverse ++ S'))).monitorRoom + ((List.map (vv G) S').map fun v => v.category).sum ≤ 8 := lv_room hcs
            have hroom : cells + (hp_n h2 - hp_n h) ≤ R.cells ∧ slots + (hp_s h2 - hp_s h) ≤ R.slots := ⟨by omega, by omega⟩
            have hdesc : ∀ n, (mkd m' = 1 → n = mnp m') → (¬ mkd m' = 1 → n + 1 = mnp m') → ∀ sig, parseMethodDescriptor (my m').desc = some sig → n = sig.parameters.length := by
              intro n n1 n2 sig hsig
              rw [hsig] at o7
              have o7 := Option.some.inj o7
              by_cases hk1 : mkd m' = 1
              · simp only [hk1, beq_self_eq_true] at o7
                have := n1 hk1
                omega
              · have hk2 : (mkd m' == 1) = false := by simpa using hk1
                simp only [hk2] at o7
                have := n2 hk1
                omega
            have hrecv : ¬ mkd m' = 1 → ∃ (a : Nat) (as' : List Value), as = .ref a :: as' ∧ hp_k h a = mcl m' + 1 := by
              intro hk1
              have hk2 : (mkd m' == 1) = false := by simpa using hk1
              unfold rcv at c6
              rw [hk2] at c6
              simp only at c6
              split at c6
              · exact ⟨_, _, rfl, by simpa using c6⟩
              · cases c6
            have hk3 : mkd m' = 0 ∨ mkd m' = 1 ∨ mkd m' = 2 := by omega
            rcases hk3 with hk3 | hk3 | hk3
            · -- an instance method
              obtain ⟨a, as', rfl, ha⟩ := hrecv (by omega)
              have hi : i = .invokevirtual idx := by
                rw [hk3] at hk
                unfold kcl at hk
                split at hk <;> first | (cases hk; done) | (simp only [Option.some.injEq, Prod.mk.injEq] at hk; first | (exfalso; omega) | (rw [hk.2]))
              subst hi
              have ha0 : ¬ a = 0 := fun z => Nat.succ_ne_zero (mcl m') (by show mcl m' + 1 = 0; rw [← ha, z]; exact hR.1.2.2.2.1)
              have hci : mcl m' < 12 := by
                have h3 := hR.1.tag ha (by omega) (by omega)
                have := hR.1.2.1 a h3.1 h3.2
                rw [ha] at this
                simp only [okt, Bool.or_eq_true, Bool.and_eq_true, decide_eq_true_eq, beq_iff_eq] at this
                rcases this with (q | q) | q
                · omega
                · omega
                · omega
              have hinst : (Cond.instanceMethod (my m')).before args s = true := by
                have hk2 : (mkd m' == 1) = false := by rw [hk3]; rfl
                simp only [hk2] at o2
                exact hts _ (gw o2 rfl)
              have hsel : (Cond.selects (cname (mcl m')) (my m') (my m')).before args s = true := hts _ (gw (o3 hk3) rfl)
              have hst : (F0 m pc ls (List.map (vv G) ((Value.ref a :: as').reverse ++ S'))).stack = (as'.map (vv G)).reverse ++ .ref (adr G a) :: List.map (vv G) S' := by
                show List.map (vv G) ((Value.ref a :: as').reverse ++ S') = _
                rw [List.reverse_cons, List.append_assoc, List.map_append, ← List.map_reverse]
                show _ ++ (vv G (.ref a) :: List.map (vv G) S') = _
                rw [vv_ref G ha0]
              have hav : (List.map (vv G) (Value.ref a :: as')).toArray = (Value.ref (adr G a) :: as'.map (vv G)).toArray := by
                show (vv G (.ref a) :: List.map (vv G) as').toArray = _
                rw [vv_ref G ha0]
              rw [hav] at hpre
              have hrv : ∃ cellB : Cell, H[adr G a]? = some cellB ∧ cellB.vm.isStatics = false ∧ s.vm.findClass (cname (mcl m')) = some cellB.cls := va_recv hST.1 hR.2.1 (cls_at hci) (obj_at hR.1 ha hci)
              have hn : (as'.map (vv G)).length = mnp m' - 1 := by rw [List.length_map]; simp only [List.length_cons] at c7; omega
              have hd2 := hdesc (mnp m' - 1) (fun z => by omega) (fun _ => by simp only [List.length_cons] at c7; omega)
              cases nest with
              | false =>
                have hlink : (Cond.methodLink (cname (mcl mm)) idx (my m')).before args s = true := by
                  have : Cond.methodLink (cname (mcl mm)) idx (yOf m') ∈ lw_tbl := w1
                  rw [hyo] at this
                  exact hts _ (gw this rfl)
                exact fin _ (va_runV (Ts := GW) (own := cname (mcl mm)) (C := cname (mcl m')) ⟨hx, hb, hml, hown, hts⟩ hM ⟨⟨rfl, rfl, hB.2.2.1, hB.2.2.2, hpay, List.mem_cons_self, hcode, hini, o5, hd2, hlink⟩, hinst, hsel⟩ ⟨PcG.blind G _ h, hrv, hpre⟩ rfl hn hl.1 hst hW8 hd hroom)
              | true =>
                have hlink : (Cond.methodLinkNest (cname (mcl mm)) idx (my m') "MarkedSteps").before args s = true := by
                  have : Cond.methodLinkNest (cname (mcl mm)) idx (yOf m') "MarkedSteps" ∈ lw_tbl := w1
                  rw [hyo] at this
                  exact va_Nw.use rfl (hST.2.1 _ this rfl)
                exact fin _ (va_runVN (Ts := GW) (own := cname (mcl mm)) (C := cname (mcl m')) ⟨hx, hb, hml, hown, hts⟩ hM ⟨⟨⟨rfl, rfl, hB.2.2.1, hB.2.2.2, hpay, List.mem_cons_self⟩, hcode, hini, o5, hd2, hlink⟩, hinst, hsel⟩ ⟨PcG.blind G _ h, hrv, hpre⟩ rfl hn hl.1 hst hW8 hd hroom)
            · -- a static method
              have hi : i = .invokestatic idx := by
                rw [hk3] at hk
                unfold kcl at hk
                split at hk <;> first | (cases hk; done) | (simp only [Option.some.injEq, Prod.mk.injEq] at hk; first | (exfalso; omega) | (rw [hk.2]))
              subst hi
              have hstat : (Cond.static (my m')).before args s = true := by
                have hk2 : (mkd m' == 1) = true := by rw [hk3]; rfl
                simp only [hk2] at o2
                exact hts _ (gw o2 rfl)
              have hst : (F0 m pc ls (List.map (vv G) (as.reverse ++ S'))).stack = (as.map (vv G)).reverse ++ List.map (vv G) S' := by
                show List.map (vv G) (as.reverse ++ S') = _
                rw [List.map_append, ← List.map_reverse]
              have hn : (as.map (vv G)).length = mnp m' := by rw [List.length_map]; exact c7
              have hd2 := hdesc (mnp m') (fun _ => rfl) (fun z => absurd hk3 z)
              cases nest with
              | false =>
                have hlink : (Cond.methodLink (cname (mcl mm)) idx (my m')).before args s = true := by
                  have : Cond.methodLink (cname (mcl mm)) idx (yOf m') ∈ lw_tbl := w1
                  rw [hyo] at this
                  exact hts _ (gw this rfl)
                exact fin _ (va_runS (Ts := GW) (own := cname (mcl mm)) ⟨hx, hb, hml, hown, hts⟩ hM ⟨⟨rfl, rfl, hB.2.2.1, hB.2.2.2, hpay, List.mem_cons_self, hcode, hini, o5, hd2, hlink⟩, hstat⟩ ⟨PcG.blind G _ h, hpre⟩ rfl hn hl.1 hst hW8 hd hroom)
              | true =>
                have hlink : (Cond.methodLinkNest (cname (mcl mm)) idx (my m') "MarkedSteps").before args s = true := by
                  have : Cond.methodLinkNest (cname (mcl mm)) idx (yOf m') "MarkedSteps" ∈ lw_tbl := w1
                  rw [hyo] at this
                  exact va_Nw.use rfl (hST.2.1 _ this rfl)
                exact fin _ (va_runSN (Ts := GW) (own := cname (mcl mm)) ⟨hx, hb, hml, hown, hts⟩ hM ⟨⟨⟨rfl, rfl, hB.2.2.1, hB.2.2.2, hpay, List.mem_cons_self⟩, hcode, hini, o5, hd2, hlink⟩, hstat, trivial⟩ ⟨PcG.blind G _ h, hpre⟩ rfl hn hl.1 hst hW8 hd hroom)
            · -- a constructor
              obtain ⟨a, as', rfl, ha⟩ := hrecv (by omega)
              have hi : i = .invokespecial idx := by
                rw [hk3] at hk
                unfold kcl at hk
                split at hk <;> first | (cases hk; done) | (simp only [Option.some.injEq, Prod.mk.injEq] at hk; first | (exfalso; omega) | (rw [hk.2]))
              subst hi
              obtain ⟨o12, o13⟩ := o8 hk3
              have ha0 : ¬ a = 0 := fun z => Nat.succ_ne_zero (mcl m') (by show mcl m' + 1 = 0; rw [← ha, z]; exact hR.1.2.2.2.1)
              have hinst : (Cond.instanceMethod (my m')).before args s = true := by
                have hk2 : (mkd m' == 1) = false := by rw [hk3]; rfl
                simp only [hk2] at o2
                exact hts _ (gw o2 rfl)
              have hst : (F0 m pc ls (List.map (vv G) ((Value.ref a :: as').reverse ++ S'))).stack = (as'.map (vv G)).reverse ++ .ref (adr G a) :: List.map (vv G) S' := by
                show List.map (vv G) ((Value.ref a :: as').reverse ++ S') = _
                rw [List.reverse_cons, List.append_assoc, List.map_append, ← List.map_reverse]
                show _ ++ (vv G (.ref a) :: List.map (vv G) S') = _
                rw [vv_ref G ha0]
              have hav : (List.map (vv G) (Value.ref a :: as')).toArray = (Value.ref (adr G a) :: as'.map (vv G)).toArray := by
                show (vv G (.ref a) :: List.map (vv G) as').toArray = _
                rw [vv_ref G ha0]
              rw [hav] at hpre
              have hn : (as'.map (vv G)).length = mnp m' - 1 := by rw [List.length_map]; simp only [List.length_cons] at c7; omega
              have hd2 := hdesc (mnp m' - 1) (fun z => by omega) (fun _ => by simp only [List.length_cons] at c7; omega)
              rw [o13] at hcode
              have hmem : Cond.code (my m') (mb m') (mxl m') none ∈ WS m' := by rw [← o13]; exact List.mem_cons_self
              cases nest with
              | false =>
                have hlink : (Cond.methodLink (cname (mcl mm)) idx (my m')).before args s = true := by
                  have : Cond.methodLink (cname (mcl mm)) idx (yOf m') ∈ lw_tbl := w1
                  rw [hyo] at this
                  exact hts _ (gw this rfl)
                exact fin _ (va_runI (Ts := GW) (own := cname (mcl mm)) ⟨hx, hb, hml, hown, hts⟩ hM ⟨⟨rfl, rfl, hB.2.2.1, hB.2.2.2, hpay, hmem, hcode, hini, o5, hd2, hlink⟩, o12, hinst⟩ ⟨PcG.blind G _ h, hpre⟩ rfl hn hl.1 hst hW8 hd hroom)
              | true =>
                have hlink : (Cond.methodLinkNest (cname (mcl mm)) idx (my m') "MarkedSteps").before args s = true := by
                  have : Cond.methodLinkNest (cname (mcl mm)) idx (yOf m') "MarkedSteps" ∈ lw_tbl := w1
                  rw [hyo] at this
                  exact va_Nw.use rfl (hST.2.1 _ this rfl)
                exact fin _ (va_runIN (Ts := GW) (own := cname (mcl mm)) ⟨hx, hb, hml, hown, hts⟩ hM ⟨⟨⟨rfl, rfl, hB.2.2.1, hB.2.2.2, hpay, hmem⟩, hcode, hini, o5, hd2, hlink⟩, o12, hinst⟩ ⟨PcG.blind G _ h, hpre⟩ rfl hn hl.1 hst hW8 hd hroom)
