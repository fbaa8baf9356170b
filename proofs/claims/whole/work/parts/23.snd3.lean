/-! SOUNDNESS 3: one instruction -/
def AX (G : SG) : Nat → Prop := fun q => g_sz G ≤ q
/-- the arrays of before -/
def EX (G : SG) (s : State) : Prop := (∀ e, 1 ≤ e → e < 4 → va_T .int (g_xa G e) (g_xl G e) (fun j => .int (g_xi G e j)) (AX G) s s.heap) ∧ ∀ e, e = 2 ∨ e = 3 → va_Z "MarkedSteps" (xname e) "[I" (.ref (g_xa G e)) (AX G) s s.heap
def ST (G : SG) (s : State) : Prop := va_K (g_D G) cls (tys G) s ∧ NW s ∧ (∀ e ∈ tbO, va_AO (cname e.1) s) ∧ EX G s
def CX (G : SG) (p : Program) (R : Room) (s : State) (m : MethodId) (args : Array Value) (meth : Method) (c : Code) (mm : Nat) : Prop :=
  p.tables.exec = Jvm.exec ∧ c.code = mb mm ∧ c.maxLocals = mxl mm ∧ s.vm.findClass (cname (mcl mm)) = some m.cls ∧ (∀ w ∈ GW, w.before args s = true) ∧ (mini mm = true → meth.name = "<init>") ∧ mcl mm < 13 ∧ 1 ≤ R.frames ∧ 40 ≤ R.locals ∧ g_sz G ≤ s.heap.size ∧ ST G s
def HR (G : SG) (h : HP) (H : Heap) : Prop := WF G h ∧ va_P (g_D G) cls (wso G h) H ∧ H.size = g_sz G + (hp_n h - 4)
def vset (v : Value) : Bool := isI v || isA v || isJ v
def LH (G : SG) (mm : Nat) (L : List Value) (ls : Array Slot) : Prop := ls.size = mxl mm ∧ lv_wf ls ∧ L.length = mxl mm ∧ (∀ k, vset (lget L k) = true → ls[k]? = some (.val (vv G (lget L k)))) ∧ (mlong mm = false → ∀ k, isJ (lget L k) = false)
theorem isI_ex {v : Value} (h : isI v = true) : ∃ x, v = .int x := by
  cases v <;> first | exact ⟨_, rfl⟩ | cases h
theorem isJ_ex {v : Value} (h : isJ v = true) : ∃ x, v = .long x := by
  cases v <;> first | exact ⟨_, rfl⟩ | cases h
theorem isA_ex {v : Value} (h : isA v = true) : ∃ x, v = .ref x := by
  cases v <;> first | exact ⟨_, rfl⟩ | cases h
theorem rf_cat (o : Option Nat) : (va_rf o).category = 1 := by cases o <;> rfl
theorem vv_cat (G : SG) (v : Value) : (vv G v).category = v.category := by
  cases v <;> first | rfl | exact rf_cat _
theorem vset_cat {v : Value} (h : vset v = true) (hj : isJ v = false) : v.category = 1 := by
  cases v <;> first | rfl | (cases hj; done) | (cases h; done)
theorem lget_set {L : List Value} {k : Nat} {v : Value} (hk : k < L.length) (j : Nat) : lget (L.set k v) j = if j = k then v else lget L j := by
  unfold lget
  rw [List.getD_eq_getElem?_getD, List.getD_eq_getElem?_getD]
  by_cases e : j = k
  · subst e
    rw [if_pos rfl, List.getElem?_set_self hk]
    rfl
  · rw [if_neg e, List.getElem?_set_ne (fun q => e q.symm)]
theorem lget_lt {L : List Value} {k : Nat} (h : vset (lget L k) = true) : k < L.length := by
  rcases Nat.lt_or_ge k L.length with q | q
  · exact q
  · unfold lget at h
    rw [List.getD_eq_getElem?_getD, List.getElem?_eq_none q] at h
    cases h
def lvL (G : SG) (L : List Value) : List (Nat × Value) := ((List.range L.length).filter (fun k => vset (lget L k))).map (fun k => (k, vv G (lget L k)))
theorem lvL_in (G : SG) {L : List Value} {k : Nat} (h : vset (lget L k) = true) : (k, vv G (lget L k)) ∈ lvL G L := List.mem_map.mpr ⟨k, List.mem_filter.mpr ⟨List.mem_range.mpr (lget_lt h), h⟩, rfl⟩
theorem LH.has {G : SG} {mm : Nat} {L : List Value} {ls : Array Slot} (h : LH G mm L ls) : lv_has ls (mxl mm) (lvL G L) := by
  refine ⟨h.1, h.2.1, fun q hq => ?_⟩
  obtain ⟨k, hk, rfl⟩ := List.mem_map.mp hq
  exact h.2.2.2.1 k (List.mem_filter.mp hk).2
theorem LH.put {G : SG} {mm : Nat} {L : List Value} {ls ls' : Array Slot} {k : Nat} {v : Value} (h : LH G mm L ls) (hm : mlong mm = false) (hk : k < L.length) (hj : isJ v = false)
    (hn : lv_has ls' (mxl mm) ((k, vv G v) :: (lvL G L).filter (fun q => !(q.1 == k) && !(q.1 + 1 == k && q.2.category == 2)))) : LH G mm (L.set k v) ls' := by
  obtain ⟨h1, h2, h3, h4, h5⟩ := h
  refine ⟨hn.1, hn.2.1, by rw [List.length_set]; exact h3, fun j hs => ?_, fun _ j => ?_⟩
  · rw [lget_set hk] at hs ⊢
    by_cases e : j = k
    · subst e
      rw [if_pos rfl]
      exact hn.2.2 (j, vv G v) List.mem_cons_self
    · rw [if_neg e] at hs ⊢
      refine hn.2.2 (j, vv G (lget L j)) (List.mem_cons_of_mem _ (List.mem_filter.mpr ⟨lvL_in G hs, ?_⟩))
      have hc : (vv G (lget L j)).category = 1 := by rw [vv_cat]; exact vset_cat hs (h5 hm j)
      simp [e, hc]
  · rw [lget_set hk]
    split
    · exact hj
    · exact h5 hm j
theorem jif_some {b : Bool} {pc : Nat} {off : Int} {L S L' S' : List Value} {h h' : HP} {pc' : Nat} (e : jif b pc off L S h = some (pc', L', S', h')) : L' = L ∧ S' = S ∧ h' = h ∧ ∃ t : Nat, (pc : Int) + off = (t : Int) ∧ pc' = if b = true then t else pc + 3 := by
  obtain ⟨h0, e⟩ := gd_some e
  have h0 := of_decide_eq_true h0
  cases b
  · cases e
    exact ⟨rfl, rfl, rfl, ((pc : Int) + off).toNat, by omega, rfl⟩
  · cases e
    exact ⟨rfl, rfl, rfl, ((pc : Int) + off).toNat, by omega, rfl⟩
theorem jmp_some {pc : Nat} {off : Int} {L S L' S' : List Value} {h h' : HP} {pc' : Nat} (e : jmp pc off L S h = some (pc', L', S', h')) : L' = L ∧ S' = S ∧ h' = h ∧ (pc : Int) + off = (pc' : Int) := by
  obtain ⟨h0, e⟩ := gd_some e
  have h0 := of_decide_eq_true h0
  cases e
  exact ⟨rfl, rfl, rfl, by omega⟩
theorem inb_in {j : Int32} {n : Nat} (h : inb j n = true) : vp_in j n := by
  simp only [inb, Bool.and_eq_true, decide_eq_true_eq] at h
  rintro (q | q)
  · exact k2_nlt h.1 q
  · exact absurd h.2 (Nat.not_lt.mpr q)
def heapI (i : Instr) : Bool := match i with
  | .getfield _ => true
  | .putfield _ => true
  | .getstatic _ => true
  | .iaload => true
  | .iastore => true
  | .aaload => true
  | .aastore => true
  | .arraylength => true
  | .newarray _ => true
  | .anewarray _ => true
  | .new _ => true
  | .invokespecial _ => true
  | .invokestatic _ => true
  | _ => false
section Snd
variable {G : SG} {p : Program} {l : Launch} {e : Env} {R : Room} {s : State} {m : MethodId} {args : Array Value} {below : List Frame} {meth : Method} {c : Code} {H : Heap} {locs : List Loc} {cells slots : Nat} {Q : State → Prop} {mm pc : Nat} {h : HP} {ls : Array Slot} {rest : List Value} {cc : ByteArray}
theorem r_aload (hexec : p.tables.exec = Jvm.exec) (hb : c.code = cc) {i : Nat} {r : Option Nat} (hdg : decode cc pc = .ok (.aload i, 2)) (hl : ls[i]? = some (.val (va_rf r))) (k : W p l e R s m args below meth c H locs cells slots Q (F0 m (pc + 2) ls (va_rf r :: rest))) : W p l e R s m args below meth c H locs cells slots Q (F0 m pc ls rest) := by
  cases r with
  | none => exact lv_aloadN hexec hb hdg hl k
  | some a => exact lv_aload hexec hb hdg hl k
theorem r_aload_n (hexec : p.tables.exec = Jvm.exec) (hb : c.code = cc) {i : Fin 4} {r : Option Nat} (hdg : decode cc pc = .ok (.aload_n i, 1)) (hl : ls[(i : Nat)]? = some (.val (va_rf r))) (k : W p l e R s m args below meth c H locs cells slots Q (F0 m (pc + 1) ls (va_rf r :: rest))) : W p l e R s m args below meth c H locs cells slots Q (F0 m pc ls rest) := by
  cases r with
  | none => exact lv_aload_nN hexec hb hdg rfl hl k
  | some a => exact lv_aload_n hexec hb hdg rfl hl k
theorem r_astore (hexec : p.tables.exec = Jvm.exec) (hb : c.code = cc) {i nL : Nat} {r : Option Nat} {lv : List (Nat × Value)} (hdg : decode cc pc = .ok (.astore i, 2)) (h : lv_has ls nL lv) (hn : i < nL) (k : ∀ ls' : Array Slot, lv_has ls' nL ((i, va_rf r) :: lv.filter (fun q => !(q.1 == i) && !(q.1 + 1 == i && q.2.category == 2))) → W p l e R s m args below meth c H locs cells slots Q (F0 m (pc + 2) ls' rest)) : W p l e R s m args below meth c H locs cells slots Q (F0 m pc ls (va_rf r :: rest)) := by
  cases r with
  | none => exact lv_astoreN hexec hb hdg h hn rfl k
  | some a => exact lv_astore hexec hb hdg h hn rfl k
theorem r_astore_n (hexec : p.tables.exec = Jvm.exec) (hb : c.code = cc) {i : Fin 4} {nL : Nat} {r : Option Nat} {lv : List (Nat × Value)} (hdg : decode cc pc = .ok (.astore_n i, 1)) (h : lv_has ls nL lv) (hn : (i : Nat) < nL) (k : ∀ ls' : Array Slot, lv_has ls' nL (((i : Nat), va_rf r) :: lv.filter (fun q => !(q.1 == (i : Nat)) && !(q.1 + 1 == (i : Nat) && q.2.category == 2))) → W p l e R s m args below meth c H locs cells slots Q (F0 m (pc + 1) ls' rest)) : W p l e R s m args below meth c H locs cells slots Q (F0 m pc ls (va_rf r :: rest)) := by
  cases r with
  | none => exact lv_astore_nN hexec hb hdg rfl h hn rfl k
  | some a => exact lv_astore_n hexec hb hdg rfl h hn rfl k
/-- instructions that leave the heap as it is -/
theorem snd_same (C : CX G p R s m args meth c mm) {i : Instr} {len : Nat} {L S L' S' : List Value} {pc' : Nat} {h' : HP} (hd : decode (mb mm) pc = .ok (i, len)) (hs : stp mm pc i len L S h = some (pc', L', S', h')) (hl : LH G mm L ls)
    (hni : heapI i = false)
    (kk : h' = h → ∀ ls', LH G mm L' ls' → W p l e R s m args below meth c H locs cells slots Q (F0 m pc' ls' (S'.map (vv G)))) : W p l e R s m args below meth c H locs cells slots Q (F0 m pc ls (S.map (vv G))) := by
  obtain ⟨hx, hb, hml, hown, hts, hin, hcl, -⟩ := C
  cases i with
  | iconst n =>
    obtain ⟨q, hs⟩ := gd_some hs
    obtain rfl : len = 1 := by simpa using q
    cases hs
    exact lv_iconst hx hb hd rfl (kk rfl ls hl)
  | bipush n =>
    obtain ⟨q, hs⟩ := gd_some hs
    obtain rfl : len = 2 := by simpa using q
    cases hs
    exact lv_bipush hx hb hd rfl (kk rfl ls hl)
  | sipush n =>
    obtain ⟨q, hs⟩ := gd_some hs
    obtain rfl : len = 3 := by simpa using q
    cases hs
    exact lv_sipush hx hb hd rfl (kk rfl ls hl)
  | ldc idx =>
    obtain ⟨q, hs⟩ := gd_some hs
    obtain rfl : len = 2 := by simpa using q
    obtain ⟨v, hv, hs⟩ := Option.bind_eq_some_iff.mp hs
    cases hs
    exact lv_ldc hx hb hown (hts _ (gw (lkC_ok hcl hv) rfl)) hd (kk rfl ls hl)
  | aconst_null =>
    obtain ⟨q, hs⟩ := gd_some hs
    obtain rfl : len = 1 := by simpa using q
    cases hs
    exact lv_null hx hb hd (kk rfl ls hl)
  | iload k =>
    obtain ⟨q, hs⟩ := gd_some hs
    obtain rfl : len = 2 := by simpa using q
    obtain ⟨ht, hs⟩ := gd_some hs
    have h4 := hl.2.2.2.1 k (by simp [vset, ht])
    obtain ⟨x, hv⟩ := isI_ex ht
    rw [hv] at hs h4
    cases hs
    exact lv_iload hx hb hd h4 (kk rfl ls hl)
  | iload_n k =>
    obtain ⟨q, hs⟩ := gd_some hs
    obtain rfl : len = 1 := by simpa using q
    obtain ⟨ht, hs⟩ := gd_some hs
    have h4 := hl.2.2.2.1 k (by simp [vset, ht])
    obtain ⟨x, hv⟩ := isI_ex ht
    rw [hv] at hs h4
    cases hs
    exact lv_iload_n hx hb hd rfl h4 (kk rfl ls hl)
  | aload k =>
    obtain ⟨q, hs⟩ := gd_some hs
    obtain rfl : len = 2 := by simpa using q
    obtain ⟨ht, hs⟩ := gd_some hs
    have h4 := hl.2.2.2.1 k (by simp [vset, ht])
    obtain ⟨x, hv⟩ := isA_ex ht
    rw [hv] at hs h4
    cases hs
    exact r_aload hx hb hd h4 (kk rfl ls hl)
  | aload_n k =>
    obtain ⟨q, hs⟩ := gd_some hs
    obtain rfl : len = 1 := by simpa using q
    obtain ⟨ht, hs⟩ := gd_some hs
    have h4 := hl.2.2.2.1 k (by simp [vset, ht])
    obtain ⟨x, hv⟩ := isA_ex ht
    rw [hv] at hs h4
    cases hs
    exact r_aload_n hx hb hd h4 (kk rfl ls hl)
  | lload_n k =>
    obtain ⟨q, hs⟩ := gd_some hs
    obtain rfl : len = 1 := by simpa using q
    obtain ⟨ht, hs⟩ := gd_some hs
    have h4 := hl.2.2.2.1 k (by simp [vset, ht])
    obtain ⟨x, hv⟩ := isJ_ex ht
    rw [hv] at hs h4
    cases hs
    exact lv_lload_n hx hb hd rfl h4 (kk rfl ls hl)
  | istore k =>
    obtain ⟨q, hs⟩ := gd_some hs
    obtain rfl : len = 2 := by simpa using q
    obtain ⟨v, S1, rfl, hs⟩ := s_v_some hs
    obtain ⟨ht, hs⟩ := gd_some hs
    simp only [Bool.and_eq_true, Bool.not_eq_true', decide_eq_true_eq] at ht
    obtain ⟨x, rfl⟩ := isI_ex ht.1.1
    cases hs
    exact lv_istore hx hb hd hl.has (by rw [← hl.2.2.1]; exact ht.2) rfl (fun ls' hn => kk rfl ls' (hl.put ht.1.2 ht.2 rfl hn))
  | istore_n k =>
    obtain ⟨q, hs⟩ := gd_some hs
    obtain rfl : len = 1 := by simpa using q
    obtain ⟨v, S1, rfl, hs⟩ := s_v_some hs
    obtain ⟨ht, hs⟩ := gd_some hs
    simp only [Bool.and_eq_true, Bool.not_eq_true', decide_eq_true_eq] at ht
    obtain ⟨x, rfl⟩ := isI_ex ht.1.1
    cases hs
    exact lv_istore_n hx hb hd rfl hl.has (by rw [← hl.2.2.1]; exact ht.2) rfl (fun ls' hn => kk rfl ls' (hl.put ht.1.2 ht.2 rfl hn))
  | astore k =>
    obtain ⟨q, hs⟩ := gd_some hs
    obtain rfl : len = 2 := by simpa using q
    obtain ⟨v, S1, rfl, hs⟩ := s_v_some hs
    obtain ⟨ht, hs⟩ := gd_some hs
    simp only [Bool.and_eq_true, Bool.not_eq_true', decide_eq_true_eq] at ht
    obtain ⟨x, rfl⟩ := isA_ex ht.1.1
    cases hs
    exact r_astore hx hb hd hl.has (by rw [← hl.2.2.1]; exact ht.2) (fun ls' hn => kk rfl ls' (hl.put (v := .ref x) ht.1.2 ht.2 rfl hn))
  | astore_n k =>
    obtain ⟨q, hs⟩ := gd_some hs
    obtain rfl : len = 1 := by simpa using q
    obtain ⟨v, S1, rfl, hs⟩ := s_v_some hs
    obtain ⟨ht, hs⟩ := gd_some hs
    simp only [Bool.and_eq_true, Bool.not_eq_true', decide_eq_true_eq] at ht
    obtain ⟨x, rfl⟩ := isA_ex ht.1.1
    cases hs
    exact r_astore_n hx hb hd hl.has (by rw [← hl.2.2.1]; exact ht.2) (fun ls' hn => kk rfl ls' (hl.put (v := .ref x) ht.1.2 ht.2 rfl hn))
  | iinc k n =>
    obtain ⟨q, hs2⟩ := gd_some hs
    clear hs
    simp only [Bool.and_eq_true, Bool.not_eq_true', decide_eq_true_eq, beq_iff_eq] at q
    obtain ⟨⟨rfl, q1⟩, q2⟩ := q
    cases hv : lget L k with
    | int x =>
      rw [hv] at hs2
      cases hs2
      have h5 : vset (lget L k) = true := by rw [hv]; rfl
      obtain ⟨j, hj⟩ := List.getElem?_of_mem (lvL_in G h5)
      rw [hv] at hj
      exact lv_iinc hx hb hd hl.has hj rfl (by rw [← hl.2.2.1]; exact q2) rfl (fun ls' hn => kk rfl ls' (hl.put q1 q2 rfl hn))
    | _ => rw [hv] at hs2; cases hs2
  | iadd =>
    obtain ⟨q, hs⟩ := gd_some hs
    obtain rfl : len = 1 := by simpa using q
    obtain ⟨y, S1, rfl, hs⟩ := s_i_some hs
    obtain ⟨x, S2, rfl, hs⟩ := s_i_some hs
    cases hs
    exact lv_iadd hx hb hd (kk rfl ls hl)
  | isub =>
    obtain ⟨q, hs⟩ := gd_some hs
    obtain rfl : len = 1 := by simpa using q
    obtain ⟨y, S1, rfl, hs⟩ := s_i_some hs
    obtain ⟨x, S2, rfl, hs⟩ := s_i_some hs
    cases hs
    exact lv_isub hx hb hd (kk rfl ls hl)
  | imul =>
    obtain ⟨q, hs⟩ := gd_some hs
    obtain rfl : len = 1 := by simpa using q
    obtain ⟨y, S1, rfl, hs⟩ := s_i_some hs
    obtain ⟨x, S2, rfl, hs⟩ := s_i_some hs
    cases hs
    exact lv_imul hx hb hd (kk rfl ls hl)
  | iand =>
    obtain ⟨q, hs⟩ := gd_some hs
    obtain rfl : len = 1 := by simpa using q
    obtain ⟨y, S1, rfl, hs⟩ := s_i_some hs
    obtain ⟨x, S2, rfl, hs⟩ := s_i_some hs
    cases hs
    exact lv_iand hx hb hd (kk rfl ls hl)
  | ior =>
    obtain ⟨q, hs⟩ := gd_some hs
    obtain rfl : len = 1 := by simpa using q
    obtain ⟨y, S1, rfl, hs⟩ := s_i_some hs
    obtain ⟨x, S2, rfl, hs⟩ := s_i_some hs
    cases hs
    exact lv_ior hx hb hd (kk rfl ls hl)
  | ixor =>
    obtain ⟨q, hs⟩ := gd_some hs
    obtain rfl : len = 1 := by simpa using q
    obtain ⟨y, S1, rfl, hs⟩ := s_i_some hs
    obtain ⟨x, S2, rfl, hs⟩ := s_i_some hs
    cases hs
    exact lv_ixor hx hb hd (kk rfl ls hl)
  | ishl =>
    obtain ⟨q, hs⟩ := gd_some hs
    obtain rfl : len = 1 := by simpa using q
    obtain ⟨y, S1, rfl, hs⟩ := s_i_some hs
    obtain ⟨x, S2, rfl, hs⟩ := s_i_some hs
    cases hs
    exact lv_ishl hx hb hd (kk rfl ls hl)
  | idiv =>
    obtain ⟨q, hs⟩ := gd_some hs
    obtain rfl : len = 1 := by simpa using q
    obtain ⟨y, S1, rfl, hs⟩ := s_i_some hs
    obtain ⟨x, S2, rfl, hs⟩ := s_i_some hs
    obtain ⟨hy, hs⟩ := gd_some hs
    cases hs
    exact lv_idiv hx hb hd (by simpa using hy) (kk rfl ls hl)
  | irem =>
    obtain ⟨q, hs⟩ := gd_some hs
    obtain rfl : len = 1 := by simpa using q
    obtain ⟨y, S1, rfl, hs⟩ := s_i_some hs
    obtain ⟨x, S2, rfl, hs⟩ := s_i_some hs
    obtain ⟨hy, hs⟩ := gd_some hs
    cases hs
    exact lv_irem hx hb hd (by simpa using hy) (kk rfl ls hl)
  | i2l =>
    obtain ⟨q, hs⟩ := gd_some hs
    obtain rfl : len = 1 := by simpa using q
    obtain ⟨x, S1, rfl, hs⟩ := s_i_some hs
    cases hs
    exact lv_i2l hx hb hd rfl (kk rfl ls hl)
  | l2i =>
    obtain ⟨q, hs⟩ := gd_some hs
    obtain rfl : len = 1 := by simpa using q
    obtain ⟨x, S1, rfl, hs⟩ := s_j_some hs
    cases hs
    exact lv_l2i hx hb hd rfl (kk rfl ls hl)
  | i2b =>
    obtain ⟨q, hs⟩ := gd_some hs
    obtain rfl : len = 1 := by simpa using q
    obtain ⟨x, S1, rfl, hs⟩ := s_i_some hs
    cases hs
    exact lv_i2b hx hb hd rfl (kk rfl ls hl)
  | ladd =>
    obtain ⟨q, hs⟩ := gd_some hs
    obtain rfl : len = 1 := by simpa using q
    obtain ⟨y, S1, rfl, hs⟩ := s_j_some hs
    obtain ⟨x, S2, rfl, hs⟩ := s_j_some hs
    cases hs
    exact lv_ladd hx hb hd (kk rfl ls hl)
  | lmul =>
    obtain ⟨q, hs⟩ := gd_some hs
    obtain rfl : len = 1 := by simpa using q
    obtain ⟨y, S1, rfl, hs⟩ := s_j_some hs
    obtain ⟨x, S2, rfl, hs⟩ := s_j_some hs
    cases hs
    exact lv_lmul hx hb hd (kk rfl ls hl)
  | lcmp =>
    obtain ⟨q, hs⟩ := gd_some hs
    obtain rfl : len = 1 := by simpa using q
    obtain ⟨y, S1, rfl, hs⟩ := s_j_some hs
    obtain ⟨x, S2, rfl, hs⟩ := s_j_some hs
    cases hs
    exact W.lcmp hx hb hd (kk rfl ls hl)
  | dup =>
    obtain ⟨q, hs⟩ := gd_some hs
    obtain rfl : len = 1 := by simpa using q
    obtain ⟨v, S1, rfl, hs⟩ := s_v_some hs
    obtain ⟨hc, hs⟩ := gd_some hs
    cases hs
    exact lv_dup hx hb hd (by rw [vv_cat]; simpa using hc) (kk rfl ls hl)
  | pop =>
    obtain ⟨q, hs⟩ := gd_some hs
    obtain rfl : len = 1 := by simpa using q
    obtain ⟨v, S1, rfl, hs⟩ := s_v_some hs
    obtain ⟨hc, hs⟩ := gd_some hs
    cases hs
    exact lv_pop hx hb hd (by rw [vv_cat]; simpa using hc) (kk rfl ls hl)
  | dup2 =>
    obtain ⟨q, hs⟩ := gd_some hs
    obtain rfl : len = 1 := by simpa using q
    obtain ⟨v, S1, rfl, hs⟩ := s_v_some hs
    obtain ⟨w, S2, rfl, hs⟩ := s_v_some hs
    obtain ⟨hc, hs⟩ := gd_some hs
    simp only [Bool.and_eq_true, beq_iff_eq] at hc
    cases hs
    exact lv_dup2_11 hx hb hd (by rw [vv_cat]; exact hc.1) (by rw [vv_cat]; exact hc.2) (kk rfl ls hl)
  | ifCond cd off =>
    obtain ⟨q, hs⟩ := gd_some hs
    obtain rfl : len = 3 := by simpa using q
    obtain ⟨x, S1, rfl, hs⟩ := s_i_some hs
    obtain ⟨rfl, rfl, rfl, t, ht, rfl⟩ := jif_some hs
    have kt : cnd cd x 0 = true → W p l e R s m args below meth c H locs cells slots Q (F0 m t ls (List.map (vv G) S')) := fun hc => by
      have := kk rfl ls hl
      rwa [if_pos hc] at this
    have kf : ¬ cnd cd x 0 = true → W p l e R s m args below meth c H locs cells slots Q (F0 m (pc + 3) ls (List.map (vv G) S')) := fun hc => by
      have := kk rfl ls hl
      rwa [if_neg hc] at this
    cases cd with
    | eq => exact lv_if_eq hx hb hd ht (fun a => kt (decide_eq_true a)) (fun a => kf (fun b => a (of_decide_eq_true b)))
    | ne => exact lv_if_ne hx hb hd ht (fun a => kt (decide_eq_true a)) (fun a => kf (fun b => (of_decide_eq_true b) a))
    | lt => exact lv_if_lt hx hb hd ht (fun a => kt (decide_eq_true a)) (fun a => kf (fun b => a (of_decide_eq_true b)))
    | ge => exact lv_if_ge hx hb hd ht (fun a => kt (decide_eq_true a)) (fun a => kf (fun b => a (of_decide_eq_true b)))
    | gt => exact lv_if_gt hx hb hd ht (fun a => kt (decide_eq_true a)) (fun a => kf (fun b => a (of_decide_eq_true b)))
    | le => exact lv_if_le hx hb hd ht (fun a => kt (decide_eq_true a)) (fun a => kf (fun b => a (of_decide_eq_true b)))
  | if_icmp cd off =>
    obtain ⟨q, hs⟩ := gd_some hs
    obtain rfl : len = 3 := by simpa using q
    obtain ⟨y, S1, rfl, hs⟩ := s_i_some hs
    obtain ⟨x, S2, rfl, hs⟩ := s_i_some hs
    obtain ⟨rfl, rfl, rfl, t, ht, rfl⟩ := jif_some hs
    have kt : cnd cd x y = true → W p l e R s m args below meth c H locs cells slots Q (F0 m t ls (List.map (vv G) S')) := fun hc => by
      have := kk rfl ls hl
      rwa [if_pos hc] at this
    have kf : ¬ cnd cd x y = true → W p l e R s m args below meth c H locs cells slots Q (F0 m (pc + 3) ls (List.map (vv G) S')) := fun hc => by
      have := kk rfl ls hl
      rwa [if_neg hc] at this
    cases cd with
    | eq => exact lv_icmp_eq hx hb hd ht (fun a => kt (decide_eq_true a)) (fun a => kf (fun b => a (of_decide_eq_true b)))
    | ne => exact lv_icmp_ne hx hb hd ht (fun a => kt (decide_eq_true a)) (fun a => kf (fun b => (of_decide_eq_true b) a))
    | lt => exact lv_icmp_lt hx hb hd ht (fun a => kt (decide_eq_true a)) (fun a => kf (fun b => a (of_decide_eq_true b)))
    | ge => exact lv_icmp_ge hx hb hd ht (fun a => kt (decide_eq_true a)) (fun a => kf (fun b => a (of_decide_eq_true b)))
    | gt => exact lv_icmp_gt hx hb hd ht (fun a => kt (decide_eq_true a)) (fun a => kf (fun b => a (of_decide_eq_true b)))
    | le => exact lv_icmp_le hx hb hd ht (fun a => kt (decide_eq_true a)) (fun a => kf (fun b => a (of_decide_eq_true b)))
  | ifnull off =>
    obtain ⟨q, hs⟩ := gd_some hs
    obtain rfl : len = 3 := by simpa using q
    obtain ⟨a, S1, rfl, hs⟩ := s_a_some hs
    obtain ⟨rfl, rfl, rfl, t, ht, rfl⟩ := jif_some hs
    have k0 := kk rfl ls hl
    show W p l e R s m args below meth c H locs cells slots Q (F0 m pc ls (va_rf (rfo G a) :: List.map (vv G) S'))
    by_cases ha : a = 0
    · subst ha
      exact lv_ifnullN hx hb hd ht k0
    · rw [if_neg (by simpa using ha)] at k0
      rw [show rfo G a = some (adr G a) from if_neg ha]
      exact lv_ifnull hx hb hd k0
  | ifnonnull off =>
    obtain ⟨q, hs⟩ := gd_some hs
    obtain rfl : len = 3 := by simpa using q
    obtain ⟨a, S1, rfl, hs⟩ := s_a_some hs
    obtain ⟨rfl, rfl, rfl, t, ht, rfl⟩ := jif_some hs
    have k0 := kk rfl ls hl
    show W p l e R s m args below meth c H locs cells slots Q (F0 m pc ls (va_rf (rfo G a) :: List.map (vv G) S'))
    by_cases ha : a = 0
    · subst ha
      exact lv_ifnonnullN hx hb hd k0
    · rw [if_pos (by simpa using ha)] at k0
      rw [show rfo G a = some (adr G a) from if_neg ha]
      exact lv_ifnonnull hx hb hd ht k0
  | if_acmp cd off =>
    have rinj : ∀ a b : Nat, okr a = true → okr b = true → rfo G a = rfo G b → a = b := by
      intro a b ha hb hr
      simp only [okr, Bool.or_eq_true, beq_iff_eq, decide_eq_true_eq] at ha hb
      unfold rfo at hr
      by_cases h1 : a = 0 <;> by_cases h2 : b = 0
      · rw [h1, h2]
      · rw [if_pos h1, if_neg h2] at hr; cases hr
      · rw [if_neg h1, if_pos h2] at hr; cases hr
      · rw [if_neg h1, if_neg h2, adr_ge G (by omega), adr_ge G (by omega)] at hr
        have := Option.some.inj hr
        omega
    cases cd with
    | eq =>
      obtain ⟨q, hs⟩ := gd_some hs
      obtain rfl : len = 3 := by simpa using q
      obtain ⟨b, S1, rfl, hs⟩ := s_a_some hs
      obtain ⟨a, S2, rfl, hs⟩ := s_a_some hs
      obtain ⟨hok, hs⟩ := gd_some hs
      simp only [Bool.and_eq_true] at hok
      obtain ⟨rfl, rfl, rfl, t, ht, rfl⟩ := jif_some hs
      have k0 := kk rfl ls hl
      refine lv_acmp_eq (rx := rfo G a) (ry := rfo G b) hx hb hd ht (fun hr => ?_) (fun hr => ?_)
      · rwa [if_pos (by simpa using rinj a b hok.1 hok.2 hr)] at k0
      · rwa [if_neg (by intro z; exact hr (by rw [show a = b by simpa using z]))] at k0
    | ne =>
      obtain ⟨q, hs⟩ := gd_some hs
      obtain rfl : len = 3 := by simpa using q
      obtain ⟨b, S1, rfl, hs⟩ := s_a_some hs
      obtain ⟨a, S2, rfl, hs⟩ := s_a_some hs
      obtain ⟨hok, hs⟩ := gd_some hs
      simp only [Bool.and_eq_true] at hok
      obtain ⟨rfl, rfl, rfl, t, ht, rfl⟩ := jif_some hs
      have k0 := kk rfl ls hl
      refine lv_acmp_ne (rx := rfo G a) (ry := rfo G b) hx hb hd ht (fun hr => ?_) (fun hr => ?_)
      · rwa [if_pos (by simpa using fun z : a = b => hr (by rw [z]))] at k0
      · rwa [if_neg (by simpa using rinj a b hok.1 hok.2 hr)] at k0
  | goto off =>
    obtain ⟨q, hs⟩ := gd_some hs
    obtain rfl : len = 3 := by simpa using q
    obtain ⟨rfl, rfl, rfl, ht⟩ := jmp_some hs
    exact lv_goto hx hb hd ht (kk rfl ls hl)
  | tableswitch d lo hi offs =>
    obtain ⟨x, S1, rfl, hs2⟩ := s_i_some hs
    clear hs
    cases hc : (decide (x.toInt < lo) || decide (hi < x.toInt)) with
    | true =>
      rw [hc] at hs2
      obtain ⟨rfl, rfl, rfl, ht⟩ := jmp_some hs2
      exact lv_tableOut hx hb hd (by simpa using hc) ht (kk rfl ls hl)
    | false =>
      rw [hc] at hs2
      simp only [Bool.or_eq_false_iff, decide_eq_false_iff_not] at hc
      obtain ⟨off, ho, hs2⟩ := Option.bind_eq_some_iff.mp hs2
      obtain ⟨rfl, rfl, rfl, ht⟩ := jmp_some hs2
      exact lv_tableIn hx hb hd hc.1 hc.2 ho ht (kk rfl ls hl)
  | lookupswitch d ps =>
    obtain ⟨x, S1, rfl, hs⟩ := s_i_some hs
    obtain ⟨hp, hs⟩ := gd_some hs
    obtain ⟨rfl, rfl, rfl, ht⟩ := jmp_some hs
    exact lv_lookup hx hb hd hp rfl ht (kk rfl ls hl)
  | getfield idx => cases hni
  | putfield idx => cases hni
  | getstatic idx => cases hni
  | iaload => cases hni
  | iastore => cases hni
  | aaload => cases hni
  | aastore => cases hni
  | arraylength => cases hni
  | newarray t => cases hni
  | anewarray idx => cases hni
  | new idx => cases hni
  | invokespecial idx => cases hni
  | invokestatic idx => cases hni
  | _ => cases hs
end Snd
