/-! SOUNDNESS 4: the instructions that touch the heap -/
def ftok (ty : FieldType) : Bool := match ty with
  | .int => true
  | .boolean => true
  | .object _ => true
  | .array _ => true
  | _ => false
theorem ckT_ok : ((List.range 12).all fun c => (List.range (fnum c)).all fun k => ftok (fty c k)) = true := by decide +kernel
theorem HR.n4 {G : SG} {h : HP} {H : Heap} (w : HR G h H) : 4 ≤ hp_n h := w.1.1
section Snd
variable {G : SG} {p : Program} {l : Launch} {e : Env} {R : Room} {s : State} {m : MethodId} {args : Array Value} {below : List Frame} {meth : Method} {c : Code} {H : Heap} {locs : List Loc} {cells slots : Nat} {Q : State → Prop} {mm pc : Nat} {h : HP} {ls : Array Slot} {rest : List Value} {cc : ByteArray}
theorem vv_ref (G : SG) {a : Nat} (ha : ¬ a = 0) : vv G (.ref a) = .ref (adr G a) := by
  show va_rf (rfo G a) = _
  rw [show rfo G a = some (adr G a) from if_neg ha]
  rfl
theorem fits_f (G : SG) {ci k : Nat} {h h' : HP} {a : Nat} {v : Value} (hp : fput (fty ci k) h a k v = some h') : narrow (fty ci k) (vv G v) = vv G v ∧ fits (fty ci k) (vv G v) = true := by
  unfold fput at hp
  split at hp
  · rename_i x e1
    rw [e1]
    exact ⟨rfl, rfl⟩
  · rename_i x e1
    obtain ⟨hx, -⟩ := gd_some hp
    rw [e1]
    simp only [Bool.or_eq_true, beq_iff_eq] at hx
    rcases hx with rfl | rfl
    · show narrow .boolean (.int 0) = .int 0 ∧ fits .boolean (.int 0) = true
      exact ⟨by decide, by decide⟩
    · show narrow .boolean (.int 1) = .int 1 ∧ fits .boolean (.int 1) = true
      exact ⟨by decide, by decide⟩
  · rename_i n b e1
    rw [e1]
    show narrow _ (va_rf (rfo G b)) = va_rf (rfo G b) ∧ fits _ (va_rf (rfo G b)) = true
    cases rfo G b <;> exact ⟨rfl, rfl⟩
  · rename_i n b e1
    rw [e1]
    show narrow _ (va_rf (rfo G b)) = va_rf (rfo G b) ∧ fits _ (va_rf (rfo G b)) = true
    cases rfo G b <;> exact ⟨rfl, rfl⟩
  · cases hp
theorem i32_nn {z : Int32} (hz : 0 ≤ z) : z.toInt = (ix z : Int) := by
  have h0 : (0 : Int) ≤ z.toInt := by simpa using Int32.le_iff_toInt_le.mp hz
  show z.toInt = ((z.toInt.toNat : Nat) : Int)
  omega
/-- System.arraycopy between two int arrays of the heap: nothing but the one cell changes -/
theorem r_copy (hx : p.tables.exec = Jvm.exec) (hb : c.code = cc) (hml : c.maxLocals = ls.size) {own : String} {idx : Nat} (hown : s.vm.findClass own = some m.cls) (hlink : (Cond.methodLink own idx arraycopyName).before args s = true) (hnat : (Cond.native arraycopyName).before args s = true) (hstat : (Cond.static arraycopyName).before args s = true) (hini : (Cond.initialized "java/lang/System").before args s = true)
    {cI : ClassId} (hI : ArrOfT s cI .int) {A B n0 n1 : Nat} {f g : Nat → Int32} (hA : H[A]? = some (arrV cI n0 (fun j => .int (f j)))) (hB : H[B]? = some (arrV cI n1 (fun j => .int (g j)))) {sp dp n : Int32} (h1 : 0 ≤ sp) (h2 : 0 ≤ dp) (h3 : 0 ≤ n) (h4 : ix sp + ix n ≤ n0) (h5 : ix dp + ix n ≤ n1) (hfr : 1 ≤ R.frames) (hlo : (rest.map fun v => v.category).sum + 18 ≤ R.locals) (hd : decode cc pc = .ok (.invokestatic idx, 3))
    (kk : ∀ (H1 : Heap) (L : List Loc), (∀ q ∈ L, q.base = B) → H1.size = H.size → H1[B]? = some (arrV cI n1 (fun j => .int (va_cpy f g (ix sp) (ix dp) (ix n) j))) → (∀ q, q ≠ B → H1[q]? = H[q]?) → W p l e R s m args below meth c H1 (locs ++ L) cells slots Q (F0 m (pc + 3) ls rest)) : W p l e R s m args below meth c H locs cells slots Q (F0 m pc ls (.int n :: .int dp :: .ref B :: .int sp :: .ref A :: rest)) := by
  intro T hT X
  subst hT
  obtain ⟨-, kA, q1, cm, q2⟩ := hI n0 (fun j => .int (f j))
  have rd : ∀ i, i < ix n → (arrV cI n0 (fun j => .int (f j))).slots.getD (ix sp + i) .null = .int (f (ix sp + i)) := by
    intro i hi
    rw [Array.getD_eq_getD_getElem?, arrV_read _ _ (by omega)]
    rfl
  obtain ⟨vm', X', step⟩ := X.arraycopy hx hown hlink hnat hstat hini (srcPos := sp) (destPos := dp) (n := n) hA hB (fun _ z => by cases z) (fun _ z => by cases z) (fun z => by cases z) (fun z => by cases z) q1 q1 q2 q2 (by simp [refKind]) (k2_nlt h1) (k2_nlt h2) (k2_nlt h3) (by rw [i32_nn h1, i32_nn h3, arrV_size]; omega) (by rw [i32_nn h2, i32_nn h3, arrV_size]; omega)
    (fun vm1 _ i hi => by
      refine ⟨?_, ?_⟩
      · rw [rd i hi]; rfl
      · rw [rd i hi]; exact trivial)
    (g := F0 m pc ls (.int n :: .int dp :: .ref B :: .int sp :: .ref A :: rest)) rfl hml.symm (rest := rest) rfl (by rw [hb]; exact hd) hfr (by show 2 * 0 + _ + (7 + 11) ≤ _; omega)
  have e1 : copied (arrV cI n0 (fun j => .int (f j))) (arrV cI n1 (fun j => .int (g j))) sp dp n = arrV cI n1 (fun j => .int (va_cpy f g (ix sp) (ix dp) (ix n) j)) := va_copied (fun z => .int z) cI cI f g h4
  rw [e1] at X' step
  have hlt : B < T.heap.size := (Array.getElem?_eq_some_iff.mp hB).1
  obtain ⟨t, a1, b1⟩ := kk _ _ (fun q hq => by obtain ⟨z, -, hz⟩ := List.mem_map.mp hq; rw [← hz]) (size_setCell (T.setVm vm') B _) (heapAt_setCell_self (s := T.setVm vm') _ hlt) (fun q hq => heapAt_setCell_ne _ (Ne.symm hq)) _ rfl X'
  exact ⟨t, step t a1, b1⟩
set_option maxRecDepth 100000 in
set_option maxHeartbeats 4000000 in
theorem snd_heap (C : CX G p R s m args meth c mm) {i : Instr} {len : Nat} {L S L' S' : List Value} {pc' : Nat} {h' : HP} (hd : decode (mb mm) pc = .ok (i, len)) (hs : stp mm pc i len L S h = some (pc', L', S', h')) (hR : HR G h H) (hS : va_S (AX G) s.heap H locs) (hl : LH G mm L ls) (hni : heapI i = true)
    (hcells : cells + (hp_n h' - hp_n h) ≤ R.cells) (hslots : slots + (hp_s h' - hp_s h) ≤ R.slots)
    (kk : L' = L → ∀ H' locs', HR G h' H' → va_S (AX G) s.heap H' locs' → W p l e R s m args below meth c H' locs' (cells + (hp_n h' - hp_n h)) (slots + (hp_s h' - hp_s h)) Q (F0 m pc' ls (S'.map (vv G)))) : W p l e R s m args below meth c H locs cells slots Q (F0 m pc ls (S.map (vv G))) := by
  obtain ⟨hx, hb, hml, hown, hts, hin, hcl, hfr, hlo, hsz, hK, hN, hAO, hEX, hZ⟩ := C
  obtain ⟨hW, hP, hHs⟩ := id hR
  have hA : ∀ q : Nat, s.heap.size ≤ q → AX G q := fun q hq => Nat.le_trans hsz hq
  have hD : va_D (AX G) (wso G h) := wso_D G h
  cases i with
  | getfield idx =>
    obtain ⟨q, hs1⟩ := gd_some hs
    clear hs
    obtain rfl : len = 3 := by simpa using q
    obtain ⟨⟨ci, k, nest⟩, hf, hs2⟩ := Option.bind_eq_some_iff.mp hs1
    clear hs1
    obtain ⟨a, S1, rfl, hs3⟩ := s_a_some hs2
    clear hs2
    obtain ⟨hk0, hs4⟩ := gd_some hs3
    clear hs3
    have hk : hp_k h a = ci + 1 := by simpa using hk0
    clear hk0
    cases hs4
    obtain ⟨w1, w2, w3, w4⟩ := lkF_ok hcl hf
    simp only at w2 w3 w4
    obtain ⟨t1, t2⟩ := hW.tag hk (by omega) (by omega)
    have k0 := kk rfl H locs hR hS
    simp only [Nat.sub_self, Nat.add_zero] at k0
    show W p l e R s m args below meth c H locs cells slots Q (F0 m pc ls (vv G (.ref a) :: List.map (vv G) S1))
    rw [vv_ref G (by omega)]
    cases nest with
    | false => exact va_get hx hb hts (u_in w2) hown hK hP (a - 4) (obj_at hW hk w2) (cls_at w2) k w3 (hts _ (gw w1 rfl)) (fun x hx => by rw [← w4]; exact hx) (flds_at G h a w3) hd k0
    | true => exact va_getN hx hb hts (u_in w2) hown hK hP (a - 4) (obj_at hW hk w2) (cls_at w2) k w3 (va_Nw.use rfl (hN _ w1 rfl)) (fun x hx => by rw [← w4]; exact hx) (flds_at G h a w3) hd k0
  | putfield idx =>
    obtain ⟨q, hs1⟩ := gd_some hs
    clear hs
    obtain rfl : len = 3 := by simpa using q
    obtain ⟨⟨ci, k, nest⟩, hf, hs2⟩ := Option.bind_eq_some_iff.mp hs1
    clear hs1
    obtain ⟨v, S1, rfl, hs3⟩ := s_v_some hs2
    clear hs2
    obtain ⟨a, S2, rfl, hs4⟩ := s_a_some hs3
    clear hs3
    obtain ⟨hk, hs5⟩ := gd_some hs4
    clear hs4
    simp only [Bool.and_eq_true, beq_iff_eq] at hk
    obtain ⟨hk, hfin⟩ := hk
    obtain ⟨h2, hp, hs6⟩ := Option.bind_eq_some_iff.mp hs5
    clear hs5
    cases hs6
    obtain ⟨w1, w2, w3, w4⟩ := lkF_ok hcl hf
    simp only at w2 w3 w4 hp hk hfin
    obtain ⟨t1, t2⟩ := hW.tag hk (by omega) (by omega)
    obtain ⟨e1, e2, e3, e4⟩ := wso_putf hW hk w2 w3 hp
    obtain ⟨n1, n2⟩ := fits_f G hp
    have k0 := kk rfl
    rw [e3, e4] at k0
    simp only [Nat.sub_self, Nat.add_zero] at k0
    have k1 : ∀ (H1 : Heap) (locs1 : List Loc), H1.size = H.size → va_P (g_D G) cls ((wso G h).set (a - 4) (adr G a, .inr (ci, (flds G h ci a).set k (vv G v)))) H1 → va_D (AX G) ((wso G h).set (a - 4) (adr G a, .inr (ci, (flds G h ci a).set k (vv G v)))) → va_S (AX G) s.heap H1 locs1 → W p l e R s m args below meth c H1 locs1 cells slots Q (F0 m (pc + 3) ls (List.map (vv G) S')) := by
      intro H1 locs1 hz a1 a2 a3
      rw [e1] at a1
      exact k0 H1 locs1 ⟨e2, a1, by rw [hz, hHs, e3]⟩ a3
    show W p l e R s m args below meth c H locs cells slots Q (F0 m pc ls (vv G v :: vv G (.ref a) :: List.map (vv G) S'))
    rw [vv_ref G (by omega)]
    have hc0 := cls_at w2
    have he0 := obj_at hW hk w2
    have hap := va_apart (own := cname (mcl mm)) hts (u_in w2) (fty ci) (ty_all ci w2) (nm_all ci w2) hK hc0
    obtain ⟨r, g1, cell, q1, q2, q3, q4⟩ := hP (a - 4) _ he0
    have hr : r = (cname ci, ftab ci, fnum ci) := Option.some.inj (g1.symm.trans hc0)
    subst hr
    obtain ⟨hSl, hfc, kC, hkC, hkind⟩ := hK.1 ci _ hc0
    obtain ⟨cf, kf, fi, f, hi, hsl⟩ := hSl k w3
    have hlay := hts _ (u_in w2 _ (u_in_lay w3))
    have hst := (u_facts hfc hkC (u_lays hts (u_in w2) w3) hi).1
    have hl9 : k < (flds G h ci a).length := by rw [flds_len]; exact w3
    have fin : ∀ H' : Heap, H'[adr G a]? = some (cell.setSlot f.slot (vv G v)) → H'.size = H.size → (∀ q, q ≠ adr G a → H'[q]? = H[q]?) → W p l e R s m args below meth c H' (locs ++ [⟨adr G a, f.slot⟩]) cells slots Q (F0 m (pc + 3) ls (List.map (vv G) S')) := by
      intro H' e1' e2' e3'
      rw [hsl] at e1' ⊢
      exact k1 H' _ e2' (hP.set hD he0 ⟨_, hc0, t_OB.to (V := updV (vp_V (flds G h ci a)) k (vv G v)) ⟨_, e1', q2, q3, t_set q4 hap w3 (vv G v)⟩ (fun j _ => vp_updV_set hl9 (vv G v) j)⟩ e3') (hD.set he0) (hS.put e2' e3' (hD.2 (a - 4) _ he0))
    cases hff : ffin ci k with
    | false =>
      unfold u_lay at hlay
      rw [if_neg (show ¬ (ftab ci k).2.2.2 = true from fun z => by rw [show (ftab ci k).2.2.2 = false from hff] at z; cases z)] at hlay
      have h6 := u_store hfc hkC hkind hlay hi (ty_all ci w2 k w3) n1 n2
      cases nest with
      | false => exact W.putK hx hb (f := f) ⟨hown, hts _ (gw w1 rfl), ⟨_, _, _, by rw [← w4]; exact hi⟩, hst⟩ (by rw [q2]; exact h6) q1 q3 (by rw [hsl]; exact k2_hasslot (q4 k w3)) rfl rfl hd fin
      | true => exact va_WputK hx hb (f := f) hown (va_Nw.use rfl (hN _ w1 rfl)) (by rw [← w4]; exact hi) hst (by rw [q2]; exact h6) q1 q3 (by rw [hsl]; exact k2_hasslot (q4 k w3)) rfl rfl hd fin
    | true =>
      simp only [hff, Bool.not_true, Bool.false_or, Bool.and_eq_true, beq_iff_eq, Bool.not_eq_true'] at hfin
      obtain ⟨⟨f1, f2⟩, f3⟩ := hfin
      subst f3
      unfold u_lay at hlay
      rw [if_pos (show (ftab ci k).2.2.2 = true from hff)] at hlay
      have hcf : m.cls = cf := by
        obtain ⟨_, _, c', _, _, _, -, -, hf', -, -, -, hown2, -⟩ := Cond.laysFinal_spec hlay
        have e1 : c' = cf := by have := hi.symm.trans hf'; simp at this; exact this.1.symm
        rw [w4, ← f2] at hown2
        rw [← e1]; exact Option.some.inj (hown.symm.trans hown2)
      have h6 := u_fits hfc hkC hkind (Or.inr hlay) hi (ty_all ci w2 k w3) n1 n2
      exact W.putFinK hx hb hown (hts _ (gw w1 rfl)) (by rw [← w4]; exact hi) hst hcf (hin f1) (by rw [q2]; exact h6) q1 q3 (by rw [hsl]; exact k2_hasslot (q4 k w3)) rfl rfl hd fin
  | getstatic idx =>
    obtain ⟨q, hs1⟩ := gd_some hs
    clear hs
    obtain rfl : len = 3 := by simpa using q
    obtain ⟨⟨x0, nest⟩, hf, hs2⟩ := Option.bind_eq_some_iff.mp hs1
    clear hs1
    cases hs2
    obtain ⟨w1, w2⟩ := lkS_ok hcl hf
    simp only at w2
    have k0 := kk rfl H locs hR hS
    simp only [Nat.sub_self, Nat.add_zero] at k0
    have k1 : W p l e R s m args below meth c H locs cells slots Q (F0 m (pc + 3) ls (.ref (g_xa G x0) :: List.map (vv G) S)) := by
      have e1 : vv G (.ref x0) = .ref (g_xa G x0) := by
        rw [vv_ref G (by omega)]
        congr 1
        exact if_pos (by omega)
      rw [← e1]
      exact k0
    cases nest with
    | false => exact va_gets hx hb (hZ x0 w2) hS hown (hts _ (gw w1 rfl)) (fun x hx => hx) hd k1
    | true => exact va_getsN hx hb (hZ x0 w2) hS hown (va_Nw.use rfl (hN _ w1 rfl)) (fun x hx => hx) hd k1
  | iaload =>
    obtain ⟨q, hs1⟩ := gd_some hs
    clear hs
    obtain rfl : len = 1 := by simpa using q
    obtain ⟨j, S1, rfl, hs2⟩ := s_i_some hs1
    clear hs1
    obtain ⟨a, S2, rfl, hs3⟩ := s_a_some hs2
    clear hs2
    obtain ⟨hk, hs4⟩ := gd_some hs3
    clear hs3
    simp only [Bool.and_eq_true, Bool.or_eq_true, beq_iff_eq] at hk
    obtain ⟨hk, hj⟩ := hk
    cases hs4
    have k0 := kk rfl H locs hR hS
    simp only [Nat.sub_self, Nat.add_zero] at k0
    show W p l e R s m args below meth c H locs cells slots Q (F0 m pc ls (.int j :: vv G (.ref a) :: List.map (vv G) S2))
    rcases hk with hk | hk
    · obtain ⟨t1, t2⟩ := hW.tag hk (by omega) (by omega)
      rw [vv_ref G (by omega)]
      exact va_iald hx hb hK hP (a - 4) 0 (arr_at hW hk) rfl (inb_in hj) hd k0
    · have ha : 1 ≤ a ∧ a < 4 := by
        obtain ⟨_, v2, v3, v4, v5⟩ := hW
        rcases Nat.lt_or_ge a 4 with q | q
        · rcases Nat.eq_zero_or_pos a with q2 | q2
          · rw [q2, v4] at hk; cases hk
          · exact ⟨q2, q⟩
        · rcases Nat.lt_or_ge a (hp_n h) with q2 | q2
          · have := v2 a q q2
            rw [hk] at this
            exact absurd this (by decide)
          · rw [v3 a q2] at hk; cases hk
      obtain ⟨_, v6, v7⟩ := hW.2.2.2.2 a ha.1 ha.2
      rw [vv_ref G (a := a) (Nat.pos_iff_ne_zero.mp ha.1), show adr G a = g_xa G a from if_pos ha.2]
      obtain ⟨cell, c1, c2, c3, c4, c5, c6, c7⟩ := hEX a ha.1 ha.2
      rw [v6] at hj
      have hj2 := inb_in hj
      have hlt : ix j < g_xl G a := Nat.not_le.mp fun q => hj2 (Or.inr q)
      rw [v7] at k0
      exact W.iald (v := .int (g_xi G a (ix j))) hx hb (by rw [hS.2.1 _ (Array.getElem?_eq_some_iff.mp c1).1 c7]; exact c1) c2 c3 (by rintro (q | q); exact hj2 (Or.inl q); exact absurd (Nat.lt_of_lt_of_le hlt c4) (Nat.not_lt.mpr q)) (c6 _ hlt) rfl rfl hd k0
  | iastore =>
    obtain ⟨q, hs1⟩ := gd_some hs
    clear hs
    obtain rfl : len = 1 := by simpa using q
    obtain ⟨x, S1, rfl, hs2⟩ := s_i_some hs1
    clear hs1
    obtain ⟨j, S2, rfl, hs3⟩ := s_i_some hs2
    clear hs2
    obtain ⟨a, S3, rfl, hs4⟩ := s_a_some hs3
    clear hs3
    obtain ⟨hk, hs5⟩ := gd_some hs4
    clear hs4
    simp only [Bool.and_eq_true, beq_iff_eq] at hk
    obtain ⟨hk, hj⟩ := hk
    cases hs5
    obtain ⟨t1, t2⟩ := hW.tag hk (by omega) (by omega)
    have k0 := kk rfl
    rw [hp_n_wi, hp_s_wi] at k0
    simp only [Nat.sub_self, Nat.add_zero] at k0
    show W p l e R s m args below meth c H locs cells slots Q (F0 m pc ls (.int x :: .int j :: vv G (.ref a) :: List.map (vv G) S'))
    rw [vv_ref G (by omega)]
    have ha0 := arr_at hW hk
    refine W.iast hx hb (hP (a - 4) _ ha0) ((hK.2 0 _ rfl).1 (hp_l h a) (fun j => .int (hp_i h a j))) (fun q => by cases q) (by show ¬ (j < 0 ∨ (arrV _ _ _).slots.size ≤ _); rw [arrV_size]; exact inb_in hj) rfl rfl hd fun H1 e1 z oq => ?_
    refine k0 H1 _ ⟨hW.wi t1, ?_, by rw [z, hHs]; rfl⟩ (hS.put z oq (hD.2 (a - 4) _ ha0))
    rw [← wso_ist hW hk]
    refine hP.set hD ha0 ?_ oq
    show H1[adr G a]? = some (vp_cell _ _)
    rw [e1, vp_cell_i, vp_cell_i, arrV_store]
    congr 2
    funext q
    by_cases hq : q = j.toNatClampNeg
    · subst hq
      simp [updV, upd]
    · simp [updV, upd, hq]
  | aaload =>
    obtain ⟨q, hs1⟩ := gd_some hs
    clear hs
    obtain rfl : len = 1 := by simpa using q
    obtain ⟨j, S1, rfl, hs2⟩ := s_i_some hs1
    clear hs1
    obtain ⟨a, S2, rfl, hs3⟩ := s_a_some hs2
    clear hs2
    obtain ⟨hk, hs4⟩ := gd_some hs3
    clear hs3
    simp only [Bool.and_eq_true, decide_eq_true_eq] at hk
    obtain ⟨hk, hj⟩ := hk
    cases hs4
    have k0 := kk rfl H locs hR hS
    simp only [Nat.sub_self, Nat.add_zero] at k0
    obtain ⟨t1, t2⟩ := hW.tag (t := hp_k h a) rfl (by omega) (by omega)
    obtain ⟨t0, ht0⟩ := tys_at G (rar_ok hW hk)
    show W p l e R s m args below meth c H locs cells slots Q (F0 m pc ls (.int j :: vv G (.ref a) :: List.map (vv G) S2))
    rw [vv_ref G (by omega)]
    exact va_aldq hx hb hK hP (a - 4) t0 (rar_at hW hk) ht0 (inb_in hj) hd k0
  | aastore =>
    obtain ⟨q, hs1⟩ := gd_some hs
    clear hs
    obtain rfl : len = 1 := by simpa using q
    obtain ⟨v, S1, rfl, hs2⟩ := s_a_some hs1
    clear hs1
    obtain ⟨j, S2, rfl, hs3⟩ := s_i_some hs2
    clear hs2
    obtain ⟨a, S3, rfl, hs4⟩ := s_a_some hs3
    clear hs3
    obtain ⟨hk, hs5⟩ := gd_some hs4
    clear hs4
    simp only [Bool.and_eq_true, Bool.or_eq_true, decide_eq_true_eq, beq_iff_eq] at hk
    obtain ⟨⟨hk, hj⟩, hv⟩ := hk
    cases hs5
    obtain ⟨t1, t2⟩ := hW.tag (t := hp_k h a) rfl (by omega) (by omega)
    have ho := rar_ok hW hk
    obtain ⟨t0, ht0⟩ := tys_at G ho
    have ha0 := rar_at hW hk
    have k0 := kk rfl
    rw [hp_n_wa, hp_s_wa] at k0
    simp only [Nat.sub_self, Nat.add_zero] at k0
    have hin2 := inb_in hj
    have hlt : ix j < hp_l h a := Nat.not_le.mp fun q => hin2 (Or.inr q)
    show W p l e R s m args below meth c H locs cells slots Q (F0 m pc ls (vv G (.ref v) :: .int j :: vv G (.ref a) :: List.map (vv G) S'))
    rw [vv_ref G (a := a) (by omega)]
    have fin : ∀ (o : Option Nat) (H1 : Heap), o = rfo G v → H1[adr G a]? = some ((vp_cell (g_cR G (hp_k h a - 200)) (hp_l h a, .inr (.inr (.inr (.inr (fun j => rfo G (hp_a h a j))))))).setSlot (ix j) (va_rf o)) → H1.size = H.size → (∀ q, q ≠ adr G a → H1[q]? = H[q]?) → W p l e R s m args below meth c H1 (locs ++ [⟨adr G a, ix j⟩]) cells slots Q (F0 m (pc + 1) ls (List.map (vv G) S')) := by
      intro o H1 hov e1 z oq
      refine k0 H1 _ ⟨hW.wa, ?_, by rw [z, hHs]; rfl⟩ (hS.put z oq (hD.2 (a - 4) _ ha0))
      rw [← wso_ast (k := ix j) hW hk hov]
      refine hP.set hD ha0 ?_ oq
      show H1[adr G a]? = some (vp_cell _ _)
      rw [e1, vp_cell_q, vp_cell_q, arrV_store]
      congr 2
      funext q
      by_cases hq : q = j.toNatClampNeg
      · subst hq
        simp [updV, va_up]
      · simp [updV, va_up, hq]
    by_cases hv0 : v = 0
    · subst hv0
      show W p l e R s m args below meth c H locs cells slots Q (F0 m pc ls (.null :: .int j :: .ref (adr G a) :: List.map (vv G) S'))
      exact va_WaastN (C := cname (hp_k h a - 200)) hx hb (hP (a - 4) _ ha0) ((hK.2 t0 _ ht0).1 (hp_l h a) (fun j => va_rf (rfo G (hp_a h a j)))) (fun h => by cases h) (by show ¬ (j < 0 ∨ (arrV _ _ _).slots.size ≤ _); rw [arrV_size]; exact hin2) rfl rfl hd fun H1 e1 z oq => fin none H1 rfl e1 z oq
    · have hkv : hp_k h v + 199 = hp_k h a := by rcases hv with q | q; exact absurd q hv0; exact q
      have hci : hp_k h a - 200 < 12 := (lkO_ok ho).2
      have hkv2 : hp_k h v = (hp_k h a - 200) + 1 := by omega
      have hv1 := obj_at hW hkv2 hci
      rw [vv_ref G hv0]
      obtain ⟨r', hr', cellV, g1, g2, g3, -⟩ := hP (v - 4) _ hv1
      have hcls := (hK.1 (hp_k h a - 200) _ (cls_at hci)).2
      obtain ⟨kA, comp, k1, k2, k3, -⟩ := (hK.2 t0 _ ht0).2
      have hcomp : comp = (g_D G).1 (hp_k h a - 200) := Option.some.inj (k3.symm.trans hcls.1)
      subst hcomp
      obtain ⟨kC, hkC, -⟩ := hcls.2
      exact W.aast hx hb (hP (a - 4) _ ha0) (fun q h => by cases h) (fun h => by cases h) k1 k2 rfl hkC ⟨fun q => hin2 (Or.inl q), by show _ < (arrV _ _ _).slots.size; rw [arrV_size]; exact hlt⟩ g1 (fun q h => by rw [g3] at h; cases h) (by rw [g2]; exact hkC) (by rw [g2]; exact va_assign hcls) rfl rfl hd fun H1 e1 z oq => fin (some (adr G v)) H1 (by rw [show rfo G v = some (adr G v) from if_neg hv0]) e1 z oq
  | arraylength =>
    obtain ⟨q, hs1⟩ := gd_some hs
    clear hs
    obtain rfl : len = 1 := by simpa using q
    obtain ⟨a, S1, rfl, hs2⟩ := s_a_some hs1
    clear hs1
    obtain ⟨hk, hs3⟩ := gd_some hs2
    clear hs2
    have hk : 99 ≤ hp_k h a := of_decide_eq_true hk
    cases hs3
    have k0 := kk rfl H locs hR hS
    simp only [Nat.sub_self, Nat.add_zero] at k0
    show W p l e R s m args below meth c H locs cells slots Q (F0 m pc ls (vv G (.ref a) :: List.map (vv G) S1))
    by_cases h9 : hp_k h a = 99
    · have ha : 1 ≤ a ∧ a < 4 := by
        obtain ⟨_, v2, v3, v4, v5⟩ := hW
        rcases Nat.lt_or_ge a 4 with q | q
        · rcases Nat.eq_zero_or_pos a with q2 | q2
          · rw [q2, v4] at h9; cases h9
          · exact ⟨q2, q⟩
        · rcases Nat.lt_or_ge a (hp_n h) with q2 | q2
          · have := v2 a q q2
            rw [h9] at this
            exact absurd this (by decide)
          · rw [v3 a q2] at h9; cases h9
      obtain ⟨_, v6, v7⟩ := hW.2.2.2.2 a ha.1 ha.2
      rw [vv_ref G (a := a) (Nat.pos_iff_ne_zero.mp ha.1), show adr G a = g_xa G a from if_pos ha.2]
      obtain ⟨cell, c1, c2, c3, c4, c5, c6, c7⟩ := hEX a ha.1 ha.2
      rw [v6] at k0
      exact W.alen (n := Int32.ofNat (g_xl G a)) hx hb (by rw [hS.2.1 _ (Array.getElem?_eq_some_iff.mp c1).1 c7]; exact c1) c2 c5 rfl rfl hd k0
    · obtain ⟨t1, t2⟩ := hW.tag (t := hp_k h a) rfl (by omega) h9
      rw [vv_ref G (by omega)]
      by_cases h1 : hp_k h a = 100
      · exact va_alen hx hb hK hP (a - 4) 0 (arr_at hW h1) rfl rfl hd k0
      · have h2 : 200 ≤ hp_k h a := by
          have := hW.2.1 a t1 t2
          simp only [okt, Bool.or_eq_true, Bool.and_eq_true, decide_eq_true_eq, beq_iff_eq] at this
          rcases this with (q | q) | q
          · omega
          · omega
          · exact q.1
        obtain ⟨t0, ht0⟩ := tys_at G (rar_ok hW h2)
        exact va_alen hx hb hK hP (a - 4) t0 (rar_at hW h2) ht0 rfl hd k0
  | newarray t =>
    cases t with
    | int =>
      obtain ⟨q, hs1⟩ := gd_some hs
      clear hs
      obtain rfl : len = 2 := by simpa using q
      obtain ⟨j, S1, rfl, hs2⟩ := s_i_some hs1
      clear hs1
      obtain ⟨hk, hs3⟩ := gd_some hs2
      clear hs2
      simp only [Bool.and_eq_true, decide_eq_true_eq] at hk
      cases hs3
      rw [hp_n_mk] at hcells kk
      rw [hp_s_mk] at hslots kk
      rw [show hp_n h + 1 - hp_n h = 1 by omega] at hcells kk
      rw [show hp_s h + ix j - hp_s h = ix j by omega] at hslots kk
      refine va_newaK (N := ix j) hx hb (hts _ (gw (at_mem ((by have := ckX; simp only [Bool.and_eq_true] at this; exact this.1.1.1.1.1.1.1.1))) rfl)) rfl hd rfl (k2_nlt hk.1) rfl (by show ix j * 4 ≤ _; omega) hcells hslots hHs fun H1 cA e1 z1 o1 hAr hNm => ?_
      have hcA : cA = g_cI G := by
        have h5 : s.vm.findClass ("[" ++ FieldType.int.toString) = some (g_cI G) := (hK.2 0 _ rfl).2
        exact Option.some.inj (hNm.symm.trans h5)
      subst hcA
      have h4 := hW.1
      have hpe : pce G (hp_mk h 100 (ix j) (ix j)) (hp_n h) = .inl (g_cI G, ix j, .inl (fun _ => 0)) := by
        simp [pce, hp_k_mk, hp_l_mk, hp_i_mk]
      have k0 := kk rfl H1 locs ⟨hW.mk rfl, ?_, by rw [z1, hp_n_mk]; omega⟩ ⟨Nat.le_trans hS.1 (by omega), fun x h1 h2 => (o1 x (by have := hS.1; omega)).trans (hS.2.1 x h1 h2), hS.2.2⟩
      · rw [show g_sz G + (hp_n h - 4) = adr G (hp_n h) from (adr_ge G h4).symm]
        have e2 : vv G (.ref (hp_n h)) = .ref (adr G (hp_n h)) := vv_ref G (by omega)
        have k0 : W p l e R s m args below meth c H1 locs (cells + 1) (slots + ix j) Q (F0 m (pc + 2) ls (vv G (.ref (hp_n h)) :: List.map (vv G) S1)) := k0
        rw [e2] at k0
        exact k0
      · rw [wso_mk hW hpe]
        refine (hP.kept (fun k x hx => o1 x.1 (by have := (hP k x hx).lt; omega))).app (fun k x hx => ?_)
        have hz : k < 1 := (List.getElem?_eq_some_iff.mp hx).1
        rw [show k = 0 by omega] at hx
        cases hx
        show H1[g_sz G + (hp_n h - 4)]? = some (vp_cell _ _)
        rw [e1, vp_cell_i]
        rfl
    | _ => cases hs
  | anewarray idx =>
    obtain ⟨q, hs1⟩ := gd_some hs
    clear hs
    obtain rfl : len = 3 := by simpa using q
    obtain ⟨ci, hf, hs2⟩ := Option.bind_eq_some_iff.mp hs1
    clear hs1
    obtain ⟨j, S1, rfl, hs3⟩ := s_i_some hs2
    clear hs2
    obtain ⟨hk, hs4⟩ := gd_some hs3
    clear hs3
    simp only [Bool.and_eq_true, decide_eq_true_eq] at hk
    obtain ⟨⟨ho, hk1⟩, hk2⟩ := hk
    cases hs4
    obtain ⟨w1, w2⟩ := lkK_ok hcl hf
    rw [hp_n_mk] at hcells kk
    rw [hp_s_mk] at hslots kk
    rw [show hp_n h + 1 - hp_n h = 1 by omega] at hcells kk
    rw [show hp_s h + ix j - hp_s h = ix j by omega] at hslots kk
    obtain ⟨t0, ht0⟩ := tys_at G ho
    have hao : va_AO (cname ci) s := by
      obtain ⟨x, hx1, hx2⟩ := List.any_eq_true.mp ho
      have e1 : x.1 = ci := by simpa using hx2
      rw [← e1]
      exact hAO x hx1
    refine W.anew hx hb hown (hts _ (gw w1 rfl)) (va_AO.use hao) rfl hd rfl (k2_nlt hk1) (by show ix j * 4 ≤ _; omega) hcells hslots fun cA kA comp f1 f2 f3 f4 => ?_
    obtain ⟨kA', comp', k1, k2, k3, k4⟩ := (hK.2 t0 _ ht0).2
    have hcA : cA = g_cR G ci := Option.some.inj (f1.symm.trans k4)
    subst hcA
    generalize hH1 : H.push ({ cls := g_cR G ci, slots := Array.replicate (ix j) .null, vm := .none } : Cell) = H1
    have z1 : H1.size = H.size + 1 := by rw [← hH1, Array.size_push]
    have e1 : H1[H.size]? = some (arrV (g_cR G ci) (ix j) (fun _ => .null)) := by rw [← hH1, Array.getElem?_push_size, ← arrV_new]
    have o1 : ∀ q : Nat, q < H.size → H1[q]? = H[q]? := fun q hq => by rw [← hH1, Array.getElem?_push, if_neg (Nat.ne_of_lt hq)]
    have h4 := hW.1
    have hpe : pce G (hp_mk h (200 + ci) (ix j) (ix j)) (hp_n h) = .inl (g_cR G ci, ix j, .inr (.inr (.inr (.inr (fun _ => none))))) := by
      simp [pce, hp_k_mk, hp_l_mk, hp_a_mk, rfo, show ¬ 200 + ci = 100 by omega, show 200 + ci - 200 = ci by omega]
    have k0 := kk rfl H1 locs ⟨hW.mk (by simp [okt, show 200 + ci - 200 = ci by omega, ho]), ?_, by rw [z1, hHs, hp_n_mk]; omega⟩ ⟨Nat.le_trans hS.1 (by omega), fun x h1 h2 => (o1 x (by have := hS.1; omega)).trans (hS.2.1 x h1 h2), hS.2.2⟩
    · rw [hHs, show g_sz G + (hp_n h - 4) = adr G (hp_n h) from (adr_ge G h4).symm]
      have e2 : vv G (.ref (hp_n h)) = .ref (adr G (hp_n h)) := vv_ref G (by omega)
      have k0 : W p l e R s m args below meth c H1 locs (cells + 1) (slots + ix j) Q (F0 m (pc + 3) ls (vv G (.ref (hp_n h)) :: List.map (vv G) S1)) := k0
      rw [e2] at k0
      exact k0
    · rw [wso_mk hW hpe]
      refine (hP.kept (fun k x hx => o1 x.1 (by have := (hP k x hx).lt; omega))).app (fun k x hx => ?_)
      have hz : k < 1 := (List.getElem?_eq_some_iff.mp hx).1
      rw [show k = 0 by omega] at hx
      cases hx
      show H1[g_sz G + (hp_n h - 4)]? = some (vp_cell _ _)
      rw [← hHs, e1, vp_cell_q]
      rfl
  | new idx =>
    obtain ⟨q, hs1⟩ := gd_some hs
    clear hs
    obtain rfl : len = 3 := by simpa using q
    obtain ⟨ci, hf, hs2⟩ := Option.bind_eq_some_iff.mp hs1
    clear hs1
    cases hs2
    obtain ⟨w1, w2⟩ := lkK_ok hcl hf
    rw [hp_n_mk] at hcells kk
    rw [hp_s_mk] at hslots kk
    rw [show hp_n h + 1 - hp_n h = 1 by omega] at hcells kk
    rw [show hp_s h + fnum ci - hp_s h = fnum ci by omega] at hslots kk
    have hc0 := cls_at w2
    have hKn := hK.1 ci _ hc0
    refine W.newcK hx hb hown (hts _ (gw w1 rfl)) (hts _ (w_inst w2)) (hts _ (w_init (by omega))) rfl hd hcells hslots hKn.2.1 hHs fun H1 kC hkC e1 z1 o1 => ?_
    have h4 := hW.1
    have hpe : pce G (hp_mk h (ci + 1) 0 (fnum ci)) (hp_n h) = .inr (ci, flds G (hp_mk h (ci + 1) 0 (fnum ci)) ci (hp_n h)) := by
      simp [pce, hp_k_mk, show ¬ ci + 1 = 100 by omega, show ¬ 200 ≤ ci + 1 by omega]
    have k0 := kk rfl H1 locs ⟨hW.mk (by simp [okt]; omega), ?_, by rw [z1, hp_n_mk]; omega⟩ ⟨Nat.le_trans hS.1 (by omega), fun x h1 h2 => (o1 x (by have := hS.1; omega)).trans (hS.2.1 x h1 h2), hS.2.2⟩
    · rw [show g_sz G + (hp_n h - 4) = adr G (hp_n h) from (adr_ge G h4).symm]
      have e2 : vv G (.ref (hp_n h)) = .ref (adr G (hp_n h)) := vv_ref G (by omega)
      have k0 : W p l e R s m args below meth c H1 locs (cells + 1) (slots + fnum ci) Q (F0 m (pc + 3) ls (vv G (.ref (hp_n h)) :: List.map (vv G) S)) := k0
      rw [e2] at k0
      exact k0
    · rw [wso_mk hW hpe]
      refine (hP.kept (fun k x hx => o1 x.1 (by have := (hP k x hx).lt; omega))).app (fun k x hx => ?_)
      have hz : k < 1 := (List.getElem?_eq_some_iff.mp hx).1
      rw [show k = 0 by omega] at hx
      cases hx
      refine ⟨_, hc0, (u_born (fty ci) hts (u_in w2) hKn hkC e1 (ty_all ci w2)).to (fun k hk => ?_)⟩
      show _ = vp_V (flds G (hp_mk h (ci + 1) 0 (fnum ci)) ci (hp_n h)) k
      have := flds_at G (hp_mk h (ci + 1) 0 (fnum ci)) (hp_n h) hk
      simp only [vp_V, List.getD_eq_getElem?_getD, this, Option.getD_some]
      have hok := List.all_eq_true.mp (all_rg ckT_ok w2) k (List.mem_range.mpr hk)
      generalize fty ci k = ty at hok
      cases ty <;> first | (cases hok; done) | simp [fval, defaultValue, hp_i_mk, hp_a_mk, vv, rfo, va_rf]
  | invokespecial idx =>
    obtain ⟨q, hs1⟩ := gd_some hs
    clear hs
    obtain rfl : len = 3 := by simpa using q
    obtain ⟨⟨t, nest⟩, hf, hs2⟩ := Option.bind_eq_some_iff.mp hs1
    clear hs1
    obtain ⟨ht, hs3⟩ := gd_some hs2
    clear hs2
    simp only [Bool.and_eq_true, beq_iff_eq, Bool.not_eq_true'] at ht
    obtain ⟨rfl, rfl⟩ := ht
    obtain ⟨a, S1, rfl, hs4⟩ := s_a_some hs3
    clear hs3
    obtain ⟨hk, hs5⟩ := gd_some hs4
    clear hs4
    simp only [Bool.and_eq_true, Bool.not_eq_true', decide_eq_true_eq, beq_eq_false_iff_ne, ne_eq] at hk
    cases hs5
    have k0 := kk rfl H locs hR hS
    simp only [Nat.sub_self, Nat.add_zero] at k0
    have hX := ckX
    simp only [Bool.and_eq_true] at hX
    have hcs : (List.map (fun v => v.category) (List.map (vv G) S')).sum ≤ 8 := by
      rw [List.map_map]
      have : (fun v : Value => v.category) ∘ vv G = Value.category := funext fun v => vv_cat G v
      rw [this]
      exact hk.2
    show W p l e R s m args below meth c H locs cells slots Q (F0 m pc ls (vv G (.ref a) :: List.map (vv G) S'))
    rw [vv_ref G hk.1]
    refine W.objInit hx hb hown (hts _ (gw (lkM_ok hcl hf).1 rfl)) (hts _ (gw (at_mem hX.1.2) rfl)) (hts _ (gw (at_mem hX.2) rfl)) rfl (by rw [hml]; exact hl.1) rfl hd hfr ?_ k0
    show 2 * 0 + _ + 12 ≤ _
    omega
  | invokestatic idx =>
    obtain ⟨q, hs1⟩ := gd_some hs
    clear hs
    obtain rfl : len = 3 := by simpa using q
    obtain ⟨⟨t, nest⟩, hf, hs2⟩ := Option.bind_eq_some_iff.mp hs1
    clear hs1
    have hX := ckX
    simp only [Bool.and_eq_true] at hX
    have hcs : ∀ S1 : List Value, (List.map Value.category S1).sum ≤ 8 → (List.map (fun v => v.category) (List.map (vv G) S1)).sum ≤ 8 := by
      intro S1 h8
      rw [List.map_map]
      have : (fun v : Value => v.category) ∘ vv G = Value.category := funext fun v => vv_cat G v
      rw [this]
      exact h8
    cases h91 : (t == 9001) with
    | true =>
      simp only [h91] at hs2
      obtain ⟨ht, hs3⟩ := gd_some hs2
      clear hs2
      have h91 : t = 9001 := by simpa using h91
      subst h91
      have ht : nest = false := by simpa using ht
      subst ht
      obtain ⟨y, S1, rfl, hs4⟩ := s_i_some hs3
      clear hs3
      obtain ⟨x, S2, rfl, hs5⟩ := s_i_some hs4
      clear hs4
      obtain ⟨hk, hs6⟩ := gd_some hs5
      clear hs5
      cases hs6
      have k0 := kk rfl H locs hR hS
      simp only [Nat.sub_self, Nat.add_zero] at k0
      have h8 := hcs S2 (of_decide_eq_true hk)
      exact va_mmax hx hb (by rw [hml]; exact hl.1.symm) hown (hts _ (gw (lkM_ok hcl hf).1 rfl)) (hts _ (gw (at_mem hX.1.1.1.1.1.1.1.2) rfl)) (hts _ (gw (at_mem hX.1.1.1.1.1.1.2) rfl)) (hts _ (gw (at_mem hX.1.1.1.1.1.2) rfl)) hfr (by omega) (by omega) (by omega) hd k0
    | false =>
      simp only [h91] at hs2
      obtain ⟨ht, hs7⟩ := gd_some hs2
      clear hs2
      simp only [Bool.and_eq_true, beq_iff_eq, Bool.not_eq_true'] at ht
      obtain ⟨rfl, rfl⟩ := ht
      obtain ⟨n, S1, rfl, hs8⟩ := s_i_some hs7
      clear hs7
      obtain ⟨dp, S2, rfl, hs9⟩ := s_i_some hs8
      clear hs8
      obtain ⟨b, S3, rfl, hs10⟩ := s_a_some hs9
      clear hs9
      obtain ⟨sp, S4, rfl, hs11⟩ := s_i_some hs10
      clear hs10
      obtain ⟨a, S5, rfl, hs12⟩ := s_a_some hs11
      clear hs11
      obtain ⟨hk, hs13⟩ := gd_some hs12
      clear hs12
      simp only [Bool.and_eq_true, beq_iff_eq, decide_eq_true_eq] at hk
      obtain ⟨⟨⟨⟨⟨⟨⟨ha, hb2⟩, c1⟩, c2⟩, c3⟩, c4⟩, c5⟩, c6⟩ := hk
      cases hs13
      obtain ⟨t1, t2⟩ := hW.tag ha (by omega) (by omega)
      obtain ⟨t3, t4⟩ := hW.tag hb2 (by omega) (by omega)
      have k0 := kk rfl
      rw [hp_n_cp, hp_s_cp] at k0
      simp only [Nat.sub_self, Nat.add_zero] at k0
      have h8 := hcs S' c6
      obtain ⟨e1, e2⟩ := wso_cp (a := a) (sp := ix sp) (dp := ix dp) (n := ix n) hW hb2
      show W p l e R s m args below meth c H locs cells slots Q (F0 m pc ls (.int n :: .int dp :: vv G (.ref b) :: .int sp :: vv G (.ref a) :: List.map (vv G) S'))
      rw [vv_ref G (a := b) (by omega), vv_ref G (a := a) (by omega)]
      have hP0 := hP (b - 4) _ (arr_at hW hb2)
      refine r_copy hx hb (by rw [hml]; exact hl.1.symm) hown (hts _ (gw (lkM_ok hcl hf).1 rfl)) (hts _ (gw (at_mem hX.1.1.1.1.2) rfl)) (hts _ (gw (at_mem hX.1.1.1.2) rfl)) (hts _ (gw (at_mem hX.1.1.2) rfl)) (hK.2 0 _ rfl).1 (f := fun j => hp_i h a j) (g := fun j => hp_i h b j) (hP (a - 4) _ (arr_at hW ha)) hP0 c1 c2 c3 c4 c5 hfr (by omega) hd (fun H1 L2 hL2 hz1 e3 oq => ?_)
      refine k0 H1 _ ⟨e2, ?_, by rw [hz1, hHs]; rfl⟩ ⟨by rw [hz1]; exact hS.1, fun q g1 g2 => ?_, fun q hq => ?_⟩
      · rw [← e1]
        exact hP.set hD (arr_at hW hb2) e3 oq
      · rw [oq q (fun z => g2 (by rw [z]; exact hD.2 (b - 4) _ (arr_at hW hb2)))]
        exact hS.2.1 q g1 g2
      · rcases List.mem_append.mp hq with z | z
        · exact hS.2.2 q z
        · rw [hL2 q z]
          exact hD.2 (b - 4) _ (arr_at hW hb2)
  | _ => cases hni
end Snd
