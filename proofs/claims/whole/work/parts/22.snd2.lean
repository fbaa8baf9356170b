/-! SOUNDNESS 2: the heap -/
/-- where the made cells begin; where the arrays of before lie; the classes; the class of int arrays, of arrays of references; what the arrays of before hold -/
abbrev SG : Type := Nat × (Nat → Nat) × va_G × ClassId × (Nat → ClassId) × (Nat → Nat) × (Nat → Nat → Int32)
def g_sz (G : SG) : Nat := G.1
def g_xa (G : SG) : Nat → Nat := G.2.1
def g_D (G : SG) : va_G := G.2.2.1
def g_cI (G : SG) : ClassId := G.2.2.2.1
def g_cR (G : SG) : Nat → ClassId := G.2.2.2.2.1
def g_xl (G : SG) : Nat → Nat := G.2.2.2.2.2.1
def g_xi (G : SG) : Nat → Nat → Int32 := G.2.2.2.2.2.2
def adr (G : SG) (a : Nat) : Nat := if a < 4 then g_xa G a else g_sz G + (a - 4)
def rfo (G : SG) (a : Nat) : Option Nat := if a = 0 then none else some (adr G a)
def vv (G : SG) (v : Value) : Value := match v with
  | .ref a => va_rf (rfo G a)
  | v => v
def cls : List vw_C := (List.range 12).map fun c => (cname c, ftab c, fnum c)
def tys (G : SG) : List (ClassId × FieldType) := (g_cI G, .int) :: tbO.map (fun e => (g_cR G e.1, .object (cname e.1)))
def flds (G : SG) (h : HP) (ci a : Nat) : List Value := (List.range (fnum ci)).map fun k => vv G (fval (fty ci k) h a k)
def pce (G : SG) (h : HP) (a : Nat) : va_E := if hp_k h a = 100 then .inl (g_cI G, hp_l h a, .inl (fun j => hp_i h a j)) else if 200 ≤ hp_k h a then .inl (g_cR G (hp_k h a - 200), hp_l h a, .inr (.inr (.inr (.inr (fun j => rfo G (hp_a h a j)))))) else .inr (hp_k h a - 1, flds G h (hp_k h a - 1) a)
def wso (G : SG) (h : HP) : va_W := (List.range (hp_n h - 4)).map fun i => (g_sz G + i, pce G h (i + 4))
def okt (t : Nat) : Bool := (decide (1 ≤ t) && decide (t ≤ 12)) || t == 100 || (decide (200 ≤ t) && lkO (t - 200))
def WF (G : SG) (h : HP) : Prop := 4 ≤ hp_n h ∧ (∀ a, 4 ≤ a → a < hp_n h → okt (hp_k h a) = true) ∧ (∀ a, hp_n h ≤ a → hp_k h a = 0) ∧ hp_k h 0 = 0 ∧ ∀ a, 1 ≤ a → a < 4 → hp_k h a = 99 ∧ hp_l h a = g_xl G a ∧ ∀ j, hp_i h a j = g_xi G a j
theorem cls_at {c : Nat} (hc : c < 12) : cls[c]? = some (cname c, ftab c, fnum c) := by simp [cls, List.getElem?_range hc]
theorem tys_at (G : SG) {ci : Nat} (h : lkO ci = true) : ∃ t0 : Nat, (tys G)[t0]? = some (g_cR G ci, FieldType.object (cname ci)) := by
  obtain ⟨e, he, h1⟩ := List.any_eq_true.mp h
  have e1 : e.1 = ci := by simpa using h1
  obtain ⟨i, hi⟩ := List.getElem?_of_mem he
  exact ⟨i + 1, by simp [tys, hi, e1]⟩
theorem WF.tag {G : SG} {h : HP} (w : WF G h) {a t : Nat} (hk : hp_k h a = t) (h0 : t ≠ 0) (h9 : t ≠ 99) : 4 ≤ a ∧ a < hp_n h := by
  obtain ⟨_, _, w3, w4, w5⟩ := w
  refine ⟨?_, ?_⟩
  · rcases Nat.lt_or_ge a 4 with q | q
    · rcases Nat.eq_zero_or_pos a with rfl | q2
      · exact absurd (hk.symm.trans w4) h0
      · exact absurd (hk.symm.trans (w5 a q2 q).1) h9
    · exact q
  · rcases Nat.lt_or_ge a (hp_n h) with q | q
    · exact q
    · exact absurd (hk.symm.trans (w3 a q)) h0
theorem wso_get (G : SG) (h : HP) (i : Nat) (hi : i < hp_n h - 4) : (wso G h)[i]? = some (g_sz G + i, pce G h (i + 4)) := by simp [wso, List.getElem?_range hi]
theorem wso_len (G : SG) (h : HP) : (wso G h).length = hp_n h - 4 := by simp [wso]
theorem adr_ge (G : SG) {a : Nat} (ha : 4 ≤ a) : adr G a = g_sz G + (a - 4) := if_neg (by omega)
theorem wso_at {G : SG} {h : HP} {a : Nat} (h1 : 4 ≤ a) (h2 : a < hp_n h) : (wso G h)[a - 4]? = some (adr G a, pce G h a) := by
  rw [wso_get G h (a - 4) (by omega), adr_ge G h1, show a - 4 + 4 = a by omega]
theorem obj_at {G : SG} {h : HP} (w : WF G h) {a ci : Nat} (hk : hp_k h a = ci + 1) (hc : ci < 12) : (wso G h)[a - 4]? = some (adr G a, .inr (ci, flds G h ci a)) := by
  obtain ⟨h1, h2⟩ := w.tag hk (by omega) (by omega)
  rw [wso_at h1 h2]
  simp [pce, hk, show ¬ ci + 1 = 100 by omega, show ¬ 200 ≤ ci + 1 by omega]
theorem arr_at {G : SG} {h : HP} (w : WF G h) {a : Nat} (hk : hp_k h a = 100) : (wso G h)[a - 4]? = some (adr G a, .inl (g_cI G, hp_l h a, .inl (fun j => hp_i h a j))) := by
  obtain ⟨h1, h2⟩ := w.tag hk (by omega) (by omega)
  rw [wso_at h1 h2]
  simp [pce, hk]
theorem rar_at {G : SG} {h : HP} (w : WF G h) {a : Nat} (hk : 200 ≤ hp_k h a) : (wso G h)[a - 4]? = some (adr G a, .inl (g_cR G (hp_k h a - 200), hp_l h a, .inr (.inr (.inr (.inr (fun j => rfo G (hp_a h a j))))))) := by
  obtain ⟨h1, h2⟩ := w.tag (t := hp_k h a) rfl (by omega) (by omega)
  rw [wso_at h1 h2]
  simp [pce, hk, show ¬ hp_k h a = 100 by omega]
theorem rar_ok {G : SG} {h : HP} (w : WF G h) {a : Nat} (hk : 200 ≤ hp_k h a) : lkO (hp_k h a - 200) = true := by
  obtain ⟨h1, h2⟩ := w.tag (t := hp_k h a) rfl (by omega) (by omega)
  have := w.2.1 a h1 h2
  simp only [okt, Bool.or_eq_true, Bool.and_eq_true, decide_eq_true_eq, beq_iff_eq] at this
  rcases this with (h3 | h3) | h3
  · omega
  · omega
  · exact h3.2
theorem wso_set {G : SG} {h h' : HP} {a : Nat} {c : va_E} (hn : hp_n h' = hp_n h) (ha : 4 ≤ a) (hc : pce G h' a = c) (ho : ∀ b, b ≠ a → pce G h' b = pce G h b) : (wso G h).set (a - 4) (adr G a, c) = wso G h' := by
  refine List.ext_getElem? fun i => ?_
  by_cases hi : i < hp_n h - 4
  · rw [wso_get G h' i (by rw [hn]; exact hi)]
    by_cases e : a - 4 = i
    · subst e
      rw [List.getElem?_set_self (by rw [wso_len]; exact hi), adr_ge G ha, ← hc, show a - 4 + 4 = a by omega]
    · rw [List.getElem?_set_ne e, wso_get G h i hi, ho (i + 4) (by omega)]
  · rw [List.getElem?_eq_none (by rw [List.length_set, wso_len]; omega), List.getElem?_eq_none (by rw [wso_len, hn]; omega)]
theorem pce_wi {G : SG} {h : HP} {a k b : Nat} {x : Int32} (hb : b ≠ a) : pce G (hp_wi h a k x) b = pce G h b := by
  have e : ∀ j, hp_i (hp_wi h a k x) b j = hp_i h b j := fun j => by rw [hp_i_wi, if_neg (fun q => hb q.1)]
  have f : flds G (hp_wi h a k x) (hp_k h b - 1) b = flds G h (hp_k h b - 1) b := by
    unfold flds
    refine List.map_congr_left fun j _ => ?_
    unfold fval
    split <;> simp [e, hp_a_wi]
  simp only [pce, hp_k_wi, hp_l_wi, hp_a_wi, e, f]
theorem pce_wa {G : SG} {h : HP} {a k b v : Nat} (hb : b ≠ a) : pce G (hp_wa h a k v) b = pce G h b := by
  have e : ∀ j, hp_a (hp_wa h a k v) b j = hp_a h b j := fun j => by rw [hp_a_wa, if_neg (fun q => hb q.1)]
  have f : flds G (hp_wa h a k v) (hp_k h b - 1) b = flds G h (hp_k h b - 1) b := by
    unfold flds
    refine List.map_congr_left fun j _ => ?_
    unfold fval
    split <;> simp [e, hp_i_wa]
  simp only [pce, hp_k_wa, hp_l_wa, hp_i_wa, e, f]
theorem WF.wi {G : SG} {h : HP} (w : WF G h) {a k : Nat} {x : Int32} (ha : 4 ≤ a) : WF G (hp_wi h a k x) := by
  obtain ⟨w1, w2, w3, w4, w5⟩ := w
  refine ⟨w1, w2, w3, w4, fun b h1 h2 => ⟨(w5 b h1 h2).1, (w5 b h1 h2).2.1, fun j => ?_⟩⟩
  rw [hp_i_wi, if_neg (fun q => by omega)]
  exact (w5 b h1 h2).2.2 j
theorem WF.wa {G : SG} {h : HP} (w : WF G h) {a k v : Nat} : WF G (hp_wa h a k v) := w
theorem flds_len (G : SG) (h : HP) (ci a : Nat) : (flds G h ci a).length = fnum ci := by simp [flds]
theorem flds_at (G : SG) (h : HP) {ci k : Nat} (a : Nat) (hk : k < fnum ci) : (flds G h ci a)[k]? = some (vv G (fval (fty ci k) h a k)) := by simp [flds, List.getElem?_range hk]
theorem flds_set {G : SG} {h h' : HP} {ci a k : Nat} {v : Value} (hk : k < fnum ci) (hv : vv G (fval (fty ci k) h' a k) = v) (ho : ∀ j, j ≠ k → fval (fty ci j) h' a j = fval (fty ci j) h a j) : flds G h' ci a = (flds G h ci a).set k v := by
  refine List.ext_getElem? fun i => ?_
  by_cases hi : i < fnum ci
  · rw [flds_at G h' a hi]
    by_cases e : k = i
    · subst e
      rw [List.getElem?_set_self (by rw [flds_len]; exact hi), hv]
    · rw [List.getElem?_set_ne e, flds_at G h a hi, ho i (fun q => e q.symm)]
  · rw [List.getElem?_eq_none (by rw [flds_len]; omega), List.getElem?_eq_none (by rw [List.length_set, flds_len]; omega)]
theorem wso_D (G : SG) (h : HP) : va_D (fun q => g_sz G ≤ q) (wso G h) := by
  refine ⟨fun i j p q hp hq e => ?_, fun k q hq => ?_⟩
  · have hi : i < hp_n h - 4 := by rw [← wso_len G h]; exact (List.getElem?_eq_some_iff.mp hp).1
    have hj : j < hp_n h - 4 := by rw [← wso_len G h]; exact (List.getElem?_eq_some_iff.mp hq).1
    rw [wso_get G h i hi] at hp
    rw [wso_get G h j hj] at hq
    cases hp
    cases hq
    simp only at e
    omega
  · have hk : k < hp_n h - 4 := by rw [← wso_len G h]; exact (List.getElem?_eq_some_iff.mp hq).1
    rw [wso_get G h k hk] at hq
    cases hq
    exact Nat.le_add_right _ _
/-- a field is written: the heap's picture behind it -/
theorem wso_putf {G : SG} {h h' : HP} (w : WF G h) {a ci k : Nat} {v : Value} (hk : hp_k h a = ci + 1) (hc : ci < 12) (hkn : k < fnum ci) (hp : fput (fty ci k) h a k v = some h') : (wso G h).set (a - 4) (adr G a, .inr (ci, (flds G h ci a).set k (vv G v))) = wso G h' ∧ WF G h' ∧ hp_n h' = hp_n h ∧ hp_s h' = hp_s h := by
  obtain ⟨h1, h2⟩ := w.tag hk (by omega) (by omega)
  have key : ∀ h'' : HP, hp_n h'' = hp_n h → hp_k h'' = hp_k h → (∀ b, b ≠ a → pce G h'' b = pce G h b) → vv G (fval (fty ci k) h'' a k) = vv G v → (∀ j, j ≠ k → fval (fty ci j) h'' a j = fval (fty ci j) h a j) → (wso G h).set (a - 4) (adr G a, .inr (ci, (flds G h ci a).set k (vv G v))) = wso G h'' := by
    intro h'' e1 e2 e3 e4 e5
    refine wso_set e1 h1 ?_ e3
    rw [← flds_set (h' := h'') hkn e4 e5]
    simp [pce, e2, hk, show ¬ ci + 1 = 100 by omega, show ¬ 200 ≤ ci + 1 by omega]
  have ki : ∀ x : Int32, (fty ci k = .int ∨ fty ci k = .boolean) → v = .int x → h' = hp_wi h a k x → (wso G h).set (a - 4) (adr G a, .inr (ci, (flds G h ci a).set k (vv G v))) = wso G h' ∧ WF G h' ∧ hp_n h' = hp_n h ∧ hp_s h' = hp_s h := by
    intro x ht hv he
    subst hv
    subst he
    refine ⟨key _ rfl rfl (fun b hb => pce_wi hb) ?_ (fun j hj => ?_), w.wi h1, rfl, rfl⟩
    · rcases ht with ht | ht <;> simp [ht, fval, hp_i_wi, vv]
    · unfold fval
      split <;> simp [hp_i_wi, hp_a_wi, hj]
  have ka : ∀ b : Nat, ((∃ n, fty ci k = .object n) ∨ ∃ t, fty ci k = .array t) → v = .ref b → h' = hp_wa h a k b → (wso G h).set (a - 4) (adr G a, .inr (ci, (flds G h ci a).set k (vv G v))) = wso G h' ∧ WF G h' ∧ hp_n h' = hp_n h ∧ hp_s h' = hp_s h := by
    intro x ht hv he
    subst hv
    subst he
    refine ⟨key _ rfl rfl (fun b hb => pce_wa hb) ?_ (fun j hj => ?_), w.wa, rfl, rfl⟩
    · rcases ht with ⟨n, ht⟩ | ⟨n, ht⟩ <;> simp [ht, fval, hp_a_wa, vv]
    · unfold fval
      split <;> simp [hp_i_wa, hp_a_wa, hj]
  unfold fput at hp
  split at hp
  · rename_i x e1
    exact ki x (Or.inl e1) rfl (Option.some.inj hp).symm
  · rename_i x e1
    obtain ⟨-, hp⟩ := gd_some hp
    exact ki x (Or.inr e1) rfl (Option.some.inj hp).symm
  · rename_i n b e1
    exact ka b (Or.inl ⟨_, e1⟩) rfl (Option.some.inj hp).symm
  · rename_i n b e1
    exact ka b (Or.inr ⟨_, e1⟩) rfl (Option.some.inj hp).symm
  · cases hp
theorem wso_ist {G : SG} {h : HP} (w : WF G h) {a k : Nat} {x : Int32} (hk : hp_k h a = 100) : (wso G h).set (a - 4) (adr G a, .inl (g_cI G, hp_l h a, .inl (upd (fun j => hp_i h a j) k x))) = wso G (hp_wi h a k x) := by
  obtain ⟨h1, h2⟩ := w.tag hk (by omega) (by omega)
  refine wso_set rfl h1 ?_ (fun b hb => pce_wi hb)
  have e : (fun j => hp_i (hp_wi h a k x) a j) = upd (fun j => hp_i h a j) k x := by
    funext j
    simp [hp_i_wi, upd]
  simp [pce, hp_k_wi, hp_l_wi, hk, e]
theorem wso_ast {G : SG} {h : HP} (w : WF G h) {a k v : Nat} {o : Option Nat} (hk : 200 ≤ hp_k h a) (ho : o = rfo G v) : (wso G h).set (a - 4) (adr G a, .inl (g_cR G (hp_k h a - 200), hp_l h a, .inr (.inr (.inr (.inr (va_up (fun j => rfo G (hp_a h a j)) k o)))))) = wso G (hp_wa h a k v) := by
  obtain ⟨h1, h2⟩ := w.tag (t := hp_k h a) rfl (by omega) (by omega)
  refine wso_set rfl h1 ?_ (fun b hb => pce_wa hb)
  have e : (fun j => rfo G (hp_a (hp_wa h a k v) a j)) = va_up (fun j => rfo G (hp_a h a j)) k o := by
    funext j
    by_cases hj : j = k <;> simp [hp_a_wa, va_up, hj, ho]
  simp [pce, hp_k_wa, hp_l_wa, hk, e, show ¬ hp_k h a = 100 by omega]
theorem wso_cp {G : SG} {h : HP} (w : WF G h) {a b sp dp n : Nat} (hb : hp_k h b = 100) : (wso G h).set (b - 4) (adr G b, .inl (g_cI G, hp_l h b, .inl (va_cpy (fun j => hp_i h a j) (fun j => hp_i h b j) sp dp n))) = wso G (hp_cp h a sp b dp n) ∧ WF G (hp_cp h a sp b dp n) := by
  obtain ⟨h1, h2⟩ := w.tag hb (by omega) (by omega)
  have e0 : ∀ c j, c ≠ b → hp_i (hp_cp h a sp b dp n) c j = hp_i h c j := fun c j hc => by rw [hp_i_cp, if_neg (fun q => hc q.1)]
  refine ⟨wso_set rfl h1 ?_ (fun c hc => ?_), ?_⟩
  · have e : (fun j => hp_i (hp_cp h a sp b dp n) b j) = va_cpy (fun j => hp_i h a j) (fun j => hp_i h b j) sp dp n := by
      funext j
      simp [hp_i_cp, va_cpy]
    simp [pce, hp_k_cp, hp_l_cp, hb, e]
  · have f : flds G (hp_cp h a sp b dp n) (hp_k h c - 1) c = flds G h (hp_k h c - 1) c := by
      unfold flds
      refine List.map_congr_left fun j _ => ?_
      unfold fval
      split <;> simp [e0 _ _ hc, hp_a_cp]
    simp only [pce, hp_k_cp, hp_l_cp, hp_a_cp, f, e0 _ _ hc]
  · obtain ⟨w1, w2, w3, w4, w5⟩ := w
    refine ⟨w1, w2, w3, w4, fun c g1 g2 => ⟨(w5 c g1 g2).1, (w5 c g1 g2).2.1, fun j => ?_⟩⟩
    rw [e0 c j (by omega)]
    exact (w5 c g1 g2).2.2 j
/-- a cell is made -/
theorem pce_mk {G : SG} {h : HP} {t n s b : Nat} (hb : b ≠ hp_n h) : pce G (hp_mk h t n s) b = pce G h b := by
  have e : ∀ j, hp_i (hp_mk h t n s) b j = hp_i h b j := fun j => by rw [hp_i_mk, if_neg hb]
  have ea : ∀ j, hp_a (hp_mk h t n s) b j = hp_a h b j := fun j => by rw [hp_a_mk, if_neg hb]
  have f : flds G (hp_mk h t n s) (hp_k h b - 1) b = flds G h (hp_k h b - 1) b := by
    unfold flds
    refine List.map_congr_left fun j _ => ?_
    unfold fval
    split <;> simp [e, ea]
  simp only [pce, hp_k_mk, hp_l_mk, if_neg hb, e, ea, f]
theorem wso_mk {G : SG} {h : HP} (w : WF G h) {t n s : Nat} {c : va_E} (hc : pce G (hp_mk h t n s) (hp_n h) = c) : wso G (hp_mk h t n s) = wso G h ++ [(g_sz G + (hp_n h - 4), c)] := by
  have h4 := w.1
  unfold wso
  rw [hp_n_mk, show hp_n h + 1 - 4 = (hp_n h - 4) + 1 by omega, List.range_succ, List.map_append]
  congr 1
  · refine List.map_congr_left fun i hi => ?_
    have := List.mem_range.mp hi
    rw [pce_mk (by omega)]
  · simp [show hp_n h - 4 + 4 = hp_n h by omega, hc]
theorem WF.mk {G : SG} {h : HP} (w : WF G h) {t n s : Nat} (ht : okt t = true) : WF G (hp_mk h t n s) := by
  obtain ⟨w1, w2, w3, w4, w5⟩ := w
  refine ⟨by rw [hp_n_mk]; omega, fun a h1 h2 => ?_, fun a h1 => ?_, ?_, fun a h1 h2 => ?_⟩
  · rw [hp_n_mk] at h2
    rw [hp_k_mk]
    split
    · exact ht
    · exact w2 a h1 (by omega)
  · rw [hp_n_mk] at h1
    rw [hp_k_mk, if_neg (by omega)]
    exact w3 a (by omega)
  · rw [hp_k_mk, if_neg (by omega)]
    exact w4
  · have hne : a ≠ hp_n h := by omega
    refine ⟨?_, ?_, fun j => ?_⟩
    · rw [hp_k_mk, if_neg hne]; exact (w5 a h1 h2).1
    · rw [hp_l_mk, if_neg hne]; exact (w5 a h1 h2).2.1
    · rw [hp_i_mk, if_neg hne]; exact (w5 a h1 h2).2.2 j
