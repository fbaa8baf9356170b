/-! A ROW FOR EACH KIND OF INSTRUCTION -/
theorem gd_t {α : Type} {b : Bool} {x : Option α} (hb : b = true) : gd b x = x := by subst hb; rfl
theorem gdk {α : Type} {h : HP} {a t : Nat} {x : Option α} (hk : hp_k h a = t) : gd (hp_k h a == t) x = x := gd_t (beq_iff_eq.mpr hk)
theorem beq_n {α : Type} [BEq α] [LawfulBEq α] {a b : α} (h : ¬ a = b) : (a == b) = false := by simpa using h
section Rows
variable {m pc : Nat} {L S : List Value} {h : HP}
theorem pX_iconst {n : Int} {v : Int32} (hd : decode (mb m) pc = .ok (.iconst n, 1)) (hv : Int32.ofInt n = v) : pX m pc L S h = pX m (pc + 1) L (.int v :: S) h := by
  subst hv; exact pX_stp hd rfl rfl rfl
theorem pX_bipush {n : Int} {v : Int32} (hd : decode (mb m) pc = .ok (.bipush n, 2)) (hv : (Int8.ofInt n).toInt32 = v) : pX m pc L S h = pX m (pc + 2) L (.int v :: S) h := by
  subst hv; exact pX_stp hd rfl rfl rfl
theorem pX_sipush {n : Int} {v : Int32} (hd : decode (mb m) pc = .ok (.sipush n, 3)) (hv : (Int16.ofInt n).toInt32 = v) : pX m pc L S h = pX m (pc + 3) L (.int v :: S) h := by
  subst hv; exact pX_stp hd rfl rfl rfl
theorem pX_ldc {idx : Nat} {v : Int32} (hd : decode (mb m) pc = .ok (.ldc idx, 2)) (hv : lkC (mcl m) idx = some v) : pX m pc L S h = pX m (pc + 2) L (.int v :: S) h :=
  pX_stp hd rfl rfl (by simp [stp, hv, gd])
theorem pX_iinc {k : Nat} {n : Int} {v x : Int32} {L' : List Value} (hd : decode (mb m) pc = .ok (.iinc k n, 3)) (hv : Int32.ofInt n = v) (hl : mlong m = false) (hk : k < L.length) (hg : lget L k = .int x) (hL : L.set k (.int (x + v)) = L') : pX m pc L S h = pX m (pc + 3) L' S h := by
  subst hv; subst hL; exact pX_stp hd rfl rfl (by simp [stp, hl, hk, hg, gd])
theorem pX_if {c : Jvm.ClassFile.Cond} {off : Int} {t : Nat} {x : Int32} (hd : decode (mb m) pc = .ok (.ifCond c off, 3)) (ht : (pc : Int) + off = (t : Int)) : pX m pc L (.int x :: S) h = if cnd c x 0 = true then pX m t L S h else pX m (pc + 3) L S h := by
  by_cases hc : cnd c x 0 = true
  · rw [if_pos hc]
    exact pX_stp hd rfl rfl (by simp [stp, s_i, jif, hc, jmp, gd, ht])
  · rw [if_neg hc]
    exact pX_stp hd rfl rfl (by simp [stp, s_i, jif, hc, gd, ht])
theorem pX_icmp {c : Jvm.ClassFile.Cond} {off : Int} {t : Nat} {x y : Int32} (hd : decode (mb m) pc = .ok (.if_icmp c off, 3)) (ht : (pc : Int) + off = (t : Int)) : pX m pc L (.int y :: .int x :: S) h = if cnd c x y = true then pX m t L S h else pX m (pc + 3) L S h := by
  by_cases hc : cnd c x y = true
  · rw [if_pos hc]
    exact pX_stp hd rfl rfl (by simp [stp, s_i, jif, hc, jmp, gd, ht])
  · rw [if_neg hc]
    exact pX_stp hd rfl rfl (by simp [stp, s_i, jif, hc, gd, ht])
theorem if_dec {α : Type} {p : Prop} [Decidable p] {a b : α} : (if decide p = true then a else b) = if p then a else b := by simp
theorem pX_if_eq {off : Int} {t : Nat} {x : Int32} (hd : decode (mb m) pc = .ok (.ifCond .eq off, 3)) (ht : (pc : Int) + off = (t : Int)) : pX m pc L (.int x :: S) h = if x = 0 then pX m t L S h else pX m (pc + 3) L S h := (pX_if hd ht).trans if_dec
theorem pX_if_ne {off : Int} {t : Nat} {x : Int32} (hd : decode (mb m) pc = .ok (.ifCond .ne off, 3)) (ht : (pc : Int) + off = (t : Int)) : pX m pc L (.int x :: S) h = if x = 0 then pX m (pc + 3) L S h else pX m t L S h := by
  rw [pX_if hd ht]; by_cases hx : x = 0 <;> simp [cnd, hx]
theorem pX_if_lt {off : Int} {t : Nat} {x : Int32} (hd : decode (mb m) pc = .ok (.ifCond .lt off, 3)) (ht : (pc : Int) + off = (t : Int)) : pX m pc L (.int x :: S) h = if x < 0 then pX m t L S h else pX m (pc + 3) L S h := (pX_if hd ht).trans if_dec
theorem pX_if_ge {off : Int} {t : Nat} {x : Int32} (hd : decode (mb m) pc = .ok (.ifCond .ge off, 3)) (ht : (pc : Int) + off = (t : Int)) : pX m pc L (.int x :: S) h = if 0 ≤ x then pX m t L S h else pX m (pc + 3) L S h := (pX_if hd ht).trans if_dec
theorem pX_if_gt {off : Int} {t : Nat} {x : Int32} (hd : decode (mb m) pc = .ok (.ifCond .gt off, 3)) (ht : (pc : Int) + off = (t : Int)) : pX m pc L (.int x :: S) h = if 0 < x then pX m t L S h else pX m (pc + 3) L S h := (pX_if hd ht).trans if_dec
theorem pX_if_le {off : Int} {t : Nat} {x : Int32} (hd : decode (mb m) pc = .ok (.ifCond .le off, 3)) (ht : (pc : Int) + off = (t : Int)) : pX m pc L (.int x :: S) h = if x ≤ 0 then pX m t L S h else pX m (pc + 3) L S h := (pX_if hd ht).trans if_dec
theorem pX_icmp_eq {off : Int} {t : Nat} {x y : Int32} (hd : decode (mb m) pc = .ok (.if_icmp .eq off, 3)) (ht : (pc : Int) + off = (t : Int)) : pX m pc L (.int y :: .int x :: S) h = if x = y then pX m t L S h else pX m (pc + 3) L S h := (pX_icmp hd ht).trans if_dec
theorem pX_icmp_ne {off : Int} {t : Nat} {x y : Int32} (hd : decode (mb m) pc = .ok (.if_icmp .ne off, 3)) (ht : (pc : Int) + off = (t : Int)) : pX m pc L (.int y :: .int x :: S) h = if x = y then pX m (pc + 3) L S h else pX m t L S h := by
  rw [pX_icmp hd ht]; by_cases hx : x = y <;> simp [cnd, hx]
theorem pX_icmp_lt {off : Int} {t : Nat} {x y : Int32} (hd : decode (mb m) pc = .ok (.if_icmp .lt off, 3)) (ht : (pc : Int) + off = (t : Int)) : pX m pc L (.int y :: .int x :: S) h = if x < y then pX m t L S h else pX m (pc + 3) L S h := (pX_icmp hd ht).trans if_dec
theorem pX_icmp_ge {off : Int} {t : Nat} {x y : Int32} (hd : decode (mb m) pc = .ok (.if_icmp .ge off, 3)) (ht : (pc : Int) + off = (t : Int)) : pX m pc L (.int y :: .int x :: S) h = if y ≤ x then pX m t L S h else pX m (pc + 3) L S h := (pX_icmp hd ht).trans if_dec
theorem pX_icmp_gt {off : Int} {t : Nat} {x y : Int32} (hd : decode (mb m) pc = .ok (.if_icmp .gt off, 3)) (ht : (pc : Int) + off = (t : Int)) : pX m pc L (.int y :: .int x :: S) h = if y < x then pX m t L S h else pX m (pc + 3) L S h := (pX_icmp hd ht).trans if_dec
theorem pX_icmp_le {off : Int} {t : Nat} {x y : Int32} (hd : decode (mb m) pc = .ok (.if_icmp .le off, 3)) (ht : (pc : Int) + off = (t : Int)) : pX m pc L (.int y :: .int x :: S) h = if x ≤ y then pX m t L S h else pX m (pc + 3) L S h := (pX_icmp hd ht).trans if_dec
theorem pX_ifnull {off : Int} {t a : Nat} (hd : decode (mb m) pc = .ok (.ifnull off, 3)) (ht : (pc : Int) + off = (t : Int)) : pX m pc L (.ref a :: S) h = if a = 0 then pX m t L S h else pX m (pc + 3) L S h := by
  by_cases hc : a = 0
  · rw [if_pos hc]
    exact pX_stp hd rfl rfl (by simp [stp, s_a, jif, hc, jmp, gd, ht])
  · rw [if_neg hc]
    exact pX_stp hd rfl rfl (by simp [stp, s_a, jif, beq_n hc, gd, ht])
theorem pX_ifnonnull {off : Int} {t a : Nat} (hd : decode (mb m) pc = .ok (.ifnonnull off, 3)) (ht : (pc : Int) + off = (t : Int)) : pX m pc L (.ref a :: S) h = if a = 0 then pX m (pc + 3) L S h else pX m t L S h := by
  by_cases hc : a = 0
  · rw [if_pos hc]
    exact pX_stp hd rfl rfl (by simp [stp, s_a, jif, hc, gd, ht])
  · rw [if_neg hc]
    exact pX_stp hd rfl rfl (by simp [stp, s_a, jif, beq_n hc, jmp, gd, ht])
theorem pX_acmp_eq {off : Int} {t a b : Nat} (hd : decode (mb m) pc = .ok (.if_acmp .eq off, 3)) (ht : (pc : Int) + off = (t : Int)) (ha : okr a = true) (hb : okr b = true) : pX m pc L (.ref b :: .ref a :: S) h = if a = b then pX m t L S h else pX m (pc + 3) L S h := by
  by_cases hc : a = b
  · rw [if_pos hc]
    exact pX_stp hd rfl rfl (by simp [stp, s_a, jif, ha, hb, hc, jmp, gd, ht])
  · rw [if_neg hc]
    exact pX_stp hd rfl rfl (by simp [stp, s_a, jif, ha, hb, beq_n hc, gd, ht])
theorem pX_acmp_ne {off : Int} {t a b : Nat} (hd : decode (mb m) pc = .ok (.if_acmp .ne off, 3)) (ht : (pc : Int) + off = (t : Int)) (ha : okr a = true) (hb : okr b = true) : pX m pc L (.ref b :: .ref a :: S) h = if a = b then pX m (pc + 3) L S h else pX m t L S h := by
  by_cases hc : a = b
  · rw [if_pos hc]
    exact pX_stp hd rfl rfl (by simp [stp, s_a, jif, ha, hb, hc, gd, ht])
  · rw [if_neg hc]
    exact pX_stp hd rfl rfl (by simp [stp, s_a, jif, ha, hb, beq_n hc, jmp, gd, ht])
theorem pX_goto {off : Int} {t : Nat} (hd : decode (mb m) pc = .ok (.goto off, 3)) (ht : (pc : Int) + off = (t : Int)) : pX m pc L S h = pX m t L S h := pX_stp hd rfl rfl (by simp [stp, jmp, gd, ht])
theorem pX_tabIn {d lo hi off : Int} {offs : Array Int} {len t : Nat} {x : Int32} (hd : decode (mb m) pc = .ok (.tableswitch d lo hi offs, len)) (h1 : ¬ x.toInt < lo) (h2 : ¬ hi < x.toInt) (ho : offs[(x.toInt - lo).toNat]? = some off) (ht : (pc : Int) + off = (t : Int)) : pX m pc L (.int x :: S) h = pX m t L S h := pX_stp hd rfl rfl (by simp [stp, s_i, jmp, gd, ht, h1, h2, ho])
theorem pX_tabOut {d lo hi : Int} {offs : Array Int} {len t : Nat} {x : Int32} (hd : decode (mb m) pc = .ok (.tableswitch d lo hi offs, len)) (h1 : x.toInt < lo ∨ hi < x.toInt) (ht : (pc : Int) + d = (t : Int)) : pX m pc L (.int x :: S) h = pX m t L S h := by
  refine pX_stp hd rfl rfl ?_
  have e : (decide (x.toInt < lo) || decide (hi < x.toInt)) = true := by simpa using h1
  simp [stp, s_i, jmp, gd, ht, e]
theorem pX_look {d off : Int} {ps : Array (Int × Int)} {len t : Nat} {x : Int32} (hd : decode (mb m) pc = .ok (.lookupswitch d ps, len)) (hp : (ps.toList.zip (ps.toList.drop 1)).all (fun (a, next) => a.1 < next.1) = true) (ho : Op.lookupswitch.offset ps.toList d x.toInt = off) (ht : (pc : Int) + off = (t : Int)) : pX m pc L (.int x :: S) h = pX m t L S h := by
  refine pX_stp hd rfl rfl ?_
  show gd _ _ = _
  rw [gd_t hp, ho]
  simp [jmp, gd, ht]
theorem pX_get {idx ci k a : Nat} {b : Bool} {v : Value} (hd : decode (mb m) pc = .ok (.getfield idx, 3)) (hf : lkF (mcl m) idx = some (ci, k, b)) (hv : fval (fty ci k) h a k = v) (hk : hp_k h a = ci + 1) : pX m pc L (.ref a :: S) h = pX m (pc + 3) L (v :: S) h := by
  subst hv; exact pX_stp hd rfl rfl (by simp [stp, s_a, hf, gd, hk])
theorem pX_put {idx ci k a : Nat} {b : Bool} {v : Value} {h' : HP} (hd : decode (mb m) pc = .ok (.putfield idx, 3)) (hf : lkF (mcl m) idx = some (ci, k, b)) (hw : (!(ffin ci k) || (mini m && mcl m == ci && !b)) = true) (hv : fput (fty ci k) h a k v = some h') (hk : hp_k h a = ci + 1) : pX m pc L (v :: .ref a :: S) h = pX m (pc + 3) L S h' := by
  refine pX_stp hd rfl rfl ?_
  show gd true _ = _
  simp only [gd, hf, Option.bind_some, s_v, s_a, hk, beq_self_eq_true, hw, Bool.true_and, hv]
theorem pX_gets {idx e : Nat} {b : Bool} (hd : decode (mb m) pc = .ok (.getstatic idx, 3)) (hf : lkS (mcl m) idx = some (e, b)) : pX m pc L S h = pX m (pc + 3) L (.ref e :: S) h := pX_stp hd rfl rfl (by simp [stp, hf, gd])
theorem pX_ild {j : Int32} {a : Nat} (hd : decode (mb m) pc = .ok (.iaload, 1)) (hk : hp_k h a = 100) (hj : inb j (hp_l h a) = true) : pX m pc L (.int j :: .ref a :: S) h = pX m (pc + 1) L (.int (hp_i h a (ix j)) :: S) h := pX_stp hd rfl rfl (by simp [stp, s_i, s_a, hk, hj, gd])
theorem pX_ildR {j : Int32} {a : Nat} (hd : decode (mb m) pc = .ok (.iaload, 1)) (hk : hp_k h a = 99) (hj : inb j (hp_l h a) = true) : pX m pc L (.int j :: .ref a :: S) h = pX m (pc + 1) L (.int (hp_i h a (ix j)) :: S) h := pX_stp hd rfl rfl (by simp [stp, s_i, s_a, hk, hj, gd])
theorem pX_ist {j x : Int32} {a : Nat} (hd : decode (mb m) pc = .ok (.iastore, 1)) (hk : hp_k h a = 100) (hj : inb j (hp_l h a) = true) : pX m pc L (.int x :: .int j :: .ref a :: S) h = pX m (pc + 1) L S (hp_wi h a (ix j) x) := pX_stp hd rfl rfl (by simp [stp, s_i, s_a, hk, hj, gd])
theorem pX_ald {j : Int32} {a : Nat} (hd : decode (mb m) pc = .ok (.aaload, 1)) (hk : 200 ≤ hp_k h a) (hj : inb j (hp_l h a) = true) : pX m pc L (.int j :: .ref a :: S) h = pX m (pc + 1) L (.ref (hp_a h a (ix j)) :: S) h := pX_stp hd rfl rfl (by simp [stp, s_i, s_a, hk, hj, gd])
theorem pX_ast {j : Int32} {a v : Nat} (hd : decode (mb m) pc = .ok (.aastore, 1)) (hk : 200 ≤ hp_k h a) (hv : v = 0 ∨ hp_k h v + 199 = hp_k h a) (hj : inb j (hp_l h a) = true) : pX m pc L (.ref v :: .int j :: .ref a :: S) h = pX m (pc + 1) L S (hp_wa h a (ix j) v) := by
  refine pX_stp hd rfl rfl ?_
  have e : (v == 0 || hp_k h v + 199 == hp_k h a) = true := by simpa using hv
  simp [stp, s_i, s_a, hk, hj, gd, e]
theorem pX_len {a : Nat} (hd : decode (mb m) pc = .ok (.arraylength, 1)) (hk : 99 ≤ hp_k h a) : pX m pc L (.ref a :: S) h = pX m (pc + 1) L (.int (Int32.ofNat (hp_l h a)) :: S) h := pX_stp hd rfl rfl (by simp [stp, s_a, hk, gd])
theorem pX_newa {j : Int32} (hd : decode (mb m) pc = .ok (.newarray .int, 2)) (h0 : 0 ≤ j) (h1 : ix j ≤ 134217728) : pX m pc L (.int j :: S) h = pX m (pc + 2) L (.ref (hp_n h) :: S) (hp_mk h 100 (ix j) (ix j)) := pX_stp hd rfl rfl (by simp [stp, s_i, h0, h1, gd])
theorem pX_anew {idx ci : Nat} {j : Int32} (hd : decode (mb m) pc = .ok (.anewarray idx, 3)) (hf : lkK (mcl m) idx = some ci) (ho : lkO ci = true) (h0 : 0 ≤ j) (h1 : ix j ≤ 134217728) : pX m pc L (.int j :: S) h = pX m (pc + 3) L (.ref (hp_n h) :: S) (hp_mk h (200 + ci) (ix j) (ix j)) := pX_stp hd rfl rfl (by simp [stp, s_i, hf, ho, h0, h1, gd])
theorem pX_new {idx ci : Nat} (hd : decode (mb m) pc = .ok (.new idx, 3)) (hf : lkK (mcl m) idx = some ci) : pX m pc L S h = pX m (pc + 3) L (.ref (hp_n h) :: S) (hp_mk h (ci + 1) 0 (fnum ci)) := pX_stp hd rfl rfl (by simp [stp, hf, gd])
theorem pX_div {x y : Int32} (hd : decode (mb m) pc = .ok (.idiv, 1)) (hy : ¬ y = 0) : pX m pc L (.int y :: .int x :: S) h = pX m (pc + 1) L (.int (x / y) :: S) h := pX_stp hd rfl rfl (by simp [stp, s_i, beq_n hy, gd])
theorem pX_rem {x y : Int32} (hd : decode (mb m) pc = .ok (.irem, 1)) (hy : ¬ y = 0) : pX m pc L (.int y :: .int x :: S) h = pX m (pc + 1) L (.int (x - x / y * y) :: S) h := pX_stp hd rfl rfl (by simp [stp, s_i, beq_n hy, gd])
theorem pX_oinit {idx a : Nat} (hd : decode (mb m) pc = .ok (.invokespecial idx, 3)) (hf : lkM (mcl m) idx = some (9000, false)) (hs : (S.map Value.category).sum ≤ 8) (ha : ¬ a = 0) : pX m pc L (.ref a :: S) h = pX m (pc + 3) L S h := by
  refine pX_stp hd rfl (by simp [call, kcl, hf, gd]) ?_
  simp only [stp, hf, Option.bind_some, s_a]
  simp [gd, beq_n ha, hs]
theorem pX_max {idx : Nat} {x y : Int32} (hd : decode (mb m) pc = .ok (.invokestatic idx, 3)) (hf : lkM (mcl m) idx = some (9001, false)) (hs : (S.map Value.category).sum ≤ 8) : pX m pc L (.int y :: .int x :: S) h = pX m (pc + 3) L (.int (if x < y then y else x) :: S) h := by
  refine pX_stp hd rfl (by simp [call, kcl, hf, gd]) ?_
  simp only [stp, hf, Option.bind_some, s_i]
  simp [gd, hs]
theorem pX_copy {idx a b : Nat} {sp dp n : Int32} (hd : decode (mb m) pc = .ok (.invokestatic idx, 3)) (hf : lkM (mcl m) idx = some (9002, false)) (hs : (S.map Value.category).sum ≤ 8) (ha : hp_k h a = 100) (hb : hp_k h b = 100) (h1 : 0 ≤ sp) (h2 : 0 ≤ dp) (h3 : 0 ≤ n) (h4 : ix sp + ix n ≤ hp_l h a) (h5 : ix dp + ix n ≤ hp_l h b) : pX m pc L (.int n :: .int dp :: .ref b :: .int sp :: .ref a :: S) h = pX m (pc + 3) L S (hp_cp h a (ix sp) b (ix dp) (ix n)) := by
  refine pX_stp hd rfl (by simp [call, kcl, hf, gd]) ?_
  simp only [stp, hf, Option.bind_some, s_i, s_a]
  simp [gd, hs, ha, hb, h1, h2, h3, h4, h5]
theorem pX_inv {i : Instr} {a t : Nat} (m' : Nat) (as S' : List Value) {L0 : List Value} (hd : decode (mb m) pc = .ok (i, 3)) (hr : rets m i 3 S = none) (hc : call m i 3 S h = gd (hp_k h a == t) (some (m', as, S'))) (hL : locs0 m' as = L0) (hk : hp_k h a = t) : pX m pc L S h = (pX m' 0 L0 [] h).bind (fun q => pX m (pc + 3) L (q.1.toList ++ S') q.2) := by
  subst hL; exact pX_callb hd hr (hc.trans (gdk hk))
theorem pX_ins {i : Instr} (m' : Nat) (as S' : List Value) {L0 : List Value} (hd : decode (mb m) pc = .ok (i, 3)) (hr : rets m i 3 S = none) (hc : call m i 3 S h = some (m', as, S')) (hL : locs0 m' as = L0) : pX m pc L S h = (pX m' 0 L0 [] h).bind (fun q => pX m (pc + 3) L (q.1.toList ++ S') q.2) := by
  subst hL; exact pX_callb hd hr hc
end Rows
