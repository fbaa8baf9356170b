/-! began as the skeleton, its middle -/
/-! THE CLAIM OUT OF ONE WALK OF THE LAW'S BODY. Your part is whole_start (and what it stands on); all else here is the same for every law, but numbers. -/
def R_law : String := "MarkedStepsLaw"
def lw_P (b : Addr) (xs : List Int32) (args : Array Value) (s : State) : Prop := args = #[.ref b] ∧ s.IntsAt b xs ∧ xs.length ≤ 3072 ∧ (Jvm.Cond.and given_1 narrow_1).before args s = true
def lw_Q (_ : Array Value) (s : State) (o : Outcome) (t : State) : Prop := o = .returned (some (.int 1)) ∧ Framed s o t [] 600000 7302250
def lw_Z (below : List Frame) (a : Array Value) (s : State) : State → Prop := fun t => ∃ o, t.status = .running ∧ Ended t below o ∧ lw_Q a s o t
/-- the law's own end, with 1 on the stack, nothing written that was there before, its room as the claim has it -/
theorem lw_ret {p : Program} {l : Launch} {e : Env} {s : State} {m : MethodId} {below : List Frame} {meth : Method} {c : Code} {b : Nat} (hx : p.tables.exec = Jvm.exec) (hb : c.code = code) (hr : meth.sig.returnType = ret) (hlocks : meth.locks = false) {pc : Nat} {H : Heap} {ls : Array Slot} (hdg : decode code pc = .ok (.ireturn, 1)) : W p l e room_1 s m #[Value.ref b] below meth c H [] 600000 7302250 (lw_Z below #[Value.ref b] s) (F0 m pc ls [.int 1]) := by
  intro T hT X
  obtain ⟨fs, hret, hrun, hended, hW, hframe⟩ := X.leave (v := some (.int 1)) (hlocks := hlocks) (fun h => by rw [hr] at h; cases h)
  have hmeth' : T.vm.method? m = some meth := X.method'
  refine ⟨T.setFrames fs, ?_, .returned (some (.int 1)), hrun, hended, rfl, ⟨_, rfl⟩, hW, hframe⟩
  jvm_step X.here [X.here.top, hx, hb, hdg, hmeth', hr, ret, narrow_b1]
  (try refine ⟨rfl, ?_⟩); (try refine ⟨rfl, ?_⟩)
  first | (intro acts; rw [hret _ acts rfl rfl rfl]) | rw [hret _ _ rfl rfl rfl]
  exact Steps.refl _
/-- what holds at the law's entry: the machine, the code, the tables' words (any of lw_tbl by 'hts w (by decide +kernel)'), the script of L ints xs at the cell b, what the Statement gives of the start (any of its parts by flat_of_before) -/
def lw_At (p : Program) (s : State) (m : MethodId) (meth : Method) (c : Code) (b L : Nat) (xs : Nat → Int32) : Prop :=
  p.tables.exec = Jvm.exec ∧ c.code = code ∧ meth.sig.returnType = ret ∧ c.maxLocals = 4 ∧ s.vm.findClass R_law = some m.cls ∧ (∀ w ∈ lw_tbl, w.before #[Value.ref b] s = true) ∧ va_X b L xs s s.heap ∧ b < s.heap.size ∧ meth.locks = false ∧ (Jvm.Cond.and given_1 narrow_1).before #[Value.ref b] s = true
/-! FROM THE PURE MACHINE TO THE LAW -/
def lookT (j : Nat) : Int32 := ([0, 2, 6, 6, 6, 6, 6, 6, 6, 0, 1, 2, 0, 7, 6, 2, 2, 5, 2, 1, 1, 1, 1, 4, 1, 3, 2, 2] : List Int32).getD j 0
def makeT (j : Nat) : Int32 := ([1, 1, 1, 1, 1, 1, 1, 1, 1, 0, 0, 1, 1, 0, 1, 1, 1, 0, 1, 0, 0, 0, 0, 1, 0, 0, 1, 1] : List Int32).getD j 0
/-- the heap at the law's beginning: the script, the two tables -/
def h00 (xs : Nat → Int32) (L : Nat) : HP := (4, 0, fun a => if a = 0 then 0 else if a < 4 then 99 else 0, fun a => if a = 1 then L else if a < 4 then 28 else 0, fun a j => if a = 1 then xs j else if a = 2 then lookT j else if a = 3 then makeT j else 0, fun _ _ => 0)
/-- what is to be shown of the pure machine -/
def PURE : Prop := ∀ (xs : Nat → Int32) (L : Nat), L ≤ 3072 → ∃ h', pX 1200 0 [.ref 1, .retAddr 0, .retAddr 0, .retAddr 0] [] (h00 xs L) = some (some (.int 1), h') ∧ hp_n h' ≤ 600004 ∧ hp_s h' ≤ 7302250
theorem st_T {args : Array Value} {s : State} {nm : String} {f : Nat → Int32} {A : Nat → Prop} (harr : (Cond.arrayOf (.static "MarkedSteps" nm "[I") .int).before args s = true) (hlen : (Cond.eq (.length (.static "MarkedSteps" nm "[I")) (.int 28)).before args s = true) (hel : ∀ j : Nat, j < 28 → (Cond.eq (.elem (.static "MarkedSteps" nm "[I") (.int (Int32.ofNat j))) (.int (f j))).before args s = true) (hA : ∀ a : Nat, a < s.heap.size → ¬ A a) : ∃ t : Nat, (Term.static "MarkedSteps" nm "[I").eval args s none [] s = some (.ref t) ∧ va_T .int t 28 (fun j => .int (f j)) A s s.heap :=
  va_Tof (by decide) harr (va_eqt hlen) (fun j hj => va_eqt (hel j hj)) hA
theorem el_look : ∀ j, j < 28 → Cond.eq (.elem (.static "MarkedSteps" "LOOKS_AT" "[I") (.int (Int32.ofNat j))) (.int (lookT j)) ∈ flatC (Jvm.Cond.and given_1 narrow_1) := by decide +kernel
theorem el_make : ∀ j, j < 28 → Cond.eq (.elem (.static "MarkedSteps" "MAKES_A" "[I") (.int (Int32.ofNat j))) (.int (makeT j)) ∈ flatC (Jvm.Cond.and given_1 narrow_1) := by decide +kernel
theorem el_rest : Cond.arrayOf (.static "MarkedSteps" "LOOKS_AT" "[I") .int ∈ flatC (Jvm.Cond.and given_1 narrow_1) ∧ Cond.eq (.length (.static "MarkedSteps" "LOOKS_AT" "[I")) (.int 28) ∈ flatC (Jvm.Cond.and given_1 narrow_1) ∧ Cond.arrayOf (.static "MarkedSteps" "MAKES_A" "[I") .int ∈ flatC (Jvm.Cond.and given_1 narrow_1) ∧ Cond.eq (.length (.static "MarkedSteps" "MAKES_A" "[I")) (.int 28) ∈ flatC (Jvm.Cond.and given_1 narrow_1) := by decide +kernel
theorem ls_ok : (at_ 20064 (.laysStatic "MarkedSteps" "LOOKS_AT" "[I") && at_ 20066 (.laysStatic "MarkedSteps" "MAKES_A" "[I")) = true := by decide +kernel
theorem gw_in {w : Cond} (h : w ∈ GW) : w ∈ lw_tbl := (List.mem_filter.mp h).1
set_option maxHeartbeats 4000000 in
set_option maxRecDepth 100000 in
theorem whole_start_of (hPU : PURE) {p : Program} {e : Env} {s : State} {m : MethodId} {below : List Frame} {meth : Method} {c : Code} (l : Launch) {b L : Nat} {xs : Nat → Int32} (hL : L ≤ 3072) (C0 : lw_At p s m meth c b L xs) : W p l e room_1 s m #[Value.ref b] below meth c s.heap [] 0 0 (lw_Z below #[Value.ref b] s) (entryFrame m ([Value.ref b] : List Value).toArray 4) := by
  obtain ⟨hx, hb, hr, hml, hown, hts, hX, hbl, hlocks, hgv⟩ := id C0
  obtain ⟨h', hpx, hn1, hs1⟩ := hPU xs L hL
  obtain ⟨k, hk⟩ := pX_some hpx
  have hfl := flat_of_before _ hgv
  have hA : ∀ a : Nat, a < s.heap.size → ¬ (fun q => s.heap.size ≤ q) a := fun a h1 h2 => absurd h1 (Nat.not_lt.mpr h2)
  obtain ⟨t2, hv2, hT2⟩ := st_T (f := lookT) (A := fun q => s.heap.size ≤ q) (hfl _ el_rest.1) (hfl _ el_rest.2.1) (fun j hj => hfl _ (el_look j hj)) hA
  obtain ⟨t3, hv3, hT3⟩ := st_T (f := makeT) (A := fun q => s.heap.size ≤ q) (hfl _ el_rest.2.2.1) (hfl _ el_rest.2.2.2) (fun j hj => hfl _ (el_make j hj)) hA
  have hLS := ls_ok
  simp only [Bool.and_eq_true] at hLS
  have hZ2 := va_Zof (A := fun q => s.heap.size ≤ q) (hts _ (at_mem hLS.1)) (hts _ (gw_in (w_init (c := 10) (by decide)))) hv2 hA
  have hZ3 := va_Zof (A := fun q => s.heap.size ≤ q) (hts _ (at_mem hLS.2)) (hts _ (gw_in (w_init (c := 10) (by decide)))) hv3 hA
  have hkn : ∀ q, ∃ (cC : ClassId) (iS : Nat → Nat), q < 12 → u_Kn s (cname q) (ftab q) (fnum q) cC iS := by
    intro q
    by_cases hq : q < 12
    · obtain ⟨cC, iS, h1⟩ := u_known (C := cname q) (T := ftab q) (N := fnum q) (n := fnum q) hts (fun w hw => gw_in (u_in hq w hw)) (hts _ (gw_in (w_inst hq)))
      exact ⟨cC, iS, fun _ => h1⟩
    · exact ⟨0, fun _ => 0, fun h1 => absurd h1 hq⟩
  have hck := ckX
  simp only [Bool.and_eq_true] at hck
  obtain ⟨cI, kI, compI, f1, f2, f3⟩ := Cond.arrayClass_spec (hts _ (at_mem hck.1.1.1.1.1.1.1.1))
  have hao : ∀ q ∈ tbO, va_AO (cname q.1) s := fun q hq => va_AO.of (hts _ (by
    have := List.all_eq_true.mp ckO_ok q hq
    simp only [Bool.and_eq_true] at this
    exact at_mem this.1))
  have hcr : ∀ ci, ∃ cA : ClassId, lkO ci = true → ArrOfT s cA (.object (cname ci)) ∧ va_RA s cA (.object (cname ci)) := by
    intro ci
    by_cases hq : lkO ci = true
    · obtain ⟨x, hx1, hx2⟩ := List.any_eq_true.mp hq
      have e1 : x.1 = ci := by simpa using hx2
      have h1 := hao x hx1
      rw [e1] at h1
      obtain ⟨comp, cA, kA, g1, g2, g3, g4, g5⟩ := Cond.arrayOver_spec h1
      exact ⟨cA, fun _ => ⟨fun N z => ⟨(fun k h => by cases h), kA, g3, comp, g4⟩, kA, comp, g3, g4, g1, g5⟩⟩
    · exact ⟨0, fun h1 => absurd h1 hq⟩
  let G : SG := (s.heap.size, fun q => if q = 1 then b else if q = 2 then t2 else t3, (fun q => Classical.choose (hkn q), fun q => Classical.choose (Classical.choose_spec (hkn q))), cI, fun ci => Classical.choose (hcr ci), fun q => if q = 1 then L else if q < 4 then 28 else 0, fun q j => if q = 1 then xs j else if q = 2 then lookT j else if q = 3 then makeT j else 0)
  have hK : va_K (g_D G) cls (tys G) s := by
    refine ⟨fun q r hq => ?_, fun k q hq => ?_⟩
    · have hlt : q < 12 := by
        have := (List.getElem?_eq_some_iff.mp hq).1
        simpa [cls] using this
      rw [cls_at hlt] at hq
      cases hq
      exact Classical.choose_spec (Classical.choose_spec (hkn q)) hlt
    · cases k with
      | zero =>
        cases hq
        exact ⟨fun n z => ⟨fun k h => (by cases h), kI, f2, compI, f3⟩, f1⟩
      | succ k =>
        have hq : (tbO.map (fun e => (g_cR G e.1, FieldType.object (cname e.1))))[k]? = some q := hq
        rw [List.getElem?_map] at hq
        cases hz : tbO[k]? with
        | none => rw [hz] at hq; cases hq
        | some z =>
          rw [hz] at hq
          cases hq
          exact Classical.choose_spec (hcr z.1) (List.any_eq_true.mpr ⟨z, List.mem_of_getElem? hz, by simp⟩)
  have hNW : NW s := by
    intro w hw hn
    cases w with
    | fieldLinkNest a i b n d hh => exact va_Nw.of rfl (hts _ hw)
    | methodLinkNest a i x hh => exact va_Nw.of rfl (hts _ hw)
    | _ => cases hn
  have hT1 : va_T .int b L (fun j => .int (xs j)) (AX G) s s.heap := by
    obtain ⟨scr, x1, x2, x3, x4, x5⟩ := hX
    exact ⟨scr, x1, x2, x3, by rw [x4]; exact Nat.le_refl _, (by rw [x4]), x5, hA b hbl⟩
  have hEX : EX G s := by
    refine ⟨fun q h1 h2 => ?_, fun q hq => ?_⟩
    · match q, h1, h2 with
      | 1, _, _ => exact hT1
      | 2, _, _ => exact hT2
      | 3, _, _ => exact hT3
    · rcases hq with rfl | rfl
      · exact hZ2
      · exact hZ3
  have hWF : WF G (h00 xs L) := by
    refine ⟨Nat.le_refl _, fun a h1 h2 => absurd h2 (Nat.not_lt.mpr h1), fun a h1 => ?_, rfl, fun a h1 h2 => ?_⟩
    · have h1 : 4 ≤ a := h1
      show (if a = 0 then 0 else if a < 4 then 99 else 0) = 0
      rw [if_neg (by omega), if_neg (by omega)]
    · match a, h1, h2 with
      | 1, _, _ => exact ⟨rfl, rfl, fun _ => rfl⟩
      | 2, _, _ => exact ⟨rfl, rfl, fun _ => rfl⟩
      | 3, _, _ => exact ⟨rfl, rfl, fun _ => rfl⟩
  have hHR : HR G (h00 xs L) s.heap := ⟨hWF, fun k q hq => by
    have hq : (([] : va_W))[k]? = some q := hq
    simp at hq, rfl⟩
  have hlv := lv_entry ([.ref b]) (n := 4) (Nat.le_of_ble_eq_true rfl)
  rw [lg_entry_eq]
  have hLH : LH G 1200 [.ref 1, .retAddr 0, .retAddr 0, .retAddr 0] ((lg_sl ([.ref b]) ++ List.replicate (4 - (lg_sl ([.ref b])).length) Slot.unset).toArray) := by
    refine ⟨hlv.1, hlv.2.1, rfl, fun j hj => ?_, fun _ j => ?_⟩
    · match j, hj with
      | 0, _ => exact hlv.2.2 (0, .ref b) (by simp [lv_args])
      | 1, hj => cases hj
      | 2, hj => cases hj
      | 3, hj => cases hj
      | n + 4, hj => cases hj
    · match j with
      | 0 => rfl
      | 1 => rfl
      | 2 => rfl
      | 3 => rfl
      | n + 4 => rfl
  refine snd_all G k 1200 0 _ [] (h00 xs L) (some (.int 1)) h' hk (R := room_1) ⟨hx, hb, hml, hown, fun w hw => hts _ (gw_in hw), (fun hm => by cases hm), by decide, by decide, by decide, Nat.le_refl _, hK, hNW, hao, hEX⟩ (by decide) (by decide) hHR va_S.rf hLH (by show 0 + (hp_n h' - 4) ≤ 600000; omega) (by show 0 + (hp_s h' - 0) ≤ 7302250; omega) ?_
  intro pc1 i S1 ls1 H1 locs1 hd hrs hR1 hS1
  obtain ⟨-, ⟨rfl, rfl, q, -⟩ | ⟨x, rfl, rfl, q, -⟩ | ⟨a, rfl, rfl, q, -⟩⟩ := rets_some hrs
  · cases q
  · cases q
    refine va_forget (fun z hz => hS1.2.2 z hz) ?_
    refine W.widen (k := 600000) (n := 7302250) (by show 0 + (hp_n h' - 4) ≤ 600000; omega) (by show 0 + (hp_s h' - 0) ≤ 7302250; omega) ?_
    exact lw_ret hx hb hr hlocks hd
  · cases q
