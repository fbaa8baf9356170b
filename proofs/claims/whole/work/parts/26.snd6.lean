/-! SOUNDNESS 6: a whole run -/
def PcG (G : SG) (as : List Value) (h : HP) : Array Value → State → Prop := fun v U => v = (as.map (vv G)).toArray ∧ HR G h U.heap ∧ ST G U ∧ g_sz G ≤ U.heap.size
def QcG (G : SG) (r : Option Value) (h : HP) : Array Value → State → Outcome → State → Prop := fun _ st o t => o = .returned (r.map (vv G)) ∧ HR G h t.heap ∧ va_F (AX G) st t
theorem ST.warm {G : SG} {s U : State} (hW : s.WarmedH U.vm) (hz : g_sz G ≤ s.heap.size) (hk : ∀ q : Nat, q < s.heap.size → ¬ AX G q → U.heap[q]? = s.heap[q]?) (h : ST G s) : ST G U := by
  obtain ⟨h1, h2, h3, h4, h5⟩ := h
  exact ⟨va_K.moved hW.alike h1, h2.warm hW, fun e he => (h3 e he).moved hW.alike, fun e e1 e2 => ((h4 e e1 e2).moved hW.alike).kept hk, fun e he => ((h5 e he).moved hW.alike).kept hk⟩
theorem ST.calling {G : SG} {U : State} {g : JFrame} {mk : MethodId} {a : Array Value} (h : ST G U) : ST G (U.calling g mk a) := by
  obtain ⟨h1, h2, h3, h4, h5⟩ := h
  have hal : U.vm.Alike (U.calling g mk a).vm := Vm.Alike.refl U.vm
  exact ⟨va_K.moved hal h1, NW.same (s := U) (U := U.calling g mk a) rfl h2, fun e he => (h3 e he).moved hal, fun e e1 e2 => (h4 e e1 e2).moved hal, fun e he => (h5 e he).moved hal⟩
theorem PcG.blind (G : SG) (as : List Value) (h : HP) : FrameBlind (PcG G as h) := fun _ _ _ _ q => ⟨q.1, q.2.1, q.2.2.1.calling, q.2.2.2⟩
theorem lay_one {as : List Value} (h : ∀ v ∈ as, v.category = 1) : lay as = as := by
  induction as with
  | nil => rfl
  | cons v as ih =>
    have h1 := h v List.mem_cons_self
    have h2 := ih fun w hw => h w (List.mem_cons_of_mem _ hw)
    cases v <;> first | (cases h1; done) | (show _ :: lay as = _; rw [h2])
theorem args_one (G : SG) {as : List Value} (h : ∀ v ∈ as, v.category = 1) : ∀ (i k : Nat), k < as.length → (i + k, vv G (lget as k)) ∈ lv_args i (as.map (vv G)) := by
  induction as with
  | nil => intro i k hk; cases hk
  | cons v as ih =>
    intro i k hk
    have h1 : ¬ (vv G v).category = 2 := by rw [vv_cat, h v List.mem_cons_self]; decide
    show _ ∈ (i, vv G v) :: lv_args (if (vv G v).category = 2 then i + 2 else i + 1) (as.map (vv G))
    rw [if_neg h1]
    cases k with
    | zero => exact List.mem_cons_self
    | succ k =>
      refine List.mem_cons_of_mem _ ?_
      have := ih (fun w hw => h w (List.mem_cons_of_mem _ hw)) (i + 1) k (by simpa using hk)
      rw [show i + (k + 1) = i + 1 + k by omega]
      exact this
theorem sl_one (G : SG) {as : List Value} (h : ∀ v ∈ as, v.category = 1) : (lg_sl (as.map (vv G))).length = as.length := by
  induction as with
  | nil => rfl
  | cons v as ih =>
    have h1 : ¬ (vv G v).category = 2 := by rw [vv_cat, h v List.mem_cons_self]; decide
    have h2 := ih fun w hw => h w (List.mem_cons_of_mem _ hw)
    simp only [lg_sl, List.map_cons, List.flatMap_cons, if_neg h1] at h2 ⊢
    simp [h2]
/-- the locals at a method's beginning -/
theorem LH_entry (G : SG) {m : Nat} {as : List Value} {k : Nat → Nat} (hk : okm m = true) (hlen : as.length = mnp m) (hc : mlong m = true ∨ ∀ v ∈ as, v.category = 1) (hr : rcv m as k = true) : (lg_sl (as.map (vv G))).length ≤ mxl m ∧ LH G m (locs0 m as) ((lg_sl (as.map (vv G)) ++ List.replicate (mxl m - (lg_sl (as.map (vv G))).length) Slot.unset).toArray) := by
  simp only [okm, Bool.and_eq_true] at hk
  have hl := hk.2
  have one : (∀ v ∈ as, v.category = 1) → mnp m ≤ mxl m → (lg_sl (as.map (vv G))).length ≤ mxl m ∧ LH G m (locs0 m as) ((lg_sl (as.map (vv G)) ++ List.replicate (mxl m - (lg_sl (as.map (vv G))).length) Slot.unset).toArray) := by
    intro h1 h2
    have h3 : (lg_sl (as.map (vv G))).length ≤ mxl m := by rw [sl_one G h1, hlen]; exact h2
    have h4 := lv_entry (as.map (vv G)) h3
    have e0 : locs0 m as = as ++ List.replicate (mxl m - as.length) (.retAddr 0) := by unfold locs0; rw [lay_one h1]
    have e1 : ∀ j, lget (locs0 m as) j = if j < as.length then lget as j else .retAddr 0 := by
      intro j
      rw [e0]
      unfold lget
      rw [List.getD_eq_getElem?_getD, List.getD_eq_getElem?_getD]
      split
      · rename_i hj
        rw [List.getElem?_append_left hj]
      · rename_i hj
        rw [List.getElem?_append_right (by omega), List.getElem?_replicate]
        split <;> rfl
    refine ⟨h3, h4.1, h4.2.1, by rw [e0, List.length_append, List.length_replicate]; omega, fun j hj => ?_, fun _ j => ?_⟩
    · rw [e1 j] at hj ⊢
      split at hj
      · rename_i hlt
        rw [if_pos hlt]
        have := h4.2.2 _ (args_one G h1 0 j hlt)
        simpa using this
      · cases hj
    · rw [e1 j]
      split
      · rename_i hlt
        have hm : lget as j ∈ as := by
          unfold lget
          rw [List.getD_eq_getElem?_getD, List.getElem?_eq_getElem hlt]
          exact List.getElem_mem hlt
        have := h1 _ hm
        cases hv : lget as j <;> first | rfl | (rw [hv] at this; cases this)
      · rfl
  cases hm : mlong m with
  | false =>
    rw [hm] at hl
    rcases hc with q | q
    · rw [hm] at q; cases q
    · exact one q (of_decide_eq_true hl)
  | true =>
    rw [hm] at hl
    simp only [Bool.and_eq_true, beq_iff_eq] at hl
    obtain ⟨⟨l1, l2⟩, l3⟩ := hl
    rw [l1] at hlen
    match as, hlen, hr with
    | [v, w], _, hr =>
      have hv : ∃ a, v = .ref a := by
        unfold rcv at hr
        rw [l3] at hr
        cases v <;> first | exact ⟨_, rfl⟩ | cases hr
      obtain ⟨a, rfl⟩ := hv
      by_cases hw : w.category = 1
      · exact (by
          have h1 : ∀ u ∈ [Value.ref a, w], u.category = 1 := by
            intro u hu
            rcases List.mem_cons.mp hu with rfl | hu
            · rfl
            · rw [List.mem_singleton.mp hu]; exact hw
          have h3 : (lg_sl ([Value.ref a, w].map (vv G))).length ≤ mxl m := by rw [sl_one G h1, l2]; exact Nat.le_of_ble_eq_true rfl
          have h4 := lv_entry ([Value.ref a, w].map (vv G)) h3
          have e0 : locs0 m [Value.ref a, w] = [Value.ref a, w, .retAddr 0] := by unfold locs0; rw [lay_one h1, l2]; rfl
          refine ⟨h3, h4.1, h4.2.1, by rw [e0, l2]; rfl, fun j hj => ?_, fun hf => absurd (hm.symm.trans hf) (by decide)⟩
          rw [e0] at hj ⊢
          match j with
          | 0 => exact h4.2.2 _ (args_one G h1 0 0 (Nat.le_of_ble_eq_true rfl))
          | 1 => exact h4.2.2 _ (args_one G h1 0 1 (Nat.le_of_ble_eq_true rfl))
          | 2 => cases hj
          | n + 3 => cases hj)
      · have hw2 : (∃ x, w = .long x) ∨ ∃ x, w = .double x := by
          cases w <;> first | exact Or.inl ⟨_, rfl⟩ | exact Or.inr ⟨_, rfl⟩ | exact absurd rfl hw
        have hA : (lg_sl ([Value.ref a, w].map (vv G))).length = 3 := by
          rcases hw2 with ⟨x, rfl⟩ | ⟨x, rfl⟩
          · show (lg_sl [va_rf (rfo G a), .long x]).length = 3
            cases rfo G a <;> rfl
          · show (lg_sl [va_rf (rfo G a), .double x]).length = 3
            cases rfo G a <;> rfl
        have h3 : (lg_sl ([Value.ref a, w].map (vv G))).length ≤ mxl m := by rw [hA, l2]; exact Nat.le_refl _
        have h4 := lv_entry ([Value.ref a, w].map (vv G)) h3
        have hargs : ∀ q ∈ lv_args 0 ([Value.ref a, w].map (vv G)), q ∈ lv_args 0 ([Value.ref a, w].map (vv G)) := fun _ q => q
        have h5 : lv_args 0 ([Value.ref a, w].map (vv G)) = [(0, vv G (.ref a)), (1, vv G w)] := by
          have c1 : ¬ (vv G (.ref a)).category = 2 := by rw [vv_cat]; show ¬ (1 : Nat) = 2; decide
          simp [lv_args, c1]
        rw [h5] at h4
        rcases hw2 with ⟨x, rfl⟩ | ⟨x, rfl⟩
        · refine ⟨h3, h4.1, h4.2.1, by show _ = _; rw [l2]; unfold locs0; rw [l2]; rfl, fun j hj => ?_, fun hf => absurd (hm.symm.trans hf) (by decide)⟩
          have e0 : locs0 m [Value.ref a, .long x] = [Value.ref a, .long x, .retAddr 0] := by unfold locs0; rw [l2]; rfl
          rw [e0] at hj ⊢
          match j with
          | 0 => exact h4.2.2 (0, vv G (.ref a)) (by simp)
          | 1 => exact h4.2.2 (1, vv G (.long x)) (by simp)
          | 2 => cases hj
          | n + 3 => cases hj
        · refine ⟨h3, h4.1, h4.2.1, by show _ = _; rw [l2]; unfold locs0; rw [l2]; rfl, fun j hj => ?_, fun hf => absurd (hm.symm.trans hf) (by decide)⟩
          have e0 : locs0 m [Value.ref a, .double x] = [Value.ref a, .double x, .retAddr 0] := by unfold locs0; rw [l2]; rfl
          rw [e0] at hj ⊢
          match j with
          | 0 => exact h4.2.2 (0, vv G (.ref a)) (by simp)
          | 1 => cases hj
          | 2 => cases hj
          | n + 3 => cases hj
section Snd
variable {G : SG} {p : Program} {l : Launch} {e : Env} {R : Room} {s : State} {m : MethodId} {args : Array Value} {below : List Frame} {meth : Method} {c : Code} {H : Heap} {locs : List Loc} {cells slots : Nat} {Q : State → Prop} {mm pc : Nat} {h : HP} {ls : Array Slot} {rest : List Value} {cc : ByteArray}
theorem run_go {mc ms : Nat} {r : Option Value} {h1 : HP} {a : Array Value} {st0 : List Value} (hr : va_Run p l e R s m args below meth c H locs cells slots mc ms (F0 m pc ls st0) rest (QcG G r h1 a) (AX G)) (hS : va_S (AX G) s.heap H locs)
    (kk : ∀ H1 locs1, HR G h1 H1 → va_S (AX G) s.heap H1 locs1 → W p l e R s m args below meth c H1 locs1 (cells + mc) (slots + ms) Q (F0 m (pc + 3) ls ((r.map (vv G)).toList ++ rest))) : W p l e R s m args below meth c H locs cells slots Q (F0 m pc ls st0) := by
  intro T hT X
  obtain ⟨v, st₀, t, T', L, h0, X', hL, e1, e2, ⟨hv, hR1, hz, hk⟩, st⟩ := hr T hT X
  cases hv
  rw [h0] at hz hk
  obtain ⟨t2, a1, b1⟩ := kk T'.heap (locs ++ L) (by rw [e1]; exact hR1)
    ⟨Nat.le_trans hS.1 (by rw [e1]; exact hz), fun q g1 g2 => by rw [e1, hk q (Nat.lt_of_lt_of_le g1 hS.1) g2]; exact hS.2.1 q g1 g2, fun q hq => by
      rcases List.mem_append.mp hq with z | z
      · exact hS.2.2 q z
      · exact hL q z⟩ T' rfl X'
  exact ⟨t2, st t2 a1, b1⟩
end Snd
