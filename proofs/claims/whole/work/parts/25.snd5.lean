/-! SOUNDNESS 5: calls, and a whole run -/
def Mono (h : HP) (r : Option (Nat × List Value × List Value × HP)) : Prop := ∀ pc' L' S' h', r = some (pc', L', S', h') → hp_n h ≤ hp_n h' ∧ hp_s h ≤ hp_s h'
theorem Mono.n (h : HP) : Mono h none := fun _ _ _ _ e => by cases e
theorem Mono.g {h : HP} {b : Bool} {x : Option (Nat × List Value × List Value × HP)} (k : Mono h x) : Mono h (gd b x) := fun _ _ _ _ e => k _ _ _ _ (gd_some e).2
theorem Mono.i {h : HP} {S : List Value} {f : Int32 → List Value → Option (Nat × List Value × List Value × HP)} (k : ∀ x S, Mono h (f x S)) : Mono h (s_i S f) := fun _ _ _ _ e => by
  obtain ⟨x, S', -, e⟩ := s_i_some e
  exact k x S' _ _ _ _ e
theorem Mono.j {h : HP} {S : List Value} {f : Int64 → List Value → Option (Nat × List Value × List Value × HP)} (k : ∀ x S, Mono h (f x S)) : Mono h (s_j S f) := fun _ _ _ _ e => by
  obtain ⟨x, S', -, e⟩ := s_j_some e
  exact k x S' _ _ _ _ e
theorem Mono.a {h : HP} {S : List Value} {f : Nat → List Value → Option (Nat × List Value × List Value × HP)} (k : ∀ x S, Mono h (f x S)) : Mono h (s_a S f) := fun _ _ _ _ e => by
  obtain ⟨x, S', -, e⟩ := s_a_some e
  exact k x S' _ _ _ _ e
theorem Mono.v {h : HP} {S : List Value} {f : Value → List Value → Option (Nat × List Value × List Value × HP)} (k : ∀ x S, Mono h (f x S)) : Mono h (s_v S f) := fun _ _ _ _ e => by
  obtain ⟨x, S', -, e⟩ := s_v_some e
  exact k x S' _ _ _ _ e
theorem Mono.b {α : Type} {h : HP} {o : Option α} {f : α → Option (Nat × List Value × List Value × HP)} (k : ∀ x, Mono h (f x)) : Mono h (o.bind f) := fun _ _ _ _ e => by
  obtain ⟨x, -, e⟩ := Option.bind_eq_some_iff.mp e
  exact k x _ _ _ _ e
theorem Mono.s {h h' : HP} {pc : Nat} {L S : List Value} (h1 : hp_n h ≤ hp_n h') (h2 : hp_s h ≤ hp_s h') : Mono h (some (pc, L, S, h')) := fun _ _ _ _ e => by
  cases e
  exact ⟨h1, h2⟩
theorem Mono.jm {pc : Nat} {off : Int} {L S : List Value} {h : HP} : Mono h (jmp pc off L S h) := Mono.g (Mono.s (Nat.le_refl _) (Nat.le_refl _))
theorem Mono.ji {b : Bool} {pc : Nat} {off : Int} {L S : List Value} {h : HP} : Mono h (jif b pc off L S h) := by
  refine Mono.g ?_
  cases b <;> exact Mono.s (Nat.le_refl _) (Nat.le_refl _)
theorem fput_n {ty : FieldType} {h h' : HP} {a k : Nat} {v : Value} (e : fput ty h a k v = some h') : hp_n h' = hp_n h ∧ hp_s h' = hp_s h := by
  unfold fput at e
  split at e
  · cases e; exact ⟨rfl, rfl⟩
  · obtain ⟨-, e⟩ := gd_some e
    cases e; exact ⟨rfl, rfl⟩
  · cases e; exact ⟨rfl, rfl⟩
  · cases e; exact ⟨rfl, rfl⟩
  · cases e
theorem stp_mono (m pc : Nat) (i : Instr) (len : Nat) (L S : List Value) (h : HP) : Mono h (stp m pc i len L S h) := by
  have q := Mono.s (h := h) (h' := h) (pc := 0) (L := []) (S := []) (Nat.le_refl _) (Nat.le_refl _)
  cases i with
  | iinc k n =>
    refine Mono.g ?_
    cases lget L k <;> first | exact Mono.n h | exact Mono.s (Nat.le_refl _) (Nat.le_refl _)
  | tableswitch d lo hi offs =>
    refine Mono.i fun x S => ?_
    cases (decide (x.toInt < lo) || decide (hi < x.toInt)) with
    | true => exact Mono.jm
    | false => exact Mono.b fun off => Mono.jm
  | lookupswitch d ps => exact Mono.i fun x S => Mono.g Mono.jm
  | putfield idx =>
    refine Mono.g (Mono.b fun f => Mono.v fun v S => Mono.a fun a S => Mono.g ?_)
    intro pc' L' S' h' e
    obtain ⟨h2, hp, e⟩ := Option.bind_eq_some_iff.mp e
    cases e
    obtain ⟨e1, e2⟩ := fput_n hp
    exact ⟨by rw [e1]; exact Nat.le_refl _, by rw [e2]; exact Nat.le_refl _⟩
  | invokestatic idx =>
    refine Mono.g (Mono.b fun t => ?_)
    cases (t.1 == 9001) with
    | true => exact Mono.g (Mono.i fun y S => Mono.i fun x S => Mono.g (Mono.s (Nat.le_refl _) (Nat.le_refl _)))
    | false => exact Mono.g (Mono.i fun n S => Mono.i fun dp S => Mono.a fun b S => Mono.i fun sp S => Mono.a fun a S => Mono.g (Mono.s (Nat.le_refl _) (Nat.le_refl _)))
  | invokespecial idx => exact Mono.g (Mono.b fun t => Mono.g (Mono.a fun a S => Mono.g (Mono.s (Nat.le_refl _) (Nat.le_refl _))))
  | if_acmp cd off =>
    cases cd with
    | eq => exact Mono.g (Mono.a fun b S => Mono.a fun a S => Mono.g Mono.ji)
    | ne => exact Mono.g (Mono.a fun b S => Mono.a fun a S => Mono.g Mono.ji)
  | newarray t =>
    cases t with
    | int => exact Mono.g (Mono.i fun j S => Mono.g (Mono.s (Nat.le_succ _) (Nat.le_add_right _ _)))
    | _ => exact Mono.n h
  | anewarray idx => exact Mono.g (Mono.b fun ci => Mono.i fun j S => Mono.g (Mono.s (Nat.le_succ _) (Nat.le_add_right _ _)))
  | new idx => exact Mono.g (Mono.b fun ci => Mono.s (Nat.le_succ _) (Nat.le_add_right _ _))
  | getfield idx => exact Mono.g (Mono.b fun f => Mono.a fun a S => Mono.g (Mono.s (Nat.le_refl _) (Nat.le_refl _)))
  | getstatic idx => exact Mono.g (Mono.b fun f => Mono.s (Nat.le_refl _) (Nat.le_refl _))
  | ldc idx => exact Mono.g (Mono.b fun f => Mono.s (Nat.le_refl _) (Nat.le_refl _))
  | iastore => exact Mono.g (Mono.i fun x S => Mono.i fun j S => Mono.a fun a S => Mono.g (Mono.s (Nat.le_refl _) (Nat.le_refl _)))
  | aastore => exact Mono.g (Mono.a fun x S => Mono.i fun j S => Mono.a fun a S => Mono.g (Mono.s (Nat.le_refl _) (Nat.le_refl _)))
  | iaload => exact Mono.g (Mono.i fun j S => Mono.a fun a S => Mono.g (Mono.s (Nat.le_refl _) (Nat.le_refl _)))
  | aaload => exact Mono.g (Mono.i fun j S => Mono.a fun a S => Mono.g (Mono.s (Nat.le_refl _) (Nat.le_refl _)))
  | arraylength => exact Mono.g (Mono.a fun a S => Mono.g (Mono.s (Nat.le_refl _) (Nat.le_refl _)))
  | ifCond c off => exact Mono.g (Mono.i fun a S => Mono.ji)
  | if_icmp c off => exact Mono.g (Mono.i fun a S => Mono.i fun a S => Mono.ji)
  | ifnull off => exact Mono.g (Mono.a fun a S => Mono.ji)
  | ifnonnull off => exact Mono.g (Mono.a fun a S => Mono.ji)
  | goto off => exact Mono.g Mono.jm
  | dup => exact Mono.g (Mono.v fun a S => Mono.g (Mono.s (Nat.le_refl _) (Nat.le_refl _)))
  | pop => exact Mono.g (Mono.v fun a S => Mono.g (Mono.s (Nat.le_refl _) (Nat.le_refl _)))
  | dup2 => exact Mono.g (Mono.v fun a S => Mono.v fun a S => Mono.g (Mono.s (Nat.le_refl _) (Nat.le_refl _)))
  | istore k => exact Mono.g (Mono.v fun a S => Mono.g (Mono.s (Nat.le_refl _) (Nat.le_refl _)))
  | istore_n k => exact Mono.g (Mono.v fun a S => Mono.g (Mono.s (Nat.le_refl _) (Nat.le_refl _)))
  | astore k => exact Mono.g (Mono.v fun a S => Mono.g (Mono.s (Nat.le_refl _) (Nat.le_refl _)))
  | astore_n k => exact Mono.g (Mono.v fun a S => Mono.g (Mono.s (Nat.le_refl _) (Nat.le_refl _)))
  | iload k => exact Mono.g (Mono.g (Mono.s (Nat.le_refl _) (Nat.le_refl _)))
  | iload_n k => exact Mono.g (Mono.g (Mono.s (Nat.le_refl _) (Nat.le_refl _)))
  | aload k => exact Mono.g (Mono.g (Mono.s (Nat.le_refl _) (Nat.le_refl _)))
  | aload_n k => exact Mono.g (Mono.g (Mono.s (Nat.le_refl _) (Nat.le_refl _)))
  | lload_n k => exact Mono.g (Mono.g (Mono.s (Nat.le_refl _) (Nat.le_refl _)))
  | idiv => exact Mono.g (Mono.i fun a S => Mono.i fun a S => Mono.g (Mono.s (Nat.le_refl _) (Nat.le_refl _)))
  | irem => exact Mono.g (Mono.i fun a S => Mono.i fun a S => Mono.g (Mono.s (Nat.le_refl _) (Nat.le_refl _)))
  | i2l => exact Mono.g (Mono.i fun a S => Mono.s (Nat.le_refl _) (Nat.le_refl _))
  | l2i => exact Mono.g (Mono.j fun a S => Mono.s (Nat.le_refl _) (Nat.le_refl _))
  | i2b => exact Mono.g (Mono.i fun a S => Mono.s (Nat.le_refl _) (Nat.le_refl _))
  | iadd => exact Mono.g (Mono.i fun a S => Mono.i fun a S => Mono.s (Nat.le_refl _) (Nat.le_refl _))
  | isub => exact Mono.g (Mono.i fun a S => Mono.i fun a S => Mono.s (Nat.le_refl _) (Nat.le_refl _))
  | imul => exact Mono.g (Mono.i fun a S => Mono.i fun a S => Mono.s (Nat.le_refl _) (Nat.le_refl _))
  | iand => exact Mono.g (Mono.i fun a S => Mono.i fun a S => Mono.s (Nat.le_refl _) (Nat.le_refl _))
  | ior => exact Mono.g (Mono.i fun a S => Mono.i fun a S => Mono.s (Nat.le_refl _) (Nat.le_refl _))
  | ixor => exact Mono.g (Mono.i fun a S => Mono.i fun a S => Mono.s (Nat.le_refl _) (Nat.le_refl _))
  | ishl => exact Mono.g (Mono.i fun a S => Mono.i fun a S => Mono.s (Nat.le_refl _) (Nat.le_refl _))
  | ladd => exact Mono.g (Mono.j fun a S => Mono.j fun a S => Mono.s (Nat.le_refl _) (Nat.le_refl _))
  | lmul => exact Mono.g (Mono.j fun a S => Mono.j fun a S => Mono.s (Nat.le_refl _) (Nat.le_refl _))
  | lcmp => exact Mono.g (Mono.j fun a S => Mono.j fun a S => Mono.s (Nat.le_refl _) (Nat.le_refl _))
  | iconst n => exact Mono.g (Mono.s (Nat.le_refl _) (Nat.le_refl _))
  | bipush n => exact Mono.g (Mono.s (Nat.le_refl _) (Nat.le_refl _))
  | sipush n => exact Mono.g (Mono.s (Nat.le_refl _) (Nat.le_refl _))
  | aconst_null => exact Mono.g (Mono.s (Nat.le_refl _) (Nat.le_refl _))
  | _ => exact Mono.n h
theorem prun_mono : ∀ (k m pc : Nat) (L S : List Value) (h : HP) (r : Option Value) (h' : HP), prun k m pc L S h = some (r, h') → hp_n h ≤ hp_n h' ∧ hp_s h ≤ hp_s h' := by
  intro k
  induction k with
  | zero => intro m pc L S h r h' e; cases e
  | succ k ih =>
    intro m pc L S h r h' e
    rw [prun] at e
    cases hd : decode (mb m) pc with
    | error x => rw [hd] at e; cases e
    | ok q =>
      obtain ⟨i, len⟩ := q
      rw [hd] at e
      simp only at e
      cases hr : rets m i len S with
      | some r0 => rw [hr] at e; cases e; exact ⟨Nat.le_refl _, Nat.le_refl _⟩
      | none =>
        rw [hr] at e
        simp only at e
        cases hc : call m i len S h with
        | some q =>
          obtain ⟨m', as, S'⟩ := q
          rw [hc] at e
          simp only at e
          cases h1 : prun k m' 0 (locs0 m' as) [] h with
          | none => rw [h1] at e; cases e
          | some q1 =>
            obtain ⟨r1, h1'⟩ := q1
            rw [h1] at e
            have a := ih _ _ _ _ _ _ _ h1
            have b := ih _ _ _ _ _ _ _ e
            exact ⟨Nat.le_trans a.1 b.1, Nat.le_trans a.2 b.2⟩
        | none =>
          rw [hc] at e
          simp only at e
          cases hs : stp m pc i len L S h with
          | none => rw [hs] at e; cases e
          | some q1 =>
            obtain ⟨pc', L', S', h2⟩ := q1
            rw [hs] at e
            have a := stp_mono m pc i len L S h _ _ _ _ hs
            have b := ih _ _ _ _ _ _ _ e
            exact ⟨Nat.le_trans a.1 b.1, Nat.le_trans a.2 b.2⟩
/-- what a call says -/
theorem call_some {m : Nat} {i : Instr} {len : Nat} {S : List Value} {h : HP} {m' : Nat} {as S' : List Value} (e : call m i len S h = some (m', as, S')) :
    ∃ idx nest, len = 3 ∧ lkM (mcl m) idx = some (m', nest) ∧ kcl i = some (mkd m', idx) ∧ m' < 9000 ∧ mrf m' < mrf m ∧ 8 + (mxl m' + 11) + mrl m' ≤ mrl m ∧ mnp m' ≤ S.length ∧ (S'.map Value.category).sum ≤ 8 ∧ (mlong m' = true ∨ ∀ v ∈ as, v.category = 1) ∧ rcv m' as (hp_k h) = true ∧ S = as.reverse ++ S' ∧ as.length = mnp m' := by
  obtain ⟨⟨kd, idx⟩, hk, e⟩ := Option.bind_eq_some_iff.mp e
  obtain ⟨⟨t, nest⟩, hf, e⟩ := Option.bind_eq_some_iff.mp e
  obtain ⟨c1, e⟩ := gd_some e
  obtain ⟨c2, e⟩ := gd_some e
  cases e
  simp only [Bool.and_eq_true, beq_iff_eq, decide_eq_true_eq, Bool.or_eq_true, List.all_eq_true] at c1
  obtain ⟨⟨⟨⟨⟨⟨⟨a1, a2⟩, a3⟩, a4⟩, a5⟩, a6⟩, a7⟩, a8⟩ := c1
  refine ⟨idx, nest, a1, hf, by rw [hk, a3], a2, a4, a5, a6, a7, ?_, c2, by rw [List.reverse_reverse, List.take_append_drop], by rw [List.length_reverse, List.length_take]; exact Nat.min_eq_left a6⟩
  rcases a8 with q | q
  · exact Or.inl q
  · exact Or.inr fun v hv => q v (List.mem_reverse.mp hv)
