/-! THE PURE MACHINE: a flat heap of numbers, and a bytecode interpreter over it.
Values: .int, .long, .ref a (a = 0: null; 0 < a < 4: an array that was there before; 4 ≤ a: a cell that was made), .retAddr 0: a local that isn't set.
Heap: next address, slots used, tags, lengths, ints, references. Tags: ci + 1 an object of class ci; 99 an int array of before; 100 an int array; 200 + ci an array of references to objects of class ci. -/
abbrev HP : Type := Nat × Nat × (Nat → Nat) × (Nat → Nat) × (Nat → Nat → Int32) × (Nat → Nat → Nat)
def hp_n (h : HP) : Nat := h.1
def hp_s (h : HP) : Nat := h.2.1
def hp_k (h : HP) : Nat → Nat := h.2.2.1
def hp_l (h : HP) : Nat → Nat := h.2.2.2.1
def hp_i (h : HP) : Nat → Nat → Int32 := h.2.2.2.2.1
def hp_a (h : HP) : Nat → Nat → Nat := h.2.2.2.2.2
def hp_u {α : Type} (f : Nat → Nat → α) (a k : Nat) (v : α) : Nat → Nat → α := fun b j => if b = a ∧ j = k then v else f b j
def hp_wi (h : HP) (a k : Nat) (v : Int32) : HP := (hp_n h, hp_s h, hp_k h, hp_l h, hp_u (hp_i h) a k v, hp_a h)
def hp_wa (h : HP) (a k : Nat) (v : Nat) : HP := (hp_n h, hp_s h, hp_k h, hp_l h, hp_i h, hp_u (hp_a h) a k v)
/-- a new cell of tag t, of length n, of s slots -/
def hp_mk (h : HP) (t n s : Nat) : HP := (hp_n h + 1, hp_s h + s, fun b => if b = hp_n h then t else hp_k h b, fun b => if b = hp_n h then n else hp_l h b, fun b j => if b = hp_n h then 0 else hp_i h b j, fun b j => if b = hp_n h then 0 else hp_a h b j)
/-- System.arraycopy of ints -/
def hp_cp (h : HP) (a sp b dp n : Nat) : HP := (hp_n h, hp_s h, hp_k h, hp_l h, fun c j => if c = b ∧ dp ≤ j ∧ j < dp + n then hp_i h a (sp + (j - dp)) else hp_i h c j, hp_a h)
theorem hp_n_wi (h : HP) (a k : Nat) (v : Int32) : hp_n (hp_wi h a k v) = hp_n h := rfl
theorem hp_s_wi (h : HP) (a k : Nat) (v : Int32) : hp_s (hp_wi h a k v) = hp_s h := rfl
theorem hp_k_wi (h : HP) (a k : Nat) (v : Int32) : hp_k (hp_wi h a k v) = hp_k h := rfl
theorem hp_l_wi (h : HP) (a k : Nat) (v : Int32) : hp_l (hp_wi h a k v) = hp_l h := rfl
theorem hp_i_wi (h : HP) (a k : Nat) (v : Int32) (b j : Nat) : hp_i (hp_wi h a k v) b j = if b = a ∧ j = k then v else hp_i h b j := rfl
theorem hp_a_wi (h : HP) (a k : Nat) (v : Int32) : hp_a (hp_wi h a k v) = hp_a h := rfl
theorem hp_n_wa (h : HP) (a k : Nat) (v : Nat) : hp_n (hp_wa h a k v) = hp_n h := rfl
theorem hp_s_wa (h : HP) (a k : Nat) (v : Nat) : hp_s (hp_wa h a k v) = hp_s h := rfl
theorem hp_k_wa (h : HP) (a k : Nat) (v : Nat) : hp_k (hp_wa h a k v) = hp_k h := rfl
theorem hp_l_wa (h : HP) (a k : Nat) (v : Nat) : hp_l (hp_wa h a k v) = hp_l h := rfl
theorem hp_i_wa (h : HP) (a k : Nat) (v : Nat) : hp_i (hp_wa h a k v) = hp_i h := rfl
theorem hp_a_wa (h : HP) (a k : Nat) (v : Nat) (b j : Nat) : hp_a (hp_wa h a k v) b j = if b = a ∧ j = k then v else hp_a h b j := rfl
theorem hp_n_mk (h : HP) (t n s : Nat) : hp_n (hp_mk h t n s) = hp_n h + 1 := rfl
theorem hp_s_mk (h : HP) (t n s : Nat) : hp_s (hp_mk h t n s) = hp_s h + s := rfl
theorem hp_k_mk (h : HP) (t n s : Nat) (b : Nat) : hp_k (hp_mk h t n s) b = if b = hp_n h then t else hp_k h b := rfl
theorem hp_l_mk (h : HP) (t n s : Nat) (b : Nat) : hp_l (hp_mk h t n s) b = if b = hp_n h then n else hp_l h b := rfl
theorem hp_i_mk (h : HP) (t n s : Nat) (b j : Nat) : hp_i (hp_mk h t n s) b j = if b = hp_n h then 0 else hp_i h b j := rfl
theorem hp_a_mk (h : HP) (t n s : Nat) (b j : Nat) : hp_a (hp_mk h t n s) b j = if b = hp_n h then 0 else hp_a h b j := rfl
theorem hp_n_cp (h : HP) (a sp b dp n : Nat) : hp_n (hp_cp h a sp b dp n) = hp_n h := rfl
theorem hp_s_cp (h : HP) (a sp b dp n : Nat) : hp_s (hp_cp h a sp b dp n) = hp_s h := rfl
theorem hp_k_cp (h : HP) (a sp b dp n : Nat) : hp_k (hp_cp h a sp b dp n) = hp_k h := rfl
theorem hp_l_cp (h : HP) (a sp b dp n : Nat) : hp_l (hp_cp h a sp b dp n) = hp_l h := rfl
theorem hp_i_cp (h : HP) (a sp b dp n : Nat) (c j : Nat) : hp_i (hp_cp h a sp b dp n) c j = if c = b ∧ dp ≤ j ∧ j < dp + n then hp_i h a (sp + (j - dp)) else hp_i h c j := rfl
theorem hp_a_cp (h : HP) (a sp b dp n : Nat) : hp_a (hp_cp h a sp b dp n) = hp_a h := rfl
/-- operands, top first -/
def s_i {α : Type} (S : List Value) (f : Int32 → List Value → Option α) : Option α := match S with
  | .int x :: S => f x S
  | _ => none
def s_j {α : Type} (S : List Value) (f : Int64 → List Value → Option α) : Option α := match S with
  | .long x :: S => f x S
  | _ => none
def s_a {α : Type} (S : List Value) (f : Nat → List Value → Option α) : Option α := match S with
  | .ref x :: S => f x S
  | _ => none
def s_v {α : Type} (S : List Value) (f : Value → List Value → Option α) : Option α := match S with
  | x :: S => f x S
  | _ => none
theorem s_i_some {α : Type} {S : List Value} {f : Int32 → List Value → Option α} {r : α} (h : s_i S f = some r) : ∃ x S', S = .int x :: S' ∧ f x S' = some r := by
  unfold s_i at h
  split at h
  · exact ⟨_, _, rfl, h⟩
  · cases h
theorem s_j_some {α : Type} {S : List Value} {f : Int64 → List Value → Option α} {r : α} (h : s_j S f = some r) : ∃ x S', S = .long x :: S' ∧ f x S' = some r := by
  unfold s_j at h
  split at h
  · exact ⟨_, _, rfl, h⟩
  · cases h
theorem s_a_some {α : Type} {S : List Value} {f : Nat → List Value → Option α} {r : α} (h : s_a S f = some r) : ∃ x S', S = .ref x :: S' ∧ f x S' = some r := by
  unfold s_a at h
  split at h
  · exact ⟨_, _, rfl, h⟩
  · cases h
theorem s_v_some {α : Type} {S : List Value} {f : Value → List Value → Option α} {r : α} (h : s_v S f = some r) : ∃ x S', S = x :: S' ∧ f x S' = some r := by
  unfold s_v at h
  split at h
  · exact ⟨_, _, rfl, h⟩
  · cases h
def gd {α : Type} (b : Bool) (x : Option α) : Option α := match b with
  | true => x
  | false => none
theorem gd_some {α : Type} {b : Bool} {x : Option α} {r : α} (h : gd b x = some r) : b = true ∧ x = some r := by
  cases b
  · cases h
  · exact ⟨rfl, h⟩
def isI (v : Value) : Bool := match v with
  | .int _ => true
  | _ => false
def isJ (v : Value) : Bool := match v with
  | .long _ => true
  | _ => false
def isA (v : Value) : Bool := match v with
  | .ref _ => true
  | _ => false
def lget (L : List Value) (k : Nat) : Value := L.getD k (.retAddr 0)
abbrev ix (j : Int32) : Nat := j.toNatClampNeg
/-- an index within -/
def inb (j : Int32) (n : Nat) : Bool := decide (0 ≤ j) && decide (ix j < n)
def okr (a : Nat) : Bool := a == 0 || decide (4 ≤ a)
def cnd (c : Jvm.ClassFile.Cond) (x y : Int32) : Bool := match c with
  | .eq => decide (x = y)
  | .ne => decide (¬ x = y)
  | .lt => decide (x < y)
  | .ge => decide (y ≤ x)
  | .gt => decide (y < x)
  | .le => decide (x ≤ y)
/-- a jump -/
def jmp (pc : Nat) (off : Int) (L S : List Value) (h : HP) : Option (Nat × List Value × List Value × HP) := gd (decide (0 ≤ (pc : Int) + off)) (some (((pc : Int) + off).toNat, L, S, h))
def jif (b : Bool) (pc : Nat) (off : Int) (L S : List Value) (h : HP) : Option (Nat × List Value × List Value × HP) := gd (decide (0 ≤ (pc : Int) + off)) (match b with
  | true => some (((pc : Int) + off).toNat, L, S, h)
  | false => some (pc + 3, L, S, h))
def fval (ty : FieldType) (h : HP) (a k : Nat) : Value := match ty with
  | .int => .int (hp_i h a k)
  | .boolean => .int (hp_i h a k)
  | _ => .ref (hp_a h a k)
/-- what a field of a type may take, and the heap behind it -/
def fput (ty : FieldType) (h : HP) (a k : Nat) (v : Value) : Option HP := match ty, v with
  | .int, .int x => some (hp_wi h a k x)
  | .boolean, .int x => gd (x == 0 || x == 1) (some (hp_wi h a k x))
  | .object _, .ref b => some (hp_wa h a k b)
  | .array _, .ref b => some (hp_wa h a k b)
  | _, _ => none
def ld (t : Value → Bool) (L : List Value) (k pc : Nat) (S : List Value) (h : HP) : Option (Nat × List Value × List Value × HP) := gd (t (lget L k)) (some (pc, L, lget L k :: S, h))
def sto (m : Nat) (t : Value → Bool) (L : List Value) (k pc : Nat) (S : List Value) (h : HP) : Option (Nat × List Value × List Value × HP) := s_v S fun v S => gd (t v && !(mlong m) && decide (k < L.length)) (some (pc, L.set k v, S, h))
def ari (pc : Nat) (L S : List Value) (h : HP) (f : Int32 → Int32 → Int32) : Option (Nat × List Value × List Value × HP) := s_i S fun y S => s_i S fun x S => some (pc + 1, L, .int (f x y) :: S, h)
def arj (pc : Nat) (L S : List Value) (h : HP) (f : Int64 → Int64 → Value) : Option (Nat × List Value × List Value × HP) := s_j S fun y S => s_j S fun x S => some (pc + 1, L, f x y :: S, h)
/-- one instruction that is no call and no return -/
def stp (m pc : Nat) (i : Instr) (len : Nat) (L S : List Value) (h : HP) : Option (Nat × List Value × List Value × HP) := match i with
  | .iconst n => gd (len == 1) (some (pc + 1, L, .int (Int32.ofInt n) :: S, h))
  | .bipush n => gd (len == 2) (some (pc + 2, L, .int (Int8.ofInt n).toInt32 :: S, h))
  | .sipush n => gd (len == 3) (some (pc + 3, L, .int (Int16.ofInt n).toInt32 :: S, h))
  | .ldc idx => gd (len == 2) ((lkC (mcl m) idx).bind fun v => some (pc + 2, L, .int v :: S, h))
  | .aconst_null => gd (len == 1) (some (pc + 1, L, .ref 0 :: S, h))
  | .iload k => gd (len == 2) (ld isI L k (pc + 2) S h)
  | .iload_n k => gd (len == 1) (ld isI L k (pc + 1) S h)
  | .aload k => gd (len == 2) (ld isA L k (pc + 2) S h)
  | .aload_n k => gd (len == 1) (ld isA L k (pc + 1) S h)
  | .lload_n k => gd (len == 1) (ld isJ L k (pc + 1) S h)
  | .istore k => gd (len == 2) (sto m isI L k (pc + 2) S h)
  | .istore_n k => gd (len == 1) (sto m isI L k (pc + 1) S h)
  | .astore k => gd (len == 2) (sto m isA L k (pc + 2) S h)
  | .astore_n k => gd (len == 1) (sto m isA L k (pc + 1) S h)
  | .iinc k n => gd (len == 3 && !(mlong m) && decide (k < L.length)) (match lget L k with
    | .int x => some (pc + 3, L.set k (.int (x + Int32.ofInt n)), S, h)
    | _ => none)
  | .iadd => gd (len == 1) (ari pc L S h (fun x y => x + y))
  | .isub => gd (len == 1) (ari pc L S h (fun x y => x - y))
  | .imul => gd (len == 1) (ari pc L S h (fun x y => x * y))
  | .iand => gd (len == 1) (ari pc L S h (fun x y => x &&& y))
  | .ior => gd (len == 1) (ari pc L S h (fun x y => x ||| y))
  | .ixor => gd (len == 1) (ari pc L S h (fun x y => x ^^^ y))
  | .ishl => gd (len == 1) (ari pc L S h (fun x y => x <<< (y &&& 31)))
  | .idiv => gd (len == 1) (s_i S fun y S => s_i S fun x S => gd (!(y == 0)) (some (pc + 1, L, .int (x / y) :: S, h)))
  | .irem => gd (len == 1) (s_i S fun y S => s_i S fun x S => gd (!(y == 0)) (some (pc + 1, L, .int (x - x / y * y) :: S, h)))
  | .i2l => gd (len == 1) (s_i S fun x S => some (pc + 1, L, .long x.toInt64 :: S, h))
  | .l2i => gd (len == 1) (s_j S fun x S => some (pc + 1, L, .int x.toInt32 :: S, h))
  | .i2b => gd (len == 1) (s_i S fun x S => some (pc + 1, L, .int x.toInt8.toInt32 :: S, h))
  | .ladd => gd (len == 1) (arj pc L S h (fun x y => .long (x + y)))
  | .lmul => gd (len == 1) (arj pc L S h (fun x y => .long (x * y)))
  | .lcmp => gd (len == 1) (arj pc L S h (fun x y => .int (lg_cmp x y)))
  | .dup => gd (len == 1) (s_v S fun v S => gd (v.category == 1) (some (pc + 1, L, v :: v :: S, h)))
  | .pop => gd (len == 1) (s_v S fun v S => gd (v.category == 1) (some (pc + 1, L, S, h)))
  | .dup2 => gd (len == 1) (s_v S fun v S => s_v S fun w S => gd (v.category == 1 && w.category == 1) (some (pc + 1, L, v :: w :: v :: w :: S, h)))
  | .ifCond c off => gd (len == 3) (s_i S fun x S => jif (cnd c x 0) pc off L S h)
  | .if_icmp c off => gd (len == 3) (s_i S fun y S => s_i S fun x S => jif (cnd c x y) pc off L S h)
  | .ifnull off => gd (len == 3) (s_a S fun a S => jif (a == 0) pc off L S h)
  | .ifnonnull off => gd (len == 3) (s_a S fun a S => jif (!(a == 0)) pc off L S h)
  | .if_acmp .eq off => gd (len == 3) (s_a S fun b S => s_a S fun a S => gd (okr a && okr b) (jif (a == b) pc off L S h))
  | .if_acmp .ne off => gd (len == 3) (s_a S fun b S => s_a S fun a S => gd (okr a && okr b) (jif (!(a == b)) pc off L S h))
  | .goto off => gd (len == 3) (jmp pc off L S h)
  | .tableswitch d lo hi offs => s_i S fun x S => match decide (x.toInt < lo) || decide (hi < x.toInt) with
    | true => jmp pc d L S h
    | false => (offs[(x.toInt - lo).toNat]?).bind fun off => jmp pc off L S h
  | .lookupswitch d ps => s_i S fun x S => gd ((ps.toList.zip (ps.toList.drop 1)).all (fun (a, next) => a.1 < next.1)) (jmp pc (Op.lookupswitch.offset ps.toList d x.toInt) L S h)
  | .getfield idx => gd (len == 3) ((lkF (mcl m) idx).bind fun f => s_a S fun a S => gd (hp_k h a == f.1 + 1) (some (pc + 3, L, fval (fty f.1 f.2.1) h a f.2.1 :: S, h)))
  | .putfield idx => gd (len == 3) ((lkF (mcl m) idx).bind fun f => s_v S fun v S => s_a S fun a S => gd (hp_k h a == f.1 + 1 && (!(ffin f.1 f.2.1) || (mini m && mcl m == f.1 && !f.2.2))) ((fput (fty f.1 f.2.1) h a f.2.1 v).bind fun h' => some (pc + 3, L, S, h')))
  | .getstatic idx => gd (len == 3) ((lkS (mcl m) idx).bind fun f => some (pc + 3, L, .ref f.1 :: S, h))
  | .iaload => gd (len == 1) (s_i S fun j S => s_a S fun a S => gd ((hp_k h a == 100 || hp_k h a == 99) && inb j (hp_l h a)) (some (pc + 1, L, .int (hp_i h a (ix j)) :: S, h)))
  | .iastore => gd (len == 1) (s_i S fun x S => s_i S fun j S => s_a S fun a S => gd (hp_k h a == 100 && inb j (hp_l h a)) (some (pc + 1, L, S, hp_wi h a (ix j) x)))
  | .aaload => gd (len == 1) (s_i S fun j S => s_a S fun a S => gd (decide (200 ≤ hp_k h a) && inb j (hp_l h a)) (some (pc + 1, L, .ref (hp_a h a (ix j)) :: S, h)))
  | .aastore => gd (len == 1) (s_a S fun v S => s_i S fun j S => s_a S fun a S => gd (decide (200 ≤ hp_k h a) && inb j (hp_l h a) && (v == 0 || hp_k h v + 199 == hp_k h a)) (some (pc + 1, L, S, hp_wa h a (ix j) v)))
  | .arraylength => gd (len == 1) (s_a S fun a S => gd (decide (99 ≤ hp_k h a)) (some (pc + 1, L, .int (Int32.ofNat (hp_l h a)) :: S, h)))
  | .newarray .int => gd (len == 2) (s_i S fun j S => gd (decide (0 ≤ j) && decide (ix j ≤ 134217728)) (some (pc + 2, L, .ref (hp_n h) :: S, hp_mk h 100 (ix j) (ix j))))
  | .anewarray idx => gd (len == 3) ((lkK (mcl m) idx).bind fun ci => s_i S fun j S => gd (lkO ci && decide (0 ≤ j) && decide (ix j ≤ 134217728)) (some (pc + 3, L, .ref (hp_n h) :: S, hp_mk h (200 + ci) (ix j) (ix j))))
  | .new idx => gd (len == 3) ((lkK (mcl m) idx).bind fun ci => some (pc + 3, L, .ref (hp_n h) :: S, hp_mk h (ci + 1) 0 (fnum ci)))
  | .invokespecial idx => gd (len == 3) ((lkM (mcl m) idx).bind fun t => gd (t.1 == 9000 && !t.2) (s_a S fun a S => gd (!(a == 0) && decide ((S.map Value.category).sum ≤ 8)) (some (pc + 3, L, S, h))))
  | .invokestatic idx => gd (len == 3) ((lkM (mcl m) idx).bind fun t => match t.1 == 9001 with
    | true => gd (!t.2) (s_i S fun y S => s_i S fun x S => gd (decide ((S.map Value.category).sum ≤ 8)) (some (pc + 3, L, .int (if x < y then y else x) :: S, h)))
    | false => gd (t.1 == 9002 && !t.2) (s_i S fun n S => s_i S fun dp S => s_a S fun b S => s_i S fun sp S => s_a S fun a S => gd (hp_k h a == 100 && hp_k h b == 100 && decide (0 ≤ sp) && decide (0 ≤ dp) && decide (0 ≤ n) && decide (ix sp + ix n ≤ hp_l h a) && decide (ix dp + ix n ≤ hp_l h b) && decide ((S.map Value.category).sum ≤ 8)) (some (pc + 3, L, S, hp_cp h a (ix sp) b (ix dp) (ix n)))))
  | _ => none
/-- a method's end: what it answers -/
def rets (m : Nat) (i : Instr) (len : Nat) (S : List Value) : Option (Option Value) := match i, S with
  | .return_, [] => gd (len == 1 && mret m == none) (some none)
  | .ireturn, [.int x] => gd (len == 1 && (mret m == some .int || (mret m == some .boolean && (x == 0 || x == 1)))) (some (some (.int x)))
  | .areturn, [.ref a] => gd (len == 1 && mrra m) (some (some (.ref a)))
  | _, _ => none
/-- a call: who is called, with what, and what stays on the stack -/
def kcl (i : Instr) : Option (Nat × Nat) := match i with
  | .invokevirtual idx => some (0, idx)
  | .invokestatic idx => some (1, idx)
  | .invokespecial idx => some (2, idx)
  | _ => none
def call (m : Nat) (i : Instr) (len : Nat) (S : List Value) (h : HP) : Option (Nat × List Value × List Value) :=
  (kcl i).bind fun k => (lkM (mcl m) k.2).bind fun t => gd (len == 3 && decide (t.1 < 9000) && mkd t.1 == k.1 && decide (mrf t.1 < mrf m) && decide (8 + (mxl t.1 + 11) + mrl t.1 ≤ mrl m) && decide (mnp t.1 ≤ S.length) && decide (((S.drop (mnp t.1)).map Value.category).sum ≤ 8) && (mlong t.1 || (S.take (mnp t.1)).all (fun v => v.category == 1))) (gd (rcv t.1 (S.take (mnp t.1)).reverse (hp_k h)) (some (t.1, (S.take (mnp t.1)).reverse, S.drop (mnp t.1))))
/-- the locals at a method's beginning -/
def lay (as : List Value) : List Value := match as with
  | [] => []
  | .long x :: as => .long x :: .retAddr 0 :: lay as
  | v :: as => v :: lay as
def locs0 (m : Nat) (as : List Value) : List Value := lay as ++ List.replicate (mxl m - (lay as).length) (.retAddr 0)
def prun : Nat → Nat → Nat → List Value → List Value → HP → Option (Option Value × HP)
  | 0, _, _, _, _, _ => none
  | k + 1, m, pc, L, S, h => match decode (mb m) pc with
    | .error _ => none
    | .ok (i, len) => match rets m i len S with
      | some r => some (r, h)
      | none => match call m i len S h with
        | some (m', as, S') => match prun k m' 0 (locs0 m' as) [] h with
          | none => none
          | some (r, h') => prun k m (pc + 3) L (r.toList ++ S') h'
        | none => match stp m pc i len L S h with
          | none => none
          | some (pc', L', S', h') => prun k m pc' L' S' h'
