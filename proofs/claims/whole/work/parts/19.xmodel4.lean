theorem d1165_0 : decode (mb 1165) 0 = .ok (.aload_n 0, 1) := by decide +kernel
theorem d1165_1 : decode (mb 1165) 1 = .ok (.getfield 115, 3) := by decide +kernel
theorem d1165_4 : decode (mb 1165) 4 = .ok (.ifCond .ne 6, 3) := by decide +kernel
theorem d1165_7 : decode (mb 1165) 7 = .ok (.bipush (-3), 2) := by decide +kernel
theorem d1165_9 : decode (mb 1165) 9 = .ok (.ireturn, 1) := by decide +kernel
theorem d1165_10 : decode (mb 1165) 10 = .ok (.aload_n 0, 1) := by decide +kernel
theorem d1165_11 : decode (mb 1165) 11 = .ok (.invokevirtual 183, 3) := by decide +kernel
theorem d1165_14 : decode (mb 1165) 14 = .ok (.aload_n 0, 1) := by decide +kernel
theorem d1165_15 : decode (mb 1165) 15 = .ok (.iconst 0, 1) := by decide +kernel
theorem d1165_16 : decode (mb 1165) 16 = .ok (.putfield 115, 3) := by decide +kernel
theorem d1165_19 : decode (mb 1165) 19 = .ok (.iconst 1, 1) := by decide +kernel
theorem d1165_20 : decode (mb 1165) 20 = .ok (.ireturn, 1) := by decide +kernel
theorem x1165_0 {S : List Value} {h : HP}  {a0 : Nat} : pX 1165 0 [.ref a0] S h = pX 1165 1 [.ref a0] (.ref a0 :: S) h := pX_stp d1165_0 rfl rfl rfl
theorem x1165_1 {L S : List Value} {h : HP} {a : Nat} (hk : hp_k h a = 12) : pX 1165 1 L (.ref a :: S) h = pX 1165 4 L (.int (hp_i h a 8) :: S) h := pX_get d1165_1 rfl rfl hk
theorem x1165_4 {L S : List Value} {h : HP} {x : Int32} : pX 1165 4 L (.int x :: S) h = if x = 0 then pX 1165 7 L S h else pX 1165 10 L S h := pX_if_ne d1165_4 (by decide)
theorem x1165_7 {L S : List Value} {h : HP} : pX 1165 7 L S h = pX 1165 9 L (.int (-3) :: S) h := pX_bipush d1165_7 (by decide)
theorem x1165_9 {L : List Value} {h : HP} {x : Int32} : pX 1165 9 L [.int x] h = some (some (.int x), h) := pX_ret d1165_9 rfl
theorem x1165_10 {S : List Value} {h : HP}  {a0 : Nat} : pX 1165 10 [.ref a0] S h = pX 1165 11 [.ref a0] (.ref a0 :: S) h := pX_stp d1165_10 rfl rfl rfl
theorem x1165_11 {L : List Value} {h : HP} {a0 : Nat} (hk : hp_k h a0 = 12) : pX 1165 11 L [.ref a0] h = (pX 1126 0 [.ref a0, .retAddr 0] [] h).bind (fun q => pX 1165 14 L (q.1.toList ++ []) q.2) := pX_inv (a := a0) (t := 12) 1126 [.ref a0] [] d1165_11 rfl rfl rfl hk
theorem x1165_14 {S : List Value} {h : HP}  {a0 : Nat} : pX 1165 14 [.ref a0] S h = pX 1165 15 [.ref a0] (.ref a0 :: S) h := pX_stp d1165_14 rfl rfl rfl
theorem x1165_15 {L S : List Value} {h : HP} : pX 1165 15 L S h = pX 1165 16 L (.int 0 :: S) h := pX_iconst d1165_15 (by decide)
theorem x1165_16 {L S : List Value} {h : HP} {a : Nat} {x : Int32} (hk : hp_k h a = 12) (hx : x = 0 ∨ x = 1) : pX 1165 16 L (.int x :: .ref a :: S) h = pX 1165 19 L S (hp_wi h a 8 x) := pX_put d1165_16 rfl rfl (by rcases hx with rfl | rfl <;> rfl) hk
theorem x1165_19 {L S : List Value} {h : HP} : pX 1165 19 L S h = pX 1165 20 L (.int 1 :: S) h := pX_iconst d1165_19 (by decide)
theorem x1165_20 {L : List Value} {h : HP} {x : Int32} : pX 1165 20 L [.int x] h = some (some (.int x), h) := pX_ret d1165_20 rfl
theorem d1166_0 : decode (mb 1166) 0 = .ok (.iload_n 1, 1) := by decide +kernel
theorem d1166_1 : decode (mb 1166) 1 = .ok (.iconst 0, 1) := by decide +kernel
theorem d1166_2 : decode (mb 1166) 2 = .ok (.iconst 5, 1) := by decide +kernel
theorem d1166_3 : decode (mb 1166) 3 = .ok (.invokestatic 111, 3) := by decide +kernel
theorem d1166_6 : decode (mb 1166) 6 = .ok (.ifCond .ne 6, 3) := by decide +kernel
theorem d1166_9 : decode (mb 1166) 9 = .ok (.bipush (-2), 2) := by decide +kernel
theorem d1166_11 : decode (mb 1166) 11 = .ok (.ireturn, 1) := by decide +kernel
theorem d1166_12 : decode (mb 1166) 12 = .ok (.iload_n 1, 1) := by decide +kernel
theorem d1166_13 : decode (mb 1166) 13 = .ok (.ifCond .ne 10, 3) := by decide +kernel
theorem d1166_16 : decode (mb 1166) 16 = .ok (.aload_n 0, 1) := by decide +kernel
theorem d1166_17 : decode (mb 1166) 17 = .ok (.getfield 108, 3) := by decide +kernel
theorem d1166_20 : decode (mb 1166) 20 = .ok (.goto 29, 3) := by decide +kernel
theorem d1166_23 : decode (mb 1166) 23 = .ok (.iload_n 1, 1) := by decide +kernel
theorem d1166_24 : decode (mb 1166) 24 = .ok (.iconst 5, 1) := by decide +kernel
theorem d1166_25 : decode (mb 1166) 25 = .ok (.if_icmp .ne 18, 3) := by decide +kernel
theorem d1166_28 : decode (mb 1166) 28 = .ok (.aload_n 0, 1) := by decide +kernel
theorem d1166_29 : decode (mb 1166) 29 = .ok (.getfield 115, 3) := by decide +kernel
theorem d1166_32 : decode (mb 1166) 32 = .ok (.ifCond .eq 7, 3) := by decide +kernel
theorem d1166_35 : decode (mb 1166) 35 = .ok (.iconst 1, 1) := by decide +kernel
theorem d1166_36 : decode (mb 1166) 36 = .ok (.goto 13, 3) := by decide +kernel
theorem d1166_39 : decode (mb 1166) 39 = .ok (.iconst 0, 1) := by decide +kernel
theorem d1166_40 : decode (mb 1166) 40 = .ok (.goto 9, 3) := by decide +kernel
theorem d1166_43 : decode (mb 1166) 43 = .ok (.aload_n 0, 1) := by decide +kernel
theorem d1166_44 : decode (mb 1166) 44 = .ok (.getfield 101, 3) := by decide +kernel
theorem d1166_47 : decode (mb 1166) 47 = .ok (.iload_n 1, 1) := by decide +kernel
theorem d1166_48 : decode (mb 1166) 48 = .ok (.iaload, 1) := by decide +kernel
theorem d1166_49 : decode (mb 1166) 49 = .ok (.ireturn, 1) := by decide +kernel
theorem x1166_0 {S : List Value} {h : HP} {l0 : Value} {x0 : Int32} : pX 1166 0 [l0, .int x0] S h = pX 1166 1 [l0, .int x0] (.int x0 :: S) h := pX_stp d1166_0 rfl rfl rfl
theorem x1166_1 {L S : List Value} {h : HP} : pX 1166 1 L S h = pX 1166 2 L (.int 0 :: S) h := pX_iconst d1166_1 (by decide)
theorem x1166_2 {L S : List Value} {h : HP} : pX 1166 2 L S h = pX 1166 3 L (.int 5 :: S) h := pX_iconst d1166_2 (by decide)
theorem x1166_3 {L : List Value} {h : HP} {x0 : Int32} {x1 : Int32} {x2 : Int32} : pX 1166 3 L [.int x0, .int x1, .int x2] h = (pX 1101 0 [.int x2, .int x1, .int x0] [] h).bind (fun q => pX 1166 6 L (q.1.toList ++ []) q.2) := pX_ins 1101 [.int x2, .int x1, .int x0] [] d1166_3 rfl rfl rfl
theorem x1166_6 {L S : List Value} {h : HP} {x : Int32} : pX 1166 6 L (.int x :: S) h = if x = 0 then pX 1166 9 L S h else pX 1166 12 L S h := pX_if_ne d1166_6 (by decide)
theorem x1166_9 {L S : List Value} {h : HP} : pX 1166 9 L S h = pX 1166 11 L (.int (-2) :: S) h := pX_bipush d1166_9 (by decide)
theorem x1166_11 {L : List Value} {h : HP} {x : Int32} : pX 1166 11 L [.int x] h = some (some (.int x), h) := pX_ret d1166_11 rfl
theorem x1166_12 {S : List Value} {h : HP} {l0 : Value} {x0 : Int32} : pX 1166 12 [l0, .int x0] S h = pX 1166 13 [l0, .int x0] (.int x0 :: S) h := pX_stp d1166_12 rfl rfl rfl
theorem x1166_13 {L S : List Value} {h : HP} {x : Int32} : pX 1166 13 L (.int x :: S) h = if x = 0 then pX 1166 16 L S h else pX 1166 23 L S h := pX_if_ne d1166_13 (by decide)
theorem x1166_16 {S : List Value} {h : HP} {l1 : Value} {a0 : Nat} : pX 1166 16 [.ref a0, l1] S h = pX 1166 17 [.ref a0, l1] (.ref a0 :: S) h := pX_stp d1166_16 rfl rfl rfl
theorem x1166_17 {L S : List Value} {h : HP} {a : Nat} (hk : hp_k h a = 12) : pX 1166 17 L (.ref a :: S) h = pX 1166 20 L (.int (hp_i h a 0) :: S) h := pX_get d1166_17 rfl rfl hk
theorem x1166_20 {L S : List Value} {h : HP} : pX 1166 20 L S h = pX 1166 49 L S h := pX_goto d1166_20 (by decide)
theorem x1166_23 {S : List Value} {h : HP} {l0 : Value} {x0 : Int32} : pX 1166 23 [l0, .int x0] S h = pX 1166 24 [l0, .int x0] (.int x0 :: S) h := pX_stp d1166_23 rfl rfl rfl
theorem x1166_24 {L S : List Value} {h : HP} : pX 1166 24 L S h = pX 1166 25 L (.int 5 :: S) h := pX_iconst d1166_24 (by decide)
theorem x1166_25 {L S : List Value} {h : HP} {x y : Int32} : pX 1166 25 L (.int y :: .int x :: S) h = if x = y then pX 1166 28 L S h else pX 1166 43 L S h := pX_icmp_ne d1166_25 (by decide)
theorem x1166_28 {S : List Value} {h : HP} {l1 : Value} {a0 : Nat} : pX 1166 28 [.ref a0, l1] S h = pX 1166 29 [.ref a0, l1] (.ref a0 :: S) h := pX_stp d1166_28 rfl rfl rfl
theorem x1166_29 {L S : List Value} {h : HP} {a : Nat} (hk : hp_k h a = 12) : pX 1166 29 L (.ref a :: S) h = pX 1166 32 L (.int (hp_i h a 8) :: S) h := pX_get d1166_29 rfl rfl hk
theorem x1166_32 {L S : List Value} {h : HP} {x : Int32} : pX 1166 32 L (.int x :: S) h = if x = 0 then pX 1166 39 L S h else pX 1166 35 L S h := pX_if_eq d1166_32 (by decide)
theorem x1166_35 {L S : List Value} {h : HP} : pX 1166 35 L S h = pX 1166 36 L (.int 1 :: S) h := pX_iconst d1166_35 (by decide)
theorem x1166_36 {L S : List Value} {h : HP} : pX 1166 36 L S h = pX 1166 49 L S h := pX_goto d1166_36 (by decide)
theorem x1166_39 {L S : List Value} {h : HP} : pX 1166 39 L S h = pX 1166 40 L (.int 0 :: S) h := pX_iconst d1166_39 (by decide)
theorem x1166_40 {L S : List Value} {h : HP} : pX 1166 40 L S h = pX 1166 49 L S h := pX_goto d1166_40 (by decide)
theorem x1166_43 {S : List Value} {h : HP} {l1 : Value} {a0 : Nat} : pX 1166 43 [.ref a0, l1] S h = pX 1166 44 [.ref a0, l1] (.ref a0 :: S) h := pX_stp d1166_43 rfl rfl rfl
theorem x1166_44 {L S : List Value} {h : HP} {a : Nat} (hk : hp_k h a = 12) : pX 1166 44 L (.ref a :: S) h = pX 1166 47 L (.ref (hp_a h a 43) :: S) h := pX_get d1166_44 rfl rfl hk
theorem x1166_47 {S : List Value} {h : HP} {l0 : Value} {x0 : Int32} : pX 1166 47 [l0, .int x0] S h = pX 1166 48 [l0, .int x0] (.int x0 :: S) h := pX_stp d1166_47 rfl rfl rfl
theorem x1166_48 {L S : List Value} {h : HP} {a : Nat} {j : Int32} (hk : hp_k h a = 100) (hj : inb j (hp_l h a) = true) : pX 1166 48 L (.int j :: .ref a :: S) h = pX 1166 49 L (.int (hp_i h a (ix j)) :: S) h := pX_ild d1166_48 hk hj
theorem x1166_49 {L : List Value} {h : HP} {x : Int32} : pX 1166 49 L [.int x] h = some (some (.int x), h) := pX_ret d1166_49 rfl
