theorem d0_0 : decode (mb 0) 0 = .ok (.aload_n 0, 1) := by decide +kernel
theorem d0_1 : decode (mb 0) 1 = .ok (.invokespecial 3, 3) := by decide +kernel
theorem d0_4 : decode (mb 0) 4 = .ok (.aload_n 0, 1) := by decide +kernel
theorem d0_5 : decode (mb 0) 5 = .ok (.new 9, 3) := by decide +kernel
theorem d0_8 : decode (mb 0) 8 = .ok (.dup, 1) := by decide +kernel
theorem d0_9 : decode (mb 0) 9 = .ok (.invokespecial 11, 3) := by decide +kernel
theorem d0_12 : decode (mb 0) 12 = .ok (.putfield 12, 3) := by decide +kernel
theorem d0_15 : decode (mb 0) 15 = .ok (.aload_n 0, 1) := by decide +kernel
theorem d0_16 : decode (mb 0) 16 = .ok (.iload_n 1, 1) := by decide +kernel
theorem d0_17 : decode (mb 0) 17 = .ok (.putfield 18, 3) := by decide +kernel
theorem d0_20 : decode (mb 0) 20 = .ok (.return_, 1) := by decide +kernel
theorem x0_0 {S : List Value} {h : HP} {l1 : Value} {a0 : Nat} : pX 0 0 [.ref a0, l1] S h = pX 0 1 [.ref a0, l1] (.ref a0 :: S) h := pX_stp d0_0 rfl rfl rfl
theorem x0_1 {L : List Value} {h : HP} {a0 : Nat} (ha : ¬ a0 = 0) : pX 0 1 L [.ref a0] h = pX 0 4 L [] h := pX_oinit d0_1 rfl (Nat.le_of_ble_eq_true rfl) ha
theorem x0_4 {S : List Value} {h : HP} {l1 : Value} {a0 : Nat} : pX 0 4 [.ref a0, l1] S h = pX 0 5 [.ref a0, l1] (.ref a0 :: S) h := pX_stp d0_4 rfl rfl rfl
theorem x0_5 {L S : List Value} {h : HP} : pX 0 5 L S h = pX 0 8 L (.ref (hp_n h) :: S) (hp_mk h 9 0 4) := pX_new d0_5 rfl
theorem x0_8 {L S : List Value} {h : HP} {a0 : Nat} : pX 0 8 L (.ref a0 :: S) h = pX 0 9 L (.ref a0 :: .ref a0 :: S) h := pX_stp d0_8 rfl rfl rfl
theorem x0_9 {L : List Value} {h : HP} {a0 : Nat} {a1 : Nat} {a2 : Nat} (hk : hp_k h a0 = 9) : pX 0 9 L [.ref a0, .ref a1, .ref a2] h = (pX 800 0 [.ref a0] [] h).bind (fun q => pX 0 12 L (q.1.toList ++ [.ref a1, .ref a2]) q.2) := pX_inv (a := a0) (t := 9) 800 [.ref a0] [.ref a1, .ref a2] d0_9 rfl rfl rfl hk
theorem x0_12 {L S : List Value} {h : HP} {a b : Nat} (hk : hp_k h a = 1) : pX 0 12 L (.ref b :: .ref a :: S) h = pX 0 15 L S (hp_wa h a 1 b) := pX_put d0_12 rfl rfl rfl hk
theorem x0_15 {S : List Value} {h : HP} {l1 : Value} {a0 : Nat} : pX 0 15 [.ref a0, l1] S h = pX 0 16 [.ref a0, l1] (.ref a0 :: S) h := pX_stp d0_15 rfl rfl rfl
theorem x0_16 {S : List Value} {h : HP} {l0 : Value} {x0 : Int32} : pX 0 16 [l0, .int x0] S h = pX 0 17 [l0, .int x0] (.int x0 :: S) h := pX_stp d0_16 rfl rfl rfl
theorem x0_17 {L S : List Value} {h : HP} {a : Nat} {x : Int32} (hk : hp_k h a = 1) : pX 0 17 L (.int x :: .ref a :: S) h = pX 0 20 L S (hp_wi h a 0 x) := pX_put d0_17 rfl rfl rfl hk
theorem x0_20 {L : List Value} {h : HP} : pX 0 20 L [] h = some (none, h) := pX_ret d0_20 rfl
theorem d1_0 : decode (mb 1) 0 = .ok (.aload_n 0, 1) := by decide +kernel
theorem d1_1 : decode (mb 1) 1 = .ok (.getfield 18, 3) := by decide +kernel
theorem d1_4 : decode (mb 1) 4 = .ok (.iconst 2, 1) := by decide +kernel
theorem d1_5 : decode (mb 1) 5 = .ok (.if_icmp .lt 8, 3) := by decide +kernel
theorem d1_8 : decode (mb 1) 8 = .ok (.bipush 7, 2) := by decide +kernel
theorem d1_10 : decode (mb 1) 10 = .ok (.goto 4, 3) := by decide +kernel
theorem d1_13 : decode (mb 1) 13 = .ok (.iconst 1, 1) := by decide +kernel
theorem d1_14 : decode (mb 1) 14 = .ok (.ireturn, 1) := by decide +kernel
theorem x1_0 {S : List Value} {h : HP}  {a0 : Nat} : pX 1 0 [.ref a0] S h = pX 1 1 [.ref a0] (.ref a0 :: S) h := pX_stp d1_0 rfl rfl rfl
theorem x1_1 {L S : List Value} {h : HP} {a : Nat} (hk : hp_k h a = 1) : pX 1 1 L (.ref a :: S) h = pX 1 4 L (.int (hp_i h a 0) :: S) h := pX_get d1_1 rfl rfl hk
theorem x1_4 {L S : List Value} {h : HP} : pX 1 4 L S h = pX 1 5 L (.int 2 :: S) h := pX_iconst d1_4 (by decide)
theorem x1_5 {L S : List Value} {h : HP} {x y : Int32} : pX 1 5 L (.int y :: .int x :: S) h = if x < y then pX 1 13 L S h else pX 1 8 L S h := pX_icmp_lt d1_5 (by decide)
theorem x1_8 {L S : List Value} {h : HP} : pX 1 8 L S h = pX 1 10 L (.int 7 :: S) h := pX_bipush d1_8 (by decide)
theorem x1_10 {L S : List Value} {h : HP} : pX 1 10 L S h = pX 1 14 L S h := pX_goto d1_10 (by decide)
theorem x1_13 {L S : List Value} {h : HP} : pX 1 13 L S h = pX 1 14 L (.int 1 :: S) h := pX_iconst d1_13 (by decide)
theorem x1_14 {L : List Value} {h : HP} {x : Int32} : pX 1 14 L [.int x] h = some (some (.int x), h) := pX_ret d1_14 rfl
theorem d2_0 : decode (mb 2) 0 = .ok (.iconst 0, 1) := by decide +kernel
theorem d2_1 : decode (mb 2) 1 = .ok (.istore_n 1, 1) := by decide +kernel
theorem d2_2 : decode (mb 2) 2 = .ok (.aload_n 0, 1) := by decide +kernel
theorem d2_3 : decode (mb 2) 3 = .ok (.getfield 22, 3) := by decide +kernel
theorem d2_6 : decode (mb 2) 6 = .ok (.astore_n 2, 1) := by decide +kernel
theorem d2_7 : decode (mb 2) 7 = .ok (.aload_n 2, 1) := by decide +kernel
theorem d2_8 : decode (mb 2) 8 = .ok (.ifnull 18, 3) := by decide +kernel
theorem d2_11 : decode (mb 2) 11 = .ok (.iload_n 1, 1) := by decide +kernel
theorem d2_12 : decode (mb 2) 12 = .ok (.aload_n 2, 1) := by decide +kernel
theorem d2_13 : decode (mb 2) 13 = .ok (.getfield 26, 3) := by decide +kernel
theorem d2_16 : decode (mb 2) 16 = .ok (.iadd, 1) := by decide +kernel
theorem d2_17 : decode (mb 2) 17 = .ok (.istore_n 1, 1) := by decide +kernel
theorem d2_18 : decode (mb 2) 18 = .ok (.aload_n 2, 1) := by decide +kernel
theorem d2_19 : decode (mb 2) 19 = .ok (.getfield 31, 3) := by decide +kernel
theorem d2_22 : decode (mb 2) 22 = .ok (.astore_n 2, 1) := by decide +kernel
theorem d2_23 : decode (mb 2) 23 = .ok (.goto (-16), 3) := by decide +kernel
theorem d2_26 : decode (mb 2) 26 = .ok (.iload_n 1, 1) := by decide +kernel
theorem d2_27 : decode (mb 2) 27 = .ok (.ireturn, 1) := by decide +kernel
theorem x2_0 {L S : List Value} {h : HP} : pX 2 0 L S h = pX 2 1 L (.int 0 :: S) h := pX_iconst d2_0 (by decide)
theorem x2_1 {S : List Value} {h : HP} {l0 l1 l2 : Value} {x0 : Int32} : pX 2 1 [l0, l1, l2] (.int x0 :: S) h = pX 2 2 [l0, .int x0, l2] S h := pX_stp d2_1 rfl rfl rfl
theorem x2_2 {S : List Value} {h : HP} {l1 l2 : Value} {a0 : Nat} : pX 2 2 [.ref a0, l1, l2] S h = pX 2 3 [.ref a0, l1, l2] (.ref a0 :: S) h := pX_stp d2_2 rfl rfl rfl
theorem x2_3 {L S : List Value} {h : HP} {a : Nat} (hk : hp_k h a = 1) : pX 2 3 L (.ref a :: S) h = pX 2 6 L (.ref (hp_a h a 3) :: S) h := pX_get d2_3 rfl rfl hk
theorem x2_6 {S : List Value} {h : HP} {l0 l1 l2 : Value} {a0 : Nat} : pX 2 6 [l0, l1, l2] (.ref a0 :: S) h = pX 2 7 [l0, l1, .ref a0] S h := pX_stp d2_6 rfl rfl rfl
theorem x2_7 {S : List Value} {h : HP} {l0 l1 : Value} {a0 : Nat} : pX 2 7 [l0, l1, .ref a0] S h = pX 2 8 [l0, l1, .ref a0] (.ref a0 :: S) h := pX_stp d2_7 rfl rfl rfl
theorem x2_8 {L S : List Value} {h : HP} {a : Nat} : pX 2 8 L (.ref a :: S) h = if a = 0 then pX 2 26 L S h else pX 2 11 L S h := pX_ifnull d2_8 (by decide)
theorem x2_11 {S : List Value} {h : HP} {l0 l2 : Value} {x0 : Int32} : pX 2 11 [l0, .int x0, l2] S h = pX 2 12 [l0, .int x0, l2] (.int x0 :: S) h := pX_stp d2_11 rfl rfl rfl
theorem x2_12 {S : List Value} {h : HP} {l0 l1 : Value} {a0 : Nat} : pX 2 12 [l0, l1, .ref a0] S h = pX 2 13 [l0, l1, .ref a0] (.ref a0 :: S) h := pX_stp d2_12 rfl rfl rfl
theorem x2_13 {L S : List Value} {h : HP} {a : Nat} (hk : hp_k h a = 3) : pX 2 13 L (.ref a :: S) h = pX 2 16 L (.int (hp_i h a 2) :: S) h := pX_get d2_13 rfl rfl hk
theorem x2_16 {L S : List Value} {h : HP} {x y : Int32} : pX 2 16 L (.int y :: .int x :: S) h = pX 2 17 L (.int (x + y) :: S) h := pX_stp d2_16 rfl rfl rfl
theorem x2_17 {S : List Value} {h : HP} {l0 l1 l2 : Value} {x0 : Int32} : pX 2 17 [l0, l1, l2] (.int x0 :: S) h = pX 2 18 [l0, .int x0, l2] S h := pX_stp d2_17 rfl rfl rfl
theorem x2_18 {S : List Value} {h : HP} {l0 l1 : Value} {a0 : Nat} : pX 2 18 [l0, l1, .ref a0] S h = pX 2 19 [l0, l1, .ref a0] (.ref a0 :: S) h := pX_stp d2_18 rfl rfl rfl
theorem x2_19 {L S : List Value} {h : HP} {a : Nat} (hk : hp_k h a = 3) : pX 2 19 L (.ref a :: S) h = pX 2 22 L (.ref (hp_a h a 3) :: S) h := pX_get d2_19 rfl rfl hk
theorem x2_22 {S : List Value} {h : HP} {l0 l1 l2 : Value} {a0 : Nat} : pX 2 22 [l0, l1, l2] (.ref a0 :: S) h = pX 2 23 [l0, l1, .ref a0] S h := pX_stp d2_22 rfl rfl rfl
theorem x2_23 {L S : List Value} {h : HP} : pX 2 23 L S h = pX 2 7 L S h := pX_goto d2_23 (by decide)
theorem x2_26 {S : List Value} {h : HP} {l0 l2 : Value} {x0 : Int32} : pX 2 26 [l0, .int x0, l2] S h = pX 2 27 [l0, .int x0, l2] (.int x0 :: S) h := pX_stp d2_26 rfl rfl rfl
theorem x2_27 {L : List Value} {h : HP} {x : Int32} : pX 2 27 L [.int x] h = some (some (.int x), h) := pX_ret d2_27 rfl
theorem d3_0 : decode (mb 3) 0 = .ok (.aload_n 0, 1) := by decide +kernel
theorem d3_1 : decode (mb 3) 1 = .ok (.getfield 18, 3) := by decide +kernel
theorem d3_4 : decode (mb 3) 4 = .ok (.iconst 3, 1) := by decide +kernel
theorem d3_5 : decode (mb 3) 5 = .ok (.if_icmp .ne 7, 3) := by decide +kernel
theorem d3_8 : decode (mb 3) 8 = .ok (.iconst 3, 1) := by decide +kernel
theorem d3_9 : decode (mb 3) 9 = .ok (.goto 16, 3) := by decide +kernel
theorem d3_12 : decode (mb 3) 12 = .ok (.aload_n 0, 1) := by decide +kernel
theorem d3_13 : decode (mb 3) 13 = .ok (.getfield 18, 3) := by decide +kernel
theorem d3_16 : decode (mb 3) 16 = .ok (.iconst 1, 1) := by decide +kernel
theorem d3_17 : decode (mb 3) 17 = .ok (.if_icmp .lt 7, 3) := by decide +kernel
theorem d3_20 : decode (mb 3) 20 = .ok (.iconst 2, 1) := by decide +kernel
theorem d3_21 : decode (mb 3) 21 = .ok (.goto 4, 3) := by decide +kernel
theorem d3_24 : decode (mb 3) 24 = .ok (.iconst 1, 1) := by decide +kernel
theorem d3_25 : decode (mb 3) 25 = .ok (.ireturn, 1) := by decide +kernel
theorem x3_0 {S : List Value} {h : HP}  {a0 : Nat} : pX 3 0 [.ref a0] S h = pX 3 1 [.ref a0] (.ref a0 :: S) h := pX_stp d3_0 rfl rfl rfl
theorem x3_1 {L S : List Value} {h : HP} {a : Nat} (hk : hp_k h a = 1) : pX 3 1 L (.ref a :: S) h = pX 3 4 L (.int (hp_i h a 0) :: S) h := pX_get d3_1 rfl rfl hk
theorem x3_4 {L S : List Value} {h : HP} : pX 3 4 L S h = pX 3 5 L (.int 3 :: S) h := pX_iconst d3_4 (by decide)
theorem x3_5 {L S : List Value} {h : HP} {x y : Int32} : pX 3 5 L (.int y :: .int x :: S) h = if x = y then pX 3 8 L S h else pX 3 12 L S h := pX_icmp_ne d3_5 (by decide)
theorem x3_8 {L S : List Value} {h : HP} : pX 3 8 L S h = pX 3 9 L (.int 3 :: S) h := pX_iconst d3_8 (by decide)
theorem x3_9 {L S : List Value} {h : HP} : pX 3 9 L S h = pX 3 25 L S h := pX_goto d3_9 (by decide)
theorem x3_12 {S : List Value} {h : HP}  {a0 : Nat} : pX 3 12 [.ref a0] S h = pX 3 13 [.ref a0] (.ref a0 :: S) h := pX_stp d3_12 rfl rfl rfl
theorem x3_13 {L S : List Value} {h : HP} {a : Nat} (hk : hp_k h a = 1) : pX 3 13 L (.ref a :: S) h = pX 3 16 L (.int (hp_i h a 0) :: S) h := pX_get d3_13 rfl rfl hk
theorem x3_16 {L S : List Value} {h : HP} : pX 3 16 L S h = pX 3 17 L (.int 1 :: S) h := pX_iconst d3_16 (by decide)
theorem x3_17 {L S : List Value} {h : HP} {x y : Int32} : pX 3 17 L (.int y :: .int x :: S) h = if x < y then pX 3 24 L S h else pX 3 20 L S h := pX_icmp_lt d3_17 (by decide)
theorem x3_20 {L S : List Value} {h : HP} : pX 3 20 L S h = pX 3 21 L (.int 2 :: S) h := pX_iconst d3_20 (by decide)
theorem x3_21 {L S : List Value} {h : HP} : pX 3 21 L S h = pX 3 25 L S h := pX_goto d3_21 (by decide)
theorem x3_24 {L S : List Value} {h : HP} : pX 3 24 L S h = pX 3 25 L (.int 1 :: S) h := pX_iconst d3_24 (by decide)
theorem x3_25 {L : List Value} {h : HP} {x : Int32} : pX 3 25 L [.int x] h = some (some (.int x), h) := pX_ret d3_25 rfl
theorem d4_0 : decode (mb 4) 0 = .ok (.aload_n 0, 1) := by decide +kernel
theorem d4_1 : decode (mb 4) 1 = .ok (.getfield 34, 3) := by decide +kernel
theorem d4_4 : decode (mb 4) 4 = .ok (.iconst 1, 1) := by decide +kernel
theorem d4_5 : decode (mb 4) 5 = .ok (.iadd, 1) := by decide +kernel
theorem d4_6 : decode (mb 4) 6 = .ok (.istore_n 1, 1) := by decide +kernel
theorem d4_7 : decode (mb 4) 7 = .ok (.aload_n 0, 1) := by decide +kernel
theorem d4_8 : decode (mb 4) 8 = .ok (.getfield 18, 3) := by decide +kernel
theorem d4_11 : decode (mb 4) 11 = .ok (.iconst 1, 1) := by decide +kernel
theorem d4_12 : decode (mb 4) 12 = .ok (.if_icmp .lt 9, 3) := by decide +kernel
theorem d4_15 : decode (mb 4) 15 = .ok (.iconst 2, 1) := by decide +kernel
theorem d4_16 : decode (mb 4) 16 = .ok (.iload_n 1, 1) := by decide +kernel
theorem d4_17 : decode (mb 4) 17 = .ok (.imul, 1) := by decide +kernel
theorem d4_18 : decode (mb 4) 18 = .ok (.goto 4, 3) := by decide +kernel
theorem d4_21 : decode (mb 4) 21 = .ok (.iload_n 1, 1) := by decide +kernel
theorem d4_22 : decode (mb 4) 22 = .ok (.istore_n 2, 1) := by decide +kernel
theorem d4_23 : decode (mb 4) 23 = .ok (.aload_n 0, 1) := by decide +kernel
theorem d4_24 : decode (mb 4) 24 = .ok (.getfield 18, 3) := by decide +kernel
theorem d4_27 : decode (mb 4) 27 = .ok (.iconst 3, 1) := by decide +kernel
theorem d4_28 : decode (mb 4) 28 = .ok (.if_icmp .ne 10, 3) := by decide +kernel
theorem d4_31 : decode (mb 4) 31 = .ok (.iload_n 2, 1) := by decide +kernel
theorem d4_32 : decode (mb 4) 32 = .ok (.bipush 7, 2) := by decide +kernel
theorem d4_34 : decode (mb 4) 34 = .ok (.iadd, 1) := by decide +kernel
theorem d4_35 : decode (mb 4) 35 = .ok (.goto 4, 3) := by decide +kernel
theorem d4_38 : decode (mb 4) 38 = .ok (.iload_n 2, 1) := by decide +kernel
theorem d4_39 : decode (mb 4) 39 = .ok (.ireturn, 1) := by decide +kernel
theorem x4_0 {S : List Value} {h : HP} {l1 l2 : Value} {a0 : Nat} : pX 4 0 [.ref a0, l1, l2] S h = pX 4 1 [.ref a0, l1, l2] (.ref a0 :: S) h := pX_stp d4_0 rfl rfl rfl
theorem x4_1 {L S : List Value} {h : HP} {a : Nat} (hk : hp_k h a = 1) : pX 4 1 L (.ref a :: S) h = pX 4 4 L (.int (hp_i h a 2) :: S) h := pX_get d4_1 rfl rfl hk
theorem x4_4 {L S : List Value} {h : HP} : pX 4 4 L S h = pX 4 5 L (.int 1 :: S) h := pX_iconst d4_4 (by decide)
theorem x4_5 {L S : List Value} {h : HP} {x y : Int32} : pX 4 5 L (.int y :: .int x :: S) h = pX 4 6 L (.int (x + y) :: S) h := pX_stp d4_5 rfl rfl rfl
theorem x4_6 {S : List Value} {h : HP} {l0 l1 l2 : Value} {x0 : Int32} : pX 4 6 [l0, l1, l2] (.int x0 :: S) h = pX 4 7 [l0, .int x0, l2] S h := pX_stp d4_6 rfl rfl rfl
theorem x4_7 {S : List Value} {h : HP} {l1 l2 : Value} {a0 : Nat} : pX 4 7 [.ref a0, l1, l2] S h = pX 4 8 [.ref a0, l1, l2] (.ref a0 :: S) h := pX_stp d4_7 rfl rfl rfl
theorem x4_8 {L S : List Value} {h : HP} {a : Nat} (hk : hp_k h a = 1) : pX 4 8 L (.ref a :: S) h = pX 4 11 L (.int (hp_i h a 0) :: S) h := pX_get d4_8 rfl rfl hk
theorem x4_11 {L S : List Value} {h : HP} : pX 4 11 L S h = pX 4 12 L (.int 1 :: S) h := pX_iconst d4_11 (by decide)
theorem x4_12 {L S : List Value} {h : HP} {x y : Int32} : pX 4 12 L (.int y :: .int x :: S) h = if x < y then pX 4 21 L S h else pX 4 15 L S h := pX_icmp_lt d4_12 (by decide)
theorem x4_15 {L S : List Value} {h : HP} : pX 4 15 L S h = pX 4 16 L (.int 2 :: S) h := pX_iconst d4_15 (by decide)
theorem x4_16 {S : List Value} {h : HP} {l0 l2 : Value} {x0 : Int32} : pX 4 16 [l0, .int x0, l2] S h = pX 4 17 [l0, .int x0, l2] (.int x0 :: S) h := pX_stp d4_16 rfl rfl rfl
theorem x4_17 {L S : List Value} {h : HP} {x y : Int32} : pX 4 17 L (.int y :: .int x :: S) h = pX 4 18 L (.int (x * y) :: S) h := pX_stp d4_17 rfl rfl rfl
theorem x4_18 {L S : List Value} {h : HP} : pX 4 18 L S h = pX 4 22 L S h := pX_goto d4_18 (by decide)
theorem x4_21 {S : List Value} {h : HP} {l0 l2 : Value} {x0 : Int32} : pX 4 21 [l0, .int x0, l2] S h = pX 4 22 [l0, .int x0, l2] (.int x0 :: S) h := pX_stp d4_21 rfl rfl rfl
theorem x4_22 {S : List Value} {h : HP} {l0 l1 l2 : Value} {x0 : Int32} : pX 4 22 [l0, l1, l2] (.int x0 :: S) h = pX 4 23 [l0, l1, .int x0] S h := pX_stp d4_22 rfl rfl rfl
theorem x4_23 {S : List Value} {h : HP} {l1 l2 : Value} {a0 : Nat} : pX 4 23 [.ref a0, l1, l2] S h = pX 4 24 [.ref a0, l1, l2] (.ref a0 :: S) h := pX_stp d4_23 rfl rfl rfl
theorem x4_24 {L S : List Value} {h : HP} {a : Nat} (hk : hp_k h a = 1) : pX 4 24 L (.ref a :: S) h = pX 4 27 L (.int (hp_i h a 0) :: S) h := pX_get d4_24 rfl rfl hk
theorem x4_27 {L S : List Value} {h : HP} : pX 4 27 L S h = pX 4 28 L (.int 3 :: S) h := pX_iconst d4_27 (by decide)
theorem x4_28 {L S : List Value} {h : HP} {x y : Int32} : pX 4 28 L (.int y :: .int x :: S) h = if x = y then pX 4 31 L S h else pX 4 38 L S h := pX_icmp_ne d4_28 (by decide)
theorem x4_31 {S : List Value} {h : HP} {l0 l1 : Value} {x0 : Int32} : pX 4 31 [l0, l1, .int x0] S h = pX 4 32 [l0, l1, .int x0] (.int x0 :: S) h := pX_stp d4_31 rfl rfl rfl
theorem x4_32 {L S : List Value} {h : HP} : pX 4 32 L S h = pX 4 34 L (.int 7 :: S) h := pX_bipush d4_32 (by decide)
theorem x4_34 {L S : List Value} {h : HP} {x y : Int32} : pX 4 34 L (.int y :: .int x :: S) h = pX 4 35 L (.int (x + y) :: S) h := pX_stp d4_34 rfl rfl rfl
theorem x4_35 {L S : List Value} {h : HP} : pX 4 35 L S h = pX 4 39 L S h := pX_goto d4_35 (by decide)
theorem x4_38 {S : List Value} {h : HP} {l0 l1 : Value} {x0 : Int32} : pX 4 38 [l0, l1, .int x0] S h = pX 4 39 [l0, l1, .int x0] (.int x0 :: S) h := pX_stp d4_38 rfl rfl rfl
theorem x4_39 {L : List Value} {h : HP} {x : Int32} : pX 4 39 L [.int x] h = some (some (.int x), h) := pX_ret d4_39 rfl
theorem d100_0 : decode (mb 100) 0 = .ok (.aload_n 0, 1) := by decide +kernel
theorem d100_1 : decode (mb 100) 1 = .ok (.invokespecial 3, 3) := by decide +kernel
theorem d100_4 : decode (mb 100) 4 = .ok (.aload_n 0, 1) := by decide +kernel
theorem d100_5 : decode (mb 100) 5 = .ok (.bipush 8, 2) := by decide +kernel
theorem d100_7 : decode (mb 100) 7 = .ok (.anewarray 9, 3) := by decide +kernel
theorem d100_10 : decode (mb 100) 10 = .ok (.putfield 11, 3) := by decide +kernel
theorem d100_13 : decode (mb 100) 13 = .ok (.aload_n 0, 1) := by decide +kernel
theorem d100_14 : decode (mb 100) 14 = .ok (.new 9, 3) := by decide +kernel
theorem d100_17 : decode (mb 100) 17 = .ok (.dup, 1) := by decide +kernel
theorem d100_18 : decode (mb 100) 18 = .ok (.invokespecial 17, 3) := by decide +kernel
theorem d100_21 : decode (mb 100) 21 = .ok (.putfield 18, 3) := by decide +kernel
theorem d100_24 : decode (mb 100) 24 = .ok (.aload_n 0, 1) := by decide +kernel
theorem d100_25 : decode (mb 100) 25 = .ok (.aload_n 1, 1) := by decide +kernel
theorem d100_26 : decode (mb 100) 26 = .ok (.putfield 22, 3) := by decide +kernel
theorem d100_29 : decode (mb 100) 29 = .ok (.iconst 0, 1) := by decide +kernel
theorem d100_30 : decode (mb 100) 30 = .ok (.istore_n 2, 1) := by decide +kernel
theorem d100_31 : decode (mb 100) 31 = .ok (.iload_n 2, 1) := by decide +kernel
theorem d100_32 : decode (mb 100) 32 = .ok (.bipush 8, 2) := by decide +kernel
theorem d100_34 : decode (mb 100) 34 = .ok (.if_icmp .ge 22, 3) := by decide +kernel
theorem d100_37 : decode (mb 100) 37 = .ok (.aload_n 0, 1) := by decide +kernel
theorem d100_38 : decode (mb 100) 38 = .ok (.getfield 11, 3) := by decide +kernel
theorem d100_41 : decode (mb 100) 41 = .ok (.iload_n 2, 1) := by decide +kernel
theorem d100_42 : decode (mb 100) 42 = .ok (.new 9, 3) := by decide +kernel
theorem d100_45 : decode (mb 100) 45 = .ok (.dup, 1) := by decide +kernel
theorem d100_46 : decode (mb 100) 46 = .ok (.invokespecial 17, 3) := by decide +kernel
theorem d100_49 : decode (mb 100) 49 = .ok (.aastore, 1) := by decide +kernel
theorem d100_50 : decode (mb 100) 50 = .ok (.iinc 2 1, 3) := by decide +kernel
theorem d100_53 : decode (mb 100) 53 = .ok (.goto (-22), 3) := by decide +kernel
theorem d100_56 : decode (mb 100) 56 = .ok (.return_, 1) := by decide +kernel
theorem x100_0 {S : List Value} {h : HP} {l1 l2 : Value} {a0 : Nat} : pX 100 0 [.ref a0, l1, l2] S h = pX 100 1 [.ref a0, l1, l2] (.ref a0 :: S) h := pX_stp d100_0 rfl rfl rfl
theorem x100_1 {L : List Value} {h : HP} {a0 : Nat} (ha : ¬ a0 = 0) : pX 100 1 L [.ref a0] h = pX 100 4 L [] h := pX_oinit d100_1 rfl (Nat.le_of_ble_eq_true rfl) ha
theorem x100_4 {S : List Value} {h : HP} {l1 l2 : Value} {a0 : Nat} : pX 100 4 [.ref a0, l1, l2] S h = pX 100 5 [.ref a0, l1, l2] (.ref a0 :: S) h := pX_stp d100_4 rfl rfl rfl
theorem x100_5 {L S : List Value} {h : HP} : pX 100 5 L S h = pX 100 7 L (.int 8 :: S) h := pX_bipush d100_5 (by decide)
theorem x100_7 {L S : List Value} {h : HP} {j : Int32} (h0 : 0 ≤ j) (h1 : ix j ≤ 134217728) : pX 100 7 L (.int j :: S) h = pX 100 10 L (.ref (hp_n h) :: S) (hp_mk h 208 (ix j) (ix j)) := pX_anew d100_7 rfl rfl h0 h1
theorem x100_10 {L S : List Value} {h : HP} {a b : Nat} (hk : hp_k h a = 2) : pX 100 10 L (.ref b :: .ref a :: S) h = pX 100 13 L S (hp_wa h a 0 b) := pX_put d100_10 rfl rfl rfl hk
theorem x100_13 {S : List Value} {h : HP} {l1 l2 : Value} {a0 : Nat} : pX 100 13 [.ref a0, l1, l2] S h = pX 100 14 [.ref a0, l1, l2] (.ref a0 :: S) h := pX_stp d100_13 rfl rfl rfl
theorem x100_14 {L S : List Value} {h : HP} : pX 100 14 L S h = pX 100 17 L (.ref (hp_n h) :: S) (hp_mk h 9 0 4) := pX_new d100_14 rfl
theorem x100_17 {L S : List Value} {h : HP} {a0 : Nat} : pX 100 17 L (.ref a0 :: S) h = pX 100 18 L (.ref a0 :: .ref a0 :: S) h := pX_stp d100_17 rfl rfl rfl
theorem x100_18 {L : List Value} {h : HP} {a0 : Nat} {a1 : Nat} {a2 : Nat} (hk : hp_k h a0 = 9) : pX 100 18 L [.ref a0, .ref a1, .ref a2] h = (pX 800 0 [.ref a0] [] h).bind (fun q => pX 100 21 L (q.1.toList ++ [.ref a1, .ref a2]) q.2) := pX_inv (a := a0) (t := 9) 800 [.ref a0] [.ref a1, .ref a2] d100_18 rfl rfl rfl hk
theorem x100_21 {L S : List Value} {h : HP} {a b : Nat} (hk : hp_k h a = 2) : pX 100 21 L (.ref b :: .ref a :: S) h = pX 100 24 L S (hp_wa h a 1 b) := pX_put d100_21 rfl rfl rfl hk
theorem x100_24 {S : List Value} {h : HP} {l1 l2 : Value} {a0 : Nat} : pX 100 24 [.ref a0, l1, l2] S h = pX 100 25 [.ref a0, l1, l2] (.ref a0 :: S) h := pX_stp d100_24 rfl rfl rfl
theorem x100_25 {S : List Value} {h : HP} {l0 l2 : Value} {a0 : Nat} : pX 100 25 [l0, .ref a0, l2] S h = pX 100 26 [l0, .ref a0, l2] (.ref a0 :: S) h := pX_stp d100_25 rfl rfl rfl
theorem x100_26 {L S : List Value} {h : HP} {a b : Nat} (hk : hp_k h a = 2) : pX 100 26 L (.ref b :: .ref a :: S) h = pX 100 29 L S (hp_wa h a 2 b) := pX_put d100_26 rfl rfl rfl hk
theorem x100_29 {L S : List Value} {h : HP} : pX 100 29 L S h = pX 100 30 L (.int 0 :: S) h := pX_iconst d100_29 (by decide)
theorem x100_30 {S : List Value} {h : HP} {l0 l1 l2 : Value} {x0 : Int32} : pX 100 30 [l0, l1, l2] (.int x0 :: S) h = pX 100 31 [l0, l1, .int x0] S h := pX_stp d100_30 rfl rfl rfl
theorem x100_31 {S : List Value} {h : HP} {l0 l1 : Value} {x0 : Int32} : pX 100 31 [l0, l1, .int x0] S h = pX 100 32 [l0, l1, .int x0] (.int x0 :: S) h := pX_stp d100_31 rfl rfl rfl
theorem x100_32 {L S : List Value} {h : HP} : pX 100 32 L S h = pX 100 34 L (.int 8 :: S) h := pX_bipush d100_32 (by decide)
theorem x100_34 {L S : List Value} {h : HP} {x y : Int32} : pX 100 34 L (.int y :: .int x :: S) h = if y ≤ x then pX 100 56 L S h else pX 100 37 L S h := pX_icmp_ge d100_34 (by decide)
theorem x100_37 {S : List Value} {h : HP} {l1 l2 : Value} {a0 : Nat} : pX 100 37 [.ref a0, l1, l2] S h = pX 100 38 [.ref a0, l1, l2] (.ref a0 :: S) h := pX_stp d100_37 rfl rfl rfl
theorem x100_38 {L S : List Value} {h : HP} {a : Nat} (hk : hp_k h a = 2) : pX 100 38 L (.ref a :: S) h = pX 100 41 L (.ref (hp_a h a 0) :: S) h := pX_get d100_38 rfl rfl hk
theorem x100_41 {S : List Value} {h : HP} {l0 l1 : Value} {x0 : Int32} : pX 100 41 [l0, l1, .int x0] S h = pX 100 42 [l0, l1, .int x0] (.int x0 :: S) h := pX_stp d100_41 rfl rfl rfl
theorem x100_42 {L S : List Value} {h : HP} : pX 100 42 L S h = pX 100 45 L (.ref (hp_n h) :: S) (hp_mk h 9 0 4) := pX_new d100_42 rfl
theorem x100_45 {L S : List Value} {h : HP} {a0 : Nat} : pX 100 45 L (.ref a0 :: S) h = pX 100 46 L (.ref a0 :: .ref a0 :: S) h := pX_stp d100_45 rfl rfl rfl
theorem x100_46 {L : List Value} {h : HP} {a0 : Nat} {a1 : Nat} {x0 : Int32} {a2 : Nat} (hk : hp_k h a0 = 9) : pX 100 46 L [.ref a0, .ref a1, .int x0, .ref a2] h = (pX 800 0 [.ref a0] [] h).bind (fun q => pX 100 49 L (q.1.toList ++ [.ref a1, .int x0, .ref a2]) q.2) := pX_inv (a := a0) (t := 9) 800 [.ref a0] [.ref a1, .int x0, .ref a2] d100_46 rfl rfl rfl hk
theorem x100_49 {L S : List Value} {h : HP} {a b : Nat} {j : Int32} (hk : 200 ≤ hp_k h a) (hb : b = 0 ∨ hp_k h b + 199 = hp_k h a) (hj : inb j (hp_l h a) = true) : pX 100 49 L (.ref b :: .int j :: .ref a :: S) h = pX 100 50 L S (hp_wa h a (ix j) b) := pX_ast d100_49 hk hb hj
theorem x100_50 {S : List Value} {h : HP} {x0 : Int32} {l0 l1 : Value} : pX 100 50 [l0, l1, .int x0] S h = pX 100 53 [l0, l1, .int (x0 + 1)] S h := pX_iinc (x := x0) d100_50 (by decide) rfl (Nat.le_of_ble_eq_true rfl) rfl rfl
theorem x100_53 {L S : List Value} {h : HP} : pX 100 53 L S h = pX 100 31 L S h := pX_goto d100_53 (by decide)
theorem x100_56 {L : List Value} {h : HP} : pX 100 56 L [] h = some (none, h) := pX_ret d100_56 rfl
theorem d101_0 : decode (mb 101) 0 = .ok (.aload_n 0, 1) := by decide +kernel
theorem d101_1 : decode (mb 101) 1 = .ok (.aload_n 1, 1) := by decide +kernel
theorem d101_2 : decode (mb 101) 2 = .ok (.putfield 22, 3) := by decide +kernel
theorem d101_5 : decode (mb 101) 5 = .ok (.aload_n 0, 1) := by decide +kernel
theorem d101_6 : decode (mb 101) 6 = .ok (.iload_n 2, 1) := by decide +kernel
theorem d101_7 : decode (mb 101) 7 = .ok (.putfield 26, 3) := by decide +kernel
theorem d101_10 : decode (mb 101) 10 = .ok (.aload_n 0, 1) := by decide +kernel
theorem d101_11 : decode (mb 101) 11 = .ok (.iconst 0, 1) := by decide +kernel
theorem d101_12 : decode (mb 101) 12 = .ok (.putfield 30, 3) := by decide +kernel
theorem d101_15 : decode (mb 101) 15 = .ok (.aload_n 0, 1) := by decide +kernel
theorem d101_16 : decode (mb 101) 16 = .ok (.getfield 18, 3) := by decide +kernel
theorem d101_19 : decode (mb 101) 19 = .ok (.invokevirtual 33, 3) := by decide +kernel
theorem d101_22 : decode (mb 101) 22 = .ok (.iconst 0, 1) := by decide +kernel
theorem d101_23 : decode (mb 101) 23 = .ok (.istore 5, 2) := by decide +kernel
theorem d101_25 : decode (mb 101) 25 = .ok (.iload 5, 2) := by decide +kernel
theorem d101_27 : decode (mb 101) 27 = .ok (.bipush 8, 2) := by decide +kernel
theorem d101_29 : decode (mb 101) 29 = .ok (.if_icmp .ge 61, 3) := by decide +kernel
theorem d101_32 : decode (mb 101) 32 = .ok (.iload 5, 2) := by decide +kernel
theorem d101_34 : decode (mb 101) 34 = .ok (.aload_n 0, 1) := by decide +kernel
theorem d101_35 : decode (mb 101) 35 = .ok (.getfield 22, 3) := by decide +kernel
theorem d101_38 : decode (mb 101) 38 = .ok (.getfield 36, 3) := by decide +kernel
theorem d101_41 : decode (mb 101) 41 = .ok (.if_icmp .ge 33, 3) := by decide +kernel
theorem d101_44 : decode (mb 101) 44 = .ok (.iload 4, 2) := by decide +kernel
theorem d101_46 : decode (mb 101) 46 = .ok (.iload 5, 2) := by decide +kernel
theorem d101_48 : decode (mb 101) 48 = .ok (.iadd, 1) := by decide +kernel
theorem d101_49 : decode (mb 101) 49 = .ok (.aload_n 3, 1) := by decide +kernel
theorem d101_50 : decode (mb 101) 50 = .ok (.arraylength, 1) := by decide +kernel
theorem d101_51 : decode (mb 101) 51 = .ok (.if_icmp .ge 23, 3) := by decide +kernel
theorem d101_54 : decode (mb 101) 54 = .ok (.aload_n 0, 1) := by decide +kernel
theorem d101_55 : decode (mb 101) 55 = .ok (.getfield 11, 3) := by decide +kernel
theorem d101_58 : decode (mb 101) 58 = .ok (.iload 5, 2) := by decide +kernel
theorem d101_60 : decode (mb 101) 60 = .ok (.aaload, 1) := by decide +kernel
theorem d101_61 : decode (mb 101) 61 = .ok (.aload_n 3, 1) := by decide +kernel
theorem d101_62 : decode (mb 101) 62 = .ok (.iload 4, 2) := by decide +kernel
theorem d101_64 : decode (mb 101) 64 = .ok (.iload 5, 2) := by decide +kernel
theorem d101_66 : decode (mb 101) 66 = .ok (.iadd, 1) := by decide +kernel
theorem d101_67 : decode (mb 101) 67 = .ok (.aaload, 1) := by decide +kernel
theorem d101_68 : decode (mb 101) 68 = .ok (.invokevirtual 41, 3) := by decide +kernel
theorem d101_71 : decode (mb 101) 71 = .ok (.goto 13, 3) := by decide +kernel
theorem d101_74 : decode (mb 101) 74 = .ok (.aload_n 0, 1) := by decide +kernel
theorem d101_75 : decode (mb 101) 75 = .ok (.getfield 11, 3) := by decide +kernel
theorem d101_78 : decode (mb 101) 78 = .ok (.iload 5, 2) := by decide +kernel
theorem d101_80 : decode (mb 101) 80 = .ok (.aaload, 1) := by decide +kernel
theorem d101_81 : decode (mb 101) 81 = .ok (.invokevirtual 33, 3) := by decide +kernel
theorem d101_84 : decode (mb 101) 84 = .ok (.iinc 5 1, 3) := by decide +kernel
theorem d101_87 : decode (mb 101) 87 = .ok (.goto (-62), 3) := by decide +kernel
theorem d101_90 : decode (mb 101) 90 = .ok (.return_, 1) := by decide +kernel
theorem x101_0 {S : List Value} {h : HP} {l1 l2 l3 l4 l5 : Value} {a0 : Nat} : pX 101 0 [.ref a0, l1, l2, l3, l4, l5] S h = pX 101 1 [.ref a0, l1, l2, l3, l4, l5] (.ref a0 :: S) h := pX_stp d101_0 rfl rfl rfl
theorem x101_1 {S : List Value} {h : HP} {l0 l2 l3 l4 l5 : Value} {a0 : Nat} : pX 101 1 [l0, .ref a0, l2, l3, l4, l5] S h = pX 101 2 [l0, .ref a0, l2, l3, l4, l5] (.ref a0 :: S) h := pX_stp d101_1 rfl rfl rfl
theorem x101_2 {L S : List Value} {h : HP} {a b : Nat} (hk : hp_k h a = 2) : pX 101 2 L (.ref b :: .ref a :: S) h = pX 101 5 L S (hp_wa h a 2 b) := pX_put d101_2 rfl rfl rfl hk
theorem x101_5 {S : List Value} {h : HP} {l1 l2 l3 l4 l5 : Value} {a0 : Nat} : pX 101 5 [.ref a0, l1, l2, l3, l4, l5] S h = pX 101 6 [.ref a0, l1, l2, l3, l4, l5] (.ref a0 :: S) h := pX_stp d101_5 rfl rfl rfl
theorem x101_6 {S : List Value} {h : HP} {l0 l1 l3 l4 l5 : Value} {x0 : Int32} : pX 101 6 [l0, l1, .int x0, l3, l4, l5] S h = pX 101 7 [l0, l1, .int x0, l3, l4, l5] (.int x0 :: S) h := pX_stp d101_6 rfl rfl rfl
theorem x101_7 {L S : List Value} {h : HP} {a : Nat} {x : Int32} (hk : hp_k h a = 2) : pX 101 7 L (.int x :: .ref a :: S) h = pX 101 10 L S (hp_wi h a 3 x) := pX_put d101_7 rfl rfl rfl hk
theorem x101_10 {S : List Value} {h : HP} {l1 l2 l3 l4 l5 : Value} {a0 : Nat} : pX 101 10 [.ref a0, l1, l2, l3, l4, l5] S h = pX 101 11 [.ref a0, l1, l2, l3, l4, l5] (.ref a0 :: S) h := pX_stp d101_10 rfl rfl rfl
theorem x101_11 {L S : List Value} {h : HP} : pX 101 11 L S h = pX 101 12 L (.int 0 :: S) h := pX_iconst d101_11 (by decide)
theorem x101_12 {L S : List Value} {h : HP} {a : Nat} {x : Int32} (hk : hp_k h a = 2) : pX 101 12 L (.int x :: .ref a :: S) h = pX 101 15 L S (hp_wi h a 4 x) := pX_put d101_12 rfl rfl rfl hk
theorem x101_15 {S : List Value} {h : HP} {l1 l2 l3 l4 l5 : Value} {a0 : Nat} : pX 101 15 [.ref a0, l1, l2, l3, l4, l5] S h = pX 101 16 [.ref a0, l1, l2, l3, l4, l5] (.ref a0 :: S) h := pX_stp d101_15 rfl rfl rfl
theorem x101_16 {L S : List Value} {h : HP} {a : Nat} (hk : hp_k h a = 2) : pX 101 16 L (.ref a :: S) h = pX 101 19 L (.ref (hp_a h a 1) :: S) h := pX_get d101_16 rfl rfl hk
theorem x101_19 {L : List Value} {h : HP} {a0 : Nat} (hk : hp_k h a0 = 9) : pX 101 19 L [.ref a0] h = (pX 801 0 [.ref a0] [] h).bind (fun q => pX 101 22 L (q.1.toList ++ []) q.2) := pX_inv (a := a0) (t := 9) 801 [.ref a0] [] d101_19 rfl rfl rfl hk
theorem x101_22 {L S : List Value} {h : HP} : pX 101 22 L S h = pX 101 23 L (.int 0 :: S) h := pX_iconst d101_22 (by decide)
theorem x101_23 {S : List Value} {h : HP} {l0 l1 l2 l3 l4 l5 : Value} {x0 : Int32} : pX 101 23 [l0, l1, l2, l3, l4, l5] (.int x0 :: S) h = pX 101 25 [l0, l1, l2, l3, l4, .int x0] S h := pX_stp d101_23 rfl rfl rfl
theorem x101_25 {S : List Value} {h : HP} {l0 l1 l2 l3 l4 : Value} {x0 : Int32} : pX 101 25 [l0, l1, l2, l3, l4, .int x0] S h = pX 101 27 [l0, l1, l2, l3, l4, .int x0] (.int x0 :: S) h := pX_stp d101_25 rfl rfl rfl
theorem x101_27 {L S : List Value} {h : HP} : pX 101 27 L S h = pX 101 29 L (.int 8 :: S) h := pX_bipush d101_27 (by decide)
theorem x101_29 {L S : List Value} {h : HP} {x y : Int32} : pX 101 29 L (.int y :: .int x :: S) h = if y ≤ x then pX 101 90 L S h else pX 101 32 L S h := pX_icmp_ge d101_29 (by decide)
theorem x101_32 {S : List Value} {h : HP} {l0 l1 l2 l3 l4 : Value} {x0 : Int32} : pX 101 32 [l0, l1, l2, l3, l4, .int x0] S h = pX 101 34 [l0, l1, l2, l3, l4, .int x0] (.int x0 :: S) h := pX_stp d101_32 rfl rfl rfl
theorem x101_34 {S : List Value} {h : HP} {l1 l2 l3 l4 l5 : Value} {a0 : Nat} : pX 101 34 [.ref a0, l1, l2, l3, l4, l5] S h = pX 101 35 [.ref a0, l1, l2, l3, l4, l5] (.ref a0 :: S) h := pX_stp d101_34 rfl rfl rfl
theorem x101_35 {L S : List Value} {h : HP} {a : Nat} (hk : hp_k h a = 2) : pX 101 35 L (.ref a :: S) h = pX 101 38 L (.ref (hp_a h a 2) :: S) h := pX_get d101_35 rfl rfl hk
theorem x101_38 {L S : List Value} {h : HP} {a : Nat} (hk : hp_k h a = 5) : pX 101 38 L (.ref a :: S) h = pX 101 41 L (.int (hp_i h a 0) :: S) h := pX_get d101_38 rfl rfl hk
theorem x101_41 {L S : List Value} {h : HP} {x y : Int32} : pX 101 41 L (.int y :: .int x :: S) h = if y ≤ x then pX 101 74 L S h else pX 101 44 L S h := pX_icmp_ge d101_41 (by decide)
theorem x101_44 {S : List Value} {h : HP} {l0 l1 l2 l3 l5 : Value} {x0 : Int32} : pX 101 44 [l0, l1, l2, l3, .int x0, l5] S h = pX 101 46 [l0, l1, l2, l3, .int x0, l5] (.int x0 :: S) h := pX_stp d101_44 rfl rfl rfl
theorem x101_46 {S : List Value} {h : HP} {l0 l1 l2 l3 l4 : Value} {x0 : Int32} : pX 101 46 [l0, l1, l2, l3, l4, .int x0] S h = pX 101 48 [l0, l1, l2, l3, l4, .int x0] (.int x0 :: S) h := pX_stp d101_46 rfl rfl rfl
theorem x101_48 {L S : List Value} {h : HP} {x y : Int32} : pX 101 48 L (.int y :: .int x :: S) h = pX 101 49 L (.int (x + y) :: S) h := pX_stp d101_48 rfl rfl rfl
theorem x101_49 {S : List Value} {h : HP} {l0 l1 l2 l4 l5 : Value} {a0 : Nat} : pX 101 49 [l0, l1, l2, .ref a0, l4, l5] S h = pX 101 50 [l0, l1, l2, .ref a0, l4, l5] (.ref a0 :: S) h := pX_stp d101_49 rfl rfl rfl
theorem x101_50 {L S : List Value} {h : HP} {a : Nat} (hk : 99 ≤ hp_k h a) : pX 101 50 L (.ref a :: S) h = pX 101 51 L (.int (Int32.ofNat (hp_l h a)) :: S) h := pX_len d101_50 hk
theorem x101_51 {L S : List Value} {h : HP} {x y : Int32} : pX 101 51 L (.int y :: .int x :: S) h = if y ≤ x then pX 101 74 L S h else pX 101 54 L S h := pX_icmp_ge d101_51 (by decide)
theorem x101_54 {S : List Value} {h : HP} {l1 l2 l3 l4 l5 : Value} {a0 : Nat} : pX 101 54 [.ref a0, l1, l2, l3, l4, l5] S h = pX 101 55 [.ref a0, l1, l2, l3, l4, l5] (.ref a0 :: S) h := pX_stp d101_54 rfl rfl rfl
theorem x101_55 {L S : List Value} {h : HP} {a : Nat} (hk : hp_k h a = 2) : pX 101 55 L (.ref a :: S) h = pX 101 58 L (.ref (hp_a h a 0) :: S) h := pX_get d101_55 rfl rfl hk
theorem x101_58 {S : List Value} {h : HP} {l0 l1 l2 l3 l4 : Value} {x0 : Int32} : pX 101 58 [l0, l1, l2, l3, l4, .int x0] S h = pX 101 60 [l0, l1, l2, l3, l4, .int x0] (.int x0 :: S) h := pX_stp d101_58 rfl rfl rfl
theorem x101_60 {L S : List Value} {h : HP} {a : Nat} {j : Int32} (hk : 200 ≤ hp_k h a) (hj : inb j (hp_l h a) = true) : pX 101 60 L (.int j :: .ref a :: S) h = pX 101 61 L (.ref (hp_a h a (ix j)) :: S) h := pX_ald d101_60 hk hj
theorem x101_61 {S : List Value} {h : HP} {l0 l1 l2 l4 l5 : Value} {a0 : Nat} : pX 101 61 [l0, l1, l2, .ref a0, l4, l5] S h = pX 101 62 [l0, l1, l2, .ref a0, l4, l5] (.ref a0 :: S) h := pX_stp d101_61 rfl rfl rfl
theorem x101_62 {S : List Value} {h : HP} {l0 l1 l2 l3 l5 : Value} {x0 : Int32} : pX 101 62 [l0, l1, l2, l3, .int x0, l5] S h = pX 101 64 [l0, l1, l2, l3, .int x0, l5] (.int x0 :: S) h := pX_stp d101_62 rfl rfl rfl
theorem x101_64 {S : List Value} {h : HP} {l0 l1 l2 l3 l4 : Value} {x0 : Int32} : pX 101 64 [l0, l1, l2, l3, l4, .int x0] S h = pX 101 66 [l0, l1, l2, l3, l4, .int x0] (.int x0 :: S) h := pX_stp d101_64 rfl rfl rfl
theorem x101_66 {L S : List Value} {h : HP} {x y : Int32} : pX 101 66 L (.int y :: .int x :: S) h = pX 101 67 L (.int (x + y) :: S) h := pX_stp d101_66 rfl rfl rfl
theorem x101_67 {L S : List Value} {h : HP} {a : Nat} {j : Int32} (hk : 200 ≤ hp_k h a) (hj : inb j (hp_l h a) = true) : pX 101 67 L (.int j :: .ref a :: S) h = pX 101 68 L (.ref (hp_a h a (ix j)) :: S) h := pX_ald d101_67 hk hj
theorem x101_68 {L : List Value} {h : HP} {a0 : Nat} {a1 : Nat} (hk : hp_k h a1 = 9) : pX 101 68 L [.ref a0, .ref a1] h = (pX 805 0 [.ref a1, .ref a0] [] h).bind (fun q => pX 101 71 L (q.1.toList ++ []) q.2) := pX_inv (a := a1) (t := 9) 805 [.ref a1, .ref a0] [] d101_68 rfl rfl rfl hk
theorem x101_71 {L S : List Value} {h : HP} : pX 101 71 L S h = pX 101 84 L S h := pX_goto d101_71 (by decide)
theorem x101_74 {S : List Value} {h : HP} {l1 l2 l3 l4 l5 : Value} {a0 : Nat} : pX 101 74 [.ref a0, l1, l2, l3, l4, l5] S h = pX 101 75 [.ref a0, l1, l2, l3, l4, l5] (.ref a0 :: S) h := pX_stp d101_74 rfl rfl rfl
theorem x101_75 {L S : List Value} {h : HP} {a : Nat} (hk : hp_k h a = 2) : pX 101 75 L (.ref a :: S) h = pX 101 78 L (.ref (hp_a h a 0) :: S) h := pX_get d101_75 rfl rfl hk
theorem x101_78 {S : List Value} {h : HP} {l0 l1 l2 l3 l4 : Value} {x0 : Int32} : pX 101 78 [l0, l1, l2, l3, l4, .int x0] S h = pX 101 80 [l0, l1, l2, l3, l4, .int x0] (.int x0 :: S) h := pX_stp d101_78 rfl rfl rfl
theorem x101_80 {L S : List Value} {h : HP} {a : Nat} {j : Int32} (hk : 200 ≤ hp_k h a) (hj : inb j (hp_l h a) = true) : pX 101 80 L (.int j :: .ref a :: S) h = pX 101 81 L (.ref (hp_a h a (ix j)) :: S) h := pX_ald d101_80 hk hj
theorem x101_81 {L : List Value} {h : HP} {a0 : Nat} (hk : hp_k h a0 = 9) : pX 101 81 L [.ref a0] h = (pX 801 0 [.ref a0] [] h).bind (fun q => pX 101 84 L (q.1.toList ++ []) q.2) := pX_inv (a := a0) (t := 9) 801 [.ref a0] [] d101_81 rfl rfl rfl hk
theorem x101_84 {S : List Value} {h : HP} {x0 : Int32} {l0 l1 l2 l3 l4 : Value} : pX 101 84 [l0, l1, l2, l3, l4, .int x0] S h = pX 101 87 [l0, l1, l2, l3, l4, .int (x0 + 1)] S h := pX_iinc (x := x0) d101_84 (by decide) rfl (Nat.le_of_ble_eq_true rfl) rfl rfl
theorem x101_87 {L S : List Value} {h : HP} : pX 101 87 L S h = pX 101 25 L S h := pX_goto d101_87 (by decide)
theorem x101_90 {L : List Value} {h : HP} : pX 101 90 L [] h = some (none, h) := pX_ret d101_90 rfl
theorem d102_0 : decode (mb 102) 0 = .ok (.aload_n 0, 1) := by decide +kernel
theorem d102_1 : decode (mb 102) 1 = .ok (.getfield 11, 3) := by decide +kernel
theorem d102_4 : decode (mb 102) 4 = .ok (.iload_n 1, 1) := by decide +kernel
theorem d102_5 : decode (mb 102) 5 = .ok (.bipush 7, 2) := by decide +kernel
theorem d102_7 : decode (mb 102) 7 = .ok (.iand, 1) := by decide +kernel
theorem d102_8 : decode (mb 102) 8 = .ok (.aaload, 1) := by decide +kernel
theorem d102_9 : decode (mb 102) 9 = .ok (.areturn, 1) := by decide +kernel
theorem x102_0 {S : List Value} {h : HP} {l1 : Value} {a0 : Nat} : pX 102 0 [.ref a0, l1] S h = pX 102 1 [.ref a0, l1] (.ref a0 :: S) h := pX_stp d102_0 rfl rfl rfl
theorem x102_1 {L S : List Value} {h : HP} {a : Nat} (hk : hp_k h a = 2) : pX 102 1 L (.ref a :: S) h = pX 102 4 L (.ref (hp_a h a 0) :: S) h := pX_get d102_1 rfl rfl hk
theorem x102_4 {S : List Value} {h : HP} {l0 : Value} {x0 : Int32} : pX 102 4 [l0, .int x0] S h = pX 102 5 [l0, .int x0] (.int x0 :: S) h := pX_stp d102_4 rfl rfl rfl
theorem x102_5 {L S : List Value} {h : HP} : pX 102 5 L S h = pX 102 7 L (.int 7 :: S) h := pX_bipush d102_5 (by decide)
theorem x102_7 {L S : List Value} {h : HP} {x y : Int32} : pX 102 7 L (.int y :: .int x :: S) h = pX 102 8 L (.int (x &&& y) :: S) h := pX_stp d102_7 rfl rfl rfl
theorem x102_8 {L S : List Value} {h : HP} {a : Nat} {j : Int32} (hk : 200 ≤ hp_k h a) (hj : inb j (hp_l h a) = true) : pX 102 8 L (.int j :: .ref a :: S) h = pX 102 9 L (.ref (hp_a h a (ix j)) :: S) h := pX_ald d102_8 hk hj
theorem x102_9 {L : List Value} {h : HP} {a : Nat} : pX 102 9 L [.ref a] h = some (some (.ref a), h) := pX_ret d102_9 rfl
theorem d103_0 : decode (mb 103) 0 = .ok (.aload_n 0, 1) := by decide +kernel
theorem d103_1 : decode (mb 103) 1 = .ok (.getfield 30, 3) := by decide +kernel
theorem d103_4 : decode (mb 103) 4 = .ok (.aload_n 0, 1) := by decide +kernel
theorem d103_5 : decode (mb 103) 5 = .ok (.getfield 22, 3) := by decide +kernel
theorem d103_8 : decode (mb 103) 8 = .ok (.getfield 45, 3) := by decide +kernel
theorem d103_11 : decode (mb 103) 11 = .ok (.if_icmp .lt 7, 3) := by decide +kernel
theorem d103_14 : decode (mb 103) 14 = .ok (.iconst 1, 1) := by decide +kernel
theorem d103_15 : decode (mb 103) 15 = .ok (.goto 4, 3) := by decide +kernel
theorem d103_18 : decode (mb 103) 18 = .ok (.iconst 0, 1) := by decide +kernel
theorem d103_19 : decode (mb 103) 19 = .ok (.ireturn, 1) := by decide +kernel
theorem x103_0 {S : List Value} {h : HP}  {a0 : Nat} : pX 103 0 [.ref a0] S h = pX 103 1 [.ref a0] (.ref a0 :: S) h := pX_stp d103_0 rfl rfl rfl
theorem x103_1 {L S : List Value} {h : HP} {a : Nat} (hk : hp_k h a = 2) : pX 103 1 L (.ref a :: S) h = pX 103 4 L (.int (hp_i h a 4) :: S) h := pX_get d103_1 rfl rfl hk
theorem x103_4 {S : List Value} {h : HP}  {a0 : Nat} : pX 103 4 [.ref a0] S h = pX 103 5 [.ref a0] (.ref a0 :: S) h := pX_stp d103_4 rfl rfl rfl
theorem x103_5 {L S : List Value} {h : HP} {a : Nat} (hk : hp_k h a = 2) : pX 103 5 L (.ref a :: S) h = pX 103 8 L (.ref (hp_a h a 2) :: S) h := pX_get d103_5 rfl rfl hk
theorem x103_8 {L S : List Value} {h : HP} {a : Nat} (hk : hp_k h a = 5) : pX 103 8 L (.ref a :: S) h = pX 103 11 L (.int (hp_i h a 2) :: S) h := pX_get d103_8 rfl rfl hk
theorem x103_11 {L S : List Value} {h : HP} {x y : Int32} : pX 103 11 L (.int y :: .int x :: S) h = if x < y then pX 103 18 L S h else pX 103 14 L S h := pX_icmp_lt d103_11 (by decide)
theorem x103_14 {L S : List Value} {h : HP} : pX 103 14 L S h = pX 103 15 L (.int 1 :: S) h := pX_iconst d103_14 (by decide)
theorem x103_15 {L S : List Value} {h : HP} : pX 103 15 L S h = pX 103 19 L S h := pX_goto d103_15 (by decide)
theorem x103_18 {L S : List Value} {h : HP} : pX 103 18 L S h = pX 103 19 L (.int 0 :: S) h := pX_iconst d103_18 (by decide)
theorem x103_19 {L : List Value} {h : HP} {x : Int32} (hx : x = 0 ∨ x = 1) : pX 103 19 L [.int x] h = some (some (.int x), h) := pX_ret d103_19 (by rcases hx with rfl | rfl <;> rfl)
theorem d104_0 : decode (mb 104) 0 = .ok (.aload_n 0, 1) := by decide +kernel
theorem d104_1 : decode (mb 104) 1 = .ok (.getfield 18, 3) := by decide +kernel
theorem d104_4 : decode (mb 104) 4 = .ok (.aload_n 1, 1) := by decide +kernel
theorem d104_5 : decode (mb 104) 5 = .ok (.invokevirtual 41, 3) := by decide +kernel
theorem d104_8 : decode (mb 104) 8 = .ok (.aload_n 0, 1) := by decide +kernel
theorem d104_9 : decode (mb 104) 9 = .ok (.aload_n 0, 1) := by decide +kernel
theorem d104_10 : decode (mb 104) 10 = .ok (.getfield 22, 3) := by decide +kernel
theorem d104_13 : decode (mb 104) 13 = .ok (.getfield 45, 3) := by decide +kernel
theorem d104_16 : decode (mb 104) 16 = .ok (.putfield 30, 3) := by decide +kernel
theorem d104_19 : decode (mb 104) 19 = .ok (.return_, 1) := by decide +kernel
theorem x104_0 {S : List Value} {h : HP} {l1 : Value} {a0 : Nat} : pX 104 0 [.ref a0, l1] S h = pX 104 1 [.ref a0, l1] (.ref a0 :: S) h := pX_stp d104_0 rfl rfl rfl
theorem x104_1 {L S : List Value} {h : HP} {a : Nat} (hk : hp_k h a = 2) : pX 104 1 L (.ref a :: S) h = pX 104 4 L (.ref (hp_a h a 1) :: S) h := pX_get d104_1 rfl rfl hk
theorem x104_4 {S : List Value} {h : HP} {l0 : Value} {a0 : Nat} : pX 104 4 [l0, .ref a0] S h = pX 104 5 [l0, .ref a0] (.ref a0 :: S) h := pX_stp d104_4 rfl rfl rfl
theorem x104_5 {L : List Value} {h : HP} {a0 : Nat} {a1 : Nat} (hk : hp_k h a1 = 9) : pX 104 5 L [.ref a0, .ref a1] h = (pX 805 0 [.ref a1, .ref a0] [] h).bind (fun q => pX 104 8 L (q.1.toList ++ []) q.2) := pX_inv (a := a1) (t := 9) 805 [.ref a1, .ref a0] [] d104_5 rfl rfl rfl hk
theorem x104_8 {S : List Value} {h : HP} {l1 : Value} {a0 : Nat} : pX 104 8 [.ref a0, l1] S h = pX 104 9 [.ref a0, l1] (.ref a0 :: S) h := pX_stp d104_8 rfl rfl rfl
theorem x104_9 {S : List Value} {h : HP} {l1 : Value} {a0 : Nat} : pX 104 9 [.ref a0, l1] S h = pX 104 10 [.ref a0, l1] (.ref a0 :: S) h := pX_stp d104_9 rfl rfl rfl
theorem x104_10 {L S : List Value} {h : HP} {a : Nat} (hk : hp_k h a = 2) : pX 104 10 L (.ref a :: S) h = pX 104 13 L (.ref (hp_a h a 2) :: S) h := pX_get d104_10 rfl rfl hk
theorem x104_13 {L S : List Value} {h : HP} {a : Nat} (hk : hp_k h a = 5) : pX 104 13 L (.ref a :: S) h = pX 104 16 L (.int (hp_i h a 2) :: S) h := pX_get d104_13 rfl rfl hk
theorem x104_16 {L S : List Value} {h : HP} {a : Nat} {x : Int32} (hk : hp_k h a = 2) : pX 104 16 L (.int x :: .ref a :: S) h = pX 104 19 L S (hp_wi h a 4 x) := pX_put d104_16 rfl rfl rfl hk
theorem x104_19 {L : List Value} {h : HP} : pX 104 19 L [] h = some (none, h) := pX_ret d104_19 rfl
theorem d105_0 : decode (mb 105) 0 = .ok (.aload_n 0, 1) := by decide +kernel
theorem d105_1 : decode (mb 105) 1 = .ok (.invokevirtual 48, 3) := by decide +kernel
theorem d105_4 : decode (mb 105) 4 = .ok (.ifCond .ne 33, 3) := by decide +kernel
theorem d105_7 : decode (mb 105) 7 = .ok (.aload_n 0, 1) := by decide +kernel
theorem d105_8 : decode (mb 105) 8 = .ok (.aload_n 0, 1) := by decide +kernel
theorem d105_9 : decode (mb 105) 9 = .ok (.getfield 22, 3) := by decide +kernel
theorem d105_12 : decode (mb 105) 12 = .ok (.getfield 52, 3) := by decide +kernel
theorem d105_15 : decode (mb 105) 15 = .ok (.aload_n 0, 1) := by decide +kernel
theorem d105_16 : decode (mb 105) 16 = .ok (.getfield 30, 3) := by decide +kernel
theorem d105_19 : decode (mb 105) 19 = .ok (.iaload, 1) := by decide +kernel
theorem d105_20 : decode (mb 105) 20 = .ok (.invokevirtual 56, 3) := by decide +kernel
theorem d105_23 : decode (mb 105) 23 = .ok (.aload_n 1, 1) := by decide +kernel
theorem d105_24 : decode (mb 105) 24 = .ok (.invokevirtual 41, 3) := by decide +kernel
theorem d105_27 : decode (mb 105) 27 = .ok (.aload_n 0, 1) := by decide +kernel
theorem d105_28 : decode (mb 105) 28 = .ok (.dup, 1) := by decide +kernel
theorem d105_29 : decode (mb 105) 29 = .ok (.getfield 30, 3) := by decide +kernel
theorem d105_32 : decode (mb 105) 32 = .ok (.iconst 1, 1) := by decide +kernel
theorem d105_33 : decode (mb 105) 33 = .ok (.iadd, 1) := by decide +kernel
theorem d105_34 : decode (mb 105) 34 = .ok (.putfield 30, 3) := by decide +kernel
theorem d105_37 : decode (mb 105) 37 = .ok (.return_, 1) := by decide +kernel
theorem x105_0 {S : List Value} {h : HP} {l1 : Value} {a0 : Nat} : pX 105 0 [.ref a0, l1] S h = pX 105 1 [.ref a0, l1] (.ref a0 :: S) h := pX_stp d105_0 rfl rfl rfl
theorem x105_1 {L : List Value} {h : HP} {a0 : Nat} (hk : hp_k h a0 = 2) : pX 105 1 L [.ref a0] h = (pX 103 0 [.ref a0] [] h).bind (fun q => pX 105 4 L (q.1.toList ++ []) q.2) := pX_inv (a := a0) (t := 2) 103 [.ref a0] [] d105_1 rfl rfl rfl hk
theorem x105_4 {L S : List Value} {h : HP} {x : Int32} : pX 105 4 L (.int x :: S) h = if x = 0 then pX 105 7 L S h else pX 105 37 L S h := pX_if_ne d105_4 (by decide)
theorem x105_7 {S : List Value} {h : HP} {l1 : Value} {a0 : Nat} : pX 105 7 [.ref a0, l1] S h = pX 105 8 [.ref a0, l1] (.ref a0 :: S) h := pX_stp d105_7 rfl rfl rfl
theorem x105_8 {S : List Value} {h : HP} {l1 : Value} {a0 : Nat} : pX 105 8 [.ref a0, l1] S h = pX 105 9 [.ref a0, l1] (.ref a0 :: S) h := pX_stp d105_8 rfl rfl rfl
theorem x105_9 {L S : List Value} {h : HP} {a : Nat} (hk : hp_k h a = 2) : pX 105 9 L (.ref a :: S) h = pX 105 12 L (.ref (hp_a h a 2) :: S) h := pX_get d105_9 rfl rfl hk
theorem x105_12 {L S : List Value} {h : HP} {a : Nat} (hk : hp_k h a = 5) : pX 105 12 L (.ref a :: S) h = pX 105 15 L (.ref (hp_a h a 4) :: S) h := pX_get d105_12 rfl rfl hk
theorem x105_15 {S : List Value} {h : HP} {l1 : Value} {a0 : Nat} : pX 105 15 [.ref a0, l1] S h = pX 105 16 [.ref a0, l1] (.ref a0 :: S) h := pX_stp d105_15 rfl rfl rfl
theorem x105_16 {L S : List Value} {h : HP} {a : Nat} (hk : hp_k h a = 2) : pX 105 16 L (.ref a :: S) h = pX 105 19 L (.int (hp_i h a 4) :: S) h := pX_get d105_16 rfl rfl hk
theorem x105_19 {L S : List Value} {h : HP} {a : Nat} {j : Int32} (hk : hp_k h a = 100) (hj : inb j (hp_l h a) = true) : pX 105 19 L (.int j :: .ref a :: S) h = pX 105 20 L (.int (hp_i h a (ix j)) :: S) h := pX_ild d105_19 hk hj
theorem x105_20 {L : List Value} {h : HP} {x0 : Int32} {a0 : Nat} (hk : hp_k h a0 = 2) : pX 105 20 L [.int x0, .ref a0] h = (pX 102 0 [.ref a0, .int x0] [] h).bind (fun q => pX 105 23 L (q.1.toList ++ []) q.2) := pX_inv (a := a0) (t := 2) 102 [.ref a0, .int x0] [] d105_20 rfl rfl rfl hk
theorem x105_23 {S : List Value} {h : HP} {l0 : Value} {a0 : Nat} : pX 105 23 [l0, .ref a0] S h = pX 105 24 [l0, .ref a0] (.ref a0 :: S) h := pX_stp d105_23 rfl rfl rfl
theorem x105_24 {L : List Value} {h : HP} {a0 : Nat} {a1 : Nat} (hk : hp_k h a1 = 9) : pX 105 24 L [.ref a0, .ref a1] h = (pX 805 0 [.ref a1, .ref a0] [] h).bind (fun q => pX 105 27 L (q.1.toList ++ []) q.2) := pX_inv (a := a1) (t := 9) 805 [.ref a1, .ref a0] [] d105_24 rfl rfl rfl hk
theorem x105_27 {S : List Value} {h : HP} {l1 : Value} {a0 : Nat} : pX 105 27 [.ref a0, l1] S h = pX 105 28 [.ref a0, l1] (.ref a0 :: S) h := pX_stp d105_27 rfl rfl rfl
theorem x105_28 {L S : List Value} {h : HP} {a0 : Nat} : pX 105 28 L (.ref a0 :: S) h = pX 105 29 L (.ref a0 :: .ref a0 :: S) h := pX_stp d105_28 rfl rfl rfl
theorem x105_29 {L S : List Value} {h : HP} {a : Nat} (hk : hp_k h a = 2) : pX 105 29 L (.ref a :: S) h = pX 105 32 L (.int (hp_i h a 4) :: S) h := pX_get d105_29 rfl rfl hk
theorem x105_32 {L S : List Value} {h : HP} : pX 105 32 L S h = pX 105 33 L (.int 1 :: S) h := pX_iconst d105_32 (by decide)
theorem x105_33 {L S : List Value} {h : HP} {x y : Int32} : pX 105 33 L (.int y :: .int x :: S) h = pX 105 34 L (.int (x + y) :: S) h := pX_stp d105_33 rfl rfl rfl
theorem x105_34 {L S : List Value} {h : HP} {a : Nat} {x : Int32} (hk : hp_k h a = 2) : pX 105 34 L (.int x :: .ref a :: S) h = pX 105 37 L S (hp_wi h a 4 x) := pX_put d105_34 rfl rfl rfl hk
theorem x105_37 {L : List Value} {h : HP} : pX 105 37 L [] h = some (none, h) := pX_ret d105_37 rfl
theorem d200_0 : decode (mb 200) 0 = .ok (.aload_n 0, 1) := by decide +kernel
theorem d200_1 : decode (mb 200) 1 = .ok (.invokespecial 1, 3) := by decide +kernel
theorem d200_4 : decode (mb 200) 4 = .ok (.return_, 1) := by decide +kernel
theorem x200_0 {S : List Value} {h : HP}  {a0 : Nat} : pX 200 0 [.ref a0] S h = pX 200 1 [.ref a0] (.ref a0 :: S) h := pX_stp d200_0 rfl rfl rfl
theorem x200_1 {L : List Value} {h : HP} {a0 : Nat} (ha : ¬ a0 = 0) : pX 200 1 L [.ref a0] h = pX 200 4 L [] h := pX_oinit d200_1 rfl (Nat.le_of_ble_eq_true rfl) ha
theorem x200_4 {L : List Value} {h : HP} : pX 200 4 L [] h = some (none, h) := pX_ret d200_4 rfl
theorem d400_0 : decode (mb 400) 0 = .ok (.aload_n 0, 1) := by decide +kernel
theorem d400_1 : decode (mb 400) 1 = .ok (.invokespecial 3, 3) := by decide +kernel
theorem d400_4 : decode (mb 400) 4 = .ok (.aload_n 0, 1) := by decide +kernel
theorem d400_5 : decode (mb 400) 5 = .ok (.bipush 40, 2) := by decide +kernel
theorem d400_7 : decode (mb 400) 7 = .ok (.newarray .int, 2) := by decide +kernel
theorem d400_9 : decode (mb 400) 9 = .ok (.putfield 9, 3) := by decide +kernel
theorem d400_12 : decode (mb 400) 12 = .ok (.aload_n 0, 1) := by decide +kernel
theorem d400_13 : decode (mb 400) 13 = .ok (.bipush 40, 2) := by decide +kernel
theorem d400_15 : decode (mb 400) 15 = .ok (.newarray .int, 2) := by decide +kernel
theorem d400_17 : decode (mb 400) 17 = .ok (.putfield 15, 3) := by decide +kernel
theorem d400_20 : decode (mb 400) 20 = .ok (.aload_n 0, 1) := by decide +kernel
theorem d400_21 : decode (mb 400) 21 = .ok (.bipush 40, 2) := by decide +kernel
theorem d400_23 : decode (mb 400) 23 = .ok (.newarray .int, 2) := by decide +kernel
theorem d400_25 : decode (mb 400) 25 = .ok (.putfield 18, 3) := by decide +kernel
theorem d400_28 : decode (mb 400) 28 = .ok (.aload_n 0, 1) := by decide +kernel
theorem d400_29 : decode (mb 400) 29 = .ok (.bipush 40, 2) := by decide +kernel
theorem d400_31 : decode (mb 400) 31 = .ok (.newarray .int, 2) := by decide +kernel
theorem d400_33 : decode (mb 400) 33 = .ok (.putfield 21, 3) := by decide +kernel
theorem d400_36 : decode (mb 400) 36 = .ok (.aload_n 0, 1) := by decide +kernel
theorem d400_37 : decode (mb 400) 37 = .ok (.bipush 6, 2) := by decide +kernel
theorem d400_39 : decode (mb 400) 39 = .ok (.newarray .int, 2) := by decide +kernel
theorem d400_41 : decode (mb 400) 41 = .ok (.putfield 24, 3) := by decide +kernel
theorem d400_44 : decode (mb 400) 44 = .ok (.aload_n 0, 1) := by decide +kernel
theorem d400_45 : decode (mb 400) 45 = .ok (.bipush 6, 2) := by decide +kernel
theorem d400_47 : decode (mb 400) 47 = .ok (.newarray .int, 2) := by decide +kernel
theorem d400_49 : decode (mb 400) 49 = .ok (.putfield 27, 3) := by decide +kernel
theorem d400_52 : decode (mb 400) 52 = .ok (.aload_n 0, 1) := by decide +kernel
theorem d400_53 : decode (mb 400) 53 = .ok (.bipush 6, 2) := by decide +kernel
theorem d400_55 : decode (mb 400) 55 = .ok (.newarray .int, 2) := by decide +kernel
theorem d400_57 : decode (mb 400) 57 = .ok (.putfield 30, 3) := by decide +kernel
theorem d400_60 : decode (mb 400) 60 = .ok (.aload_n 0, 1) := by decide +kernel
theorem d400_61 : decode (mb 400) 61 = .ok (.bipush 6, 2) := by decide +kernel
theorem d400_63 : decode (mb 400) 63 = .ok (.newarray .int, 2) := by decide +kernel
theorem d400_65 : decode (mb 400) 65 = .ok (.putfield 33, 3) := by decide +kernel
theorem d400_68 : decode (mb 400) 68 = .ok (.return_, 1) := by decide +kernel
theorem x400_0 {S : List Value} {h : HP}  {a0 : Nat} : pX 400 0 [.ref a0] S h = pX 400 1 [.ref a0] (.ref a0 :: S) h := pX_stp d400_0 rfl rfl rfl
theorem x400_1 {L : List Value} {h : HP} {a0 : Nat} (ha : ¬ a0 = 0) : pX 400 1 L [.ref a0] h = pX 400 4 L [] h := pX_oinit d400_1 rfl (Nat.le_of_ble_eq_true rfl) ha
theorem x400_4 {S : List Value} {h : HP}  {a0 : Nat} : pX 400 4 [.ref a0] S h = pX 400 5 [.ref a0] (.ref a0 :: S) h := pX_stp d400_4 rfl rfl rfl
theorem x400_5 {L S : List Value} {h : HP} : pX 400 5 L S h = pX 400 7 L (.int 40 :: S) h := pX_bipush d400_5 (by decide)
theorem x400_7 {L S : List Value} {h : HP} {j : Int32} (h0 : 0 ≤ j) (h1 : ix j ≤ 134217728) : pX 400 7 L (.int j :: S) h = pX 400 9 L (.ref (hp_n h) :: S) (hp_mk h 100 (ix j) (ix j)) := pX_newa d400_7 h0 h1
theorem x400_9 {L S : List Value} {h : HP} {a b : Nat} (hk : hp_k h a = 5) : pX 400 9 L (.ref b :: .ref a :: S) h = pX 400 12 L S (hp_wa h a 3 b) := pX_put d400_9 rfl rfl rfl hk
theorem x400_12 {S : List Value} {h : HP}  {a0 : Nat} : pX 400 12 [.ref a0] S h = pX 400 13 [.ref a0] (.ref a0 :: S) h := pX_stp d400_12 rfl rfl rfl
theorem x400_13 {L S : List Value} {h : HP} : pX 400 13 L S h = pX 400 15 L (.int 40 :: S) h := pX_bipush d400_13 (by decide)
theorem x400_15 {L S : List Value} {h : HP} {j : Int32} (h0 : 0 ≤ j) (h1 : ix j ≤ 134217728) : pX 400 15 L (.int j :: S) h = pX 400 17 L (.ref (hp_n h) :: S) (hp_mk h 100 (ix j) (ix j)) := pX_newa d400_15 h0 h1
theorem x400_17 {L S : List Value} {h : HP} {a b : Nat} (hk : hp_k h a = 5) : pX 400 17 L (.ref b :: .ref a :: S) h = pX 400 20 L S (hp_wa h a 4 b) := pX_put d400_17 rfl rfl rfl hk
theorem x400_20 {S : List Value} {h : HP}  {a0 : Nat} : pX 400 20 [.ref a0] S h = pX 400 21 [.ref a0] (.ref a0 :: S) h := pX_stp d400_20 rfl rfl rfl
theorem x400_21 {L S : List Value} {h : HP} : pX 400 21 L S h = pX 400 23 L (.int 40 :: S) h := pX_bipush d400_21 (by decide)
theorem x400_23 {L S : List Value} {h : HP} {j : Int32} (h0 : 0 ≤ j) (h1 : ix j ≤ 134217728) : pX 400 23 L (.int j :: S) h = pX 400 25 L (.ref (hp_n h) :: S) (hp_mk h 100 (ix j) (ix j)) := pX_newa d400_23 h0 h1
theorem x400_25 {L S : List Value} {h : HP} {a b : Nat} (hk : hp_k h a = 5) : pX 400 25 L (.ref b :: .ref a :: S) h = pX 400 28 L S (hp_wa h a 5 b) := pX_put d400_25 rfl rfl rfl hk
theorem x400_28 {S : List Value} {h : HP}  {a0 : Nat} : pX 400 28 [.ref a0] S h = pX 400 29 [.ref a0] (.ref a0 :: S) h := pX_stp d400_28 rfl rfl rfl
theorem x400_29 {L S : List Value} {h : HP} : pX 400 29 L S h = pX 400 31 L (.int 40 :: S) h := pX_bipush d400_29 (by decide)
theorem x400_31 {L S : List Value} {h : HP} {j : Int32} (h0 : 0 ≤ j) (h1 : ix j ≤ 134217728) : pX 400 31 L (.int j :: S) h = pX 400 33 L (.ref (hp_n h) :: S) (hp_mk h 100 (ix j) (ix j)) := pX_newa d400_31 h0 h1
theorem x400_33 {L S : List Value} {h : HP} {a b : Nat} (hk : hp_k h a = 5) : pX 400 33 L (.ref b :: .ref a :: S) h = pX 400 36 L S (hp_wa h a 6 b) := pX_put d400_33 rfl rfl rfl hk
theorem x400_36 {S : List Value} {h : HP}  {a0 : Nat} : pX 400 36 [.ref a0] S h = pX 400 37 [.ref a0] (.ref a0 :: S) h := pX_stp d400_36 rfl rfl rfl
theorem x400_37 {L S : List Value} {h : HP} : pX 400 37 L S h = pX 400 39 L (.int 6 :: S) h := pX_bipush d400_37 (by decide)
theorem x400_39 {L S : List Value} {h : HP} {j : Int32} (h0 : 0 ≤ j) (h1 : ix j ≤ 134217728) : pX 400 39 L (.int j :: S) h = pX 400 41 L (.ref (hp_n h) :: S) (hp_mk h 100 (ix j) (ix j)) := pX_newa d400_39 h0 h1
theorem x400_41 {L S : List Value} {h : HP} {a b : Nat} (hk : hp_k h a = 5) : pX 400 41 L (.ref b :: .ref a :: S) h = pX 400 44 L S (hp_wa h a 8 b) := pX_put d400_41 rfl rfl rfl hk
theorem x400_44 {S : List Value} {h : HP}  {a0 : Nat} : pX 400 44 [.ref a0] S h = pX 400 45 [.ref a0] (.ref a0 :: S) h := pX_stp d400_44 rfl rfl rfl
theorem x400_45 {L S : List Value} {h : HP} : pX 400 45 L S h = pX 400 47 L (.int 6 :: S) h := pX_bipush d400_45 (by decide)
theorem x400_47 {L S : List Value} {h : HP} {j : Int32} (h0 : 0 ≤ j) (h1 : ix j ≤ 134217728) : pX 400 47 L (.int j :: S) h = pX 400 49 L (.ref (hp_n h) :: S) (hp_mk h 100 (ix j) (ix j)) := pX_newa d400_47 h0 h1
theorem x400_49 {L S : List Value} {h : HP} {a b : Nat} (hk : hp_k h a = 5) : pX 400 49 L (.ref b :: .ref a :: S) h = pX 400 52 L S (hp_wa h a 9 b) := pX_put d400_49 rfl rfl rfl hk
theorem x400_52 {S : List Value} {h : HP}  {a0 : Nat} : pX 400 52 [.ref a0] S h = pX 400 53 [.ref a0] (.ref a0 :: S) h := pX_stp d400_52 rfl rfl rfl
theorem x400_53 {L S : List Value} {h : HP} : pX 400 53 L S h = pX 400 55 L (.int 6 :: S) h := pX_bipush d400_53 (by decide)
theorem x400_55 {L S : List Value} {h : HP} {j : Int32} (h0 : 0 ≤ j) (h1 : ix j ≤ 134217728) : pX 400 55 L (.int j :: S) h = pX 400 57 L (.ref (hp_n h) :: S) (hp_mk h 100 (ix j) (ix j)) := pX_newa d400_55 h0 h1
theorem x400_57 {L S : List Value} {h : HP} {a b : Nat} (hk : hp_k h a = 5) : pX 400 57 L (.ref b :: .ref a :: S) h = pX 400 60 L S (hp_wa h a 10 b) := pX_put d400_57 rfl rfl rfl hk
theorem x400_60 {S : List Value} {h : HP}  {a0 : Nat} : pX 400 60 [.ref a0] S h = pX 400 61 [.ref a0] (.ref a0 :: S) h := pX_stp d400_60 rfl rfl rfl
theorem x400_61 {L S : List Value} {h : HP} : pX 400 61 L S h = pX 400 63 L (.int 6 :: S) h := pX_bipush d400_61 (by decide)
theorem x400_63 {L S : List Value} {h : HP} {j : Int32} (h0 : 0 ≤ j) (h1 : ix j ≤ 134217728) : pX 400 63 L (.int j :: S) h = pX 400 65 L (.ref (hp_n h) :: S) (hp_mk h 100 (ix j) (ix j)) := pX_newa d400_63 h0 h1
theorem x400_65 {L S : List Value} {h : HP} {a b : Nat} (hk : hp_k h a = 5) : pX 400 65 L (.ref b :: .ref a :: S) h = pX 400 68 L S (hp_wa h a 11 b) := pX_put d400_65 rfl rfl rfl hk
theorem x400_68 {L : List Value} {h : HP} : pX 400 68 L [] h = some (none, h) := pX_ret d400_68 rfl
theorem d401_0 : decode (mb 401) 0 = .ok (.aload_n 0, 1) := by decide +kernel
theorem d401_1 : decode (mb 401) 1 = .ok (.getfield 9, 3) := by decide +kernel
theorem d401_4 : decode (mb 401) 4 = .ok (.aload_n 0, 1) := by decide +kernel
theorem d401_5 : decode (mb 401) 5 = .ok (.getfield 36, 3) := by decide +kernel
theorem d401_8 : decode (mb 401) 8 = .ok (.iload_n 1, 1) := by decide +kernel
theorem d401_9 : decode (mb 401) 9 = .ok (.iastore, 1) := by decide +kernel
theorem d401_10 : decode (mb 401) 10 = .ok (.aload_n 0, 1) := by decide +kernel
theorem d401_11 : decode (mb 401) 11 = .ok (.getfield 15, 3) := by decide +kernel
theorem d401_14 : decode (mb 401) 14 = .ok (.aload_n 0, 1) := by decide +kernel
theorem d401_15 : decode (mb 401) 15 = .ok (.getfield 36, 3) := by decide +kernel
theorem d401_18 : decode (mb 401) 18 = .ok (.iload_n 2, 1) := by decide +kernel
theorem d401_19 : decode (mb 401) 19 = .ok (.iastore, 1) := by decide +kernel
theorem d401_20 : decode (mb 401) 20 = .ok (.aload_n 0, 1) := by decide +kernel
theorem d401_21 : decode (mb 401) 21 = .ok (.getfield 18, 3) := by decide +kernel
theorem d401_24 : decode (mb 401) 24 = .ok (.aload_n 0, 1) := by decide +kernel
theorem d401_25 : decode (mb 401) 25 = .ok (.getfield 36, 3) := by decide +kernel
theorem d401_28 : decode (mb 401) 28 = .ok (.iload_n 3, 1) := by decide +kernel
theorem d401_29 : decode (mb 401) 29 = .ok (.iastore, 1) := by decide +kernel
theorem d401_30 : decode (mb 401) 30 = .ok (.aload_n 0, 1) := by decide +kernel
theorem d401_31 : decode (mb 401) 31 = .ok (.getfield 21, 3) := by decide +kernel
theorem d401_34 : decode (mb 401) 34 = .ok (.aload_n 0, 1) := by decide +kernel
theorem d401_35 : decode (mb 401) 35 = .ok (.getfield 36, 3) := by decide +kernel
theorem d401_38 : decode (mb 401) 38 = .ok (.iload 4, 2) := by decide +kernel
theorem d401_40 : decode (mb 401) 40 = .ok (.iastore, 1) := by decide +kernel
theorem d401_41 : decode (mb 401) 41 = .ok (.aload_n 0, 1) := by decide +kernel
theorem d401_42 : decode (mb 401) 42 = .ok (.dup, 1) := by decide +kernel
theorem d401_43 : decode (mb 401) 43 = .ok (.getfield 36, 3) := by decide +kernel
theorem d401_46 : decode (mb 401) 46 = .ok (.iconst 1, 1) := by decide +kernel
theorem d401_47 : decode (mb 401) 47 = .ok (.iadd, 1) := by decide +kernel
theorem d401_48 : decode (mb 401) 48 = .ok (.putfield 36, 3) := by decide +kernel
theorem d401_51 : decode (mb 401) 51 = .ok (.aload_n 0, 1) := by decide +kernel
theorem d401_52 : decode (mb 401) 52 = .ok (.getfield 36, 3) := by decide +kernel
theorem d401_55 : decode (mb 401) 55 = .ok (.ireturn, 1) := by decide +kernel
theorem x401_0 {S : List Value} {h : HP} {l1 l2 l3 l4 : Value} {a0 : Nat} : pX 401 0 [.ref a0, l1, l2, l3, l4] S h = pX 401 1 [.ref a0, l1, l2, l3, l4] (.ref a0 :: S) h := pX_stp d401_0 rfl rfl rfl
theorem x401_1 {L S : List Value} {h : HP} {a : Nat} (hk : hp_k h a = 5) : pX 401 1 L (.ref a :: S) h = pX 401 4 L (.ref (hp_a h a 3) :: S) h := pX_get d401_1 rfl rfl hk
theorem x401_4 {S : List Value} {h : HP} {l1 l2 l3 l4 : Value} {a0 : Nat} : pX 401 4 [.ref a0, l1, l2, l3, l4] S h = pX 401 5 [.ref a0, l1, l2, l3, l4] (.ref a0 :: S) h := pX_stp d401_4 rfl rfl rfl
theorem x401_5 {L S : List Value} {h : HP} {a : Nat} (hk : hp_k h a = 5) : pX 401 5 L (.ref a :: S) h = pX 401 8 L (.int (hp_i h a 2) :: S) h := pX_get d401_5 rfl rfl hk
theorem x401_8 {S : List Value} {h : HP} {l0 l2 l3 l4 : Value} {x0 : Int32} : pX 401 8 [l0, .int x0, l2, l3, l4] S h = pX 401 9 [l0, .int x0, l2, l3, l4] (.int x0 :: S) h := pX_stp d401_8 rfl rfl rfl
theorem x401_9 {L S : List Value} {h : HP} {a : Nat} {j x : Int32} (hk : hp_k h a = 100) (hj : inb j (hp_l h a) = true) : pX 401 9 L (.int x :: .int j :: .ref a :: S) h = pX 401 10 L S (hp_wi h a (ix j) x) := pX_ist d401_9 hk hj
theorem x401_10 {S : List Value} {h : HP} {l1 l2 l3 l4 : Value} {a0 : Nat} : pX 401 10 [.ref a0, l1, l2, l3, l4] S h = pX 401 11 [.ref a0, l1, l2, l3, l4] (.ref a0 :: S) h := pX_stp d401_10 rfl rfl rfl
theorem x401_11 {L S : List Value} {h : HP} {a : Nat} (hk : hp_k h a = 5) : pX 401 11 L (.ref a :: S) h = pX 401 14 L (.ref (hp_a h a 4) :: S) h := pX_get d401_11 rfl rfl hk
theorem x401_14 {S : List Value} {h : HP} {l1 l2 l3 l4 : Value} {a0 : Nat} : pX 401 14 [.ref a0, l1, l2, l3, l4] S h = pX 401 15 [.ref a0, l1, l2, l3, l4] (.ref a0 :: S) h := pX_stp d401_14 rfl rfl rfl
theorem x401_15 {L S : List Value} {h : HP} {a : Nat} (hk : hp_k h a = 5) : pX 401 15 L (.ref a :: S) h = pX 401 18 L (.int (hp_i h a 2) :: S) h := pX_get d401_15 rfl rfl hk
theorem x401_18 {S : List Value} {h : HP} {l0 l1 l3 l4 : Value} {x0 : Int32} : pX 401 18 [l0, l1, .int x0, l3, l4] S h = pX 401 19 [l0, l1, .int x0, l3, l4] (.int x0 :: S) h := pX_stp d401_18 rfl rfl rfl
theorem x401_19 {L S : List Value} {h : HP} {a : Nat} {j x : Int32} (hk : hp_k h a = 100) (hj : inb j (hp_l h a) = true) : pX 401 19 L (.int x :: .int j :: .ref a :: S) h = pX 401 20 L S (hp_wi h a (ix j) x) := pX_ist d401_19 hk hj
theorem x401_20 {S : List Value} {h : HP} {l1 l2 l3 l4 : Value} {a0 : Nat} : pX 401 20 [.ref a0, l1, l2, l3, l4] S h = pX 401 21 [.ref a0, l1, l2, l3, l4] (.ref a0 :: S) h := pX_stp d401_20 rfl rfl rfl
theorem x401_21 {L S : List Value} {h : HP} {a : Nat} (hk : hp_k h a = 5) : pX 401 21 L (.ref a :: S) h = pX 401 24 L (.ref (hp_a h a 5) :: S) h := pX_get d401_21 rfl rfl hk
theorem x401_24 {S : List Value} {h : HP} {l1 l2 l3 l4 : Value} {a0 : Nat} : pX 401 24 [.ref a0, l1, l2, l3, l4] S h = pX 401 25 [.ref a0, l1, l2, l3, l4] (.ref a0 :: S) h := pX_stp d401_24 rfl rfl rfl
theorem x401_25 {L S : List Value} {h : HP} {a : Nat} (hk : hp_k h a = 5) : pX 401 25 L (.ref a :: S) h = pX 401 28 L (.int (hp_i h a 2) :: S) h := pX_get d401_25 rfl rfl hk
theorem x401_28 {S : List Value} {h : HP} {l0 l1 l2 l4 : Value} {x0 : Int32} : pX 401 28 [l0, l1, l2, .int x0, l4] S h = pX 401 29 [l0, l1, l2, .int x0, l4] (.int x0 :: S) h := pX_stp d401_28 rfl rfl rfl
theorem x401_29 {L S : List Value} {h : HP} {a : Nat} {j x : Int32} (hk : hp_k h a = 100) (hj : inb j (hp_l h a) = true) : pX 401 29 L (.int x :: .int j :: .ref a :: S) h = pX 401 30 L S (hp_wi h a (ix j) x) := pX_ist d401_29 hk hj
theorem x401_30 {S : List Value} {h : HP} {l1 l2 l3 l4 : Value} {a0 : Nat} : pX 401 30 [.ref a0, l1, l2, l3, l4] S h = pX 401 31 [.ref a0, l1, l2, l3, l4] (.ref a0 :: S) h := pX_stp d401_30 rfl rfl rfl
theorem x401_31 {L S : List Value} {h : HP} {a : Nat} (hk : hp_k h a = 5) : pX 401 31 L (.ref a :: S) h = pX 401 34 L (.ref (hp_a h a 6) :: S) h := pX_get d401_31 rfl rfl hk
theorem x401_34 {S : List Value} {h : HP} {l1 l2 l3 l4 : Value} {a0 : Nat} : pX 401 34 [.ref a0, l1, l2, l3, l4] S h = pX 401 35 [.ref a0, l1, l2, l3, l4] (.ref a0 :: S) h := pX_stp d401_34 rfl rfl rfl
theorem x401_35 {L S : List Value} {h : HP} {a : Nat} (hk : hp_k h a = 5) : pX 401 35 L (.ref a :: S) h = pX 401 38 L (.int (hp_i h a 2) :: S) h := pX_get d401_35 rfl rfl hk
theorem x401_38 {S : List Value} {h : HP} {l0 l1 l2 l3 : Value} {x0 : Int32} : pX 401 38 [l0, l1, l2, l3, .int x0] S h = pX 401 40 [l0, l1, l2, l3, .int x0] (.int x0 :: S) h := pX_stp d401_38 rfl rfl rfl
theorem x401_40 {L S : List Value} {h : HP} {a : Nat} {j x : Int32} (hk : hp_k h a = 100) (hj : inb j (hp_l h a) = true) : pX 401 40 L (.int x :: .int j :: .ref a :: S) h = pX 401 41 L S (hp_wi h a (ix j) x) := pX_ist d401_40 hk hj
theorem x401_41 {S : List Value} {h : HP} {l1 l2 l3 l4 : Value} {a0 : Nat} : pX 401 41 [.ref a0, l1, l2, l3, l4] S h = pX 401 42 [.ref a0, l1, l2, l3, l4] (.ref a0 :: S) h := pX_stp d401_41 rfl rfl rfl
theorem x401_42 {L S : List Value} {h : HP} {a0 : Nat} : pX 401 42 L (.ref a0 :: S) h = pX 401 43 L (.ref a0 :: .ref a0 :: S) h := pX_stp d401_42 rfl rfl rfl
theorem x401_43 {L S : List Value} {h : HP} {a : Nat} (hk : hp_k h a = 5) : pX 401 43 L (.ref a :: S) h = pX 401 46 L (.int (hp_i h a 2) :: S) h := pX_get d401_43 rfl rfl hk
theorem x401_46 {L S : List Value} {h : HP} : pX 401 46 L S h = pX 401 47 L (.int 1 :: S) h := pX_iconst d401_46 (by decide)
theorem x401_47 {L S : List Value} {h : HP} {x y : Int32} : pX 401 47 L (.int y :: .int x :: S) h = pX 401 48 L (.int (x + y) :: S) h := pX_stp d401_47 rfl rfl rfl
theorem x401_48 {L S : List Value} {h : HP} {a : Nat} {x : Int32} (hk : hp_k h a = 5) : pX 401 48 L (.int x :: .ref a :: S) h = pX 401 51 L S (hp_wi h a 2 x) := pX_put d401_48 rfl rfl rfl hk
theorem x401_51 {S : List Value} {h : HP} {l1 l2 l3 l4 : Value} {a0 : Nat} : pX 401 51 [.ref a0, l1, l2, l3, l4] S h = pX 401 52 [.ref a0, l1, l2, l3, l4] (.ref a0 :: S) h := pX_stp d401_51 rfl rfl rfl
theorem x401_52 {L S : List Value} {h : HP} {a : Nat} (hk : hp_k h a = 5) : pX 401 52 L (.ref a :: S) h = pX 401 55 L (.int (hp_i h a 2) :: S) h := pX_get d401_52 rfl rfl hk
theorem x401_55 {L : List Value} {h : HP} {x : Int32} : pX 401 55 L [.int x] h = some (some (.int x), h) := pX_ret d401_55 rfl
theorem d402_0 : decode (mb 402) 0 = .ok (.aload_n 0, 1) := by decide +kernel
theorem d402_1 : decode (mb 402) 1 = .ok (.getfield 24, 3) := by decide +kernel
theorem d402_4 : decode (mb 402) 4 = .ok (.aload_n 0, 1) := by decide +kernel
theorem d402_5 : decode (mb 402) 5 = .ok (.getfield 40, 3) := by decide +kernel
theorem d402_8 : decode (mb 402) 8 = .ok (.iload_n 1, 1) := by decide +kernel
theorem d402_9 : decode (mb 402) 9 = .ok (.iastore, 1) := by decide +kernel
theorem d402_10 : decode (mb 402) 10 = .ok (.aload_n 0, 1) := by decide +kernel
theorem d402_11 : decode (mb 402) 11 = .ok (.getfield 27, 3) := by decide +kernel
theorem d402_14 : decode (mb 402) 14 = .ok (.aload_n 0, 1) := by decide +kernel
theorem d402_15 : decode (mb 402) 15 = .ok (.getfield 40, 3) := by decide +kernel
theorem d402_18 : decode (mb 402) 18 = .ok (.iload_n 2, 1) := by decide +kernel
theorem d402_19 : decode (mb 402) 19 = .ok (.iastore, 1) := by decide +kernel
theorem d402_20 : decode (mb 402) 20 = .ok (.aload_n 0, 1) := by decide +kernel
theorem d402_21 : decode (mb 402) 21 = .ok (.getfield 30, 3) := by decide +kernel
theorem d402_24 : decode (mb 402) 24 = .ok (.aload_n 0, 1) := by decide +kernel
theorem d402_25 : decode (mb 402) 25 = .ok (.getfield 40, 3) := by decide +kernel
theorem d402_28 : decode (mb 402) 28 = .ok (.iload_n 3, 1) := by decide +kernel
theorem d402_29 : decode (mb 402) 29 = .ok (.iastore, 1) := by decide +kernel
theorem d402_30 : decode (mb 402) 30 = .ok (.aload_n 0, 1) := by decide +kernel
theorem d402_31 : decode (mb 402) 31 = .ok (.getfield 33, 3) := by decide +kernel
theorem d402_34 : decode (mb 402) 34 = .ok (.aload_n 0, 1) := by decide +kernel
theorem d402_35 : decode (mb 402) 35 = .ok (.getfield 40, 3) := by decide +kernel
theorem d402_38 : decode (mb 402) 38 = .ok (.iload 4, 2) := by decide +kernel
theorem d402_40 : decode (mb 402) 40 = .ok (.iastore, 1) := by decide +kernel
theorem d402_41 : decode (mb 402) 41 = .ok (.aload_n 0, 1) := by decide +kernel
theorem d402_42 : decode (mb 402) 42 = .ok (.dup, 1) := by decide +kernel
theorem d402_43 : decode (mb 402) 43 = .ok (.getfield 40, 3) := by decide +kernel
theorem d402_46 : decode (mb 402) 46 = .ok (.iconst 1, 1) := by decide +kernel
theorem d402_47 : decode (mb 402) 47 = .ok (.iadd, 1) := by decide +kernel
theorem d402_48 : decode (mb 402) 48 = .ok (.putfield 40, 3) := by decide +kernel
theorem d402_51 : decode (mb 402) 51 = .ok (.aload_n 0, 1) := by decide +kernel
theorem d402_52 : decode (mb 402) 52 = .ok (.getfield 40, 3) := by decide +kernel
theorem d402_55 : decode (mb 402) 55 = .ok (.ireturn, 1) := by decide +kernel
theorem x402_0 {S : List Value} {h : HP} {l1 l2 l3 l4 : Value} {a0 : Nat} : pX 402 0 [.ref a0, l1, l2, l3, l4] S h = pX 402 1 [.ref a0, l1, l2, l3, l4] (.ref a0 :: S) h := pX_stp d402_0 rfl rfl rfl
theorem x402_1 {L S : List Value} {h : HP} {a : Nat} (hk : hp_k h a = 5) : pX 402 1 L (.ref a :: S) h = pX 402 4 L (.ref (hp_a h a 8) :: S) h := pX_get d402_1 rfl rfl hk
theorem x402_4 {S : List Value} {h : HP} {l1 l2 l3 l4 : Value} {a0 : Nat} : pX 402 4 [.ref a0, l1, l2, l3, l4] S h = pX 402 5 [.ref a0, l1, l2, l3, l4] (.ref a0 :: S) h := pX_stp d402_4 rfl rfl rfl
theorem x402_5 {L S : List Value} {h : HP} {a : Nat} (hk : hp_k h a = 5) : pX 402 5 L (.ref a :: S) h = pX 402 8 L (.int (hp_i h a 7) :: S) h := pX_get d402_5 rfl rfl hk
theorem x402_8 {S : List Value} {h : HP} {l0 l2 l3 l4 : Value} {x0 : Int32} : pX 402 8 [l0, .int x0, l2, l3, l4] S h = pX 402 9 [l0, .int x0, l2, l3, l4] (.int x0 :: S) h := pX_stp d402_8 rfl rfl rfl
theorem x402_9 {L S : List Value} {h : HP} {a : Nat} {j x : Int32} (hk : hp_k h a = 100) (hj : inb j (hp_l h a) = true) : pX 402 9 L (.int x :: .int j :: .ref a :: S) h = pX 402 10 L S (hp_wi h a (ix j) x) := pX_ist d402_9 hk hj
theorem x402_10 {S : List Value} {h : HP} {l1 l2 l3 l4 : Value} {a0 : Nat} : pX 402 10 [.ref a0, l1, l2, l3, l4] S h = pX 402 11 [.ref a0, l1, l2, l3, l4] (.ref a0 :: S) h := pX_stp d402_10 rfl rfl rfl
theorem x402_11 {L S : List Value} {h : HP} {a : Nat} (hk : hp_k h a = 5) : pX 402 11 L (.ref a :: S) h = pX 402 14 L (.ref (hp_a h a 9) :: S) h := pX_get d402_11 rfl rfl hk
theorem x402_14 {S : List Value} {h : HP} {l1 l2 l3 l4 : Value} {a0 : Nat} : pX 402 14 [.ref a0, l1, l2, l3, l4] S h = pX 402 15 [.ref a0, l1, l2, l3, l4] (.ref a0 :: S) h := pX_stp d402_14 rfl rfl rfl
theorem x402_15 {L S : List Value} {h : HP} {a : Nat} (hk : hp_k h a = 5) : pX 402 15 L (.ref a :: S) h = pX 402 18 L (.int (hp_i h a 7) :: S) h := pX_get d402_15 rfl rfl hk
theorem x402_18 {S : List Value} {h : HP} {l0 l1 l3 l4 : Value} {x0 : Int32} : pX 402 18 [l0, l1, .int x0, l3, l4] S h = pX 402 19 [l0, l1, .int x0, l3, l4] (.int x0 :: S) h := pX_stp d402_18 rfl rfl rfl
theorem x402_19 {L S : List Value} {h : HP} {a : Nat} {j x : Int32} (hk : hp_k h a = 100) (hj : inb j (hp_l h a) = true) : pX 402 19 L (.int x :: .int j :: .ref a :: S) h = pX 402 20 L S (hp_wi h a (ix j) x) := pX_ist d402_19 hk hj
theorem x402_20 {S : List Value} {h : HP} {l1 l2 l3 l4 : Value} {a0 : Nat} : pX 402 20 [.ref a0, l1, l2, l3, l4] S h = pX 402 21 [.ref a0, l1, l2, l3, l4] (.ref a0 :: S) h := pX_stp d402_20 rfl rfl rfl
theorem x402_21 {L S : List Value} {h : HP} {a : Nat} (hk : hp_k h a = 5) : pX 402 21 L (.ref a :: S) h = pX 402 24 L (.ref (hp_a h a 10) :: S) h := pX_get d402_21 rfl rfl hk
theorem x402_24 {S : List Value} {h : HP} {l1 l2 l3 l4 : Value} {a0 : Nat} : pX 402 24 [.ref a0, l1, l2, l3, l4] S h = pX 402 25 [.ref a0, l1, l2, l3, l4] (.ref a0 :: S) h := pX_stp d402_24 rfl rfl rfl
theorem x402_25 {L S : List Value} {h : HP} {a : Nat} (hk : hp_k h a = 5) : pX 402 25 L (.ref a :: S) h = pX 402 28 L (.int (hp_i h a 7) :: S) h := pX_get d402_25 rfl rfl hk
theorem x402_28 {S : List Value} {h : HP} {l0 l1 l2 l4 : Value} {x0 : Int32} : pX 402 28 [l0, l1, l2, .int x0, l4] S h = pX 402 29 [l0, l1, l2, .int x0, l4] (.int x0 :: S) h := pX_stp d402_28 rfl rfl rfl
theorem x402_29 {L S : List Value} {h : HP} {a : Nat} {j x : Int32} (hk : hp_k h a = 100) (hj : inb j (hp_l h a) = true) : pX 402 29 L (.int x :: .int j :: .ref a :: S) h = pX 402 30 L S (hp_wi h a (ix j) x) := pX_ist d402_29 hk hj
theorem x402_30 {S : List Value} {h : HP} {l1 l2 l3 l4 : Value} {a0 : Nat} : pX 402 30 [.ref a0, l1, l2, l3, l4] S h = pX 402 31 [.ref a0, l1, l2, l3, l4] (.ref a0 :: S) h := pX_stp d402_30 rfl rfl rfl
theorem x402_31 {L S : List Value} {h : HP} {a : Nat} (hk : hp_k h a = 5) : pX 402 31 L (.ref a :: S) h = pX 402 34 L (.ref (hp_a h a 11) :: S) h := pX_get d402_31 rfl rfl hk
theorem x402_34 {S : List Value} {h : HP} {l1 l2 l3 l4 : Value} {a0 : Nat} : pX 402 34 [.ref a0, l1, l2, l3, l4] S h = pX 402 35 [.ref a0, l1, l2, l3, l4] (.ref a0 :: S) h := pX_stp d402_34 rfl rfl rfl
theorem x402_35 {L S : List Value} {h : HP} {a : Nat} (hk : hp_k h a = 5) : pX 402 35 L (.ref a :: S) h = pX 402 38 L (.int (hp_i h a 7) :: S) h := pX_get d402_35 rfl rfl hk
theorem x402_38 {S : List Value} {h : HP} {l0 l1 l2 l3 : Value} {x0 : Int32} : pX 402 38 [l0, l1, l2, l3, .int x0] S h = pX 402 40 [l0, l1, l2, l3, .int x0] (.int x0 :: S) h := pX_stp d402_38 rfl rfl rfl
theorem x402_40 {L S : List Value} {h : HP} {a : Nat} {j x : Int32} (hk : hp_k h a = 100) (hj : inb j (hp_l h a) = true) : pX 402 40 L (.int x :: .int j :: .ref a :: S) h = pX 402 41 L S (hp_wi h a (ix j) x) := pX_ist d402_40 hk hj
theorem x402_41 {S : List Value} {h : HP} {l1 l2 l3 l4 : Value} {a0 : Nat} : pX 402 41 [.ref a0, l1, l2, l3, l4] S h = pX 402 42 [.ref a0, l1, l2, l3, l4] (.ref a0 :: S) h := pX_stp d402_41 rfl rfl rfl
theorem x402_42 {L S : List Value} {h : HP} {a0 : Nat} : pX 402 42 L (.ref a0 :: S) h = pX 402 43 L (.ref a0 :: .ref a0 :: S) h := pX_stp d402_42 rfl rfl rfl
theorem x402_43 {L S : List Value} {h : HP} {a : Nat} (hk : hp_k h a = 5) : pX 402 43 L (.ref a :: S) h = pX 402 46 L (.int (hp_i h a 7) :: S) h := pX_get d402_43 rfl rfl hk
theorem x402_46 {L S : List Value} {h : HP} : pX 402 46 L S h = pX 402 47 L (.int 1 :: S) h := pX_iconst d402_46 (by decide)
theorem x402_47 {L S : List Value} {h : HP} {x y : Int32} : pX 402 47 L (.int y :: .int x :: S) h = pX 402 48 L (.int (x + y) :: S) h := pX_stp d402_47 rfl rfl rfl
theorem x402_48 {L S : List Value} {h : HP} {a : Nat} {x : Int32} (hk : hp_k h a = 5) : pX 402 48 L (.int x :: .ref a :: S) h = pX 402 51 L S (hp_wi h a 7 x) := pX_put d402_48 rfl rfl rfl hk
theorem x402_51 {S : List Value} {h : HP} {l1 l2 l3 l4 : Value} {a0 : Nat} : pX 402 51 [.ref a0, l1, l2, l3, l4] S h = pX 402 52 [.ref a0, l1, l2, l3, l4] (.ref a0 :: S) h := pX_stp d402_51 rfl rfl rfl
theorem x402_52 {L S : List Value} {h : HP} {a : Nat} (hk : hp_k h a = 5) : pX 402 52 L (.ref a :: S) h = pX 402 55 L (.int (hp_i h a 7) :: S) h := pX_get d402_52 rfl rfl hk
theorem x402_55 {L : List Value} {h : HP} {x : Int32} : pX 402 55 L [.int x] h = some (some (.int x), h) := pX_ret d402_55 rfl
theorem d403_0 : decode (mb 403) 0 = .ok (.aload_n 0, 1) := by decide +kernel
theorem d403_1 : decode (mb 403) 1 = .ok (.getfield 24, 3) := by decide +kernel
theorem d403_4 : decode (mb 403) 4 = .ok (.iload_n 1, 1) := by decide +kernel
theorem d403_5 : decode (mb 403) 5 = .ok (.iaload, 1) := by decide +kernel
theorem d403_6 : decode (mb 403) 6 = .ok (.iload_n 2, 1) := by decide +kernel
theorem d403_7 : decode (mb 403) 7 = .ok (.if_icmp .gt 17, 3) := by decide +kernel
theorem d403_10 : decode (mb 403) 10 = .ok (.iload_n 2, 1) := by decide +kernel
theorem d403_11 : decode (mb 403) 11 = .ok (.aload_n 0, 1) := by decide +kernel
theorem d403_12 : decode (mb 403) 12 = .ok (.getfield 27, 3) := by decide +kernel
theorem d403_15 : decode (mb 403) 15 = .ok (.iload_n 1, 1) := by decide +kernel
theorem d403_16 : decode (mb 403) 16 = .ok (.iaload, 1) := by decide +kernel
theorem d403_17 : decode (mb 403) 17 = .ok (.if_icmp .ge 7, 3) := by decide +kernel
theorem d403_20 : decode (mb 403) 20 = .ok (.iconst 1, 1) := by decide +kernel
theorem d403_21 : decode (mb 403) 21 = .ok (.goto 4, 3) := by decide +kernel
theorem d403_24 : decode (mb 403) 24 = .ok (.iconst 0, 1) := by decide +kernel
theorem d403_25 : decode (mb 403) 25 = .ok (.ireturn, 1) := by decide +kernel
theorem x403_0 {S : List Value} {h : HP} {l1 l2 : Value} {a0 : Nat} : pX 403 0 [.ref a0, l1, l2] S h = pX 403 1 [.ref a0, l1, l2] (.ref a0 :: S) h := pX_stp d403_0 rfl rfl rfl
theorem x403_1 {L S : List Value} {h : HP} {a : Nat} (hk : hp_k h a = 5) : pX 403 1 L (.ref a :: S) h = pX 403 4 L (.ref (hp_a h a 8) :: S) h := pX_get d403_1 rfl rfl hk
theorem x403_4 {S : List Value} {h : HP} {l0 l2 : Value} {x0 : Int32} : pX 403 4 [l0, .int x0, l2] S h = pX 403 5 [l0, .int x0, l2] (.int x0 :: S) h := pX_stp d403_4 rfl rfl rfl
theorem x403_5 {L S : List Value} {h : HP} {a : Nat} {j : Int32} (hk : hp_k h a = 100) (hj : inb j (hp_l h a) = true) : pX 403 5 L (.int j :: .ref a :: S) h = pX 403 6 L (.int (hp_i h a (ix j)) :: S) h := pX_ild d403_5 hk hj
theorem x403_6 {S : List Value} {h : HP} {l0 l1 : Value} {x0 : Int32} : pX 403 6 [l0, l1, .int x0] S h = pX 403 7 [l0, l1, .int x0] (.int x0 :: S) h := pX_stp d403_6 rfl rfl rfl
theorem x403_7 {L S : List Value} {h : HP} {x y : Int32} : pX 403 7 L (.int y :: .int x :: S) h = if y < x then pX 403 24 L S h else pX 403 10 L S h := pX_icmp_gt d403_7 (by decide)
theorem x403_10 {S : List Value} {h : HP} {l0 l1 : Value} {x0 : Int32} : pX 403 10 [l0, l1, .int x0] S h = pX 403 11 [l0, l1, .int x0] (.int x0 :: S) h := pX_stp d403_10 rfl rfl rfl
theorem x403_11 {S : List Value} {h : HP} {l1 l2 : Value} {a0 : Nat} : pX 403 11 [.ref a0, l1, l2] S h = pX 403 12 [.ref a0, l1, l2] (.ref a0 :: S) h := pX_stp d403_11 rfl rfl rfl
theorem x403_12 {L S : List Value} {h : HP} {a : Nat} (hk : hp_k h a = 5) : pX 403 12 L (.ref a :: S) h = pX 403 15 L (.ref (hp_a h a 9) :: S) h := pX_get d403_12 rfl rfl hk
theorem x403_15 {S : List Value} {h : HP} {l0 l2 : Value} {x0 : Int32} : pX 403 15 [l0, .int x0, l2] S h = pX 403 16 [l0, .int x0, l2] (.int x0 :: S) h := pX_stp d403_15 rfl rfl rfl
theorem x403_16 {L S : List Value} {h : HP} {a : Nat} {j : Int32} (hk : hp_k h a = 100) (hj : inb j (hp_l h a) = true) : pX 403 16 L (.int j :: .ref a :: S) h = pX 403 17 L (.int (hp_i h a (ix j)) :: S) h := pX_ild d403_16 hk hj
theorem x403_17 {L S : List Value} {h : HP} {x y : Int32} : pX 403 17 L (.int y :: .int x :: S) h = if y ≤ x then pX 403 24 L S h else pX 403 20 L S h := pX_icmp_ge d403_17 (by decide)
theorem x403_20 {L S : List Value} {h : HP} : pX 403 20 L S h = pX 403 21 L (.int 1 :: S) h := pX_iconst d403_20 (by decide)
theorem x403_21 {L S : List Value} {h : HP} : pX 403 21 L S h = pX 403 25 L S h := pX_goto d403_21 (by decide)
theorem x403_24 {L S : List Value} {h : HP} : pX 403 24 L S h = pX 403 25 L (.int 0 :: S) h := pX_iconst d403_24 (by decide)
theorem x403_25 {L : List Value} {h : HP} {x : Int32} (hx : x = 0 ∨ x = 1) : pX 403 25 L [.int x] h = some (some (.int x), h) := pX_ret d403_25 (by rcases hx with rfl | rfl <;> rfl)
theorem d404_0 : decode (mb 404) 0 = .ok (.iconst 0, 1) := by decide +kernel
theorem d404_1 : decode (mb 404) 1 = .ok (.istore_n 3, 1) := by decide +kernel
theorem d404_2 : decode (mb 404) 2 = .ok (.iload_n 3, 1) := by decide +kernel
theorem d404_3 : decode (mb 404) 3 = .ok (.aload_n 0, 1) := by decide +kernel
theorem d404_4 : decode (mb 404) 4 = .ok (.getfield 40, 3) := by decide +kernel
theorem d404_7 : decode (mb 404) 7 = .ok (.if_icmp .ge 39, 3) := by decide +kernel
theorem d404_10 : decode (mb 404) 10 = .ok (.aload_n 0, 1) := by decide +kernel
theorem d404_11 : decode (mb 404) 11 = .ok (.iload_n 3, 1) := by decide +kernel
theorem d404_12 : decode (mb 404) 12 = .ok (.iload_n 1, 1) := by decide +kernel
theorem d404_13 : decode (mb 404) 13 = .ok (.invokevirtual 43, 3) := by decide +kernel
theorem d404_16 : decode (mb 404) 16 = .ok (.ifCond .eq 24, 3) := by decide +kernel
theorem d404_19 : decode (mb 404) 19 = .ok (.aload_n 0, 1) := by decide +kernel
theorem d404_20 : decode (mb 404) 20 = .ok (.getfield 30, 3) := by decide +kernel
theorem d404_23 : decode (mb 404) 23 = .ok (.iload_n 3, 1) := by decide +kernel
theorem d404_24 : decode (mb 404) 24 = .ok (.iaload, 1) := by decide +kernel
theorem d404_25 : decode (mb 404) 25 = .ok (.ifCond .eq 13, 3) := by decide +kernel
theorem d404_28 : decode (mb 404) 28 = .ok (.aload_n 0, 1) := by decide +kernel
theorem d404_29 : decode (mb 404) 29 = .ok (.getfield 30, 3) := by decide +kernel
theorem d404_32 : decode (mb 404) 32 = .ok (.iload_n 3, 1) := by decide +kernel
theorem d404_33 : decode (mb 404) 33 = .ok (.iaload, 1) := by decide +kernel
theorem d404_34 : decode (mb 404) 34 = .ok (.iload_n 2, 1) := by decide +kernel
theorem d404_35 : decode (mb 404) 35 = .ok (.if_icmp .ne 5, 3) := by decide +kernel
theorem d404_38 : decode (mb 404) 38 = .ok (.iload_n 3, 1) := by decide +kernel
theorem d404_39 : decode (mb 404) 39 = .ok (.ireturn, 1) := by decide +kernel
theorem d404_40 : decode (mb 404) 40 = .ok (.iinc 3 1, 3) := by decide +kernel
theorem d404_43 : decode (mb 404) 43 = .ok (.goto (-41), 3) := by decide +kernel
theorem d404_46 : decode (mb 404) 46 = .ok (.bipush (-5), 2) := by decide +kernel
theorem d404_48 : decode (mb 404) 48 = .ok (.ireturn, 1) := by decide +kernel
theorem x404_0 {L S : List Value} {h : HP} : pX 404 0 L S h = pX 404 1 L (.int 0 :: S) h := pX_iconst d404_0 (by decide)
theorem x404_1 {S : List Value} {h : HP} {l0 l1 l2 l3 : Value} {x0 : Int32} : pX 404 1 [l0, l1, l2, l3] (.int x0 :: S) h = pX 404 2 [l0, l1, l2, .int x0] S h := pX_stp d404_1 rfl rfl rfl
theorem x404_2 {S : List Value} {h : HP} {l0 l1 l2 : Value} {x0 : Int32} : pX 404 2 [l0, l1, l2, .int x0] S h = pX 404 3 [l0, l1, l2, .int x0] (.int x0 :: S) h := pX_stp d404_2 rfl rfl rfl
theorem x404_3 {S : List Value} {h : HP} {l1 l2 l3 : Value} {a0 : Nat} : pX 404 3 [.ref a0, l1, l2, l3] S h = pX 404 4 [.ref a0, l1, l2, l3] (.ref a0 :: S) h := pX_stp d404_3 rfl rfl rfl
theorem x404_4 {L S : List Value} {h : HP} {a : Nat} (hk : hp_k h a = 5) : pX 404 4 L (.ref a :: S) h = pX 404 7 L (.int (hp_i h a 7) :: S) h := pX_get d404_4 rfl rfl hk
theorem x404_7 {L S : List Value} {h : HP} {x y : Int32} : pX 404 7 L (.int y :: .int x :: S) h = if y ≤ x then pX 404 46 L S h else pX 404 10 L S h := pX_icmp_ge d404_7 (by decide)
theorem x404_10 {S : List Value} {h : HP} {l1 l2 l3 : Value} {a0 : Nat} : pX 404 10 [.ref a0, l1, l2, l3] S h = pX 404 11 [.ref a0, l1, l2, l3] (.ref a0 :: S) h := pX_stp d404_10 rfl rfl rfl
theorem x404_11 {S : List Value} {h : HP} {l0 l1 l2 : Value} {x0 : Int32} : pX 404 11 [l0, l1, l2, .int x0] S h = pX 404 12 [l0, l1, l2, .int x0] (.int x0 :: S) h := pX_stp d404_11 rfl rfl rfl
theorem x404_12 {S : List Value} {h : HP} {l0 l2 l3 : Value} {x0 : Int32} : pX 404 12 [l0, .int x0, l2, l3] S h = pX 404 13 [l0, .int x0, l2, l3] (.int x0 :: S) h := pX_stp d404_12 rfl rfl rfl
theorem x404_13 {L : List Value} {h : HP} {x0 : Int32} {x1 : Int32} {a0 : Nat} (hk : hp_k h a0 = 5) : pX 404 13 L [.int x0, .int x1, .ref a0] h = (pX 403 0 [.ref a0, .int x1, .int x0] [] h).bind (fun q => pX 404 16 L (q.1.toList ++ []) q.2) := pX_inv (a := a0) (t := 5) 403 [.ref a0, .int x1, .int x0] [] d404_13 rfl rfl rfl hk
theorem x404_16 {L S : List Value} {h : HP} {x : Int32} : pX 404 16 L (.int x :: S) h = if x = 0 then pX 404 40 L S h else pX 404 19 L S h := pX_if_eq d404_16 (by decide)
theorem x404_19 {S : List Value} {h : HP} {l1 l2 l3 : Value} {a0 : Nat} : pX 404 19 [.ref a0, l1, l2, l3] S h = pX 404 20 [.ref a0, l1, l2, l3] (.ref a0 :: S) h := pX_stp d404_19 rfl rfl rfl
theorem x404_20 {L S : List Value} {h : HP} {a : Nat} (hk : hp_k h a = 5) : pX 404 20 L (.ref a :: S) h = pX 404 23 L (.ref (hp_a h a 10) :: S) h := pX_get d404_20 rfl rfl hk
theorem x404_23 {S : List Value} {h : HP} {l0 l1 l2 : Value} {x0 : Int32} : pX 404 23 [l0, l1, l2, .int x0] S h = pX 404 24 [l0, l1, l2, .int x0] (.int x0 :: S) h := pX_stp d404_23 rfl rfl rfl
theorem x404_24 {L S : List Value} {h : HP} {a : Nat} {j : Int32} (hk : hp_k h a = 100) (hj : inb j (hp_l h a) = true) : pX 404 24 L (.int j :: .ref a :: S) h = pX 404 25 L (.int (hp_i h a (ix j)) :: S) h := pX_ild d404_24 hk hj
theorem x404_25 {L S : List Value} {h : HP} {x : Int32} : pX 404 25 L (.int x :: S) h = if x = 0 then pX 404 38 L S h else pX 404 28 L S h := pX_if_eq d404_25 (by decide)
theorem x404_28 {S : List Value} {h : HP} {l1 l2 l3 : Value} {a0 : Nat} : pX 404 28 [.ref a0, l1, l2, l3] S h = pX 404 29 [.ref a0, l1, l2, l3] (.ref a0 :: S) h := pX_stp d404_28 rfl rfl rfl
theorem x404_29 {L S : List Value} {h : HP} {a : Nat} (hk : hp_k h a = 5) : pX 404 29 L (.ref a :: S) h = pX 404 32 L (.ref (hp_a h a 10) :: S) h := pX_get d404_29 rfl rfl hk
theorem x404_32 {S : List Value} {h : HP} {l0 l1 l2 : Value} {x0 : Int32} : pX 404 32 [l0, l1, l2, .int x0] S h = pX 404 33 [l0, l1, l2, .int x0] (.int x0 :: S) h := pX_stp d404_32 rfl rfl rfl
theorem x404_33 {L S : List Value} {h : HP} {a : Nat} {j : Int32} (hk : hp_k h a = 100) (hj : inb j (hp_l h a) = true) : pX 404 33 L (.int j :: .ref a :: S) h = pX 404 34 L (.int (hp_i h a (ix j)) :: S) h := pX_ild d404_33 hk hj
theorem x404_34 {S : List Value} {h : HP} {l0 l1 l3 : Value} {x0 : Int32} : pX 404 34 [l0, l1, .int x0, l3] S h = pX 404 35 [l0, l1, .int x0, l3] (.int x0 :: S) h := pX_stp d404_34 rfl rfl rfl
theorem x404_35 {L S : List Value} {h : HP} {x y : Int32} : pX 404 35 L (.int y :: .int x :: S) h = if x = y then pX 404 38 L S h else pX 404 40 L S h := pX_icmp_ne d404_35 (by decide)
theorem x404_38 {S : List Value} {h : HP} {l0 l1 l2 : Value} {x0 : Int32} : pX 404 38 [l0, l1, l2, .int x0] S h = pX 404 39 [l0, l1, l2, .int x0] (.int x0 :: S) h := pX_stp d404_38 rfl rfl rfl
theorem x404_39 {L : List Value} {h : HP} {x : Int32} : pX 404 39 L [.int x] h = some (some (.int x), h) := pX_ret d404_39 rfl
theorem x404_40 {S : List Value} {h : HP} {x0 : Int32} {l0 l1 l2 : Value} : pX 404 40 [l0, l1, l2, .int x0] S h = pX 404 43 [l0, l1, l2, .int (x0 + 1)] S h := pX_iinc (x := x0) d404_40 (by decide) rfl (Nat.le_of_ble_eq_true rfl) rfl rfl
theorem x404_43 {L S : List Value} {h : HP} : pX 404 43 L S h = pX 404 2 L S h := pX_goto d404_43 (by decide)
theorem x404_46 {L S : List Value} {h : HP} : pX 404 46 L S h = pX 404 48 L (.int (-5) :: S) h := pX_bipush d404_46 (by decide)
theorem x404_48 {L : List Value} {h : HP} {x : Int32} : pX 404 48 L [.int x] h = some (some (.int x), h) := pX_ret d404_48 rfl
theorem d500_0 : decode (mb 500) 0 = .ok (.aload_n 0, 1) := by decide +kernel
theorem d500_1 : decode (mb 500) 1 = .ok (.invokespecial 1, 3) := by decide +kernel
theorem d500_4 : decode (mb 500) 4 = .ok (.return_, 1) := by decide +kernel
theorem x500_0 {S : List Value} {h : HP}  {a0 : Nat} : pX 500 0 [.ref a0] S h = pX 500 1 [.ref a0] (.ref a0 :: S) h := pX_stp d500_0 rfl rfl rfl
theorem x500_1 {L : List Value} {h : HP} {a0 : Nat} (ha : ¬ a0 = 0) : pX 500 1 L [.ref a0] h = pX 500 4 L [] h := pX_oinit d500_1 rfl (Nat.le_of_ble_eq_true rfl) ha
theorem x500_4 {L : List Value} {h : HP} : pX 500 4 L [] h = some (none, h) := pX_ret d500_4 rfl
theorem d501_0 : decode (mb 501) 0 = .ok (.aload_n 2, 1) := by decide +kernel
theorem d501_1 : decode (mb 501) 1 = .ok (.getfield 7, 3) := by decide +kernel
theorem d501_4 : decode (mb 501) 4 = .ok (.astore_n 3, 1) := by decide +kernel
theorem d501_5 : decode (mb 501) 5 = .ok (.aload_n 3, 1) := by decide +kernel
theorem d501_6 : decode (mb 501) 6 = .ok (.ifnull 11, 3) := by decide +kernel
theorem d501_9 : decode (mb 501) 9 = .ok (.aload_n 3, 1) := by decide +kernel
theorem d501_10 : decode (mb 501) 10 = .ok (.getfield 13, 3) := by decide +kernel
theorem d501_13 : decode (mb 501) 13 = .ok (.aload_n 1, 1) := by decide +kernel
theorem d501_14 : decode (mb 501) 14 = .ok (.if_acmp .eq 10, 3) := by decide +kernel
theorem d501_17 : decode (mb 501) 17 = .ok (.aload_n 0, 1) := by decide +kernel
theorem d501_18 : decode (mb 501) 18 = .ok (.aload_n 1, 1) := by decide +kernel
theorem d501_19 : decode (mb 501) 19 = .ok (.aload_n 2, 1) := by decide +kernel
theorem d501_20 : decode (mb 501) 20 = .ok (.invokevirtual 19, 3) := by decide +kernel
theorem d501_23 : decode (mb 501) 23 = .ok (.astore_n 3, 1) := by decide +kernel
theorem d501_24 : decode (mb 501) 24 = .ok (.aload_n 3, 1) := by decide +kernel
theorem d501_25 : decode (mb 501) 25 = .ok (.dup, 1) := by decide +kernel
theorem d501_26 : decode (mb 501) 26 = .ok (.getfield 25, 3) := by decide +kernel
theorem d501_29 : decode (mb 501) 29 = .ok (.iconst 1, 1) := by decide +kernel
theorem d501_30 : decode (mb 501) 30 = .ok (.iadd, 1) := by decide +kernel
theorem d501_31 : decode (mb 501) 31 = .ok (.putfield 25, 3) := by decide +kernel
theorem d501_34 : decode (mb 501) 34 = .ok (.aload_n 1, 1) := by decide +kernel
theorem d501_35 : decode (mb 501) 35 = .ok (.dup, 1) := by decide +kernel
theorem d501_36 : decode (mb 501) 36 = .ok (.getfield 29, 3) := by decide +kernel
theorem d501_39 : decode (mb 501) 39 = .ok (.iconst 1, 1) := by decide +kernel
theorem d501_40 : decode (mb 501) 40 = .ok (.iadd, 1) := by decide +kernel
theorem d501_41 : decode (mb 501) 41 = .ok (.putfield 29, 3) := by decide +kernel
theorem d501_44 : decode (mb 501) 44 = .ok (.return_, 1) := by decide +kernel
theorem x501_0 {S : List Value} {h : HP} {l0 l1 l3 : Value} {a0 : Nat} : pX 501 0 [l0, l1, .ref a0, l3] S h = pX 501 1 [l0, l1, .ref a0, l3] (.ref a0 :: S) h := pX_stp d501_0 rfl rfl rfl
theorem x501_1 {L S : List Value} {h : HP} {a : Nat} (hk : hp_k h a = 1) : pX 501 1 L (.ref a :: S) h = pX 501 4 L (.ref (hp_a h a 3) :: S) h := pX_get d501_1 rfl rfl hk
theorem x501_4 {S : List Value} {h : HP} {l0 l1 l2 l3 : Value} {a0 : Nat} : pX 501 4 [l0, l1, l2, l3] (.ref a0 :: S) h = pX 501 5 [l0, l1, l2, .ref a0] S h := pX_stp d501_4 rfl rfl rfl
theorem x501_5 {S : List Value} {h : HP} {l0 l1 l2 : Value} {a0 : Nat} : pX 501 5 [l0, l1, l2, .ref a0] S h = pX 501 6 [l0, l1, l2, .ref a0] (.ref a0 :: S) h := pX_stp d501_5 rfl rfl rfl
theorem x501_6 {L S : List Value} {h : HP} {a : Nat} : pX 501 6 L (.ref a :: S) h = if a = 0 then pX 501 17 L S h else pX 501 9 L S h := pX_ifnull d501_6 (by decide)
theorem x501_9 {S : List Value} {h : HP} {l0 l1 l2 : Value} {a0 : Nat} : pX 501 9 [l0, l1, l2, .ref a0] S h = pX 501 10 [l0, l1, l2, .ref a0] (.ref a0 :: S) h := pX_stp d501_9 rfl rfl rfl
theorem x501_10 {L S : List Value} {h : HP} {a : Nat} (hk : hp_k h a = 3) : pX 501 10 L (.ref a :: S) h = pX 501 13 L (.ref (hp_a h a 1) :: S) h := pX_get d501_10 rfl rfl hk
theorem x501_13 {S : List Value} {h : HP} {l0 l2 l3 : Value} {a0 : Nat} : pX 501 13 [l0, .ref a0, l2, l3] S h = pX 501 14 [l0, .ref a0, l2, l3] (.ref a0 :: S) h := pX_stp d501_13 rfl rfl rfl
theorem x501_14 {L S : List Value} {h : HP} {a b : Nat} (ha : okr a = true) (hb : okr b = true) : pX 501 14 L (.ref b :: .ref a :: S) h = if a = b then pX 501 24 L S h else pX 501 17 L S h := pX_acmp_eq d501_14 (by decide) ha hb
theorem x501_17 {S : List Value} {h : HP} {l1 l2 l3 : Value} {a0 : Nat} : pX 501 17 [.ref a0, l1, l2, l3] S h = pX 501 18 [.ref a0, l1, l2, l3] (.ref a0 :: S) h := pX_stp d501_17 rfl rfl rfl
theorem x501_18 {S : List Value} {h : HP} {l0 l2 l3 : Value} {a0 : Nat} : pX 501 18 [l0, .ref a0, l2, l3] S h = pX 501 19 [l0, .ref a0, l2, l3] (.ref a0 :: S) h := pX_stp d501_18 rfl rfl rfl
theorem x501_19 {S : List Value} {h : HP} {l0 l1 l3 : Value} {a0 : Nat} : pX 501 19 [l0, l1, .ref a0, l3] S h = pX 501 20 [l0, l1, .ref a0, l3] (.ref a0 :: S) h := pX_stp d501_19 rfl rfl rfl
theorem x501_20 {L : List Value} {h : HP} {a0 : Nat} {a1 : Nat} {a2 : Nat} (hk : hp_k h a2 = 6) : pX 501 20 L [.ref a0, .ref a1, .ref a2] h = (pX 503 0 [.ref a2, .ref a1, .ref a0, .retAddr 0] [] h).bind (fun q => pX 501 23 L (q.1.toList ++ []) q.2) := pX_inv (a := a2) (t := 6) 503 [.ref a2, .ref a1, .ref a0] [] d501_20 rfl rfl rfl hk
theorem x501_23 {S : List Value} {h : HP} {l0 l1 l2 l3 : Value} {a0 : Nat} : pX 501 23 [l0, l1, l2, l3] (.ref a0 :: S) h = pX 501 24 [l0, l1, l2, .ref a0] S h := pX_stp d501_23 rfl rfl rfl
theorem x501_24 {S : List Value} {h : HP} {l0 l1 l2 : Value} {a0 : Nat} : pX 501 24 [l0, l1, l2, .ref a0] S h = pX 501 25 [l0, l1, l2, .ref a0] (.ref a0 :: S) h := pX_stp d501_24 rfl rfl rfl
theorem x501_25 {L S : List Value} {h : HP} {a0 : Nat} : pX 501 25 L (.ref a0 :: S) h = pX 501 26 L (.ref a0 :: .ref a0 :: S) h := pX_stp d501_25 rfl rfl rfl
theorem x501_26 {L S : List Value} {h : HP} {a : Nat} (hk : hp_k h a = 3) : pX 501 26 L (.ref a :: S) h = pX 501 29 L (.int (hp_i h a 2) :: S) h := pX_get d501_26 rfl rfl hk
theorem x501_29 {L S : List Value} {h : HP} : pX 501 29 L S h = pX 501 30 L (.int 1 :: S) h := pX_iconst d501_29 (by decide)
theorem x501_30 {L S : List Value} {h : HP} {x y : Int32} : pX 501 30 L (.int y :: .int x :: S) h = pX 501 31 L (.int (x + y) :: S) h := pX_stp d501_30 rfl rfl rfl
theorem x501_31 {L S : List Value} {h : HP} {a : Nat} {x : Int32} (hk : hp_k h a = 3) : pX 501 31 L (.int x :: .ref a :: S) h = pX 501 34 L S (hp_wi h a 2 x) := pX_put d501_31 rfl rfl rfl hk
theorem x501_34 {S : List Value} {h : HP} {l0 l2 l3 : Value} {a0 : Nat} : pX 501 34 [l0, .ref a0, l2, l3] S h = pX 501 35 [l0, .ref a0, l2, l3] (.ref a0 :: S) h := pX_stp d501_34 rfl rfl rfl
theorem x501_35 {L S : List Value} {h : HP} {a0 : Nat} : pX 501 35 L (.ref a0 :: S) h = pX 501 36 L (.ref a0 :: .ref a0 :: S) h := pX_stp d501_35 rfl rfl rfl
theorem x501_36 {L S : List Value} {h : HP} {a : Nat} (hk : hp_k h a = 2) : pX 501 36 L (.ref a :: S) h = pX 501 39 L (.int (hp_i h a 6) :: S) h := pX_get d501_36 rfl rfl hk
theorem x501_39 {L S : List Value} {h : HP} : pX 501 39 L S h = pX 501 40 L (.int 1 :: S) h := pX_iconst d501_39 (by decide)
theorem x501_40 {L S : List Value} {h : HP} {x y : Int32} : pX 501 40 L (.int y :: .int x :: S) h = pX 501 41 L (.int (x + y) :: S) h := pX_stp d501_40 rfl rfl rfl
theorem x501_41 {L S : List Value} {h : HP} {a : Nat} {x : Int32} (hk : hp_k h a = 2) : pX 501 41 L (.int x :: .ref a :: S) h = pX 501 44 L S (hp_wi h a 6 x) := pX_put d501_41 rfl rfl rfl hk
theorem x501_44 {L : List Value} {h : HP} : pX 501 44 L [] h = some (none, h) := pX_ret d501_44 rfl
theorem d502_0 : decode (mb 502) 0 = .ok (.aload_n 2, 1) := by decide +kernel
theorem d502_1 : decode (mb 502) 1 = .ok (.getfield 7, 3) := by decide +kernel
theorem d502_4 : decode (mb 502) 4 = .ok (.astore_n 3, 1) := by decide +kernel
theorem d502_5 : decode (mb 502) 5 = .ok (.aload_n 3, 1) := by decide +kernel
theorem d502_6 : decode (mb 502) 6 = .ok (.ifnull 18, 3) := by decide +kernel
theorem d502_9 : decode (mb 502) 9 = .ok (.aload_n 3, 1) := by decide +kernel
theorem d502_10 : decode (mb 502) 10 = .ok (.getfield 13, 3) := by decide +kernel
theorem d502_13 : decode (mb 502) 13 = .ok (.aload_n 1, 1) := by decide +kernel
theorem d502_14 : decode (mb 502) 14 = .ok (.if_acmp .ne 10, 3) := by decide +kernel
theorem d502_17 : decode (mb 502) 17 = .ok (.aload_n 3, 1) := by decide +kernel
theorem d502_18 : decode (mb 502) 18 = .ok (.getfield 25, 3) := by decide +kernel
theorem d502_21 : decode (mb 502) 21 = .ok (.ifCond .ne 5, 3) := by decide +kernel
theorem d502_24 : decode (mb 502) 24 = .ok (.iconst 0, 1) := by decide +kernel
theorem d502_25 : decode (mb 502) 25 = .ok (.ireturn, 1) := by decide +kernel
theorem d502_26 : decode (mb 502) 26 = .ok (.aload_n 3, 1) := by decide +kernel
theorem d502_27 : decode (mb 502) 27 = .ok (.dup, 1) := by decide +kernel
theorem d502_28 : decode (mb 502) 28 = .ok (.getfield 25, 3) := by decide +kernel
theorem d502_31 : decode (mb 502) 31 = .ok (.iconst 1, 1) := by decide +kernel
theorem d502_32 : decode (mb 502) 32 = .ok (.isub, 1) := by decide +kernel
theorem d502_33 : decode (mb 502) 33 = .ok (.putfield 25, 3) := by decide +kernel
theorem d502_36 : decode (mb 502) 36 = .ok (.aload_n 1, 1) := by decide +kernel
theorem d502_37 : decode (mb 502) 37 = .ok (.dup, 1) := by decide +kernel
theorem d502_38 : decode (mb 502) 38 = .ok (.getfield 29, 3) := by decide +kernel
theorem d502_41 : decode (mb 502) 41 = .ok (.iconst 1, 1) := by decide +kernel
theorem d502_42 : decode (mb 502) 42 = .ok (.isub, 1) := by decide +kernel
theorem d502_43 : decode (mb 502) 43 = .ok (.putfield 29, 3) := by decide +kernel
theorem d502_46 : decode (mb 502) 46 = .ok (.iconst 1, 1) := by decide +kernel
theorem d502_47 : decode (mb 502) 47 = .ok (.ireturn, 1) := by decide +kernel
theorem x502_0 {S : List Value} {h : HP} {l0 l1 l3 : Value} {a0 : Nat} : pX 502 0 [l0, l1, .ref a0, l3] S h = pX 502 1 [l0, l1, .ref a0, l3] (.ref a0 :: S) h := pX_stp d502_0 rfl rfl rfl
theorem x502_1 {L S : List Value} {h : HP} {a : Nat} (hk : hp_k h a = 1) : pX 502 1 L (.ref a :: S) h = pX 502 4 L (.ref (hp_a h a 3) :: S) h := pX_get d502_1 rfl rfl hk
theorem x502_4 {S : List Value} {h : HP} {l0 l1 l2 l3 : Value} {a0 : Nat} : pX 502 4 [l0, l1, l2, l3] (.ref a0 :: S) h = pX 502 5 [l0, l1, l2, .ref a0] S h := pX_stp d502_4 rfl rfl rfl
theorem x502_5 {S : List Value} {h : HP} {l0 l1 l2 : Value} {a0 : Nat} : pX 502 5 [l0, l1, l2, .ref a0] S h = pX 502 6 [l0, l1, l2, .ref a0] (.ref a0 :: S) h := pX_stp d502_5 rfl rfl rfl
theorem x502_6 {L S : List Value} {h : HP} {a : Nat} : pX 502 6 L (.ref a :: S) h = if a = 0 then pX 502 24 L S h else pX 502 9 L S h := pX_ifnull d502_6 (by decide)
theorem x502_9 {S : List Value} {h : HP} {l0 l1 l2 : Value} {a0 : Nat} : pX 502 9 [l0, l1, l2, .ref a0] S h = pX 502 10 [l0, l1, l2, .ref a0] (.ref a0 :: S) h := pX_stp d502_9 rfl rfl rfl
theorem x502_10 {L S : List Value} {h : HP} {a : Nat} (hk : hp_k h a = 3) : pX 502 10 L (.ref a :: S) h = pX 502 13 L (.ref (hp_a h a 1) :: S) h := pX_get d502_10 rfl rfl hk
theorem x502_13 {S : List Value} {h : HP} {l0 l2 l3 : Value} {a0 : Nat} : pX 502 13 [l0, .ref a0, l2, l3] S h = pX 502 14 [l0, .ref a0, l2, l3] (.ref a0 :: S) h := pX_stp d502_13 rfl rfl rfl
theorem x502_14 {L S : List Value} {h : HP} {a b : Nat} (ha : okr a = true) (hb : okr b = true) : pX 502 14 L (.ref b :: .ref a :: S) h = if a = b then pX 502 17 L S h else pX 502 24 L S h := pX_acmp_ne d502_14 (by decide) ha hb
theorem x502_17 {S : List Value} {h : HP} {l0 l1 l2 : Value} {a0 : Nat} : pX 502 17 [l0, l1, l2, .ref a0] S h = pX 502 18 [l0, l1, l2, .ref a0] (.ref a0 :: S) h := pX_stp d502_17 rfl rfl rfl
theorem x502_18 {L S : List Value} {h : HP} {a : Nat} (hk : hp_k h a = 3) : pX 502 18 L (.ref a :: S) h = pX 502 21 L (.int (hp_i h a 2) :: S) h := pX_get d502_18 rfl rfl hk
theorem x502_21 {L S : List Value} {h : HP} {x : Int32} : pX 502 21 L (.int x :: S) h = if x = 0 then pX 502 24 L S h else pX 502 26 L S h := pX_if_ne d502_21 (by decide)
theorem x502_24 {L S : List Value} {h : HP} : pX 502 24 L S h = pX 502 25 L (.int 0 :: S) h := pX_iconst d502_24 (by decide)
theorem x502_25 {L : List Value} {h : HP} {x : Int32} (hx : x = 0 ∨ x = 1) : pX 502 25 L [.int x] h = some (some (.int x), h) := pX_ret d502_25 (by rcases hx with rfl | rfl <;> rfl)
theorem x502_26 {S : List Value} {h : HP} {l0 l1 l2 : Value} {a0 : Nat} : pX 502 26 [l0, l1, l2, .ref a0] S h = pX 502 27 [l0, l1, l2, .ref a0] (.ref a0 :: S) h := pX_stp d502_26 rfl rfl rfl
theorem x502_27 {L S : List Value} {h : HP} {a0 : Nat} : pX 502 27 L (.ref a0 :: S) h = pX 502 28 L (.ref a0 :: .ref a0 :: S) h := pX_stp d502_27 rfl rfl rfl
theorem x502_28 {L S : List Value} {h : HP} {a : Nat} (hk : hp_k h a = 3) : pX 502 28 L (.ref a :: S) h = pX 502 31 L (.int (hp_i h a 2) :: S) h := pX_get d502_28 rfl rfl hk
theorem x502_31 {L S : List Value} {h : HP} : pX 502 31 L S h = pX 502 32 L (.int 1 :: S) h := pX_iconst d502_31 (by decide)
theorem x502_32 {L S : List Value} {h : HP} {x y : Int32} : pX 502 32 L (.int y :: .int x :: S) h = pX 502 33 L (.int (x - y) :: S) h := pX_stp d502_32 rfl rfl rfl
theorem x502_33 {L S : List Value} {h : HP} {a : Nat} {x : Int32} (hk : hp_k h a = 3) : pX 502 33 L (.int x :: .ref a :: S) h = pX 502 36 L S (hp_wi h a 2 x) := pX_put d502_33 rfl rfl rfl hk
theorem x502_36 {S : List Value} {h : HP} {l0 l2 l3 : Value} {a0 : Nat} : pX 502 36 [l0, .ref a0, l2, l3] S h = pX 502 37 [l0, .ref a0, l2, l3] (.ref a0 :: S) h := pX_stp d502_36 rfl rfl rfl
theorem x502_37 {L S : List Value} {h : HP} {a0 : Nat} : pX 502 37 L (.ref a0 :: S) h = pX 502 38 L (.ref a0 :: .ref a0 :: S) h := pX_stp d502_37 rfl rfl rfl
theorem x502_38 {L S : List Value} {h : HP} {a : Nat} (hk : hp_k h a = 2) : pX 502 38 L (.ref a :: S) h = pX 502 41 L (.int (hp_i h a 6) :: S) h := pX_get d502_38 rfl rfl hk
theorem x502_41 {L S : List Value} {h : HP} : pX 502 41 L S h = pX 502 42 L (.int 1 :: S) h := pX_iconst d502_41 (by decide)
theorem x502_42 {L S : List Value} {h : HP} {x y : Int32} : pX 502 42 L (.int y :: .int x :: S) h = pX 502 43 L (.int (x - y) :: S) h := pX_stp d502_42 rfl rfl rfl
theorem x502_43 {L S : List Value} {h : HP} {a : Nat} {x : Int32} (hk : hp_k h a = 2) : pX 502 43 L (.int x :: .ref a :: S) h = pX 502 46 L S (hp_wi h a 6 x) := pX_put d502_43 rfl rfl rfl hk
theorem x502_46 {L S : List Value} {h : HP} : pX 502 46 L S h = pX 502 47 L (.int 1 :: S) h := pX_iconst d502_46 (by decide)
theorem x502_47 {L : List Value} {h : HP} {x : Int32} (hx : x = 0 ∨ x = 1) : pX 502 47 L [.int x] h = some (some (.int x), h) := pX_ret d502_47 (by rcases hx with rfl | rfl <;> rfl)
theorem d503_0 : decode (mb 503) 0 = .ok (.aload_n 0, 1) := by decide +kernel
theorem d503_1 : decode (mb 503) 1 = .ok (.getfield 34, 3) := by decide +kernel
theorem d503_4 : decode (mb 503) 4 = .ok (.astore_n 3, 1) := by decide +kernel
theorem d503_5 : decode (mb 503) 5 = .ok (.aload_n 3, 1) := by decide +kernel
theorem d503_6 : decode (mb 503) 6 = .ok (.ifnonnull 14, 3) := by decide +kernel
theorem d503_9 : decode (mb 503) 9 = .ok (.new 14, 3) := by decide +kernel
theorem d503_12 : decode (mb 503) 12 = .ok (.dup, 1) := by decide +kernel
theorem d503_13 : decode (mb 503) 13 = .ok (.invokespecial 37, 3) := by decide +kernel
theorem d503_16 : decode (mb 503) 16 = .ok (.astore_n 3, 1) := by decide +kernel
theorem d503_17 : decode (mb 503) 17 = .ok (.goto 11, 3) := by decide +kernel
theorem d503_20 : decode (mb 503) 20 = .ok (.aload_n 0, 1) := by decide +kernel
theorem d503_21 : decode (mb 503) 21 = .ok (.aload_n 3, 1) := by decide +kernel
theorem d503_22 : decode (mb 503) 22 = .ok (.getfield 38, 3) := by decide +kernel
theorem d503_25 : decode (mb 503) 25 = .ok (.putfield 34, 3) := by decide +kernel
theorem d503_28 : decode (mb 503) 28 = .ok (.aload_n 3, 1) := by decide +kernel
theorem d503_29 : decode (mb 503) 29 = .ok (.aload_n 2, 1) := by decide +kernel
theorem d503_30 : decode (mb 503) 30 = .ok (.putfield 41, 3) := by decide +kernel
theorem d503_33 : decode (mb 503) 33 = .ok (.aload_n 3, 1) := by decide +kernel
theorem d503_34 : decode (mb 503) 34 = .ok (.aload_n 1, 1) := by decide +kernel
theorem d503_35 : decode (mb 503) 35 = .ok (.putfield 13, 3) := by decide +kernel
theorem d503_38 : decode (mb 503) 38 = .ok (.aload_n 3, 1) := by decide +kernel
theorem d503_39 : decode (mb 503) 39 = .ok (.iconst 0, 1) := by decide +kernel
theorem d503_40 : decode (mb 503) 40 = .ok (.putfield 25, 3) := by decide +kernel
theorem d503_43 : decode (mb 503) 43 = .ok (.aload_n 3, 1) := by decide +kernel
theorem d503_44 : decode (mb 503) 44 = .ok (.aload_n 2, 1) := by decide +kernel
theorem d503_45 : decode (mb 503) 45 = .ok (.getfield 7, 3) := by decide +kernel
theorem d503_48 : decode (mb 503) 48 = .ok (.putfield 45, 3) := by decide +kernel
theorem d503_51 : decode (mb 503) 51 = .ok (.aload_n 2, 1) := by decide +kernel
theorem d503_52 : decode (mb 503) 52 = .ok (.aload_n 3, 1) := by decide +kernel
theorem d503_53 : decode (mb 503) 53 = .ok (.putfield 7, 3) := by decide +kernel
theorem d503_56 : decode (mb 503) 56 = .ok (.aload_n 3, 1) := by decide +kernel
theorem d503_57 : decode (mb 503) 57 = .ok (.aload_n 1, 1) := by decide +kernel
theorem d503_58 : decode (mb 503) 58 = .ok (.getfield 48, 3) := by decide +kernel
theorem d503_61 : decode (mb 503) 61 = .ok (.putfield 38, 3) := by decide +kernel
theorem d503_64 : decode (mb 503) 64 = .ok (.aload_n 1, 1) := by decide +kernel
theorem d503_65 : decode (mb 503) 65 = .ok (.aload_n 3, 1) := by decide +kernel
theorem d503_66 : decode (mb 503) 66 = .ok (.putfield 48, 3) := by decide +kernel
theorem d503_69 : decode (mb 503) 69 = .ok (.aload_n 3, 1) := by decide +kernel
theorem d503_70 : decode (mb 503) 70 = .ok (.areturn, 1) := by decide +kernel
theorem x503_0 {S : List Value} {h : HP} {l1 l2 l3 : Value} {a0 : Nat} : pX 503 0 [.ref a0, l1, l2, l3] S h = pX 503 1 [.ref a0, l1, l2, l3] (.ref a0 :: S) h := pX_stp d503_0 rfl rfl rfl
theorem x503_1 {L S : List Value} {h : HP} {a : Nat} (hk : hp_k h a = 6) : pX 503 1 L (.ref a :: S) h = pX 503 4 L (.ref (hp_a h a 0) :: S) h := pX_get d503_1 rfl rfl hk
theorem x503_4 {S : List Value} {h : HP} {l0 l1 l2 l3 : Value} {a0 : Nat} : pX 503 4 [l0, l1, l2, l3] (.ref a0 :: S) h = pX 503 5 [l0, l1, l2, .ref a0] S h := pX_stp d503_4 rfl rfl rfl
theorem x503_5 {S : List Value} {h : HP} {l0 l1 l2 : Value} {a0 : Nat} : pX 503 5 [l0, l1, l2, .ref a0] S h = pX 503 6 [l0, l1, l2, .ref a0] (.ref a0 :: S) h := pX_stp d503_5 rfl rfl rfl
theorem x503_6 {L S : List Value} {h : HP} {a : Nat} : pX 503 6 L (.ref a :: S) h = if a = 0 then pX 503 9 L S h else pX 503 20 L S h := pX_ifnonnull d503_6 (by decide)
theorem x503_9 {L S : List Value} {h : HP} : pX 503 9 L S h = pX 503 12 L (.ref (hp_n h) :: S) (hp_mk h 3 0 5) := pX_new d503_9 rfl
theorem x503_12 {L S : List Value} {h : HP} {a0 : Nat} : pX 503 12 L (.ref a0 :: S) h = pX 503 13 L (.ref a0 :: .ref a0 :: S) h := pX_stp d503_12 rfl rfl rfl
theorem x503_13 {L : List Value} {h : HP} {a0 : Nat} {a1 : Nat} (hk : hp_k h a0 = 3) : pX 503 13 L [.ref a0, .ref a1] h = (pX 200 0 [.ref a0] [] h).bind (fun q => pX 503 16 L (q.1.toList ++ [.ref a1]) q.2) := pX_inv (a := a0) (t := 3) 200 [.ref a0] [.ref a1] d503_13 rfl rfl rfl hk
theorem x503_16 {S : List Value} {h : HP} {l0 l1 l2 l3 : Value} {a0 : Nat} : pX 503 16 [l0, l1, l2, l3] (.ref a0 :: S) h = pX 503 17 [l0, l1, l2, .ref a0] S h := pX_stp d503_16 rfl rfl rfl
theorem x503_17 {L S : List Value} {h : HP} : pX 503 17 L S h = pX 503 28 L S h := pX_goto d503_17 (by decide)
theorem x503_20 {S : List Value} {h : HP} {l1 l2 l3 : Value} {a0 : Nat} : pX 503 20 [.ref a0, l1, l2, l3] S h = pX 503 21 [.ref a0, l1, l2, l3] (.ref a0 :: S) h := pX_stp d503_20 rfl rfl rfl
theorem x503_21 {S : List Value} {h : HP} {l0 l1 l2 : Value} {a0 : Nat} : pX 503 21 [l0, l1, l2, .ref a0] S h = pX 503 22 [l0, l1, l2, .ref a0] (.ref a0 :: S) h := pX_stp d503_21 rfl rfl rfl
theorem x503_22 {L S : List Value} {h : HP} {a : Nat} (hk : hp_k h a = 3) : pX 503 22 L (.ref a :: S) h = pX 503 25 L (.ref (hp_a h a 4) :: S) h := pX_get d503_22 rfl rfl hk
theorem x503_25 {L S : List Value} {h : HP} {a b : Nat} (hk : hp_k h a = 6) : pX 503 25 L (.ref b :: .ref a :: S) h = pX 503 28 L S (hp_wa h a 0 b) := pX_put d503_25 rfl rfl rfl hk
theorem x503_28 {S : List Value} {h : HP} {l0 l1 l2 : Value} {a0 : Nat} : pX 503 28 [l0, l1, l2, .ref a0] S h = pX 503 29 [l0, l1, l2, .ref a0] (.ref a0 :: S) h := pX_stp d503_28 rfl rfl rfl
theorem x503_29 {S : List Value} {h : HP} {l0 l1 l3 : Value} {a0 : Nat} : pX 503 29 [l0, l1, .ref a0, l3] S h = pX 503 30 [l0, l1, .ref a0, l3] (.ref a0 :: S) h := pX_stp d503_29 rfl rfl rfl
theorem x503_30 {L S : List Value} {h : HP} {a b : Nat} (hk : hp_k h a = 3) : pX 503 30 L (.ref b :: .ref a :: S) h = pX 503 33 L S (hp_wa h a 0 b) := pX_put d503_30 rfl rfl rfl hk
theorem x503_33 {S : List Value} {h : HP} {l0 l1 l2 : Value} {a0 : Nat} : pX 503 33 [l0, l1, l2, .ref a0] S h = pX 503 34 [l0, l1, l2, .ref a0] (.ref a0 :: S) h := pX_stp d503_33 rfl rfl rfl
theorem x503_34 {S : List Value} {h : HP} {l0 l2 l3 : Value} {a0 : Nat} : pX 503 34 [l0, .ref a0, l2, l3] S h = pX 503 35 [l0, .ref a0, l2, l3] (.ref a0 :: S) h := pX_stp d503_34 rfl rfl rfl
theorem x503_35 {L S : List Value} {h : HP} {a b : Nat} (hk : hp_k h a = 3) : pX 503 35 L (.ref b :: .ref a :: S) h = pX 503 38 L S (hp_wa h a 1 b) := pX_put d503_35 rfl rfl rfl hk
theorem x503_38 {S : List Value} {h : HP} {l0 l1 l2 : Value} {a0 : Nat} : pX 503 38 [l0, l1, l2, .ref a0] S h = pX 503 39 [l0, l1, l2, .ref a0] (.ref a0 :: S) h := pX_stp d503_38 rfl rfl rfl
theorem x503_39 {L S : List Value} {h : HP} : pX 503 39 L S h = pX 503 40 L (.int 0 :: S) h := pX_iconst d503_39 (by decide)
theorem x503_40 {L S : List Value} {h : HP} {a : Nat} {x : Int32} (hk : hp_k h a = 3) : pX 503 40 L (.int x :: .ref a :: S) h = pX 503 43 L S (hp_wi h a 2 x) := pX_put d503_40 rfl rfl rfl hk
theorem x503_43 {S : List Value} {h : HP} {l0 l1 l2 : Value} {a0 : Nat} : pX 503 43 [l0, l1, l2, .ref a0] S h = pX 503 44 [l0, l1, l2, .ref a0] (.ref a0 :: S) h := pX_stp d503_43 rfl rfl rfl
theorem x503_44 {S : List Value} {h : HP} {l0 l1 l3 : Value} {a0 : Nat} : pX 503 44 [l0, l1, .ref a0, l3] S h = pX 503 45 [l0, l1, .ref a0, l3] (.ref a0 :: S) h := pX_stp d503_44 rfl rfl rfl
theorem x503_45 {L S : List Value} {h : HP} {a : Nat} (hk : hp_k h a = 1) : pX 503 45 L (.ref a :: S) h = pX 503 48 L (.ref (hp_a h a 3) :: S) h := pX_get d503_45 rfl rfl hk
theorem x503_48 {L S : List Value} {h : HP} {a b : Nat} (hk : hp_k h a = 3) : pX 503 48 L (.ref b :: .ref a :: S) h = pX 503 51 L S (hp_wa h a 3 b) := pX_put d503_48 rfl rfl rfl hk
theorem x503_51 {S : List Value} {h : HP} {l0 l1 l3 : Value} {a0 : Nat} : pX 503 51 [l0, l1, .ref a0, l3] S h = pX 503 52 [l0, l1, .ref a0, l3] (.ref a0 :: S) h := pX_stp d503_51 rfl rfl rfl
theorem x503_52 {S : List Value} {h : HP} {l0 l1 l2 : Value} {a0 : Nat} : pX 503 52 [l0, l1, l2, .ref a0] S h = pX 503 53 [l0, l1, l2, .ref a0] (.ref a0 :: S) h := pX_stp d503_52 rfl rfl rfl
theorem x503_53 {L S : List Value} {h : HP} {a b : Nat} (hk : hp_k h a = 1) : pX 503 53 L (.ref b :: .ref a :: S) h = pX 503 56 L S (hp_wa h a 3 b) := pX_put d503_53 rfl rfl rfl hk
theorem x503_56 {S : List Value} {h : HP} {l0 l1 l2 : Value} {a0 : Nat} : pX 503 56 [l0, l1, l2, .ref a0] S h = pX 503 57 [l0, l1, l2, .ref a0] (.ref a0 :: S) h := pX_stp d503_56 rfl rfl rfl
theorem x503_57 {S : List Value} {h : HP} {l0 l2 l3 : Value} {a0 : Nat} : pX 503 57 [l0, .ref a0, l2, l3] S h = pX 503 58 [l0, .ref a0, l2, l3] (.ref a0 :: S) h := pX_stp d503_57 rfl rfl rfl
theorem x503_58 {L S : List Value} {h : HP} {a : Nat} (hk : hp_k h a = 2) : pX 503 58 L (.ref a :: S) h = pX 503 61 L (.ref (hp_a h a 5) :: S) h := pX_get d503_58 rfl rfl hk
theorem x503_61 {L S : List Value} {h : HP} {a b : Nat} (hk : hp_k h a = 3) : pX 503 61 L (.ref b :: .ref a :: S) h = pX 503 64 L S (hp_wa h a 4 b) := pX_put d503_61 rfl rfl rfl hk
theorem x503_64 {S : List Value} {h : HP} {l0 l2 l3 : Value} {a0 : Nat} : pX 503 64 [l0, .ref a0, l2, l3] S h = pX 503 65 [l0, .ref a0, l2, l3] (.ref a0 :: S) h := pX_stp d503_64 rfl rfl rfl
theorem x503_65 {S : List Value} {h : HP} {l0 l1 l2 : Value} {a0 : Nat} : pX 503 65 [l0, l1, l2, .ref a0] S h = pX 503 66 [l0, l1, l2, .ref a0] (.ref a0 :: S) h := pX_stp d503_65 rfl rfl rfl
theorem x503_66 {L S : List Value} {h : HP} {a b : Nat} (hk : hp_k h a = 2) : pX 503 66 L (.ref b :: .ref a :: S) h = pX 503 69 L S (hp_wa h a 5 b) := pX_put d503_66 rfl rfl rfl hk
theorem x503_69 {S : List Value} {h : HP} {l0 l1 l2 : Value} {a0 : Nat} : pX 503 69 [l0, l1, l2, .ref a0] S h = pX 503 70 [l0, l1, l2, .ref a0] (.ref a0 :: S) h := pX_stp d503_69 rfl rfl rfl
theorem x503_70 {L : List Value} {h : HP} {a : Nat} : pX 503 70 L [.ref a] h = some (some (.ref a), h) := pX_ret d503_70 rfl
theorem d504_0 : decode (mb 504) 0 = .ok (.aload_n 1, 1) := by decide +kernel
theorem d504_1 : decode (mb 504) 1 = .ok (.getfield 48, 3) := by decide +kernel
theorem d504_4 : decode (mb 504) 4 = .ok (.astore_n 2, 1) := by decide +kernel
theorem d504_5 : decode (mb 504) 5 = .ok (.aload_n 2, 1) := by decide +kernel
theorem d504_6 : decode (mb 504) 6 = .ok (.ifnull 59, 3) := by decide +kernel
theorem d504_9 : decode (mb 504) 9 = .ok (.aload_n 2, 1) := by decide +kernel
theorem d504_10 : decode (mb 504) 10 = .ok (.getfield 38, 3) := by decide +kernel
theorem d504_13 : decode (mb 504) 13 = .ok (.astore_n 3, 1) := by decide +kernel
theorem d504_14 : decode (mb 504) 14 = .ok (.aload_n 2, 1) := by decide +kernel
theorem d504_15 : decode (mb 504) 15 = .ok (.getfield 41, 3) := by decide +kernel
theorem d504_18 : decode (mb 504) 18 = .ok (.ifnull 14, 3) := by decide +kernel
theorem d504_21 : decode (mb 504) 21 = .ok (.aload_n 2, 1) := by decide +kernel
theorem d504_22 : decode (mb 504) 22 = .ok (.getfield 41, 3) := by decide +kernel
theorem d504_25 : decode (mb 504) 25 = .ok (.aload_n 2, 1) := by decide +kernel
theorem d504_26 : decode (mb 504) 26 = .ok (.getfield 45, 3) := by decide +kernel
theorem d504_29 : decode (mb 504) 29 = .ok (.putfield 7, 3) := by decide +kernel
theorem d504_32 : decode (mb 504) 32 = .ok (.aload_n 2, 1) := by decide +kernel
theorem d504_33 : decode (mb 504) 33 = .ok (.aconst_null, 1) := by decide +kernel
theorem d504_34 : decode (mb 504) 34 = .ok (.putfield 41, 3) := by decide +kernel
theorem d504_37 : decode (mb 504) 37 = .ok (.aload_n 2, 1) := by decide +kernel
theorem d504_38 : decode (mb 504) 38 = .ok (.aconst_null, 1) := by decide +kernel
theorem d504_39 : decode (mb 504) 39 = .ok (.putfield 13, 3) := by decide +kernel
theorem d504_42 : decode (mb 504) 42 = .ok (.aload_n 2, 1) := by decide +kernel
theorem d504_43 : decode (mb 504) 43 = .ok (.aconst_null, 1) := by decide +kernel
theorem d504_44 : decode (mb 504) 44 = .ok (.putfield 45, 3) := by decide +kernel
theorem d504_47 : decode (mb 504) 47 = .ok (.aload_n 2, 1) := by decide +kernel
theorem d504_48 : decode (mb 504) 48 = .ok (.aload_n 0, 1) := by decide +kernel
theorem d504_49 : decode (mb 504) 49 = .ok (.getfield 34, 3) := by decide +kernel
theorem d504_52 : decode (mb 504) 52 = .ok (.putfield 38, 3) := by decide +kernel
theorem d504_55 : decode (mb 504) 55 = .ok (.aload_n 0, 1) := by decide +kernel
theorem d504_56 : decode (mb 504) 56 = .ok (.aload_n 2, 1) := by decide +kernel
theorem d504_57 : decode (mb 504) 57 = .ok (.putfield 34, 3) := by decide +kernel
theorem d504_60 : decode (mb 504) 60 = .ok (.aload_n 3, 1) := by decide +kernel
theorem d504_61 : decode (mb 504) 61 = .ok (.astore_n 2, 1) := by decide +kernel
theorem d504_62 : decode (mb 504) 62 = .ok (.goto (-57), 3) := by decide +kernel
theorem d504_65 : decode (mb 504) 65 = .ok (.aload_n 1, 1) := by decide +kernel
theorem d504_66 : decode (mb 504) 66 = .ok (.aconst_null, 1) := by decide +kernel
theorem d504_67 : decode (mb 504) 67 = .ok (.putfield 48, 3) := by decide +kernel
theorem d504_70 : decode (mb 504) 70 = .ok (.aload_n 1, 1) := by decide +kernel
theorem d504_71 : decode (mb 504) 71 = .ok (.iconst 0, 1) := by decide +kernel
theorem d504_72 : decode (mb 504) 72 = .ok (.putfield 29, 3) := by decide +kernel
theorem d504_75 : decode (mb 504) 75 = .ok (.return_, 1) := by decide +kernel
theorem x504_0 {S : List Value} {h : HP} {l0 l2 l3 : Value} {a0 : Nat} : pX 504 0 [l0, .ref a0, l2, l3] S h = pX 504 1 [l0, .ref a0, l2, l3] (.ref a0 :: S) h := pX_stp d504_0 rfl rfl rfl
theorem x504_1 {L S : List Value} {h : HP} {a : Nat} (hk : hp_k h a = 2) : pX 504 1 L (.ref a :: S) h = pX 504 4 L (.ref (hp_a h a 5) :: S) h := pX_get d504_1 rfl rfl hk
theorem x504_4 {S : List Value} {h : HP} {l0 l1 l2 l3 : Value} {a0 : Nat} : pX 504 4 [l0, l1, l2, l3] (.ref a0 :: S) h = pX 504 5 [l0, l1, .ref a0, l3] S h := pX_stp d504_4 rfl rfl rfl
theorem x504_5 {S : List Value} {h : HP} {l0 l1 l3 : Value} {a0 : Nat} : pX 504 5 [l0, l1, .ref a0, l3] S h = pX 504 6 [l0, l1, .ref a0, l3] (.ref a0 :: S) h := pX_stp d504_5 rfl rfl rfl
theorem x504_6 {L S : List Value} {h : HP} {a : Nat} : pX 504 6 L (.ref a :: S) h = if a = 0 then pX 504 65 L S h else pX 504 9 L S h := pX_ifnull d504_6 (by decide)
theorem x504_9 {S : List Value} {h : HP} {l0 l1 l3 : Value} {a0 : Nat} : pX 504 9 [l0, l1, .ref a0, l3] S h = pX 504 10 [l0, l1, .ref a0, l3] (.ref a0 :: S) h := pX_stp d504_9 rfl rfl rfl
theorem x504_10 {L S : List Value} {h : HP} {a : Nat} (hk : hp_k h a = 3) : pX 504 10 L (.ref a :: S) h = pX 504 13 L (.ref (hp_a h a 4) :: S) h := pX_get d504_10 rfl rfl hk
theorem x504_13 {S : List Value} {h : HP} {l0 l1 l2 l3 : Value} {a0 : Nat} : pX 504 13 [l0, l1, l2, l3] (.ref a0 :: S) h = pX 504 14 [l0, l1, l2, .ref a0] S h := pX_stp d504_13 rfl rfl rfl
theorem x504_14 {S : List Value} {h : HP} {l0 l1 l3 : Value} {a0 : Nat} : pX 504 14 [l0, l1, .ref a0, l3] S h = pX 504 15 [l0, l1, .ref a0, l3] (.ref a0 :: S) h := pX_stp d504_14 rfl rfl rfl
theorem x504_15 {L S : List Value} {h : HP} {a : Nat} (hk : hp_k h a = 3) : pX 504 15 L (.ref a :: S) h = pX 504 18 L (.ref (hp_a h a 0) :: S) h := pX_get d504_15 rfl rfl hk
theorem x504_18 {L S : List Value} {h : HP} {a : Nat} : pX 504 18 L (.ref a :: S) h = if a = 0 then pX 504 32 L S h else pX 504 21 L S h := pX_ifnull d504_18 (by decide)
theorem x504_21 {S : List Value} {h : HP} {l0 l1 l3 : Value} {a0 : Nat} : pX 504 21 [l0, l1, .ref a0, l3] S h = pX 504 22 [l0, l1, .ref a0, l3] (.ref a0 :: S) h := pX_stp d504_21 rfl rfl rfl
theorem x504_22 {L S : List Value} {h : HP} {a : Nat} (hk : hp_k h a = 3) : pX 504 22 L (.ref a :: S) h = pX 504 25 L (.ref (hp_a h a 0) :: S) h := pX_get d504_22 rfl rfl hk
theorem x504_25 {S : List Value} {h : HP} {l0 l1 l3 : Value} {a0 : Nat} : pX 504 25 [l0, l1, .ref a0, l3] S h = pX 504 26 [l0, l1, .ref a0, l3] (.ref a0 :: S) h := pX_stp d504_25 rfl rfl rfl
theorem x504_26 {L S : List Value} {h : HP} {a : Nat} (hk : hp_k h a = 3) : pX 504 26 L (.ref a :: S) h = pX 504 29 L (.ref (hp_a h a 3) :: S) h := pX_get d504_26 rfl rfl hk
theorem x504_29 {L S : List Value} {h : HP} {a b : Nat} (hk : hp_k h a = 1) : pX 504 29 L (.ref b :: .ref a :: S) h = pX 504 32 L S (hp_wa h a 3 b) := pX_put d504_29 rfl rfl rfl hk
theorem x504_32 {S : List Value} {h : HP} {l0 l1 l3 : Value} {a0 : Nat} : pX 504 32 [l0, l1, .ref a0, l3] S h = pX 504 33 [l0, l1, .ref a0, l3] (.ref a0 :: S) h := pX_stp d504_32 rfl rfl rfl
theorem x504_33 {L S : List Value} {h : HP} : pX 504 33 L S h = pX 504 34 L (.ref 0 :: S) h := pX_stp d504_33 rfl rfl rfl
theorem x504_34 {L S : List Value} {h : HP} {a b : Nat} (hk : hp_k h a = 3) : pX 504 34 L (.ref b :: .ref a :: S) h = pX 504 37 L S (hp_wa h a 0 b) := pX_put d504_34 rfl rfl rfl hk
theorem x504_37 {S : List Value} {h : HP} {l0 l1 l3 : Value} {a0 : Nat} : pX 504 37 [l0, l1, .ref a0, l3] S h = pX 504 38 [l0, l1, .ref a0, l3] (.ref a0 :: S) h := pX_stp d504_37 rfl rfl rfl
theorem x504_38 {L S : List Value} {h : HP} : pX 504 38 L S h = pX 504 39 L (.ref 0 :: S) h := pX_stp d504_38 rfl rfl rfl
theorem x504_39 {L S : List Value} {h : HP} {a b : Nat} (hk : hp_k h a = 3) : pX 504 39 L (.ref b :: .ref a :: S) h = pX 504 42 L S (hp_wa h a 1 b) := pX_put d504_39 rfl rfl rfl hk
theorem x504_42 {S : List Value} {h : HP} {l0 l1 l3 : Value} {a0 : Nat} : pX 504 42 [l0, l1, .ref a0, l3] S h = pX 504 43 [l0, l1, .ref a0, l3] (.ref a0 :: S) h := pX_stp d504_42 rfl rfl rfl
theorem x504_43 {L S : List Value} {h : HP} : pX 504 43 L S h = pX 504 44 L (.ref 0 :: S) h := pX_stp d504_43 rfl rfl rfl
theorem x504_44 {L S : List Value} {h : HP} {a b : Nat} (hk : hp_k h a = 3) : pX 504 44 L (.ref b :: .ref a :: S) h = pX 504 47 L S (hp_wa h a 3 b) := pX_put d504_44 rfl rfl rfl hk
theorem x504_47 {S : List Value} {h : HP} {l0 l1 l3 : Value} {a0 : Nat} : pX 504 47 [l0, l1, .ref a0, l3] S h = pX 504 48 [l0, l1, .ref a0, l3] (.ref a0 :: S) h := pX_stp d504_47 rfl rfl rfl
theorem x504_48 {S : List Value} {h : HP} {l1 l2 l3 : Value} {a0 : Nat} : pX 504 48 [.ref a0, l1, l2, l3] S h = pX 504 49 [.ref a0, l1, l2, l3] (.ref a0 :: S) h := pX_stp d504_48 rfl rfl rfl
theorem x504_49 {L S : List Value} {h : HP} {a : Nat} (hk : hp_k h a = 6) : pX 504 49 L (.ref a :: S) h = pX 504 52 L (.ref (hp_a h a 0) :: S) h := pX_get d504_49 rfl rfl hk
theorem x504_52 {L S : List Value} {h : HP} {a b : Nat} (hk : hp_k h a = 3) : pX 504 52 L (.ref b :: .ref a :: S) h = pX 504 55 L S (hp_wa h a 4 b) := pX_put d504_52 rfl rfl rfl hk
theorem x504_55 {S : List Value} {h : HP} {l1 l2 l3 : Value} {a0 : Nat} : pX 504 55 [.ref a0, l1, l2, l3] S h = pX 504 56 [.ref a0, l1, l2, l3] (.ref a0 :: S) h := pX_stp d504_55 rfl rfl rfl
theorem x504_56 {S : List Value} {h : HP} {l0 l1 l3 : Value} {a0 : Nat} : pX 504 56 [l0, l1, .ref a0, l3] S h = pX 504 57 [l0, l1, .ref a0, l3] (.ref a0 :: S) h := pX_stp d504_56 rfl rfl rfl
theorem x504_57 {L S : List Value} {h : HP} {a b : Nat} (hk : hp_k h a = 6) : pX 504 57 L (.ref b :: .ref a :: S) h = pX 504 60 L S (hp_wa h a 0 b) := pX_put d504_57 rfl rfl rfl hk
theorem x504_60 {S : List Value} {h : HP} {l0 l1 l2 : Value} {a0 : Nat} : pX 504 60 [l0, l1, l2, .ref a0] S h = pX 504 61 [l0, l1, l2, .ref a0] (.ref a0 :: S) h := pX_stp d504_60 rfl rfl rfl
theorem x504_61 {S : List Value} {h : HP} {l0 l1 l2 l3 : Value} {a0 : Nat} : pX 504 61 [l0, l1, l2, l3] (.ref a0 :: S) h = pX 504 62 [l0, l1, .ref a0, l3] S h := pX_stp d504_61 rfl rfl rfl
theorem x504_62 {L S : List Value} {h : HP} : pX 504 62 L S h = pX 504 5 L S h := pX_goto d504_62 (by decide)
theorem x504_65 {S : List Value} {h : HP} {l0 l2 l3 : Value} {a0 : Nat} : pX 504 65 [l0, .ref a0, l2, l3] S h = pX 504 66 [l0, .ref a0, l2, l3] (.ref a0 :: S) h := pX_stp d504_65 rfl rfl rfl
theorem x504_66 {L S : List Value} {h : HP} : pX 504 66 L S h = pX 504 67 L (.ref 0 :: S) h := pX_stp d504_66 rfl rfl rfl
theorem x504_67 {L S : List Value} {h : HP} {a b : Nat} (hk : hp_k h a = 2) : pX 504 67 L (.ref b :: .ref a :: S) h = pX 504 70 L S (hp_wa h a 5 b) := pX_put d504_67 rfl rfl rfl hk
theorem x504_70 {S : List Value} {h : HP} {l0 l2 l3 : Value} {a0 : Nat} : pX 504 70 [l0, .ref a0, l2, l3] S h = pX 504 71 [l0, .ref a0, l2, l3] (.ref a0 :: S) h := pX_stp d504_70 rfl rfl rfl
theorem x504_71 {L S : List Value} {h : HP} : pX 504 71 L S h = pX 504 72 L (.int 0 :: S) h := pX_iconst d504_71 (by decide)
theorem x504_72 {L S : List Value} {h : HP} {a : Nat} {x : Int32} (hk : hp_k h a = 2) : pX 504 72 L (.int x :: .ref a :: S) h = pX 504 75 L S (hp_wi h a 6 x) := pX_put d504_72 rfl rfl rfl hk
theorem x504_75 {L : List Value} {h : HP} : pX 504 75 L [] h = some (none, h) := pX_ret d504_75 rfl
theorem d600_0 : decode (mb 600) 0 = .ok (.aload_n 0, 1) := by decide +kernel
theorem d600_1 : decode (mb 600) 1 = .ok (.invokespecial 3, 3) := by decide +kernel
theorem d600_4 : decode (mb 600) 4 = .ok (.aload_n 0, 1) := by decide +kernel
theorem d600_5 : decode (mb 600) 5 = .ok (.iconst 5, 1) := by decide +kernel
theorem d600_6 : decode (mb 600) 6 = .ok (.newarray .int, 2) := by decide +kernel
theorem d600_8 : decode (mb 600) 8 = .ok (.dup, 1) := by decide +kernel
theorem d600_9 : decode (mb 600) 9 = .ok (.iconst 0, 1) := by decide +kernel
theorem d600_10 : decode (mb 600) 10 = .ok (.iconst 1, 1) := by decide +kernel
theorem d600_11 : decode (mb 600) 11 = .ok (.iastore, 1) := by decide +kernel
theorem d600_12 : decode (mb 600) 12 = .ok (.dup, 1) := by decide +kernel
theorem d600_13 : decode (mb 600) 13 = .ok (.iconst 1, 1) := by decide +kernel
theorem d600_14 : decode (mb 600) 14 = .ok (.iconst 1, 1) := by decide +kernel
theorem d600_15 : decode (mb 600) 15 = .ok (.iastore, 1) := by decide +kernel
theorem d600_16 : decode (mb 600) 16 = .ok (.dup, 1) := by decide +kernel
theorem d600_17 : decode (mb 600) 17 = .ok (.iconst 2, 1) := by decide +kernel
theorem d600_18 : decode (mb 600) 18 = .ok (.iconst 1, 1) := by decide +kernel
theorem d600_19 : decode (mb 600) 19 = .ok (.iastore, 1) := by decide +kernel
theorem d600_20 : decode (mb 600) 20 = .ok (.dup, 1) := by decide +kernel
theorem d600_21 : decode (mb 600) 21 = .ok (.iconst 3, 1) := by decide +kernel
theorem d600_22 : decode (mb 600) 22 = .ok (.iconst 1, 1) := by decide +kernel
theorem d600_23 : decode (mb 600) 23 = .ok (.iastore, 1) := by decide +kernel
theorem d600_24 : decode (mb 600) 24 = .ok (.dup, 1) := by decide +kernel
theorem d600_25 : decode (mb 600) 25 = .ok (.iconst 4, 1) := by decide +kernel
theorem d600_26 : decode (mb 600) 26 = .ok (.iconst 1, 1) := by decide +kernel
theorem d600_27 : decode (mb 600) 27 = .ok (.iastore, 1) := by decide +kernel
theorem d600_28 : decode (mb 600) 28 = .ok (.putfield 9, 3) := by decide +kernel
theorem d600_31 : decode (mb 600) 31 = .ok (.aload_n 0, 1) := by decide +kernel
theorem d600_32 : decode (mb 600) 32 = .ok (.bipush 9, 2) := by decide +kernel
theorem d600_34 : decode (mb 600) 34 = .ok (.newarray .int, 2) := by decide +kernel
theorem d600_36 : decode (mb 600) 36 = .ok (.putfield 15, 3) := by decide +kernel
theorem d600_39 : decode (mb 600) 39 = .ok (.aload_n 0, 1) := by decide +kernel
theorem d600_40 : decode (mb 600) 40 = .ok (.sipush 6000, 3) := by decide +kernel
theorem d600_43 : decode (mb 600) 43 = .ok (.putfield 18, 3) := by decide +kernel
theorem d600_46 : decode (mb 600) 46 = .ok (.return_, 1) := by decide +kernel
theorem x600_0 {S : List Value} {h : HP}  {a0 : Nat} : pX 600 0 [.ref a0] S h = pX 600 1 [.ref a0] (.ref a0 :: S) h := pX_stp d600_0 rfl rfl rfl
theorem x600_1 {L : List Value} {h : HP} {a0 : Nat} (ha : ¬ a0 = 0) : pX 600 1 L [.ref a0] h = pX 600 4 L [] h := pX_oinit d600_1 rfl (Nat.le_of_ble_eq_true rfl) ha
theorem x600_4 {S : List Value} {h : HP}  {a0 : Nat} : pX 600 4 [.ref a0] S h = pX 600 5 [.ref a0] (.ref a0 :: S) h := pX_stp d600_4 rfl rfl rfl
theorem x600_5 {L S : List Value} {h : HP} : pX 600 5 L S h = pX 600 6 L (.int 5 :: S) h := pX_iconst d600_5 (by decide)
theorem x600_6 {L S : List Value} {h : HP} {j : Int32} (h0 : 0 ≤ j) (h1 : ix j ≤ 134217728) : pX 600 6 L (.int j :: S) h = pX 600 8 L (.ref (hp_n h) :: S) (hp_mk h 100 (ix j) (ix j)) := pX_newa d600_6 h0 h1
theorem x600_8 {L S : List Value} {h : HP} {a0 : Nat} : pX 600 8 L (.ref a0 :: S) h = pX 600 9 L (.ref a0 :: .ref a0 :: S) h := pX_stp d600_8 rfl rfl rfl
theorem x600_9 {L S : List Value} {h : HP} : pX 600 9 L S h = pX 600 10 L (.int 0 :: S) h := pX_iconst d600_9 (by decide)
theorem x600_10 {L S : List Value} {h : HP} : pX 600 10 L S h = pX 600 11 L (.int 1 :: S) h := pX_iconst d600_10 (by decide)
theorem x600_11 {L S : List Value} {h : HP} {a : Nat} {j x : Int32} (hk : hp_k h a = 100) (hj : inb j (hp_l h a) = true) : pX 600 11 L (.int x :: .int j :: .ref a :: S) h = pX 600 12 L S (hp_wi h a (ix j) x) := pX_ist d600_11 hk hj
theorem x600_12 {L S : List Value} {h : HP} {a0 : Nat} : pX 600 12 L (.ref a0 :: S) h = pX 600 13 L (.ref a0 :: .ref a0 :: S) h := pX_stp d600_12 rfl rfl rfl
theorem x600_13 {L S : List Value} {h : HP} : pX 600 13 L S h = pX 600 14 L (.int 1 :: S) h := pX_iconst d600_13 (by decide)
theorem x600_14 {L S : List Value} {h : HP} : pX 600 14 L S h = pX 600 15 L (.int 1 :: S) h := pX_iconst d600_14 (by decide)
theorem x600_15 {L S : List Value} {h : HP} {a : Nat} {j x : Int32} (hk : hp_k h a = 100) (hj : inb j (hp_l h a) = true) : pX 600 15 L (.int x :: .int j :: .ref a :: S) h = pX 600 16 L S (hp_wi h a (ix j) x) := pX_ist d600_15 hk hj
theorem x600_16 {L S : List Value} {h : HP} {a0 : Nat} : pX 600 16 L (.ref a0 :: S) h = pX 600 17 L (.ref a0 :: .ref a0 :: S) h := pX_stp d600_16 rfl rfl rfl
theorem x600_17 {L S : List Value} {h : HP} : pX 600 17 L S h = pX 600 18 L (.int 2 :: S) h := pX_iconst d600_17 (by decide)
theorem x600_18 {L S : List Value} {h : HP} : pX 600 18 L S h = pX 600 19 L (.int 1 :: S) h := pX_iconst d600_18 (by decide)
theorem x600_19 {L S : List Value} {h : HP} {a : Nat} {j x : Int32} (hk : hp_k h a = 100) (hj : inb j (hp_l h a) = true) : pX 600 19 L (.int x :: .int j :: .ref a :: S) h = pX 600 20 L S (hp_wi h a (ix j) x) := pX_ist d600_19 hk hj
theorem x600_20 {L S : List Value} {h : HP} {a0 : Nat} : pX 600 20 L (.ref a0 :: S) h = pX 600 21 L (.ref a0 :: .ref a0 :: S) h := pX_stp d600_20 rfl rfl rfl
theorem x600_21 {L S : List Value} {h : HP} : pX 600 21 L S h = pX 600 22 L (.int 3 :: S) h := pX_iconst d600_21 (by decide)
theorem x600_22 {L S : List Value} {h : HP} : pX 600 22 L S h = pX 600 23 L (.int 1 :: S) h := pX_iconst d600_22 (by decide)
theorem x600_23 {L S : List Value} {h : HP} {a : Nat} {j x : Int32} (hk : hp_k h a = 100) (hj : inb j (hp_l h a) = true) : pX 600 23 L (.int x :: .int j :: .ref a :: S) h = pX 600 24 L S (hp_wi h a (ix j) x) := pX_ist d600_23 hk hj
theorem x600_24 {L S : List Value} {h : HP} {a0 : Nat} : pX 600 24 L (.ref a0 :: S) h = pX 600 25 L (.ref a0 :: .ref a0 :: S) h := pX_stp d600_24 rfl rfl rfl
theorem x600_25 {L S : List Value} {h : HP} : pX 600 25 L S h = pX 600 26 L (.int 4 :: S) h := pX_iconst d600_25 (by decide)
theorem x600_26 {L S : List Value} {h : HP} : pX 600 26 L S h = pX 600 27 L (.int 1 :: S) h := pX_iconst d600_26 (by decide)
theorem x600_27 {L S : List Value} {h : HP} {a : Nat} {j x : Int32} (hk : hp_k h a = 100) (hj : inb j (hp_l h a) = true) : pX 600 27 L (.int x :: .int j :: .ref a :: S) h = pX 600 28 L S (hp_wi h a (ix j) x) := pX_ist d600_27 hk hj
theorem x600_28 {L S : List Value} {h : HP} {a b : Nat} (hk : hp_k h a = 7) : pX 600 28 L (.ref b :: .ref a :: S) h = pX 600 31 L S (hp_wa h a 0 b) := pX_put d600_28 rfl rfl rfl hk
theorem x600_31 {S : List Value} {h : HP}  {a0 : Nat} : pX 600 31 [.ref a0] S h = pX 600 32 [.ref a0] (.ref a0 :: S) h := pX_stp d600_31 rfl rfl rfl
theorem x600_32 {L S : List Value} {h : HP} : pX 600 32 L S h = pX 600 34 L (.int 9 :: S) h := pX_bipush d600_32 (by decide)
theorem x600_34 {L S : List Value} {h : HP} {j : Int32} (h0 : 0 ≤ j) (h1 : ix j ≤ 134217728) : pX 600 34 L (.int j :: S) h = pX 600 36 L (.ref (hp_n h) :: S) (hp_mk h 100 (ix j) (ix j)) := pX_newa d600_34 h0 h1
theorem x600_36 {L S : List Value} {h : HP} {a b : Nat} (hk : hp_k h a = 7) : pX 600 36 L (.ref b :: .ref a :: S) h = pX 600 39 L S (hp_wa h a 1 b) := pX_put d600_36 rfl rfl rfl hk
theorem x600_39 {S : List Value} {h : HP}  {a0 : Nat} : pX 600 39 [.ref a0] S h = pX 600 40 [.ref a0] (.ref a0 :: S) h := pX_stp d600_39 rfl rfl rfl
theorem x600_40 {L S : List Value} {h : HP} : pX 600 40 L S h = pX 600 43 L (.int 6000 :: S) h := pX_sipush d600_40 (by decide)
theorem x600_43 {L S : List Value} {h : HP} {a : Nat} {x : Int32} (hk : hp_k h a = 7) : pX 600 43 L (.int x :: .ref a :: S) h = pX 600 46 L S (hp_wi h a 3 x) := pX_put d600_43 rfl rfl rfl hk
theorem x600_46 {L : List Value} {h : HP} : pX 600 46 L [] h = some (none, h) := pX_ret d600_46 rfl
theorem d601_0 : decode (mb 601) 0 = .ok (.aload_n 0, 1) := by decide +kernel
theorem d601_1 : decode (mb 601) 1 = .ok (.iload_n 1, 1) := by decide +kernel
theorem d601_2 : decode (mb 601) 2 = .ok (.putfield 22, 3) := by decide +kernel
theorem d601_5 : decode (mb 601) 5 = .ok (.iconst 0, 1) := by decide +kernel
theorem d601_6 : decode (mb 601) 6 = .ok (.istore_n 2, 1) := by decide +kernel
theorem d601_7 : decode (mb 601) 7 = .ok (.iload_n 2, 1) := by decide +kernel
theorem d601_8 : decode (mb 601) 8 = .ok (.bipush 9, 2) := by decide +kernel
theorem d601_10 : decode (mb 601) 10 = .ok (.if_icmp .ge 16, 3) := by decide +kernel
theorem d601_13 : decode (mb 601) 13 = .ok (.aload_n 0, 1) := by decide +kernel
theorem d601_14 : decode (mb 601) 14 = .ok (.getfield 15, 3) := by decide +kernel
theorem d601_17 : decode (mb 601) 17 = .ok (.iload_n 2, 1) := by decide +kernel
theorem d601_18 : decode (mb 601) 18 = .ok (.iconst 0, 1) := by decide +kernel
theorem d601_19 : decode (mb 601) 19 = .ok (.iastore, 1) := by decide +kernel
theorem d601_20 : decode (mb 601) 20 = .ok (.iinc 2 1, 3) := by decide +kernel
theorem d601_23 : decode (mb 601) 23 = .ok (.goto (-16), 3) := by decide +kernel
theorem d601_26 : decode (mb 601) 26 = .ok (.return_, 1) := by decide +kernel
theorem x601_0 {S : List Value} {h : HP} {l1 l2 : Value} {a0 : Nat} : pX 601 0 [.ref a0, l1, l2] S h = pX 601 1 [.ref a0, l1, l2] (.ref a0 :: S) h := pX_stp d601_0 rfl rfl rfl
theorem x601_1 {S : List Value} {h : HP} {l0 l2 : Value} {x0 : Int32} : pX 601 1 [l0, .int x0, l2] S h = pX 601 2 [l0, .int x0, l2] (.int x0 :: S) h := pX_stp d601_1 rfl rfl rfl
theorem x601_2 {L S : List Value} {h : HP} {a : Nat} {x : Int32} (hk : hp_k h a = 7) : pX 601 2 L (.int x :: .ref a :: S) h = pX 601 5 L S (hp_wi h a 2 x) := pX_put d601_2 rfl rfl rfl hk
theorem x601_5 {L S : List Value} {h : HP} : pX 601 5 L S h = pX 601 6 L (.int 0 :: S) h := pX_iconst d601_5 (by decide)
theorem x601_6 {S : List Value} {h : HP} {l0 l1 l2 : Value} {x0 : Int32} : pX 601 6 [l0, l1, l2] (.int x0 :: S) h = pX 601 7 [l0, l1, .int x0] S h := pX_stp d601_6 rfl rfl rfl
theorem x601_7 {S : List Value} {h : HP} {l0 l1 : Value} {x0 : Int32} : pX 601 7 [l0, l1, .int x0] S h = pX 601 8 [l0, l1, .int x0] (.int x0 :: S) h := pX_stp d601_7 rfl rfl rfl
theorem x601_8 {L S : List Value} {h : HP} : pX 601 8 L S h = pX 601 10 L (.int 9 :: S) h := pX_bipush d601_8 (by decide)
theorem x601_10 {L S : List Value} {h : HP} {x y : Int32} : pX 601 10 L (.int y :: .int x :: S) h = if y ≤ x then pX 601 26 L S h else pX 601 13 L S h := pX_icmp_ge d601_10 (by decide)
theorem x601_13 {S : List Value} {h : HP} {l1 l2 : Value} {a0 : Nat} : pX 601 13 [.ref a0, l1, l2] S h = pX 601 14 [.ref a0, l1, l2] (.ref a0 :: S) h := pX_stp d601_13 rfl rfl rfl
theorem x601_14 {L S : List Value} {h : HP} {a : Nat} (hk : hp_k h a = 7) : pX 601 14 L (.ref a :: S) h = pX 601 17 L (.ref (hp_a h a 1) :: S) h := pX_get d601_14 rfl rfl hk
theorem x601_17 {S : List Value} {h : HP} {l0 l1 : Value} {x0 : Int32} : pX 601 17 [l0, l1, .int x0] S h = pX 601 18 [l0, l1, .int x0] (.int x0 :: S) h := pX_stp d601_17 rfl rfl rfl
theorem x601_18 {L S : List Value} {h : HP} : pX 601 18 L S h = pX 601 19 L (.int 0 :: S) h := pX_iconst d601_18 (by decide)
theorem x601_19 {L S : List Value} {h : HP} {a : Nat} {j x : Int32} (hk : hp_k h a = 100) (hj : inb j (hp_l h a) = true) : pX 601 19 L (.int x :: .int j :: .ref a :: S) h = pX 601 20 L S (hp_wi h a (ix j) x) := pX_ist d601_19 hk hj
theorem x601_20 {S : List Value} {h : HP} {x0 : Int32} {l0 l1 : Value} : pX 601 20 [l0, l1, .int x0] S h = pX 601 23 [l0, l1, .int (x0 + 1)] S h := pX_iinc (x := x0) d601_20 (by decide) rfl (Nat.le_of_ble_eq_true rfl) rfl rfl
theorem x601_23 {L S : List Value} {h : HP} : pX 601 23 L S h = pX 601 7 L S h := pX_goto d601_23 (by decide)
theorem x601_26 {L : List Value} {h : HP} : pX 601 26 L [] h = some (none, h) := pX_ret d601_26 rfl
theorem d602_0 : decode (mb 602) 0 = .ok (.lload_n 1, 1) := by decide +kernel
theorem d602_1 : decode (mb 602) 1 = .ok (.aload_n 0, 1) := by decide +kernel
theorem d602_2 : decode (mb 602) 2 = .ok (.getfield 22, 3) := by decide +kernel
theorem d602_5 : decode (mb 602) 5 = .ok (.i2l, 1) := by decide +kernel
theorem d602_6 : decode (mb 602) 6 = .ok (.lcmp, 1) := by decide +kernel
theorem d602_7 : decode (mb 602) 7 = .ok (.ifCond .gt 13, 3) := by decide +kernel
theorem d602_10 : decode (mb 602) 10 = .ok (.lload_n 1, 1) := by decide +kernel
theorem d602_11 : decode (mb 602) 11 = .ok (.aload_n 0, 1) := by decide +kernel
theorem d602_12 : decode (mb 602) 12 = .ok (.getfield 18, 3) := by decide +kernel
theorem d602_15 : decode (mb 602) 15 = .ok (.i2l, 1) := by decide +kernel
theorem d602_16 : decode (mb 602) 16 = .ok (.lcmp, 1) := by decide +kernel
theorem d602_17 : decode (mb 602) 17 = .ok (.ifCond .le 5, 3) := by decide +kernel
theorem d602_20 : decode (mb 602) 20 = .ok (.iconst 0, 1) := by decide +kernel
theorem d602_21 : decode (mb 602) 21 = .ok (.ireturn, 1) := by decide +kernel
theorem d602_22 : decode (mb 602) 22 = .ok (.aload_n 0, 1) := by decide +kernel
theorem d602_23 : decode (mb 602) 23 = .ok (.dup, 1) := by decide +kernel
theorem d602_24 : decode (mb 602) 24 = .ok (.getfield 22, 3) := by decide +kernel
theorem d602_27 : decode (mb 602) 27 = .ok (.lload_n 1, 1) := by decide +kernel
theorem d602_28 : decode (mb 602) 28 = .ok (.l2i, 1) := by decide +kernel
theorem d602_29 : decode (mb 602) 29 = .ok (.isub, 1) := by decide +kernel
theorem d602_30 : decode (mb 602) 30 = .ok (.putfield 22, 3) := by decide +kernel
theorem d602_33 : decode (mb 602) 33 = .ok (.aload_n 0, 1) := by decide +kernel
theorem d602_34 : decode (mb 602) 34 = .ok (.dup, 1) := by decide +kernel
theorem d602_35 : decode (mb 602) 35 = .ok (.getfield 18, 3) := by decide +kernel
theorem d602_38 : decode (mb 602) 38 = .ok (.lload_n 1, 1) := by decide +kernel
theorem d602_39 : decode (mb 602) 39 = .ok (.l2i, 1) := by decide +kernel
theorem d602_40 : decode (mb 602) 40 = .ok (.isub, 1) := by decide +kernel
theorem d602_41 : decode (mb 602) 41 = .ok (.putfield 18, 3) := by decide +kernel
theorem d602_44 : decode (mb 602) 44 = .ok (.aload_n 0, 1) := by decide +kernel
theorem d602_45 : decode (mb 602) 45 = .ok (.getfield 15, 3) := by decide +kernel
theorem d602_48 : decode (mb 602) 48 = .ok (.iconst 0, 1) := by decide +kernel
theorem d602_49 : decode (mb 602) 49 = .ok (.dup2, 1) := by decide +kernel
theorem d602_50 : decode (mb 602) 50 = .ok (.iaload, 1) := by decide +kernel
theorem d602_51 : decode (mb 602) 51 = .ok (.lload_n 1, 1) := by decide +kernel
theorem d602_52 : decode (mb 602) 52 = .ok (.l2i, 1) := by decide +kernel
theorem d602_53 : decode (mb 602) 53 = .ok (.iadd, 1) := by decide +kernel
theorem d602_54 : decode (mb 602) 54 = .ok (.iastore, 1) := by decide +kernel
theorem d602_55 : decode (mb 602) 55 = .ok (.iconst 1, 1) := by decide +kernel
theorem d602_56 : decode (mb 602) 56 = .ok (.ireturn, 1) := by decide +kernel
theorem x602_0 {S : List Value} {h : HP} {l0 l2 : Value} {z0 : Int64} : pX 602 0 [l0, .long z0, l2] S h = pX 602 1 [l0, .long z0, l2] (.long z0 :: S) h := pX_stp d602_0 rfl rfl rfl
theorem x602_1 {S : List Value} {h : HP} {l1 l2 : Value} {a0 : Nat} : pX 602 1 [.ref a0, l1, l2] S h = pX 602 2 [.ref a0, l1, l2] (.ref a0 :: S) h := pX_stp d602_1 rfl rfl rfl
theorem x602_2 {L S : List Value} {h : HP} {a : Nat} (hk : hp_k h a = 7) : pX 602 2 L (.ref a :: S) h = pX 602 5 L (.int (hp_i h a 2) :: S) h := pX_get d602_2 rfl rfl hk
theorem x602_5 {L S : List Value} {h : HP} {x : Int32} : pX 602 5 L (.int x :: S) h = pX 602 6 L (.long x.toInt64 :: S) h := pX_stp d602_5 rfl rfl rfl
theorem x602_6 {L S : List Value} {h : HP} {x y : Int64} : pX 602 6 L (.long y :: .long x :: S) h = pX 602 7 L (.int (lg_cmp x y) :: S) h := pX_stp d602_6 rfl rfl rfl
theorem x602_7 {L S : List Value} {h : HP} {x : Int32} : pX 602 7 L (.int x :: S) h = if 0 < x then pX 602 20 L S h else pX 602 10 L S h := pX_if_gt d602_7 (by decide)
theorem x602_10 {S : List Value} {h : HP} {l0 l2 : Value} {z0 : Int64} : pX 602 10 [l0, .long z0, l2] S h = pX 602 11 [l0, .long z0, l2] (.long z0 :: S) h := pX_stp d602_10 rfl rfl rfl
theorem x602_11 {S : List Value} {h : HP} {l1 l2 : Value} {a0 : Nat} : pX 602 11 [.ref a0, l1, l2] S h = pX 602 12 [.ref a0, l1, l2] (.ref a0 :: S) h := pX_stp d602_11 rfl rfl rfl
theorem x602_12 {L S : List Value} {h : HP} {a : Nat} (hk : hp_k h a = 7) : pX 602 12 L (.ref a :: S) h = pX 602 15 L (.int (hp_i h a 3) :: S) h := pX_get d602_12 rfl rfl hk
theorem x602_15 {L S : List Value} {h : HP} {x : Int32} : pX 602 15 L (.int x :: S) h = pX 602 16 L (.long x.toInt64 :: S) h := pX_stp d602_15 rfl rfl rfl
theorem x602_16 {L S : List Value} {h : HP} {x y : Int64} : pX 602 16 L (.long y :: .long x :: S) h = pX 602 17 L (.int (lg_cmp x y) :: S) h := pX_stp d602_16 rfl rfl rfl
theorem x602_17 {L S : List Value} {h : HP} {x : Int32} : pX 602 17 L (.int x :: S) h = if x ≤ 0 then pX 602 22 L S h else pX 602 20 L S h := pX_if_le d602_17 (by decide)
theorem x602_20 {L S : List Value} {h : HP} : pX 602 20 L S h = pX 602 21 L (.int 0 :: S) h := pX_iconst d602_20 (by decide)
theorem x602_21 {L : List Value} {h : HP} {x : Int32} (hx : x = 0 ∨ x = 1) : pX 602 21 L [.int x] h = some (some (.int x), h) := pX_ret d602_21 (by rcases hx with rfl | rfl <;> rfl)
theorem x602_22 {S : List Value} {h : HP} {l1 l2 : Value} {a0 : Nat} : pX 602 22 [.ref a0, l1, l2] S h = pX 602 23 [.ref a0, l1, l2] (.ref a0 :: S) h := pX_stp d602_22 rfl rfl rfl
theorem x602_23 {L S : List Value} {h : HP} {a0 : Nat} : pX 602 23 L (.ref a0 :: S) h = pX 602 24 L (.ref a0 :: .ref a0 :: S) h := pX_stp d602_23 rfl rfl rfl
theorem x602_24 {L S : List Value} {h : HP} {a : Nat} (hk : hp_k h a = 7) : pX 602 24 L (.ref a :: S) h = pX 602 27 L (.int (hp_i h a 2) :: S) h := pX_get d602_24 rfl rfl hk
theorem x602_27 {S : List Value} {h : HP} {l0 l2 : Value} {z0 : Int64} : pX 602 27 [l0, .long z0, l2] S h = pX 602 28 [l0, .long z0, l2] (.long z0 :: S) h := pX_stp d602_27 rfl rfl rfl
theorem x602_28 {L S : List Value} {h : HP} {x : Int64} : pX 602 28 L (.long x :: S) h = pX 602 29 L (.int x.toInt32 :: S) h := pX_stp d602_28 rfl rfl rfl
theorem x602_29 {L S : List Value} {h : HP} {x y : Int32} : pX 602 29 L (.int y :: .int x :: S) h = pX 602 30 L (.int (x - y) :: S) h := pX_stp d602_29 rfl rfl rfl
theorem x602_30 {L S : List Value} {h : HP} {a : Nat} {x : Int32} (hk : hp_k h a = 7) : pX 602 30 L (.int x :: .ref a :: S) h = pX 602 33 L S (hp_wi h a 2 x) := pX_put d602_30 rfl rfl rfl hk
theorem x602_33 {S : List Value} {h : HP} {l1 l2 : Value} {a0 : Nat} : pX 602 33 [.ref a0, l1, l2] S h = pX 602 34 [.ref a0, l1, l2] (.ref a0 :: S) h := pX_stp d602_33 rfl rfl rfl
theorem x602_34 {L S : List Value} {h : HP} {a0 : Nat} : pX 602 34 L (.ref a0 :: S) h = pX 602 35 L (.ref a0 :: .ref a0 :: S) h := pX_stp d602_34 rfl rfl rfl
theorem x602_35 {L S : List Value} {h : HP} {a : Nat} (hk : hp_k h a = 7) : pX 602 35 L (.ref a :: S) h = pX 602 38 L (.int (hp_i h a 3) :: S) h := pX_get d602_35 rfl rfl hk
theorem x602_38 {S : List Value} {h : HP} {l0 l2 : Value} {z0 : Int64} : pX 602 38 [l0, .long z0, l2] S h = pX 602 39 [l0, .long z0, l2] (.long z0 :: S) h := pX_stp d602_38 rfl rfl rfl
theorem x602_39 {L S : List Value} {h : HP} {x : Int64} : pX 602 39 L (.long x :: S) h = pX 602 40 L (.int x.toInt32 :: S) h := pX_stp d602_39 rfl rfl rfl
theorem x602_40 {L S : List Value} {h : HP} {x y : Int32} : pX 602 40 L (.int y :: .int x :: S) h = pX 602 41 L (.int (x - y) :: S) h := pX_stp d602_40 rfl rfl rfl
theorem x602_41 {L S : List Value} {h : HP} {a : Nat} {x : Int32} (hk : hp_k h a = 7) : pX 602 41 L (.int x :: .ref a :: S) h = pX 602 44 L S (hp_wi h a 3 x) := pX_put d602_41 rfl rfl rfl hk
theorem x602_44 {S : List Value} {h : HP} {l1 l2 : Value} {a0 : Nat} : pX 602 44 [.ref a0, l1, l2] S h = pX 602 45 [.ref a0, l1, l2] (.ref a0 :: S) h := pX_stp d602_44 rfl rfl rfl
theorem x602_45 {L S : List Value} {h : HP} {a : Nat} (hk : hp_k h a = 7) : pX 602 45 L (.ref a :: S) h = pX 602 48 L (.ref (hp_a h a 1) :: S) h := pX_get d602_45 rfl rfl hk
theorem x602_48 {L S : List Value} {h : HP} : pX 602 48 L S h = pX 602 49 L (.int 0 :: S) h := pX_iconst d602_48 (by decide)
theorem x602_49 {L S : List Value} {h : HP} {x0 : Int32} {a0 : Nat} : pX 602 49 L (.int x0 :: .ref a0 :: S) h = pX 602 50 L (.int x0 :: .ref a0 :: .int x0 :: .ref a0 :: S) h := pX_stp d602_49 rfl rfl rfl
theorem x602_50 {L S : List Value} {h : HP} {a : Nat} {j : Int32} (hk : hp_k h a = 100) (hj : inb j (hp_l h a) = true) : pX 602 50 L (.int j :: .ref a :: S) h = pX 602 51 L (.int (hp_i h a (ix j)) :: S) h := pX_ild d602_50 hk hj
theorem x602_51 {S : List Value} {h : HP} {l0 l2 : Value} {z0 : Int64} : pX 602 51 [l0, .long z0, l2] S h = pX 602 52 [l0, .long z0, l2] (.long z0 :: S) h := pX_stp d602_51 rfl rfl rfl
theorem x602_52 {L S : List Value} {h : HP} {x : Int64} : pX 602 52 L (.long x :: S) h = pX 602 53 L (.int x.toInt32 :: S) h := pX_stp d602_52 rfl rfl rfl
theorem x602_53 {L S : List Value} {h : HP} {x y : Int32} : pX 602 53 L (.int y :: .int x :: S) h = pX 602 54 L (.int (x + y) :: S) h := pX_stp d602_53 rfl rfl rfl
theorem x602_54 {L S : List Value} {h : HP} {a : Nat} {j x : Int32} (hk : hp_k h a = 100) (hj : inb j (hp_l h a) = true) : pX 602 54 L (.int x :: .int j :: .ref a :: S) h = pX 602 55 L S (hp_wi h a (ix j) x) := pX_ist d602_54 hk hj
theorem x602_55 {L S : List Value} {h : HP} : pX 602 55 L S h = pX 602 56 L (.int 1 :: S) h := pX_iconst d602_55 (by decide)
theorem x602_56 {L : List Value} {h : HP} {x : Int32} (hx : x = 0 ∨ x = 1) : pX 602 56 L [.int x] h = some (some (.int x), h) := pX_ret d602_56 (by rcases hx with rfl | rfl <;> rfl)
theorem d603_0 : decode (mb 603) 0 = .ok (.aload_n 0, 1) := by decide +kernel
theorem d603_1 : decode (mb 603) 1 = .ok (.aload_n 0, 1) := by decide +kernel
theorem d603_2 : decode (mb 603) 2 = .ok (.getfield 9, 3) := by decide +kernel
theorem d603_5 : decode (mb 603) 5 = .ok (.iload_n 1, 1) := by decide +kernel
theorem d603_6 : decode (mb 603) 6 = .ok (.iaload, 1) := by decide +kernel
theorem d603_7 : decode (mb 603) 7 = .ok (.i2l, 1) := by decide +kernel
theorem d603_8 : decode (mb 603) 8 = .ok (.invokevirtual 25, 3) := by decide +kernel
theorem d603_11 : decode (mb 603) 11 = .ok (.ifCond .ne 5, 3) := by decide +kernel
theorem d603_14 : decode (mb 603) 14 = .ok (.iconst 0, 1) := by decide +kernel
theorem d603_15 : decode (mb 603) 15 = .ok (.ireturn, 1) := by decide +kernel
theorem d603_16 : decode (mb 603) 16 = .ok (.aload_n 0, 1) := by decide +kernel
theorem d603_17 : decode (mb 603) 17 = .ok (.getfield 15, 3) := by decide +kernel
theorem d603_20 : decode (mb 603) 20 = .ok (.iload_n 1, 1) := by decide +kernel
theorem d603_21 : decode (mb 603) 21 = .ok (.iconst 1, 1) := by decide +kernel
theorem d603_22 : decode (mb 603) 22 = .ok (.iadd, 1) := by decide +kernel
theorem d603_23 : decode (mb 603) 23 = .ok (.dup2, 1) := by decide +kernel
theorem d603_24 : decode (mb 603) 24 = .ok (.iaload, 1) := by decide +kernel
theorem d603_25 : decode (mb 603) 25 = .ok (.iconst 1, 1) := by decide +kernel
theorem d603_26 : decode (mb 603) 26 = .ok (.iadd, 1) := by decide +kernel
theorem d603_27 : decode (mb 603) 27 = .ok (.iastore, 1) := by decide +kernel
theorem d603_28 : decode (mb 603) 28 = .ok (.iconst 1, 1) := by decide +kernel
theorem d603_29 : decode (mb 603) 29 = .ok (.ireturn, 1) := by decide +kernel
theorem x603_0 {S : List Value} {h : HP} {l1 : Value} {a0 : Nat} : pX 603 0 [.ref a0, l1] S h = pX 603 1 [.ref a0, l1] (.ref a0 :: S) h := pX_stp d603_0 rfl rfl rfl
theorem x603_1 {S : List Value} {h : HP} {l1 : Value} {a0 : Nat} : pX 603 1 [.ref a0, l1] S h = pX 603 2 [.ref a0, l1] (.ref a0 :: S) h := pX_stp d603_1 rfl rfl rfl
theorem x603_2 {L S : List Value} {h : HP} {a : Nat} (hk : hp_k h a = 7) : pX 603 2 L (.ref a :: S) h = pX 603 5 L (.ref (hp_a h a 0) :: S) h := pX_get d603_2 rfl rfl hk
theorem x603_5 {S : List Value} {h : HP} {l0 : Value} {x0 : Int32} : pX 603 5 [l0, .int x0] S h = pX 603 6 [l0, .int x0] (.int x0 :: S) h := pX_stp d603_5 rfl rfl rfl
theorem x603_6 {L S : List Value} {h : HP} {a : Nat} {j : Int32} (hk : hp_k h a = 100) (hj : inb j (hp_l h a) = true) : pX 603 6 L (.int j :: .ref a :: S) h = pX 603 7 L (.int (hp_i h a (ix j)) :: S) h := pX_ild d603_6 hk hj
theorem x603_7 {L S : List Value} {h : HP} {x : Int32} : pX 603 7 L (.int x :: S) h = pX 603 8 L (.long x.toInt64 :: S) h := pX_stp d603_7 rfl rfl rfl
theorem x603_8 {L : List Value} {h : HP} {z0 : Int64} {a0 : Nat} (hk : hp_k h a0 = 7) : pX 603 8 L [.long z0, .ref a0] h = (pX 602 0 [.ref a0, .long z0, .retAddr 0] [] h).bind (fun q => pX 603 11 L (q.1.toList ++ []) q.2) := pX_inv (a := a0) (t := 7) 602 [.ref a0, .long z0] [] d603_8 rfl rfl rfl hk
theorem x603_11 {L S : List Value} {h : HP} {x : Int32} : pX 603 11 L (.int x :: S) h = if x = 0 then pX 603 14 L S h else pX 603 16 L S h := pX_if_ne d603_11 (by decide)
theorem x603_14 {L S : List Value} {h : HP} : pX 603 14 L S h = pX 603 15 L (.int 0 :: S) h := pX_iconst d603_14 (by decide)
theorem x603_15 {L : List Value} {h : HP} {x : Int32} (hx : x = 0 ∨ x = 1) : pX 603 15 L [.int x] h = some (some (.int x), h) := pX_ret d603_15 (by rcases hx with rfl | rfl <;> rfl)
theorem x603_16 {S : List Value} {h : HP} {l1 : Value} {a0 : Nat} : pX 603 16 [.ref a0, l1] S h = pX 603 17 [.ref a0, l1] (.ref a0 :: S) h := pX_stp d603_16 rfl rfl rfl
theorem x603_17 {L S : List Value} {h : HP} {a : Nat} (hk : hp_k h a = 7) : pX 603 17 L (.ref a :: S) h = pX 603 20 L (.ref (hp_a h a 1) :: S) h := pX_get d603_17 rfl rfl hk
theorem x603_20 {S : List Value} {h : HP} {l0 : Value} {x0 : Int32} : pX 603 20 [l0, .int x0] S h = pX 603 21 [l0, .int x0] (.int x0 :: S) h := pX_stp d603_20 rfl rfl rfl
theorem x603_21 {L S : List Value} {h : HP} : pX 603 21 L S h = pX 603 22 L (.int 1 :: S) h := pX_iconst d603_21 (by decide)
theorem x603_22 {L S : List Value} {h : HP} {x y : Int32} : pX 603 22 L (.int y :: .int x :: S) h = pX 603 23 L (.int (x + y) :: S) h := pX_stp d603_22 rfl rfl rfl
theorem x603_23 {L S : List Value} {h : HP} {x0 : Int32} {a0 : Nat} : pX 603 23 L (.int x0 :: .ref a0 :: S) h = pX 603 24 L (.int x0 :: .ref a0 :: .int x0 :: .ref a0 :: S) h := pX_stp d603_23 rfl rfl rfl
theorem x603_24 {L S : List Value} {h : HP} {a : Nat} {j : Int32} (hk : hp_k h a = 100) (hj : inb j (hp_l h a) = true) : pX 603 24 L (.int j :: .ref a :: S) h = pX 603 25 L (.int (hp_i h a (ix j)) :: S) h := pX_ild d603_24 hk hj
theorem x603_25 {L S : List Value} {h : HP} : pX 603 25 L S h = pX 603 26 L (.int 1 :: S) h := pX_iconst d603_25 (by decide)
theorem x603_26 {L S : List Value} {h : HP} {x y : Int32} : pX 603 26 L (.int y :: .int x :: S) h = pX 603 27 L (.int (x + y) :: S) h := pX_stp d603_26 rfl rfl rfl
theorem x603_27 {L S : List Value} {h : HP} {a : Nat} {j x : Int32} (hk : hp_k h a = 100) (hj : inb j (hp_l h a) = true) : pX 603 27 L (.int x :: .int j :: .ref a :: S) h = pX 603 28 L S (hp_wi h a (ix j) x) := pX_ist d603_27 hk hj
theorem x603_28 {L S : List Value} {h : HP} : pX 603 28 L S h = pX 603 29 L (.int 1 :: S) h := pX_iconst d603_28 (by decide)
theorem x603_29 {L : List Value} {h : HP} {x : Int32} (hx : x = 0 ∨ x = 1) : pX 603 29 L [.int x] h = some (some (.int x), h) := pX_ret d603_29 (by rcases hx with rfl | rfl <;> rfl)
theorem d604_0 : decode (mb 604) 0 = .ok (.aload_n 0, 1) := by decide +kernel
theorem d604_1 : decode (mb 604) 1 = .ok (.aload_n 0, 1) := by decide +kernel
theorem d604_2 : decode (mb 604) 2 = .ok (.getfield 9, 3) := by decide +kernel
theorem d604_5 : decode (mb 604) 5 = .ok (.iconst 3, 1) := by decide +kernel
theorem d604_6 : decode (mb 604) 6 = .ok (.iaload, 1) := by decide +kernel
theorem d604_7 : decode (mb 604) 7 = .ok (.i2l, 1) := by decide +kernel
theorem d604_8 : decode (mb 604) 8 = .ok (.aload_n 0, 1) := by decide +kernel
theorem d604_9 : decode (mb 604) 9 = .ok (.getfield 9, 3) := by decide +kernel
theorem d604_12 : decode (mb 604) 12 = .ok (.iconst 4, 1) := by decide +kernel
theorem d604_13 : decode (mb 604) 13 = .ok (.iaload, 1) := by decide +kernel
theorem d604_14 : decode (mb 604) 14 = .ok (.i2l, 1) := by decide +kernel
theorem d604_15 : decode (mb 604) 15 = .ok (.iload_n 1, 1) := by decide +kernel
theorem d604_16 : decode (mb 604) 16 = .ok (.i2l, 1) := by decide +kernel
theorem d604_17 : decode (mb 604) 17 = .ok (.lmul, 1) := by decide +kernel
theorem d604_18 : decode (mb 604) 18 = .ok (.ladd, 1) := by decide +kernel
theorem d604_19 : decode (mb 604) 19 = .ok (.invokevirtual 25, 3) := by decide +kernel
theorem d604_22 : decode (mb 604) 22 = .ok (.ifCond .ne 5, 3) := by decide +kernel
theorem d604_25 : decode (mb 604) 25 = .ok (.iconst 0, 1) := by decide +kernel
theorem d604_26 : decode (mb 604) 26 = .ok (.ireturn, 1) := by decide +kernel
theorem d604_27 : decode (mb 604) 27 = .ok (.aload_n 0, 1) := by decide +kernel
theorem d604_28 : decode (mb 604) 28 = .ok (.getfield 15, 3) := by decide +kernel
theorem d604_31 : decode (mb 604) 31 = .ok (.iconst 4, 1) := by decide +kernel
theorem d604_32 : decode (mb 604) 32 = .ok (.dup2, 1) := by decide +kernel
theorem d604_33 : decode (mb 604) 33 = .ok (.iaload, 1) := by decide +kernel
theorem d604_34 : decode (mb 604) 34 = .ok (.iconst 1, 1) := by decide +kernel
theorem d604_35 : decode (mb 604) 35 = .ok (.iadd, 1) := by decide +kernel
theorem d604_36 : decode (mb 604) 36 = .ok (.iastore, 1) := by decide +kernel
theorem d604_37 : decode (mb 604) 37 = .ok (.aload_n 0, 1) := by decide +kernel
theorem d604_38 : decode (mb 604) 38 = .ok (.getfield 15, 3) := by decide +kernel
theorem d604_41 : decode (mb 604) 41 = .ok (.iconst 5, 1) := by decide +kernel
theorem d604_42 : decode (mb 604) 42 = .ok (.dup2, 1) := by decide +kernel
theorem d604_43 : decode (mb 604) 43 = .ok (.iaload, 1) := by decide +kernel
theorem d604_44 : decode (mb 604) 44 = .ok (.iload_n 1, 1) := by decide +kernel
theorem d604_45 : decode (mb 604) 45 = .ok (.iadd, 1) := by decide +kernel
theorem d604_46 : decode (mb 604) 46 = .ok (.iastore, 1) := by decide +kernel
theorem d604_47 : decode (mb 604) 47 = .ok (.iconst 1, 1) := by decide +kernel
theorem d604_48 : decode (mb 604) 48 = .ok (.ireturn, 1) := by decide +kernel
theorem x604_0 {S : List Value} {h : HP} {l1 : Value} {a0 : Nat} : pX 604 0 [.ref a0, l1] S h = pX 604 1 [.ref a0, l1] (.ref a0 :: S) h := pX_stp d604_0 rfl rfl rfl
theorem x604_1 {S : List Value} {h : HP} {l1 : Value} {a0 : Nat} : pX 604 1 [.ref a0, l1] S h = pX 604 2 [.ref a0, l1] (.ref a0 :: S) h := pX_stp d604_1 rfl rfl rfl
theorem x604_2 {L S : List Value} {h : HP} {a : Nat} (hk : hp_k h a = 7) : pX 604 2 L (.ref a :: S) h = pX 604 5 L (.ref (hp_a h a 0) :: S) h := pX_get d604_2 rfl rfl hk
theorem x604_5 {L S : List Value} {h : HP} : pX 604 5 L S h = pX 604 6 L (.int 3 :: S) h := pX_iconst d604_5 (by decide)
theorem x604_6 {L S : List Value} {h : HP} {a : Nat} {j : Int32} (hk : hp_k h a = 100) (hj : inb j (hp_l h a) = true) : pX 604 6 L (.int j :: .ref a :: S) h = pX 604 7 L (.int (hp_i h a (ix j)) :: S) h := pX_ild d604_6 hk hj
theorem x604_7 {L S : List Value} {h : HP} {x : Int32} : pX 604 7 L (.int x :: S) h = pX 604 8 L (.long x.toInt64 :: S) h := pX_stp d604_7 rfl rfl rfl
theorem x604_8 {S : List Value} {h : HP} {l1 : Value} {a0 : Nat} : pX 604 8 [.ref a0, l1] S h = pX 604 9 [.ref a0, l1] (.ref a0 :: S) h := pX_stp d604_8 rfl rfl rfl
theorem x604_9 {L S : List Value} {h : HP} {a : Nat} (hk : hp_k h a = 7) : pX 604 9 L (.ref a :: S) h = pX 604 12 L (.ref (hp_a h a 0) :: S) h := pX_get d604_9 rfl rfl hk
theorem x604_12 {L S : List Value} {h : HP} : pX 604 12 L S h = pX 604 13 L (.int 4 :: S) h := pX_iconst d604_12 (by decide)
theorem x604_13 {L S : List Value} {h : HP} {a : Nat} {j : Int32} (hk : hp_k h a = 100) (hj : inb j (hp_l h a) = true) : pX 604 13 L (.int j :: .ref a :: S) h = pX 604 14 L (.int (hp_i h a (ix j)) :: S) h := pX_ild d604_13 hk hj
theorem x604_14 {L S : List Value} {h : HP} {x : Int32} : pX 604 14 L (.int x :: S) h = pX 604 15 L (.long x.toInt64 :: S) h := pX_stp d604_14 rfl rfl rfl
theorem x604_15 {S : List Value} {h : HP} {l0 : Value} {x0 : Int32} : pX 604 15 [l0, .int x0] S h = pX 604 16 [l0, .int x0] (.int x0 :: S) h := pX_stp d604_15 rfl rfl rfl
theorem x604_16 {L S : List Value} {h : HP} {x : Int32} : pX 604 16 L (.int x :: S) h = pX 604 17 L (.long x.toInt64 :: S) h := pX_stp d604_16 rfl rfl rfl
theorem x604_17 {L S : List Value} {h : HP} {x y : Int64} : pX 604 17 L (.long y :: .long x :: S) h = pX 604 18 L (.long (x * y) :: S) h := pX_stp d604_17 rfl rfl rfl
theorem x604_18 {L S : List Value} {h : HP} {x y : Int64} : pX 604 18 L (.long y :: .long x :: S) h = pX 604 19 L (.long (x + y) :: S) h := pX_stp d604_18 rfl rfl rfl
theorem x604_19 {L : List Value} {h : HP} {z0 : Int64} {a0 : Nat} (hk : hp_k h a0 = 7) : pX 604 19 L [.long z0, .ref a0] h = (pX 602 0 [.ref a0, .long z0, .retAddr 0] [] h).bind (fun q => pX 604 22 L (q.1.toList ++ []) q.2) := pX_inv (a := a0) (t := 7) 602 [.ref a0, .long z0] [] d604_19 rfl rfl rfl hk
theorem x604_22 {L S : List Value} {h : HP} {x : Int32} : pX 604 22 L (.int x :: S) h = if x = 0 then pX 604 25 L S h else pX 604 27 L S h := pX_if_ne d604_22 (by decide)
theorem x604_25 {L S : List Value} {h : HP} : pX 604 25 L S h = pX 604 26 L (.int 0 :: S) h := pX_iconst d604_25 (by decide)
theorem x604_26 {L : List Value} {h : HP} {x : Int32} (hx : x = 0 ∨ x = 1) : pX 604 26 L [.int x] h = some (some (.int x), h) := pX_ret d604_26 (by rcases hx with rfl | rfl <;> rfl)
theorem x604_27 {S : List Value} {h : HP} {l1 : Value} {a0 : Nat} : pX 604 27 [.ref a0, l1] S h = pX 604 28 [.ref a0, l1] (.ref a0 :: S) h := pX_stp d604_27 rfl rfl rfl
theorem x604_28 {L S : List Value} {h : HP} {a : Nat} (hk : hp_k h a = 7) : pX 604 28 L (.ref a :: S) h = pX 604 31 L (.ref (hp_a h a 1) :: S) h := pX_get d604_28 rfl rfl hk
theorem x604_31 {L S : List Value} {h : HP} : pX 604 31 L S h = pX 604 32 L (.int 4 :: S) h := pX_iconst d604_31 (by decide)
theorem x604_32 {L S : List Value} {h : HP} {x0 : Int32} {a0 : Nat} : pX 604 32 L (.int x0 :: .ref a0 :: S) h = pX 604 33 L (.int x0 :: .ref a0 :: .int x0 :: .ref a0 :: S) h := pX_stp d604_32 rfl rfl rfl
theorem x604_33 {L S : List Value} {h : HP} {a : Nat} {j : Int32} (hk : hp_k h a = 100) (hj : inb j (hp_l h a) = true) : pX 604 33 L (.int j :: .ref a :: S) h = pX 604 34 L (.int (hp_i h a (ix j)) :: S) h := pX_ild d604_33 hk hj
theorem x604_34 {L S : List Value} {h : HP} : pX 604 34 L S h = pX 604 35 L (.int 1 :: S) h := pX_iconst d604_34 (by decide)
theorem x604_35 {L S : List Value} {h : HP} {x y : Int32} : pX 604 35 L (.int y :: .int x :: S) h = pX 604 36 L (.int (x + y) :: S) h := pX_stp d604_35 rfl rfl rfl
theorem x604_36 {L S : List Value} {h : HP} {a : Nat} {j x : Int32} (hk : hp_k h a = 100) (hj : inb j (hp_l h a) = true) : pX 604 36 L (.int x :: .int j :: .ref a :: S) h = pX 604 37 L S (hp_wi h a (ix j) x) := pX_ist d604_36 hk hj
theorem x604_37 {S : List Value} {h : HP} {l1 : Value} {a0 : Nat} : pX 604 37 [.ref a0, l1] S h = pX 604 38 [.ref a0, l1] (.ref a0 :: S) h := pX_stp d604_37 rfl rfl rfl
theorem x604_38 {L S : List Value} {h : HP} {a : Nat} (hk : hp_k h a = 7) : pX 604 38 L (.ref a :: S) h = pX 604 41 L (.ref (hp_a h a 1) :: S) h := pX_get d604_38 rfl rfl hk
theorem x604_41 {L S : List Value} {h : HP} : pX 604 41 L S h = pX 604 42 L (.int 5 :: S) h := pX_iconst d604_41 (by decide)
theorem x604_42 {L S : List Value} {h : HP} {x0 : Int32} {a0 : Nat} : pX 604 42 L (.int x0 :: .ref a0 :: S) h = pX 604 43 L (.int x0 :: .ref a0 :: .int x0 :: .ref a0 :: S) h := pX_stp d604_42 rfl rfl rfl
theorem x604_43 {L S : List Value} {h : HP} {a : Nat} {j : Int32} (hk : hp_k h a = 100) (hj : inb j (hp_l h a) = true) : pX 604 43 L (.int j :: .ref a :: S) h = pX 604 44 L (.int (hp_i h a (ix j)) :: S) h := pX_ild d604_43 hk hj
theorem x604_44 {S : List Value} {h : HP} {l0 : Value} {x0 : Int32} : pX 604 44 [l0, .int x0] S h = pX 604 45 [l0, .int x0] (.int x0 :: S) h := pX_stp d604_44 rfl rfl rfl
theorem x604_45 {L S : List Value} {h : HP} {x y : Int32} : pX 604 45 L (.int y :: .int x :: S) h = pX 604 46 L (.int (x + y) :: S) h := pX_stp d604_45 rfl rfl rfl
theorem x604_46 {L S : List Value} {h : HP} {a : Nat} {j x : Int32} (hk : hp_k h a = 100) (hj : inb j (hp_l h a) = true) : pX 604 46 L (.int x :: .int j :: .ref a :: S) h = pX 604 47 L S (hp_wi h a (ix j) x) := pX_ist d604_46 hk hj
theorem x604_47 {L S : List Value} {h : HP} : pX 604 47 L S h = pX 604 48 L (.int 1 :: S) h := pX_iconst d604_47 (by decide)
theorem x604_48 {L : List Value} {h : HP} {x : Int32} (hx : x = 0 ∨ x = 1) : pX 604 48 L [.int x] h = some (some (.int x), h) := pX_ret d604_48 (by rcases hx with rfl | rfl <;> rfl)
theorem d700_0 : decode (mb 700) 0 = .ok (.aload_n 0, 1) := by decide +kernel
theorem d700_1 : decode (mb 700) 1 = .ok (.invokespecial 3, 3) := by decide +kernel
theorem d700_4 : decode (mb 700) 4 = .ok (.aload_n 0, 1) := by decide +kernel
theorem d700_5 : decode (mb 700) 5 = .ok (.iload_n 1, 1) := by decide +kernel
theorem d700_6 : decode (mb 700) 6 = .ok (.putfield 9, 3) := by decide +kernel
theorem d700_9 : decode (mb 700) 9 = .ok (.aload_n 0, 1) := by decide +kernel
theorem d700_10 : decode (mb 700) 10 = .ok (.iload_n 2, 1) := by decide +kernel
theorem d700_11 : decode (mb 700) 11 = .ok (.iconst 0, 1) := by decide +kernel
theorem d700_12 : decode (mb 700) 12 = .ok (.invokestatic 15, 3) := by decide +kernel
theorem d700_15 : decode (mb 700) 15 = .ok (.putfield 21, 3) := by decide +kernel
theorem d700_18 : decode (mb 700) 18 = .ok (.aload_n 0, 1) := by decide +kernel
theorem d700_19 : decode (mb 700) 19 = .ok (.iload_n 1, 1) := by decide +kernel
theorem d700_20 : decode (mb 700) 20 = .ok (.iconst 4, 1) := by decide +kernel
theorem d700_21 : decode (mb 700) 21 = .ok (.if_icmp .ne 7, 3) := by decide +kernel
theorem d700_24 : decode (mb 700) 24 = .ok (.iconst 0, 1) := by decide +kernel
theorem d700_25 : decode (mb 700) 25 = .ok (.goto 7, 3) := by decide +kernel
theorem d700_28 : decode (mb 700) 28 = .ok (.aload_n 0, 1) := by decide +kernel
theorem d700_29 : decode (mb 700) 29 = .ok (.getfield 21, 3) := by decide +kernel
theorem d700_32 : decode (mb 700) 32 = .ok (.newarray .int, 2) := by decide +kernel
theorem d700_34 : decode (mb 700) 34 = .ok (.putfield 24, 3) := by decide +kernel
theorem d700_37 : decode (mb 700) 37 = .ok (.aload_n 0, 1) := by decide +kernel
theorem d700_38 : decode (mb 700) 38 = .ok (.iload_n 1, 1) := by decide +kernel
theorem d700_39 : decode (mb 700) 39 = .ok (.iconst 4, 1) := by decide +kernel
theorem d700_40 : decode (mb 700) 40 = .ok (.if_icmp .ne 10, 3) := by decide +kernel
theorem d700_43 : decode (mb 700) 43 = .ok (.aload_n 0, 1) := by decide +kernel
theorem d700_44 : decode (mb 700) 44 = .ok (.getfield 21, 3) := by decide +kernel
theorem d700_47 : decode (mb 700) 47 = .ok (.goto 4, 3) := by decide +kernel
theorem d700_50 : decode (mb 700) 50 = .ok (.iconst 0, 1) := by decide +kernel
theorem d700_51 : decode (mb 700) 51 = .ok (.anewarray 10, 3) := by decide +kernel
theorem d700_54 : decode (mb 700) 54 = .ok (.putfield 28, 3) := by decide +kernel
theorem d700_57 : decode (mb 700) 57 = .ok (.return_, 1) := by decide +kernel
theorem x700_0 {S : List Value} {h : HP} {l1 l2 : Value} {a0 : Nat} : pX 700 0 [.ref a0, l1, l2] S h = pX 700 1 [.ref a0, l1, l2] (.ref a0 :: S) h := pX_stp d700_0 rfl rfl rfl
theorem x700_1 {L : List Value} {h : HP} {a0 : Nat} (ha : ¬ a0 = 0) : pX 700 1 L [.ref a0] h = pX 700 4 L [] h := pX_oinit d700_1 rfl (Nat.le_of_ble_eq_true rfl) ha
theorem x700_4 {S : List Value} {h : HP} {l1 l2 : Value} {a0 : Nat} : pX 700 4 [.ref a0, l1, l2] S h = pX 700 5 [.ref a0, l1, l2] (.ref a0 :: S) h := pX_stp d700_4 rfl rfl rfl
theorem x700_5 {S : List Value} {h : HP} {l0 l2 : Value} {x0 : Int32} : pX 700 5 [l0, .int x0, l2] S h = pX 700 6 [l0, .int x0, l2] (.int x0 :: S) h := pX_stp d700_5 rfl rfl rfl
theorem x700_6 {L S : List Value} {h : HP} {a : Nat} {x : Int32} (hk : hp_k h a = 8) : pX 700 6 L (.int x :: .ref a :: S) h = pX 700 9 L S (hp_wi h a 0 x) := pX_put d700_6 rfl rfl rfl hk
theorem x700_9 {S : List Value} {h : HP} {l1 l2 : Value} {a0 : Nat} : pX 700 9 [.ref a0, l1, l2] S h = pX 700 10 [.ref a0, l1, l2] (.ref a0 :: S) h := pX_stp d700_9 rfl rfl rfl
theorem x700_10 {S : List Value} {h : HP} {l0 l1 : Value} {x0 : Int32} : pX 700 10 [l0, l1, .int x0] S h = pX 700 11 [l0, l1, .int x0] (.int x0 :: S) h := pX_stp d700_10 rfl rfl rfl
theorem x700_11 {L S : List Value} {h : HP} : pX 700 11 L S h = pX 700 12 L (.int 0 :: S) h := pX_iconst d700_11 (by decide)
theorem x700_12 {L : List Value} {h : HP} {x0 : Int32} {x1 : Int32} {a0 : Nat} : pX 700 12 L [.int x0, .int x1, .ref a0] h = pX 700 15 L [.int (if x1 < x0 then x0 else x1), .ref a0] h := pX_max d700_12 rfl (Nat.le_of_ble_eq_true rfl)
theorem x700_15 {L S : List Value} {h : HP} {a : Nat} {x : Int32} (hk : hp_k h a = 8) : pX 700 15 L (.int x :: .ref a :: S) h = pX 700 18 L S (hp_wi h a 1 x) := pX_put d700_15 rfl rfl rfl hk
theorem x700_18 {S : List Value} {h : HP} {l1 l2 : Value} {a0 : Nat} : pX 700 18 [.ref a0, l1, l2] S h = pX 700 19 [.ref a0, l1, l2] (.ref a0 :: S) h := pX_stp d700_18 rfl rfl rfl
theorem x700_19 {S : List Value} {h : HP} {l0 l2 : Value} {x0 : Int32} : pX 700 19 [l0, .int x0, l2] S h = pX 700 20 [l0, .int x0, l2] (.int x0 :: S) h := pX_stp d700_19 rfl rfl rfl
theorem x700_20 {L S : List Value} {h : HP} : pX 700 20 L S h = pX 700 21 L (.int 4 :: S) h := pX_iconst d700_20 (by decide)
theorem x700_21 {L S : List Value} {h : HP} {x y : Int32} : pX 700 21 L (.int y :: .int x :: S) h = if x = y then pX 700 24 L S h else pX 700 28 L S h := pX_icmp_ne d700_21 (by decide)
theorem x700_24 {L S : List Value} {h : HP} : pX 700 24 L S h = pX 700 25 L (.int 0 :: S) h := pX_iconst d700_24 (by decide)
theorem x700_25 {L S : List Value} {h : HP} : pX 700 25 L S h = pX 700 32 L S h := pX_goto d700_25 (by decide)
theorem x700_28 {S : List Value} {h : HP} {l1 l2 : Value} {a0 : Nat} : pX 700 28 [.ref a0, l1, l2] S h = pX 700 29 [.ref a0, l1, l2] (.ref a0 :: S) h := pX_stp d700_28 rfl rfl rfl
theorem x700_29 {L S : List Value} {h : HP} {a : Nat} (hk : hp_k h a = 8) : pX 700 29 L (.ref a :: S) h = pX 700 32 L (.int (hp_i h a 1) :: S) h := pX_get d700_29 rfl rfl hk
theorem x700_32 {L S : List Value} {h : HP} {j : Int32} (h0 : 0 ≤ j) (h1 : ix j ≤ 134217728) : pX 700 32 L (.int j :: S) h = pX 700 34 L (.ref (hp_n h) :: S) (hp_mk h 100 (ix j) (ix j)) := pX_newa d700_32 h0 h1
theorem x700_34 {L S : List Value} {h : HP} {a b : Nat} (hk : hp_k h a = 8) : pX 700 34 L (.ref b :: .ref a :: S) h = pX 700 37 L S (hp_wa h a 2 b) := pX_put d700_34 rfl rfl rfl hk
theorem x700_37 {S : List Value} {h : HP} {l1 l2 : Value} {a0 : Nat} : pX 700 37 [.ref a0, l1, l2] S h = pX 700 38 [.ref a0, l1, l2] (.ref a0 :: S) h := pX_stp d700_37 rfl rfl rfl
theorem x700_38 {S : List Value} {h : HP} {l0 l2 : Value} {x0 : Int32} : pX 700 38 [l0, .int x0, l2] S h = pX 700 39 [l0, .int x0, l2] (.int x0 :: S) h := pX_stp d700_38 rfl rfl rfl
theorem x700_39 {L S : List Value} {h : HP} : pX 700 39 L S h = pX 700 40 L (.int 4 :: S) h := pX_iconst d700_39 (by decide)
theorem x700_40 {L S : List Value} {h : HP} {x y : Int32} : pX 700 40 L (.int y :: .int x :: S) h = if x = y then pX 700 43 L S h else pX 700 50 L S h := pX_icmp_ne d700_40 (by decide)
theorem x700_43 {S : List Value} {h : HP} {l1 l2 : Value} {a0 : Nat} : pX 700 43 [.ref a0, l1, l2] S h = pX 700 44 [.ref a0, l1, l2] (.ref a0 :: S) h := pX_stp d700_43 rfl rfl rfl
theorem x700_44 {L S : List Value} {h : HP} {a : Nat} (hk : hp_k h a = 8) : pX 700 44 L (.ref a :: S) h = pX 700 47 L (.int (hp_i h a 1) :: S) h := pX_get d700_44 rfl rfl hk
theorem x700_47 {L S : List Value} {h : HP} : pX 700 47 L S h = pX 700 51 L S h := pX_goto d700_47 (by decide)
theorem x700_50 {L S : List Value} {h : HP} : pX 700 50 L S h = pX 700 51 L (.int 0 :: S) h := pX_iconst d700_50 (by decide)
theorem x700_51 {L S : List Value} {h : HP} {j : Int32} (h0 : 0 ≤ j) (h1 : ix j ≤ 134217728) : pX 700 51 L (.int j :: S) h = pX 700 54 L (.ref (hp_n h) :: S) (hp_mk h 207 (ix j) (ix j)) := pX_anew d700_51 rfl rfl h0 h1
theorem x700_54 {L S : List Value} {h : HP} {a b : Nat} (hk : hp_k h a = 8) : pX 700 54 L (.ref b :: .ref a :: S) h = pX 700 57 L S (hp_wa h a 3 b) := pX_put d700_54 rfl rfl rfl hk
theorem x700_57 {L : List Value} {h : HP} : pX 700 57 L [] h = some (none, h) := pX_ret d700_57 rfl
theorem d701_0 : decode (mb 701) 0 = .ok (.iload_n 1, 1) := by decide +kernel
theorem d701_1 : decode (mb 701) 1 = .ok (.ifCond .lt 11, 3) := by decide +kernel
theorem d701_4 : decode (mb 701) 4 = .ok (.iload_n 1, 1) := by decide +kernel
theorem d701_5 : decode (mb 701) 5 = .ok (.aload_n 0, 1) := by decide +kernel
theorem d701_6 : decode (mb 701) 6 = .ok (.getfield 21, 3) := by decide +kernel
theorem d701_9 : decode (mb 701) 9 = .ok (.if_icmp .lt 7, 3) := by decide +kernel
theorem d701_12 : decode (mb 701) 12 = .ok (.iconst 1, 1) := by decide +kernel
theorem d701_13 : decode (mb 701) 13 = .ok (.goto 4, 3) := by decide +kernel
theorem d701_16 : decode (mb 701) 16 = .ok (.iconst 0, 1) := by decide +kernel
theorem d701_17 : decode (mb 701) 17 = .ok (.ireturn, 1) := by decide +kernel
theorem x701_0 {S : List Value} {h : HP} {l0 : Value} {x0 : Int32} : pX 701 0 [l0, .int x0] S h = pX 701 1 [l0, .int x0] (.int x0 :: S) h := pX_stp d701_0 rfl rfl rfl
theorem x701_1 {L S : List Value} {h : HP} {x : Int32} : pX 701 1 L (.int x :: S) h = if x < 0 then pX 701 12 L S h else pX 701 4 L S h := pX_if_lt d701_1 (by decide)
theorem x701_4 {S : List Value} {h : HP} {l0 : Value} {x0 : Int32} : pX 701 4 [l0, .int x0] S h = pX 701 5 [l0, .int x0] (.int x0 :: S) h := pX_stp d701_4 rfl rfl rfl
theorem x701_5 {S : List Value} {h : HP} {l1 : Value} {a0 : Nat} : pX 701 5 [.ref a0, l1] S h = pX 701 6 [.ref a0, l1] (.ref a0 :: S) h := pX_stp d701_5 rfl rfl rfl
theorem x701_6 {L S : List Value} {h : HP} {a : Nat} (hk : hp_k h a = 8) : pX 701 6 L (.ref a :: S) h = pX 701 9 L (.int (hp_i h a 1) :: S) h := pX_get d701_6 rfl rfl hk
theorem x701_9 {L S : List Value} {h : HP} {x y : Int32} : pX 701 9 L (.int y :: .int x :: S) h = if x < y then pX 701 16 L S h else pX 701 12 L S h := pX_icmp_lt d701_9 (by decide)
theorem x701_12 {L S : List Value} {h : HP} : pX 701 12 L S h = pX 701 13 L (.int 1 :: S) h := pX_iconst d701_12 (by decide)
theorem x701_13 {L S : List Value} {h : HP} : pX 701 13 L S h = pX 701 17 L S h := pX_goto d701_13 (by decide)
theorem x701_16 {L S : List Value} {h : HP} : pX 701 16 L S h = pX 701 17 L (.int 0 :: S) h := pX_iconst d701_16 (by decide)
theorem x701_17 {L : List Value} {h : HP} {x : Int32} (hx : x = 0 ∨ x = 1) : pX 701 17 L [.int x] h = some (some (.int x), h) := pX_ret d701_17 (by rcases hx with rfl | rfl <;> rfl)
theorem d702_0 : decode (mb 702) 0 = .ok (.aload_n 0, 1) := by decide +kernel
theorem d702_1 : decode (mb 702) 1 = .ok (.getfield 9, 3) := by decide +kernel
theorem d702_4 : decode (mb 702) 4 = .ok (.iconst 1, 1) := by decide +kernel
theorem d702_5 : decode (mb 702) 5 = .ok (.if_icmp .ne 6, 3) := by decide +kernel
theorem d702_8 : decode (mb 702) 8 = .ok (.iload_n 1, 1) := by decide +kernel
theorem d702_9 : decode (mb 702) 9 = .ok (.i2b, 1) := by decide +kernel
theorem d702_10 : decode (mb 702) 10 = .ok (.ireturn, 1) := by decide +kernel
theorem d702_11 : decode (mb 702) 11 = .ok (.aload_n 0, 1) := by decide +kernel
theorem d702_12 : decode (mb 702) 12 = .ok (.getfield 9, 3) := by decide +kernel
theorem d702_15 : decode (mb 702) 15 = .ok (.iconst 2, 1) := by decide +kernel
theorem d702_16 : decode (mb 702) 16 = .ok (.if_icmp .ne 10, 3) := by decide +kernel
theorem d702_19 : decode (mb 702) 19 = .ok (.iload_n 1, 1) := by decide +kernel
theorem d702_20 : decode (mb 702) 20 = .ok (.ldc 32, 2) := by decide +kernel
theorem d702_22 : decode (mb 702) 22 = .ok (.iand, 1) := by decide +kernel
theorem d702_23 : decode (mb 702) 23 = .ok (.goto 4, 3) := by decide +kernel
theorem d702_26 : decode (mb 702) 26 = .ok (.iload_n 1, 1) := by decide +kernel
theorem d702_27 : decode (mb 702) 27 = .ok (.ireturn, 1) := by decide +kernel
theorem x702_0 {S : List Value} {h : HP} {l1 : Value} {a0 : Nat} : pX 702 0 [.ref a0, l1] S h = pX 702 1 [.ref a0, l1] (.ref a0 :: S) h := pX_stp d702_0 rfl rfl rfl
theorem x702_1 {L S : List Value} {h : HP} {a : Nat} (hk : hp_k h a = 8) : pX 702 1 L (.ref a :: S) h = pX 702 4 L (.int (hp_i h a 0) :: S) h := pX_get d702_1 rfl rfl hk
theorem x702_4 {L S : List Value} {h : HP} : pX 702 4 L S h = pX 702 5 L (.int 1 :: S) h := pX_iconst d702_4 (by decide)
theorem x702_5 {L S : List Value} {h : HP} {x y : Int32} : pX 702 5 L (.int y :: .int x :: S) h = if x = y then pX 702 8 L S h else pX 702 11 L S h := pX_icmp_ne d702_5 (by decide)
theorem x702_8 {S : List Value} {h : HP} {l0 : Value} {x0 : Int32} : pX 702 8 [l0, .int x0] S h = pX 702 9 [l0, .int x0] (.int x0 :: S) h := pX_stp d702_8 rfl rfl rfl
theorem x702_9 {L S : List Value} {h : HP} {x : Int32} : pX 702 9 L (.int x :: S) h = pX 702 10 L (.int x.toInt8.toInt32 :: S) h := pX_stp d702_9 rfl rfl rfl
theorem x702_10 {L : List Value} {h : HP} {x : Int32} : pX 702 10 L [.int x] h = some (some (.int x), h) := pX_ret d702_10 rfl
theorem x702_11 {S : List Value} {h : HP} {l1 : Value} {a0 : Nat} : pX 702 11 [.ref a0, l1] S h = pX 702 12 [.ref a0, l1] (.ref a0 :: S) h := pX_stp d702_11 rfl rfl rfl
theorem x702_12 {L S : List Value} {h : HP} {a : Nat} (hk : hp_k h a = 8) : pX 702 12 L (.ref a :: S) h = pX 702 15 L (.int (hp_i h a 0) :: S) h := pX_get d702_12 rfl rfl hk
theorem x702_15 {L S : List Value} {h : HP} : pX 702 15 L S h = pX 702 16 L (.int 2 :: S) h := pX_iconst d702_15 (by decide)
theorem x702_16 {L S : List Value} {h : HP} {x y : Int32} : pX 702 16 L (.int y :: .int x :: S) h = if x = y then pX 702 19 L S h else pX 702 26 L S h := pX_icmp_ne d702_16 (by decide)
theorem x702_19 {S : List Value} {h : HP} {l0 : Value} {x0 : Int32} : pX 702 19 [l0, .int x0] S h = pX 702 20 [l0, .int x0] (.int x0 :: S) h := pX_stp d702_19 rfl rfl rfl
theorem x702_20 {L S : List Value} {h : HP} : pX 702 20 L S h = pX 702 22 L (.int 65535 :: S) h := pX_ldc d702_20 rfl
theorem x702_22 {L S : List Value} {h : HP} {x y : Int32} : pX 702 22 L (.int y :: .int x :: S) h = pX 702 23 L (.int (x &&& y) :: S) h := pX_stp d702_22 rfl rfl rfl
theorem x702_23 {L S : List Value} {h : HP} : pX 702 23 L S h = pX 702 27 L S h := pX_goto d702_23 (by decide)
theorem x702_26 {S : List Value} {h : HP} {l0 : Value} {x0 : Int32} : pX 702 26 [l0, .int x0] S h = pX 702 27 [l0, .int x0] (.int x0 :: S) h := pX_stp d702_26 rfl rfl rfl
theorem x702_27 {L : List Value} {h : HP} {x : Int32} : pX 702 27 L [.int x] h = some (some (.int x), h) := pX_ret d702_27 rfl
theorem d703_0 : decode (mb 703) 0 = .ok (.aload_n 0, 1) := by decide +kernel
theorem d703_1 : decode (mb 703) 1 = .ok (.getfield 9, 3) := by decide +kernel
theorem d703_4 : decode (mb 703) 4 = .ok (.iconst 4, 1) := by decide +kernel
theorem d703_5 : decode (mb 703) 5 = .ok (.if_icmp .eq 8, 3) := by decide +kernel
theorem d703_8 : decode (mb 703) 8 = .ok (.aload_n 1, 1) := by decide +kernel
theorem d703_9 : decode (mb 703) 9 = .ok (.invokevirtual 33, 3) := by decide +kernel
theorem d703_12 : decode (mb 703) 12 = .ok (.ireturn, 1) := by decide +kernel
theorem d703_13 : decode (mb 703) 13 = .ok (.aload_n 1, 1) := by decide +kernel
theorem d703_14 : decode (mb 703) 14 = .ok (.invokevirtual 39, 3) := by decide +kernel
theorem d703_17 : decode (mb 703) 17 = .ok (.ifCond .ne 11, 3) := by decide +kernel
theorem d703_20 : decode (mb 703) 20 = .ok (.aload_n 1, 1) := by decide +kernel
theorem d703_21 : decode (mb 703) 21 = .ok (.getfield 43, 3) := by decide +kernel
theorem d703_24 : decode (mb 703) 24 = .ok (.iconst 5, 1) := by decide +kernel
theorem d703_25 : decode (mb 703) 25 = .ok (.if_icmp .ne 7, 3) := by decide +kernel
theorem d703_28 : decode (mb 703) 28 = .ok (.iconst 0, 1) := by decide +kernel
theorem d703_29 : decode (mb 703) 29 = .ok (.goto 4, 3) := by decide +kernel
theorem d703_32 : decode (mb 703) 32 = .ok (.iconst 3, 1) := by decide +kernel
theorem d703_33 : decode (mb 703) 33 = .ok (.ireturn, 1) := by decide +kernel
theorem x703_0 {S : List Value} {h : HP} {l1 : Value} {a0 : Nat} : pX 703 0 [.ref a0, l1] S h = pX 703 1 [.ref a0, l1] (.ref a0 :: S) h := pX_stp d703_0 rfl rfl rfl
theorem x703_1 {L S : List Value} {h : HP} {a : Nat} (hk : hp_k h a = 8) : pX 703 1 L (.ref a :: S) h = pX 703 4 L (.int (hp_i h a 0) :: S) h := pX_get d703_1 rfl rfl hk
theorem x703_4 {L S : List Value} {h : HP} : pX 703 4 L S h = pX 703 5 L (.int 4 :: S) h := pX_iconst d703_4 (by decide)
theorem x703_5 {L S : List Value} {h : HP} {x y : Int32} : pX 703 5 L (.int y :: .int x :: S) h = if x = y then pX 703 13 L S h else pX 703 8 L S h := pX_icmp_eq d703_5 (by decide)
theorem x703_8 {S : List Value} {h : HP} {l0 : Value} {a0 : Nat} : pX 703 8 [l0, .ref a0] S h = pX 703 9 [l0, .ref a0] (.ref a0 :: S) h := pX_stp d703_8 rfl rfl rfl
theorem x703_9 {L : List Value} {h : HP} {a0 : Nat} (hk : hp_k h a0 = 9) : pX 703 9 L [.ref a0] h = (pX 811 0 [.ref a0] [] h).bind (fun q => pX 703 12 L (q.1.toList ++ []) q.2) := pX_inv (a := a0) (t := 9) 811 [.ref a0] [] d703_9 rfl rfl rfl hk
theorem x703_12 {L : List Value} {h : HP} {x : Int32} : pX 703 12 L [.int x] h = some (some (.int x), h) := pX_ret d703_12 rfl
theorem x703_13 {S : List Value} {h : HP} {l0 : Value} {a0 : Nat} : pX 703 13 [l0, .ref a0] S h = pX 703 14 [l0, .ref a0] (.ref a0 :: S) h := pX_stp d703_13 rfl rfl rfl
theorem x703_14 {L : List Value} {h : HP} {a0 : Nat} (hk : hp_k h a0 = 9) : pX 703 14 L [.ref a0] h = (pX 806 0 [.ref a0] [] h).bind (fun q => pX 703 17 L (q.1.toList ++ []) q.2) := pX_inv (a := a0) (t := 9) 806 [.ref a0] [] d703_14 rfl rfl rfl hk
theorem x703_17 {L S : List Value} {h : HP} {x : Int32} : pX 703 17 L (.int x :: S) h = if x = 0 then pX 703 20 L S h else pX 703 28 L S h := pX_if_ne d703_17 (by decide)
theorem x703_20 {S : List Value} {h : HP} {l0 : Value} {a0 : Nat} : pX 703 20 [l0, .ref a0] S h = pX 703 21 [l0, .ref a0] (.ref a0 :: S) h := pX_stp d703_20 rfl rfl rfl
theorem x703_21 {L S : List Value} {h : HP} {a : Nat} (hk : hp_k h a = 9) : pX 703 21 L (.ref a :: S) h = pX 703 24 L (.int (hp_i h a 0) :: S) h := pX_get d703_21 rfl rfl hk
theorem x703_24 {L S : List Value} {h : HP} : pX 703 24 L S h = pX 703 25 L (.int 5 :: S) h := pX_iconst d703_24 (by decide)
theorem x703_25 {L S : List Value} {h : HP} {x y : Int32} : pX 703 25 L (.int y :: .int x :: S) h = if x = y then pX 703 28 L S h else pX 703 32 L S h := pX_icmp_ne d703_25 (by decide)
theorem x703_28 {L S : List Value} {h : HP} : pX 703 28 L S h = pX 703 29 L (.int 0 :: S) h := pX_iconst d703_28 (by decide)
theorem x703_29 {L S : List Value} {h : HP} : pX 703 29 L S h = pX 703 33 L S h := pX_goto d703_29 (by decide)
theorem x703_32 {L S : List Value} {h : HP} : pX 703 32 L S h = pX 703 33 L (.int 3 :: S) h := pX_iconst d703_32 (by decide)
theorem x703_33 {L : List Value} {h : HP} {x : Int32} : pX 703 33 L [.int x] h = some (some (.int x), h) := pX_ret d703_33 rfl
theorem d704_0 : decode (mb 704) 0 = .ok (.aload_n 0, 1) := by decide +kernel
theorem d704_1 : decode (mb 704) 1 = .ok (.getfield 9, 3) := by decide +kernel
theorem d704_4 : decode (mb 704) 4 = .ok (.iconst 4, 1) := by decide +kernel
theorem d704_5 : decode (mb 704) 5 = .ok (.if_icmp .ne 16, 3) := by decide +kernel
theorem d704_8 : decode (mb 704) 8 = .ok (.aload_n 0, 1) := by decide +kernel
theorem d704_9 : decode (mb 704) 9 = .ok (.getfield 28, 3) := by decide +kernel
theorem d704_12 : decode (mb 704) 12 = .ok (.iload_n 2, 1) := by decide +kernel
theorem d704_13 : decode (mb 704) 13 = .ok (.aload_n 1, 1) := by decide +kernel
theorem d704_14 : decode (mb 704) 14 = .ok (.getfield 46, 3) := by decide +kernel
theorem d704_17 : decode (mb 704) 17 = .ok (.aastore, 1) := by decide +kernel
theorem d704_18 : decode (mb 704) 18 = .ok (.goto 17, 3) := by decide +kernel
theorem d704_21 : decode (mb 704) 21 = .ok (.aload_n 0, 1) := by decide +kernel
theorem d704_22 : decode (mb 704) 22 = .ok (.getfield 24, 3) := by decide +kernel
theorem d704_25 : decode (mb 704) 25 = .ok (.iload_n 2, 1) := by decide +kernel
theorem d704_26 : decode (mb 704) 26 = .ok (.aload_n 0, 1) := by decide +kernel
theorem d704_27 : decode (mb 704) 27 = .ok (.aload_n 1, 1) := by decide +kernel
theorem d704_28 : decode (mb 704) 28 = .ok (.getfield 50, 3) := by decide +kernel
theorem d704_31 : decode (mb 704) 31 = .ok (.invokevirtual 53, 3) := by decide +kernel
theorem d704_34 : decode (mb 704) 34 = .ok (.iastore, 1) := by decide +kernel
theorem d704_35 : decode (mb 704) 35 = .ok (.return_, 1) := by decide +kernel
theorem x704_0 {S : List Value} {h : HP} {l1 l2 : Value} {a0 : Nat} : pX 704 0 [.ref a0, l1, l2] S h = pX 704 1 [.ref a0, l1, l2] (.ref a0 :: S) h := pX_stp d704_0 rfl rfl rfl
theorem x704_1 {L S : List Value} {h : HP} {a : Nat} (hk : hp_k h a = 8) : pX 704 1 L (.ref a :: S) h = pX 704 4 L (.int (hp_i h a 0) :: S) h := pX_get d704_1 rfl rfl hk
theorem x704_4 {L S : List Value} {h : HP} : pX 704 4 L S h = pX 704 5 L (.int 4 :: S) h := pX_iconst d704_4 (by decide)
theorem x704_5 {L S : List Value} {h : HP} {x y : Int32} : pX 704 5 L (.int y :: .int x :: S) h = if x = y then pX 704 8 L S h else pX 704 21 L S h := pX_icmp_ne d704_5 (by decide)
theorem x704_8 {S : List Value} {h : HP} {l1 l2 : Value} {a0 : Nat} : pX 704 8 [.ref a0, l1, l2] S h = pX 704 9 [.ref a0, l1, l2] (.ref a0 :: S) h := pX_stp d704_8 rfl rfl rfl
theorem x704_9 {L S : List Value} {h : HP} {a : Nat} (hk : hp_k h a = 8) : pX 704 9 L (.ref a :: S) h = pX 704 12 L (.ref (hp_a h a 3) :: S) h := pX_get d704_9 rfl rfl hk
theorem x704_12 {S : List Value} {h : HP} {l0 l1 : Value} {x0 : Int32} : pX 704 12 [l0, l1, .int x0] S h = pX 704 13 [l0, l1, .int x0] (.int x0 :: S) h := pX_stp d704_12 rfl rfl rfl
theorem x704_13 {S : List Value} {h : HP} {l0 l2 : Value} {a0 : Nat} : pX 704 13 [l0, .ref a0, l2] S h = pX 704 14 [l0, .ref a0, l2] (.ref a0 :: S) h := pX_stp d704_13 rfl rfl rfl
theorem x704_14 {L S : List Value} {h : HP} {a : Nat} (hk : hp_k h a = 9) : pX 704 14 L (.ref a :: S) h = pX 704 17 L (.ref (hp_a h a 3) :: S) h := pX_get d704_14 rfl rfl hk
theorem x704_17 {L S : List Value} {h : HP} {a b : Nat} {j : Int32} (hk : 200 ≤ hp_k h a) (hb : b = 0 ∨ hp_k h b + 199 = hp_k h a) (hj : inb j (hp_l h a) = true) : pX 704 17 L (.ref b :: .int j :: .ref a :: S) h = pX 704 18 L S (hp_wa h a (ix j) b) := pX_ast d704_17 hk hb hj
theorem x704_18 {L S : List Value} {h : HP} : pX 704 18 L S h = pX 704 35 L S h := pX_goto d704_18 (by decide)
theorem x704_21 {S : List Value} {h : HP} {l1 l2 : Value} {a0 : Nat} : pX 704 21 [.ref a0, l1, l2] S h = pX 704 22 [.ref a0, l1, l2] (.ref a0 :: S) h := pX_stp d704_21 rfl rfl rfl
theorem x704_22 {L S : List Value} {h : HP} {a : Nat} (hk : hp_k h a = 8) : pX 704 22 L (.ref a :: S) h = pX 704 25 L (.ref (hp_a h a 2) :: S) h := pX_get d704_22 rfl rfl hk
theorem x704_25 {S : List Value} {h : HP} {l0 l1 : Value} {x0 : Int32} : pX 704 25 [l0, l1, .int x0] S h = pX 704 26 [l0, l1, .int x0] (.int x0 :: S) h := pX_stp d704_25 rfl rfl rfl
theorem x704_26 {S : List Value} {h : HP} {l1 l2 : Value} {a0 : Nat} : pX 704 26 [.ref a0, l1, l2] S h = pX 704 27 [.ref a0, l1, l2] (.ref a0 :: S) h := pX_stp d704_26 rfl rfl rfl
theorem x704_27 {S : List Value} {h : HP} {l0 l2 : Value} {a0 : Nat} : pX 704 27 [l0, .ref a0, l2] S h = pX 704 28 [l0, .ref a0, l2] (.ref a0 :: S) h := pX_stp d704_27 rfl rfl rfl
theorem x704_28 {L S : List Value} {h : HP} {a : Nat} (hk : hp_k h a = 9) : pX 704 28 L (.ref a :: S) h = pX 704 31 L (.int (hp_i h a 1) :: S) h := pX_get d704_28 rfl rfl hk
theorem x704_31 {L : List Value} {h : HP} {x0 : Int32} {a0 : Nat} {x1 : Int32} {a1 : Nat} (hk : hp_k h a0 = 8) : pX 704 31 L [.int x0, .ref a0, .int x1, .ref a1] h = (pX 702 0 [.ref a0, .int x0] [] h).bind (fun q => pX 704 34 L (q.1.toList ++ [.int x1, .ref a1]) q.2) := pX_inv (a := a0) (t := 8) 702 [.ref a0, .int x0] [.int x1, .ref a1] d704_31 rfl rfl rfl hk
theorem x704_34 {L S : List Value} {h : HP} {a : Nat} {j x : Int32} (hk : hp_k h a = 100) (hj : inb j (hp_l h a) = true) : pX 704 34 L (.int x :: .int j :: .ref a :: S) h = pX 704 35 L S (hp_wi h a (ix j) x) := pX_ist d704_34 hk hj
theorem x704_35 {L : List Value} {h : HP} : pX 704 35 L [] h = some (none, h) := pX_ret d704_35 rfl
theorem d705_0 : decode (mb 705) 0 = .ok (.aload_n 0, 1) := by decide +kernel
theorem d705_1 : decode (mb 705) 1 = .ok (.getfield 9, 3) := by decide +kernel
theorem d705_4 : decode (mb 705) 4 = .ok (.iconst 4, 1) := by decide +kernel
theorem d705_5 : decode (mb 705) 5 = .ok (.if_icmp .eq 16, 3) := by decide +kernel
theorem d705_8 : decode (mb 705) 8 = .ok (.aload_n 1, 1) := by decide +kernel
theorem d705_9 : decode (mb 705) 9 = .ok (.aload_n 0, 1) := by decide +kernel
theorem d705_10 : decode (mb 705) 10 = .ok (.getfield 24, 3) := by decide +kernel
theorem d705_13 : decode (mb 705) 13 = .ok (.iload_n 2, 1) := by decide +kernel
theorem d705_14 : decode (mb 705) 14 = .ok (.iaload, 1) := by decide +kernel
theorem d705_15 : decode (mb 705) 15 = .ok (.invokevirtual 57, 3) := by decide +kernel
theorem d705_18 : decode (mb 705) 18 = .ok (.goto 29, 3) := by decide +kernel
theorem d705_21 : decode (mb 705) 21 = .ok (.aload_n 0, 1) := by decide +kernel
theorem d705_22 : decode (mb 705) 22 = .ok (.getfield 28, 3) := by decide +kernel
theorem d705_25 : decode (mb 705) 25 = .ok (.iload_n 2, 1) := by decide +kernel
theorem d705_26 : decode (mb 705) 26 = .ok (.aaload, 1) := by decide +kernel
theorem d705_27 : decode (mb 705) 27 = .ok (.ifnonnull 10, 3) := by decide +kernel
theorem d705_30 : decode (mb 705) 30 = .ok (.aload_n 1, 1) := by decide +kernel
theorem d705_31 : decode (mb 705) 31 = .ok (.invokevirtual 61, 3) := by decide +kernel
theorem d705_34 : decode (mb 705) 34 = .ok (.goto 13, 3) := by decide +kernel
theorem d705_37 : decode (mb 705) 37 = .ok (.aload_n 1, 1) := by decide +kernel
theorem d705_38 : decode (mb 705) 38 = .ok (.aload_n 0, 1) := by decide +kernel
theorem d705_39 : decode (mb 705) 39 = .ok (.getfield 28, 3) := by decide +kernel
theorem d705_42 : decode (mb 705) 42 = .ok (.iload_n 2, 1) := by decide +kernel
theorem d705_43 : decode (mb 705) 43 = .ok (.aaload, 1) := by decide +kernel
theorem d705_44 : decode (mb 705) 44 = .ok (.invokevirtual 64, 3) := by decide +kernel
theorem d705_47 : decode (mb 705) 47 = .ok (.return_, 1) := by decide +kernel
theorem x705_0 {S : List Value} {h : HP} {l1 l2 : Value} {a0 : Nat} : pX 705 0 [.ref a0, l1, l2] S h = pX 705 1 [.ref a0, l1, l2] (.ref a0 :: S) h := pX_stp d705_0 rfl rfl rfl
theorem x705_1 {L S : List Value} {h : HP} {a : Nat} (hk : hp_k h a = 8) : pX 705 1 L (.ref a :: S) h = pX 705 4 L (.int (hp_i h a 0) :: S) h := pX_get d705_1 rfl rfl hk
theorem x705_4 {L S : List Value} {h : HP} : pX 705 4 L S h = pX 705 5 L (.int 4 :: S) h := pX_iconst d705_4 (by decide)
theorem x705_5 {L S : List Value} {h : HP} {x y : Int32} : pX 705 5 L (.int y :: .int x :: S) h = if x = y then pX 705 21 L S h else pX 705 8 L S h := pX_icmp_eq d705_5 (by decide)
theorem x705_8 {S : List Value} {h : HP} {l0 l2 : Value} {a0 : Nat} : pX 705 8 [l0, .ref a0, l2] S h = pX 705 9 [l0, .ref a0, l2] (.ref a0 :: S) h := pX_stp d705_8 rfl rfl rfl
theorem x705_9 {S : List Value} {h : HP} {l1 l2 : Value} {a0 : Nat} : pX 705 9 [.ref a0, l1, l2] S h = pX 705 10 [.ref a0, l1, l2] (.ref a0 :: S) h := pX_stp d705_9 rfl rfl rfl
theorem x705_10 {L S : List Value} {h : HP} {a : Nat} (hk : hp_k h a = 8) : pX 705 10 L (.ref a :: S) h = pX 705 13 L (.ref (hp_a h a 2) :: S) h := pX_get d705_10 rfl rfl hk
theorem x705_13 {S : List Value} {h : HP} {l0 l1 : Value} {x0 : Int32} : pX 705 13 [l0, l1, .int x0] S h = pX 705 14 [l0, l1, .int x0] (.int x0 :: S) h := pX_stp d705_13 rfl rfl rfl
theorem x705_14 {L S : List Value} {h : HP} {a : Nat} {j : Int32} (hk : hp_k h a = 100) (hj : inb j (hp_l h a) = true) : pX 705 14 L (.int j :: .ref a :: S) h = pX 705 15 L (.int (hp_i h a (ix j)) :: S) h := pX_ild d705_14 hk hj
theorem x705_15 {L : List Value} {h : HP} {x0 : Int32} {a0 : Nat} (hk : hp_k h a0 = 9) : pX 705 15 L [.int x0, .ref a0] h = (pX 802 0 [.ref a0, .int x0] [] h).bind (fun q => pX 705 18 L (q.1.toList ++ []) q.2) := pX_inv (a := a0) (t := 9) 802 [.ref a0, .int x0] [] d705_15 rfl rfl rfl hk
theorem x705_18 {L S : List Value} {h : HP} : pX 705 18 L S h = pX 705 47 L S h := pX_goto d705_18 (by decide)
theorem x705_21 {S : List Value} {h : HP} {l1 l2 : Value} {a0 : Nat} : pX 705 21 [.ref a0, l1, l2] S h = pX 705 22 [.ref a0, l1, l2] (.ref a0 :: S) h := pX_stp d705_21 rfl rfl rfl
theorem x705_22 {L S : List Value} {h : HP} {a : Nat} (hk : hp_k h a = 8) : pX 705 22 L (.ref a :: S) h = pX 705 25 L (.ref (hp_a h a 3) :: S) h := pX_get d705_22 rfl rfl hk
theorem x705_25 {S : List Value} {h : HP} {l0 l1 : Value} {x0 : Int32} : pX 705 25 [l0, l1, .int x0] S h = pX 705 26 [l0, l1, .int x0] (.int x0 :: S) h := pX_stp d705_25 rfl rfl rfl
theorem x705_26 {L S : List Value} {h : HP} {a : Nat} {j : Int32} (hk : 200 ≤ hp_k h a) (hj : inb j (hp_l h a) = true) : pX 705 26 L (.int j :: .ref a :: S) h = pX 705 27 L (.ref (hp_a h a (ix j)) :: S) h := pX_ald d705_26 hk hj
theorem x705_27 {L S : List Value} {h : HP} {a : Nat} : pX 705 27 L (.ref a :: S) h = if a = 0 then pX 705 30 L S h else pX 705 37 L S h := pX_ifnonnull d705_27 (by decide)
theorem x705_30 {S : List Value} {h : HP} {l0 l2 : Value} {a0 : Nat} : pX 705 30 [l0, .ref a0, l2] S h = pX 705 31 [l0, .ref a0, l2] (.ref a0 :: S) h := pX_stp d705_30 rfl rfl rfl
theorem x705_31 {L : List Value} {h : HP} {a0 : Nat} (hk : hp_k h a0 = 9) : pX 705 31 L [.ref a0] h = (pX 801 0 [.ref a0] [] h).bind (fun q => pX 705 34 L (q.1.toList ++ []) q.2) := pX_inv (a := a0) (t := 9) 801 [.ref a0] [] d705_31 rfl rfl rfl hk
theorem x705_34 {L S : List Value} {h : HP} : pX 705 34 L S h = pX 705 47 L S h := pX_goto d705_34 (by decide)
theorem x705_37 {S : List Value} {h : HP} {l0 l2 : Value} {a0 : Nat} : pX 705 37 [l0, .ref a0, l2] S h = pX 705 38 [l0, .ref a0, l2] (.ref a0 :: S) h := pX_stp d705_37 rfl rfl rfl
theorem x705_38 {S : List Value} {h : HP} {l1 l2 : Value} {a0 : Nat} : pX 705 38 [.ref a0, l1, l2] S h = pX 705 39 [.ref a0, l1, l2] (.ref a0 :: S) h := pX_stp d705_38 rfl rfl rfl
theorem x705_39 {L S : List Value} {h : HP} {a : Nat} (hk : hp_k h a = 8) : pX 705 39 L (.ref a :: S) h = pX 705 42 L (.ref (hp_a h a 3) :: S) h := pX_get d705_39 rfl rfl hk
theorem x705_42 {S : List Value} {h : HP} {l0 l1 : Value} {x0 : Int32} : pX 705 42 [l0, l1, .int x0] S h = pX 705 43 [l0, l1, .int x0] (.int x0 :: S) h := pX_stp d705_42 rfl rfl rfl
theorem x705_43 {L S : List Value} {h : HP} {a : Nat} {j : Int32} (hk : 200 ≤ hp_k h a) (hj : inb j (hp_l h a) = true) : pX 705 43 L (.int j :: .ref a :: S) h = pX 705 44 L (.ref (hp_a h a (ix j)) :: S) h := pX_ald d705_43 hk hj
theorem x705_44 {L : List Value} {h : HP} {a0 : Nat} {a1 : Nat} (hk : hp_k h a1 = 9) : pX 705 44 L [.ref a0, .ref a1] h = (pX 804 0 [.ref a1, .ref a0] [] h).bind (fun q => pX 705 47 L (q.1.toList ++ []) q.2) := pX_inv (a := a1) (t := 9) 804 [.ref a1, .ref a0] [] d705_44 rfl rfl rfl hk
theorem x705_47 {L : List Value} {h : HP} : pX 705 47 L [] h = some (none, h) := pX_ret d705_47 rfl
theorem d800_0 : decode (mb 800) 0 = .ok (.aload_n 0, 1) := by decide +kernel
theorem d800_1 : decode (mb 800) 1 = .ok (.invokespecial 3, 3) := by decide +kernel
theorem d800_4 : decode (mb 800) 4 = .ok (.aload_n 0, 1) := by decide +kernel
theorem d800_5 : decode (mb 800) 5 = .ok (.bipush (-5), 2) := by decide +kernel
theorem d800_7 : decode (mb 800) 7 = .ok (.putfield 9, 3) := by decide +kernel
theorem d800_10 : decode (mb 800) 10 = .ok (.return_, 1) := by decide +kernel
theorem x800_0 {S : List Value} {h : HP}  {a0 : Nat} : pX 800 0 [.ref a0] S h = pX 800 1 [.ref a0] (.ref a0 :: S) h := pX_stp d800_0 rfl rfl rfl
theorem x800_1 {L : List Value} {h : HP} {a0 : Nat} (ha : ¬ a0 = 0) : pX 800 1 L [.ref a0] h = pX 800 4 L [] h := pX_oinit d800_1 rfl (Nat.le_of_ble_eq_true rfl) ha
theorem x800_4 {S : List Value} {h : HP}  {a0 : Nat} : pX 800 4 [.ref a0] S h = pX 800 5 [.ref a0] (.ref a0 :: S) h := pX_stp d800_4 rfl rfl rfl
theorem x800_5 {L S : List Value} {h : HP} : pX 800 5 L S h = pX 800 7 L (.int (-5) :: S) h := pX_bipush d800_5 (by decide)
theorem x800_7 {L S : List Value} {h : HP} {a : Nat} {x : Int32} (hk : hp_k h a = 9) : pX 800 7 L (.int x :: .ref a :: S) h = pX 800 10 L S (hp_wi h a 0 x) := pX_put d800_7 rfl rfl rfl hk
theorem x800_10 {L : List Value} {h : HP} : pX 800 10 L [] h = some (none, h) := pX_ret d800_10 rfl
theorem d801_0 : decode (mb 801) 0 = .ok (.aload_n 0, 1) := by decide +kernel
theorem d801_1 : decode (mb 801) 1 = .ok (.bipush (-5), 2) := by decide +kernel
theorem d801_3 : decode (mb 801) 3 = .ok (.putfield 9, 3) := by decide +kernel
theorem d801_6 : decode (mb 801) 6 = .ok (.aload_n 0, 1) := by decide +kernel
theorem d801_7 : decode (mb 801) 7 = .ok (.iconst 0, 1) := by decide +kernel
theorem d801_8 : decode (mb 801) 8 = .ok (.putfield 15, 3) := by decide +kernel
theorem d801_11 : decode (mb 801) 11 = .ok (.aload_n 0, 1) := by decide +kernel
theorem d801_12 : decode (mb 801) 12 = .ok (.aconst_null, 1) := by decide +kernel
theorem d801_13 : decode (mb 801) 13 = .ok (.putfield 18, 3) := by decide +kernel
theorem d801_16 : decode (mb 801) 16 = .ok (.aload_n 0, 1) := by decide +kernel
theorem d801_17 : decode (mb 801) 17 = .ok (.aconst_null, 1) := by decide +kernel
theorem d801_18 : decode (mb 801) 18 = .ok (.putfield 22, 3) := by decide +kernel
theorem d801_21 : decode (mb 801) 21 = .ok (.return_, 1) := by decide +kernel
theorem x801_0 {S : List Value} {h : HP}  {a0 : Nat} : pX 801 0 [.ref a0] S h = pX 801 1 [.ref a0] (.ref a0 :: S) h := pX_stp d801_0 rfl rfl rfl
theorem x801_1 {L S : List Value} {h : HP} : pX 801 1 L S h = pX 801 3 L (.int (-5) :: S) h := pX_bipush d801_1 (by decide)
theorem x801_3 {L S : List Value} {h : HP} {a : Nat} {x : Int32} (hk : hp_k h a = 9) : pX 801 3 L (.int x :: .ref a :: S) h = pX 801 6 L S (hp_wi h a 0 x) := pX_put d801_3 rfl rfl rfl hk
theorem x801_6 {S : List Value} {h : HP}  {a0 : Nat} : pX 801 6 [.ref a0] S h = pX 801 7 [.ref a0] (.ref a0 :: S) h := pX_stp d801_6 rfl rfl rfl
theorem x801_7 {L S : List Value} {h : HP} : pX 801 7 L S h = pX 801 8 L (.int 0 :: S) h := pX_iconst d801_7 (by decide)
theorem x801_8 {L S : List Value} {h : HP} {a : Nat} {x : Int32} (hk : hp_k h a = 9) : pX 801 8 L (.int x :: .ref a :: S) h = pX 801 11 L S (hp_wi h a 1 x) := pX_put d801_8 rfl rfl rfl hk
theorem x801_11 {S : List Value} {h : HP}  {a0 : Nat} : pX 801 11 [.ref a0] S h = pX 801 12 [.ref a0] (.ref a0 :: S) h := pX_stp d801_11 rfl rfl rfl
theorem x801_12 {L S : List Value} {h : HP} : pX 801 12 L S h = pX 801 13 L (.ref 0 :: S) h := pX_stp d801_12 rfl rfl rfl
theorem x801_13 {L S : List Value} {h : HP} {a b : Nat} (hk : hp_k h a = 9) : pX 801 13 L (.ref b :: .ref a :: S) h = pX 801 16 L S (hp_wa h a 2 b) := pX_put d801_13 rfl rfl rfl hk
theorem x801_16 {S : List Value} {h : HP}  {a0 : Nat} : pX 801 16 [.ref a0] S h = pX 801 17 [.ref a0] (.ref a0 :: S) h := pX_stp d801_16 rfl rfl rfl
theorem x801_17 {L S : List Value} {h : HP} : pX 801 17 L S h = pX 801 18 L (.ref 0 :: S) h := pX_stp d801_17 rfl rfl rfl
theorem x801_18 {L S : List Value} {h : HP} {a b : Nat} (hk : hp_k h a = 9) : pX 801 18 L (.ref b :: .ref a :: S) h = pX 801 21 L S (hp_wa h a 3 b) := pX_put d801_18 rfl rfl rfl hk
theorem x801_21 {L : List Value} {h : HP} : pX 801 21 L [] h = some (none, h) := pX_ret d801_21 rfl
theorem d802_0 : decode (mb 802) 0 = .ok (.aload_n 0, 1) := by decide +kernel
theorem d802_1 : decode (mb 802) 1 = .ok (.invokevirtual 26, 3) := by decide +kernel
theorem d802_4 : decode (mb 802) 4 = .ok (.aload_n 0, 1) := by decide +kernel
theorem d802_5 : decode (mb 802) 5 = .ok (.iconst 0, 1) := by decide +kernel
theorem d802_6 : decode (mb 802) 6 = .ok (.putfield 9, 3) := by decide +kernel
theorem d802_9 : decode (mb 802) 9 = .ok (.aload_n 0, 1) := by decide +kernel
theorem d802_10 : decode (mb 802) 10 = .ok (.iload_n 1, 1) := by decide +kernel
theorem d802_11 : decode (mb 802) 11 = .ok (.putfield 15, 3) := by decide +kernel
theorem d802_14 : decode (mb 802) 14 = .ok (.return_, 1) := by decide +kernel
theorem x802_0 {S : List Value} {h : HP} {l1 : Value} {a0 : Nat} : pX 802 0 [.ref a0, l1] S h = pX 802 1 [.ref a0, l1] (.ref a0 :: S) h := pX_stp d802_0 rfl rfl rfl
theorem x802_1 {L : List Value} {h : HP} {a0 : Nat} (hk : hp_k h a0 = 9) : pX 802 1 L [.ref a0] h = (pX 801 0 [.ref a0] [] h).bind (fun q => pX 802 4 L (q.1.toList ++ []) q.2) := pX_inv (a := a0) (t := 9) 801 [.ref a0] [] d802_1 rfl rfl rfl hk
theorem x802_4 {S : List Value} {h : HP} {l1 : Value} {a0 : Nat} : pX 802 4 [.ref a0, l1] S h = pX 802 5 [.ref a0, l1] (.ref a0 :: S) h := pX_stp d802_4 rfl rfl rfl
theorem x802_5 {L S : List Value} {h : HP} : pX 802 5 L S h = pX 802 6 L (.int 0 :: S) h := pX_iconst d802_5 (by decide)
theorem x802_6 {L S : List Value} {h : HP} {a : Nat} {x : Int32} (hk : hp_k h a = 9) : pX 802 6 L (.int x :: .ref a :: S) h = pX 802 9 L S (hp_wi h a 0 x) := pX_put d802_6 rfl rfl rfl hk
theorem x802_9 {S : List Value} {h : HP} {l1 : Value} {a0 : Nat} : pX 802 9 [.ref a0, l1] S h = pX 802 10 [.ref a0, l1] (.ref a0 :: S) h := pX_stp d802_9 rfl rfl rfl
theorem x802_10 {S : List Value} {h : HP} {l0 : Value} {x0 : Int32} : pX 802 10 [l0, .int x0] S h = pX 802 11 [l0, .int x0] (.int x0 :: S) h := pX_stp d802_10 rfl rfl rfl
theorem x802_11 {L S : List Value} {h : HP} {a : Nat} {x : Int32} (hk : hp_k h a = 9) : pX 802 11 L (.int x :: .ref a :: S) h = pX 802 14 L S (hp_wi h a 1 x) := pX_put d802_11 rfl rfl rfl hk
theorem x802_14 {L : List Value} {h : HP} : pX 802 14 L [] h = some (none, h) := pX_ret d802_14 rfl
theorem d803_0 : decode (mb 803) 0 = .ok (.aload_n 0, 1) := by decide +kernel
theorem d803_1 : decode (mb 803) 1 = .ok (.invokevirtual 26, 3) := by decide +kernel
theorem d803_4 : decode (mb 803) 4 = .ok (.aload_n 0, 1) := by decide +kernel
theorem d803_5 : decode (mb 803) 5 = .ok (.iconst 1, 1) := by decide +kernel
theorem d803_6 : decode (mb 803) 6 = .ok (.aload_n 1, 1) := by decide +kernel
theorem d803_7 : decode (mb 803) 7 = .ok (.getfield 29, 3) := by decide +kernel
theorem d803_10 : decode (mb 803) 10 = .ok (.iadd, 1) := by decide +kernel
theorem d803_11 : decode (mb 803) 11 = .ok (.putfield 9, 3) := by decide +kernel
theorem d803_14 : decode (mb 803) 14 = .ok (.aload_n 0, 1) := by decide +kernel
theorem d803_15 : decode (mb 803) 15 = .ok (.aload_n 1, 1) := by decide +kernel
theorem d803_16 : decode (mb 803) 16 = .ok (.putfield 18, 3) := by decide +kernel
theorem d803_19 : decode (mb 803) 19 = .ok (.return_, 1) := by decide +kernel
theorem x803_0 {S : List Value} {h : HP} {l1 : Value} {a0 : Nat} : pX 803 0 [.ref a0, l1] S h = pX 803 1 [.ref a0, l1] (.ref a0 :: S) h := pX_stp d803_0 rfl rfl rfl
theorem x803_1 {L : List Value} {h : HP} {a0 : Nat} (hk : hp_k h a0 = 9) : pX 803 1 L [.ref a0] h = (pX 801 0 [.ref a0] [] h).bind (fun q => pX 803 4 L (q.1.toList ++ []) q.2) := pX_inv (a := a0) (t := 9) 801 [.ref a0] [] d803_1 rfl rfl rfl hk
theorem x803_4 {S : List Value} {h : HP} {l1 : Value} {a0 : Nat} : pX 803 4 [.ref a0, l1] S h = pX 803 5 [.ref a0, l1] (.ref a0 :: S) h := pX_stp d803_4 rfl rfl rfl
theorem x803_5 {L S : List Value} {h : HP} : pX 803 5 L S h = pX 803 6 L (.int 1 :: S) h := pX_iconst d803_5 (by decide)
theorem x803_6 {S : List Value} {h : HP} {l0 : Value} {a0 : Nat} : pX 803 6 [l0, .ref a0] S h = pX 803 7 [l0, .ref a0] (.ref a0 :: S) h := pX_stp d803_6 rfl rfl rfl
theorem x803_7 {L S : List Value} {h : HP} {a : Nat} (hk : hp_k h a = 1) : pX 803 7 L (.ref a :: S) h = pX 803 10 L (.int (hp_i h a 0) :: S) h := pX_get d803_7 rfl rfl hk
theorem x803_10 {L S : List Value} {h : HP} {x y : Int32} : pX 803 10 L (.int y :: .int x :: S) h = pX 803 11 L (.int (x + y) :: S) h := pX_stp d803_10 rfl rfl rfl
theorem x803_11 {L S : List Value} {h : HP} {a : Nat} {x : Int32} (hk : hp_k h a = 9) : pX 803 11 L (.int x :: .ref a :: S) h = pX 803 14 L S (hp_wi h a 0 x) := pX_put d803_11 rfl rfl rfl hk
theorem x803_14 {S : List Value} {h : HP} {l1 : Value} {a0 : Nat} : pX 803 14 [.ref a0, l1] S h = pX 803 15 [.ref a0, l1] (.ref a0 :: S) h := pX_stp d803_14 rfl rfl rfl
theorem x803_15 {S : List Value} {h : HP} {l0 : Value} {a0 : Nat} : pX 803 15 [l0, .ref a0] S h = pX 803 16 [l0, .ref a0] (.ref a0 :: S) h := pX_stp d803_15 rfl rfl rfl
theorem x803_16 {L S : List Value} {h : HP} {a b : Nat} (hk : hp_k h a = 9) : pX 803 16 L (.ref b :: .ref a :: S) h = pX 803 19 L S (hp_wa h a 2 b) := pX_put d803_16 rfl rfl rfl hk
theorem x803_19 {L : List Value} {h : HP} : pX 803 19 L [] h = some (none, h) := pX_ret d803_19 rfl
theorem d804_0 : decode (mb 804) 0 = .ok (.aload_n 0, 1) := by decide +kernel
theorem d804_1 : decode (mb 804) 1 = .ok (.invokevirtual 26, 3) := by decide +kernel
theorem d804_4 : decode (mb 804) 4 = .ok (.aload_n 0, 1) := by decide +kernel
theorem d804_5 : decode (mb 804) 5 = .ok (.iconst 5, 1) := by decide +kernel
theorem d804_6 : decode (mb 804) 6 = .ok (.aload_n 1, 1) := by decide +kernel
theorem d804_7 : decode (mb 804) 7 = .ok (.getfield 34, 3) := by decide +kernel
theorem d804_10 : decode (mb 804) 10 = .ok (.iadd, 1) := by decide +kernel
theorem d804_11 : decode (mb 804) 11 = .ok (.putfield 9, 3) := by decide +kernel
theorem d804_14 : decode (mb 804) 14 = .ok (.aload_n 0, 1) := by decide +kernel
theorem d804_15 : decode (mb 804) 15 = .ok (.aload_n 1, 1) := by decide +kernel
theorem d804_16 : decode (mb 804) 16 = .ok (.putfield 22, 3) := by decide +kernel
theorem d804_19 : decode (mb 804) 19 = .ok (.return_, 1) := by decide +kernel
theorem x804_0 {S : List Value} {h : HP} {l1 : Value} {a0 : Nat} : pX 804 0 [.ref a0, l1] S h = pX 804 1 [.ref a0, l1] (.ref a0 :: S) h := pX_stp d804_0 rfl rfl rfl
theorem x804_1 {L : List Value} {h : HP} {a0 : Nat} (hk : hp_k h a0 = 9) : pX 804 1 L [.ref a0] h = (pX 801 0 [.ref a0] [] h).bind (fun q => pX 804 4 L (q.1.toList ++ []) q.2) := pX_inv (a := a0) (t := 9) 801 [.ref a0] [] d804_1 rfl rfl rfl hk
theorem x804_4 {S : List Value} {h : HP} {l1 : Value} {a0 : Nat} : pX 804 4 [.ref a0, l1] S h = pX 804 5 [.ref a0, l1] (.ref a0 :: S) h := pX_stp d804_4 rfl rfl rfl
theorem x804_5 {L S : List Value} {h : HP} : pX 804 5 L S h = pX 804 6 L (.int 5 :: S) h := pX_iconst d804_5 (by decide)
theorem x804_6 {S : List Value} {h : HP} {l0 : Value} {a0 : Nat} : pX 804 6 [l0, .ref a0] S h = pX 804 7 [l0, .ref a0] (.ref a0 :: S) h := pX_stp d804_6 rfl rfl rfl
theorem x804_7 {L S : List Value} {h : HP} {a : Nat} (hk : hp_k h a = 8) : pX 804 7 L (.ref a :: S) h = pX 804 10 L (.int (hp_i h a 0) :: S) h := pX_get d804_7 rfl rfl hk
theorem x804_10 {L S : List Value} {h : HP} {x y : Int32} : pX 804 10 L (.int y :: .int x :: S) h = pX 804 11 L (.int (x + y) :: S) h := pX_stp d804_10 rfl rfl rfl
theorem x804_11 {L S : List Value} {h : HP} {a : Nat} {x : Int32} (hk : hp_k h a = 9) : pX 804 11 L (.int x :: .ref a :: S) h = pX 804 14 L S (hp_wi h a 0 x) := pX_put d804_11 rfl rfl rfl hk
theorem x804_14 {S : List Value} {h : HP} {l1 : Value} {a0 : Nat} : pX 804 14 [.ref a0, l1] S h = pX 804 15 [.ref a0, l1] (.ref a0 :: S) h := pX_stp d804_14 rfl rfl rfl
theorem x804_15 {S : List Value} {h : HP} {l0 : Value} {a0 : Nat} : pX 804 15 [l0, .ref a0] S h = pX 804 16 [l0, .ref a0] (.ref a0 :: S) h := pX_stp d804_15 rfl rfl rfl
theorem x804_16 {L S : List Value} {h : HP} {a b : Nat} (hk : hp_k h a = 9) : pX 804 16 L (.ref b :: .ref a :: S) h = pX 804 19 L S (hp_wa h a 3 b) := pX_put d804_16 rfl rfl rfl hk
theorem x804_19 {L : List Value} {h : HP} : pX 804 19 L [] h = some (none, h) := pX_ret d804_19 rfl
theorem d805_0 : decode (mb 805) 0 = .ok (.aload_n 0, 1) := by decide +kernel
theorem d805_1 : decode (mb 805) 1 = .ok (.aload_n 1, 1) := by decide +kernel
theorem d805_2 : decode (mb 805) 2 = .ok (.getfield 9, 3) := by decide +kernel
theorem d805_5 : decode (mb 805) 5 = .ok (.putfield 9, 3) := by decide +kernel
theorem d805_8 : decode (mb 805) 8 = .ok (.aload_n 0, 1) := by decide +kernel
theorem d805_9 : decode (mb 805) 9 = .ok (.aload_n 1, 1) := by decide +kernel
theorem d805_10 : decode (mb 805) 10 = .ok (.getfield 15, 3) := by decide +kernel
theorem d805_13 : decode (mb 805) 13 = .ok (.putfield 15, 3) := by decide +kernel
theorem d805_16 : decode (mb 805) 16 = .ok (.aload_n 0, 1) := by decide +kernel
theorem d805_17 : decode (mb 805) 17 = .ok (.aload_n 1, 1) := by decide +kernel
theorem d805_18 : decode (mb 805) 18 = .ok (.getfield 18, 3) := by decide +kernel
theorem d805_21 : decode (mb 805) 21 = .ok (.putfield 18, 3) := by decide +kernel
theorem d805_24 : decode (mb 805) 24 = .ok (.aload_n 0, 1) := by decide +kernel
theorem d805_25 : decode (mb 805) 25 = .ok (.aload_n 1, 1) := by decide +kernel
theorem d805_26 : decode (mb 805) 26 = .ok (.getfield 22, 3) := by decide +kernel
theorem d805_29 : decode (mb 805) 29 = .ok (.putfield 22, 3) := by decide +kernel
theorem d805_32 : decode (mb 805) 32 = .ok (.return_, 1) := by decide +kernel
theorem x805_0 {S : List Value} {h : HP} {l1 : Value} {a0 : Nat} : pX 805 0 [.ref a0, l1] S h = pX 805 1 [.ref a0, l1] (.ref a0 :: S) h := pX_stp d805_0 rfl rfl rfl
theorem x805_1 {S : List Value} {h : HP} {l0 : Value} {a0 : Nat} : pX 805 1 [l0, .ref a0] S h = pX 805 2 [l0, .ref a0] (.ref a0 :: S) h := pX_stp d805_1 rfl rfl rfl
theorem x805_2 {L S : List Value} {h : HP} {a : Nat} (hk : hp_k h a = 9) : pX 805 2 L (.ref a :: S) h = pX 805 5 L (.int (hp_i h a 0) :: S) h := pX_get d805_2 rfl rfl hk
theorem x805_5 {L S : List Value} {h : HP} {a : Nat} {x : Int32} (hk : hp_k h a = 9) : pX 805 5 L (.int x :: .ref a :: S) h = pX 805 8 L S (hp_wi h a 0 x) := pX_put d805_5 rfl rfl rfl hk
theorem x805_8 {S : List Value} {h : HP} {l1 : Value} {a0 : Nat} : pX 805 8 [.ref a0, l1] S h = pX 805 9 [.ref a0, l1] (.ref a0 :: S) h := pX_stp d805_8 rfl rfl rfl
theorem x805_9 {S : List Value} {h : HP} {l0 : Value} {a0 : Nat} : pX 805 9 [l0, .ref a0] S h = pX 805 10 [l0, .ref a0] (.ref a0 :: S) h := pX_stp d805_9 rfl rfl rfl
theorem x805_10 {L S : List Value} {h : HP} {a : Nat} (hk : hp_k h a = 9) : pX 805 10 L (.ref a :: S) h = pX 805 13 L (.int (hp_i h a 1) :: S) h := pX_get d805_10 rfl rfl hk
theorem x805_13 {L S : List Value} {h : HP} {a : Nat} {x : Int32} (hk : hp_k h a = 9) : pX 805 13 L (.int x :: .ref a :: S) h = pX 805 16 L S (hp_wi h a 1 x) := pX_put d805_13 rfl rfl rfl hk
theorem x805_16 {S : List Value} {h : HP} {l1 : Value} {a0 : Nat} : pX 805 16 [.ref a0, l1] S h = pX 805 17 [.ref a0, l1] (.ref a0 :: S) h := pX_stp d805_16 rfl rfl rfl
theorem x805_17 {S : List Value} {h : HP} {l0 : Value} {a0 : Nat} : pX 805 17 [l0, .ref a0] S h = pX 805 18 [l0, .ref a0] (.ref a0 :: S) h := pX_stp d805_17 rfl rfl rfl
theorem x805_18 {L S : List Value} {h : HP} {a : Nat} (hk : hp_k h a = 9) : pX 805 18 L (.ref a :: S) h = pX 805 21 L (.ref (hp_a h a 2) :: S) h := pX_get d805_18 rfl rfl hk
theorem x805_21 {L S : List Value} {h : HP} {a b : Nat} (hk : hp_k h a = 9) : pX 805 21 L (.ref b :: .ref a :: S) h = pX 805 24 L S (hp_wa h a 2 b) := pX_put d805_21 rfl rfl rfl hk
theorem x805_24 {S : List Value} {h : HP} {l1 : Value} {a0 : Nat} : pX 805 24 [.ref a0, l1] S h = pX 805 25 [.ref a0, l1] (.ref a0 :: S) h := pX_stp d805_24 rfl rfl rfl
theorem x805_25 {S : List Value} {h : HP} {l0 : Value} {a0 : Nat} : pX 805 25 [l0, .ref a0] S h = pX 805 26 [l0, .ref a0] (.ref a0 :: S) h := pX_stp d805_25 rfl rfl rfl
theorem x805_26 {L S : List Value} {h : HP} {a : Nat} (hk : hp_k h a = 9) : pX 805 26 L (.ref a :: S) h = pX 805 29 L (.ref (hp_a h a 3) :: S) h := pX_get d805_26 rfl rfl hk
theorem x805_29 {L S : List Value} {h : HP} {a b : Nat} (hk : hp_k h a = 9) : pX 805 29 L (.ref b :: .ref a :: S) h = pX 805 32 L S (hp_wa h a 3 b) := pX_put d805_29 rfl rfl rfl hk
theorem x805_32 {L : List Value} {h : HP} : pX 805 32 L [] h = some (none, h) := pX_ret d805_32 rfl
theorem d806_0 : decode (mb 806) 0 = .ok (.aload_n 0, 1) := by decide +kernel
theorem d806_1 : decode (mb 806) 1 = .ok (.getfield 9, 3) := by decide +kernel
theorem d806_4 : decode (mb 806) 4 = .ok (.bipush (-5), 2) := by decide +kernel
theorem d806_6 : decode (mb 806) 6 = .ok (.if_icmp .ne 7, 3) := by decide +kernel
theorem d806_9 : decode (mb 806) 9 = .ok (.iconst 1, 1) := by decide +kernel
theorem d806_10 : decode (mb 806) 10 = .ok (.goto 4, 3) := by decide +kernel
theorem d806_13 : decode (mb 806) 13 = .ok (.iconst 0, 1) := by decide +kernel
theorem d806_14 : decode (mb 806) 14 = .ok (.ireturn, 1) := by decide +kernel
theorem x806_0 {S : List Value} {h : HP}  {a0 : Nat} : pX 806 0 [.ref a0] S h = pX 806 1 [.ref a0] (.ref a0 :: S) h := pX_stp d806_0 rfl rfl rfl
theorem x806_1 {L S : List Value} {h : HP} {a : Nat} (hk : hp_k h a = 9) : pX 806 1 L (.ref a :: S) h = pX 806 4 L (.int (hp_i h a 0) :: S) h := pX_get d806_1 rfl rfl hk
theorem x806_4 {L S : List Value} {h : HP} : pX 806 4 L S h = pX 806 6 L (.int (-5) :: S) h := pX_bipush d806_4 (by decide)
theorem x806_6 {L S : List Value} {h : HP} {x y : Int32} : pX 806 6 L (.int y :: .int x :: S) h = if x = y then pX 806 9 L S h else pX 806 13 L S h := pX_icmp_ne d806_6 (by decide)
theorem x806_9 {L S : List Value} {h : HP} : pX 806 9 L S h = pX 806 10 L (.int 1 :: S) h := pX_iconst d806_9 (by decide)
theorem x806_10 {L S : List Value} {h : HP} : pX 806 10 L S h = pX 806 14 L S h := pX_goto d806_10 (by decide)
theorem x806_13 {L S : List Value} {h : HP} : pX 806 13 L S h = pX 806 14 L (.int 0 :: S) h := pX_iconst d806_13 (by decide)
theorem x806_14 {L : List Value} {h : HP} {x : Int32} (hx : x = 0 ∨ x = 1) : pX 806 14 L [.int x] h = some (some (.int x), h) := pX_ret d806_14 (by rcases hx with rfl | rfl <;> rfl)
theorem d807_0 : decode (mb 807) 0 = .ok (.aload_n 0, 1) := by decide +kernel
theorem d807_1 : decode (mb 807) 1 = .ok (.invokevirtual 39, 3) := by decide +kernel
theorem d807_4 : decode (mb 807) 4 = .ok (.ifCond .eq 5, 3) := by decide +kernel
theorem d807_7 : decode (mb 807) 7 = .ok (.iconst 0, 1) := by decide +kernel
theorem d807_8 : decode (mb 807) 8 = .ok (.ireturn, 1) := by decide +kernel
theorem d807_9 : decode (mb 807) 9 = .ok (.iload_n 1, 1) := by decide +kernel
theorem d807_10 : decode (mb 807) 10 = .ok (.iconst 1, 1) := by decide +kernel
theorem d807_11 : decode (mb 807) 11 = .ok (.if_icmp .lt 29, 3) := by decide +kernel
theorem d807_14 : decode (mb 807) 14 = .ok (.iload_n 1, 1) := by decide +kernel
theorem d807_15 : decode (mb 807) 15 = .ok (.iconst 4, 1) := by decide +kernel
theorem d807_16 : decode (mb 807) 16 = .ok (.if_icmp .gt 24, 3) := by decide +kernel
theorem d807_19 : decode (mb 807) 19 = .ok (.aload_n 0, 1) := by decide +kernel
theorem d807_20 : decode (mb 807) 20 = .ok (.getfield 18, 3) := by decide +kernel
theorem d807_23 : decode (mb 807) 23 = .ok (.ifnull 15, 3) := by decide +kernel
theorem d807_26 : decode (mb 807) 26 = .ok (.aload_n 0, 1) := by decide +kernel
theorem d807_27 : decode (mb 807) 27 = .ok (.getfield 9, 3) := by decide +kernel
theorem d807_30 : decode (mb 807) 30 = .ok (.iload_n 1, 1) := by decide +kernel
theorem d807_31 : decode (mb 807) 31 = .ok (.if_icmp .lt 7, 3) := by decide +kernel
theorem d807_34 : decode (mb 807) 34 = .ok (.iconst 1, 1) := by decide +kernel
theorem d807_35 : decode (mb 807) 35 = .ok (.goto 4, 3) := by decide +kernel
theorem d807_38 : decode (mb 807) 38 = .ok (.iconst 0, 1) := by decide +kernel
theorem d807_39 : decode (mb 807) 39 = .ok (.ireturn, 1) := by decide +kernel
theorem d807_40 : decode (mb 807) 40 = .ok (.iload_n 1, 1) := by decide +kernel
theorem d807_41 : decode (mb 807) 41 = .ok (.bipush 10, 2) := by decide +kernel
theorem d807_43 : decode (mb 807) 43 = .ok (.if_icmp .ne 16, 3) := by decide +kernel
theorem d807_46 : decode (mb 807) 46 = .ok (.aload_n 0, 1) := by decide +kernel
theorem d807_47 : decode (mb 807) 47 = .ok (.getfield 22, 3) := by decide +kernel
theorem d807_50 : decode (mb 807) 50 = .ok (.ifnull 7, 3) := by decide +kernel
theorem d807_53 : decode (mb 807) 53 = .ok (.iconst 1, 1) := by decide +kernel
theorem d807_54 : decode (mb 807) 54 = .ok (.goto 4, 3) := by decide +kernel
theorem d807_57 : decode (mb 807) 57 = .ok (.iconst 0, 1) := by decide +kernel
theorem d807_58 : decode (mb 807) 58 = .ok (.ireturn, 1) := by decide +kernel
theorem d807_59 : decode (mb 807) 59 = .ok (.iload_n 1, 1) := by decide +kernel
theorem d807_60 : decode (mb 807) 60 = .ok (.bipush 11, 2) := by decide +kernel
theorem d807_62 : decode (mb 807) 62 = .ok (.if_icmp .eq 11, 3) := by decide +kernel
theorem d807_65 : decode (mb 807) 65 = .ok (.aload_n 0, 1) := by decide +kernel
theorem d807_66 : decode (mb 807) 66 = .ok (.getfield 9, 3) := by decide +kernel
theorem d807_69 : decode (mb 807) 69 = .ok (.iload_n 1, 1) := by decide +kernel
theorem d807_70 : decode (mb 807) 70 = .ok (.if_icmp .ne 7, 3) := by decide +kernel
theorem d807_73 : decode (mb 807) 73 = .ok (.iconst 1, 1) := by decide +kernel
theorem d807_74 : decode (mb 807) 74 = .ok (.goto 4, 3) := by decide +kernel
theorem d807_77 : decode (mb 807) 77 = .ok (.iconst 0, 1) := by decide +kernel
theorem d807_78 : decode (mb 807) 78 = .ok (.ireturn, 1) := by decide +kernel
theorem x807_0 {S : List Value} {h : HP} {l1 : Value} {a0 : Nat} : pX 807 0 [.ref a0, l1] S h = pX 807 1 [.ref a0, l1] (.ref a0 :: S) h := pX_stp d807_0 rfl rfl rfl
theorem x807_1 {L : List Value} {h : HP} {a0 : Nat} (hk : hp_k h a0 = 9) : pX 807 1 L [.ref a0] h = (pX 806 0 [.ref a0] [] h).bind (fun q => pX 807 4 L (q.1.toList ++ []) q.2) := pX_inv (a := a0) (t := 9) 806 [.ref a0] [] d807_1 rfl rfl rfl hk
theorem x807_4 {L S : List Value} {h : HP} {x : Int32} : pX 807 4 L (.int x :: S) h = if x = 0 then pX 807 9 L S h else pX 807 7 L S h := pX_if_eq d807_4 (by decide)
theorem x807_7 {L S : List Value} {h : HP} : pX 807 7 L S h = pX 807 8 L (.int 0 :: S) h := pX_iconst d807_7 (by decide)
theorem x807_8 {L : List Value} {h : HP} {x : Int32} (hx : x = 0 ∨ x = 1) : pX 807 8 L [.int x] h = some (some (.int x), h) := pX_ret d807_8 (by rcases hx with rfl | rfl <;> rfl)
theorem x807_9 {S : List Value} {h : HP} {l0 : Value} {x0 : Int32} : pX 807 9 [l0, .int x0] S h = pX 807 10 [l0, .int x0] (.int x0 :: S) h := pX_stp d807_9 rfl rfl rfl
theorem x807_10 {L S : List Value} {h : HP} : pX 807 10 L S h = pX 807 11 L (.int 1 :: S) h := pX_iconst d807_10 (by decide)
theorem x807_11 {L S : List Value} {h : HP} {x y : Int32} : pX 807 11 L (.int y :: .int x :: S) h = if x < y then pX 807 40 L S h else pX 807 14 L S h := pX_icmp_lt d807_11 (by decide)
theorem x807_14 {S : List Value} {h : HP} {l0 : Value} {x0 : Int32} : pX 807 14 [l0, .int x0] S h = pX 807 15 [l0, .int x0] (.int x0 :: S) h := pX_stp d807_14 rfl rfl rfl
theorem x807_15 {L S : List Value} {h : HP} : pX 807 15 L S h = pX 807 16 L (.int 4 :: S) h := pX_iconst d807_15 (by decide)
theorem x807_16 {L S : List Value} {h : HP} {x y : Int32} : pX 807 16 L (.int y :: .int x :: S) h = if y < x then pX 807 40 L S h else pX 807 19 L S h := pX_icmp_gt d807_16 (by decide)
theorem x807_19 {S : List Value} {h : HP} {l1 : Value} {a0 : Nat} : pX 807 19 [.ref a0, l1] S h = pX 807 20 [.ref a0, l1] (.ref a0 :: S) h := pX_stp d807_19 rfl rfl rfl
theorem x807_20 {L S : List Value} {h : HP} {a : Nat} (hk : hp_k h a = 9) : pX 807 20 L (.ref a :: S) h = pX 807 23 L (.ref (hp_a h a 2) :: S) h := pX_get d807_20 rfl rfl hk
theorem x807_23 {L S : List Value} {h : HP} {a : Nat} : pX 807 23 L (.ref a :: S) h = if a = 0 then pX 807 38 L S h else pX 807 26 L S h := pX_ifnull d807_23 (by decide)
theorem x807_26 {S : List Value} {h : HP} {l1 : Value} {a0 : Nat} : pX 807 26 [.ref a0, l1] S h = pX 807 27 [.ref a0, l1] (.ref a0 :: S) h := pX_stp d807_26 rfl rfl rfl
theorem x807_27 {L S : List Value} {h : HP} {a : Nat} (hk : hp_k h a = 9) : pX 807 27 L (.ref a :: S) h = pX 807 30 L (.int (hp_i h a 0) :: S) h := pX_get d807_27 rfl rfl hk
theorem x807_30 {S : List Value} {h : HP} {l0 : Value} {x0 : Int32} : pX 807 30 [l0, .int x0] S h = pX 807 31 [l0, .int x0] (.int x0 :: S) h := pX_stp d807_30 rfl rfl rfl
theorem x807_31 {L S : List Value} {h : HP} {x y : Int32} : pX 807 31 L (.int y :: .int x :: S) h = if x < y then pX 807 38 L S h else pX 807 34 L S h := pX_icmp_lt d807_31 (by decide)
theorem x807_34 {L S : List Value} {h : HP} : pX 807 34 L S h = pX 807 35 L (.int 1 :: S) h := pX_iconst d807_34 (by decide)
theorem x807_35 {L S : List Value} {h : HP} : pX 807 35 L S h = pX 807 39 L S h := pX_goto d807_35 (by decide)
theorem x807_38 {L S : List Value} {h : HP} : pX 807 38 L S h = pX 807 39 L (.int 0 :: S) h := pX_iconst d807_38 (by decide)
theorem x807_39 {L : List Value} {h : HP} {x : Int32} (hx : x = 0 ∨ x = 1) : pX 807 39 L [.int x] h = some (some (.int x), h) := pX_ret d807_39 (by rcases hx with rfl | rfl <;> rfl)
theorem x807_40 {S : List Value} {h : HP} {l0 : Value} {x0 : Int32} : pX 807 40 [l0, .int x0] S h = pX 807 41 [l0, .int x0] (.int x0 :: S) h := pX_stp d807_40 rfl rfl rfl
theorem x807_41 {L S : List Value} {h : HP} : pX 807 41 L S h = pX 807 43 L (.int 10 :: S) h := pX_bipush d807_41 (by decide)
theorem x807_43 {L S : List Value} {h : HP} {x y : Int32} : pX 807 43 L (.int y :: .int x :: S) h = if x = y then pX 807 46 L S h else pX 807 59 L S h := pX_icmp_ne d807_43 (by decide)
theorem x807_46 {S : List Value} {h : HP} {l1 : Value} {a0 : Nat} : pX 807 46 [.ref a0, l1] S h = pX 807 47 [.ref a0, l1] (.ref a0 :: S) h := pX_stp d807_46 rfl rfl rfl
theorem x807_47 {L S : List Value} {h : HP} {a : Nat} (hk : hp_k h a = 9) : pX 807 47 L (.ref a :: S) h = pX 807 50 L (.ref (hp_a h a 3) :: S) h := pX_get d807_47 rfl rfl hk
theorem x807_50 {L S : List Value} {h : HP} {a : Nat} : pX 807 50 L (.ref a :: S) h = if a = 0 then pX 807 57 L S h else pX 807 53 L S h := pX_ifnull d807_50 (by decide)
theorem x807_53 {L S : List Value} {h : HP} : pX 807 53 L S h = pX 807 54 L (.int 1 :: S) h := pX_iconst d807_53 (by decide)
theorem x807_54 {L S : List Value} {h : HP} : pX 807 54 L S h = pX 807 58 L S h := pX_goto d807_54 (by decide)
theorem x807_57 {L S : List Value} {h : HP} : pX 807 57 L S h = pX 807 58 L (.int 0 :: S) h := pX_iconst d807_57 (by decide)
theorem x807_58 {L : List Value} {h : HP} {x : Int32} (hx : x = 0 ∨ x = 1) : pX 807 58 L [.int x] h = some (some (.int x), h) := pX_ret d807_58 (by rcases hx with rfl | rfl <;> rfl)
theorem x807_59 {S : List Value} {h : HP} {l0 : Value} {x0 : Int32} : pX 807 59 [l0, .int x0] S h = pX 807 60 [l0, .int x0] (.int x0 :: S) h := pX_stp d807_59 rfl rfl rfl
theorem x807_60 {L S : List Value} {h : HP} : pX 807 60 L S h = pX 807 62 L (.int 11 :: S) h := pX_bipush d807_60 (by decide)
theorem x807_62 {L S : List Value} {h : HP} {x y : Int32} : pX 807 62 L (.int y :: .int x :: S) h = if x = y then pX 807 73 L S h else pX 807 65 L S h := pX_icmp_eq d807_62 (by decide)
theorem x807_65 {S : List Value} {h : HP} {l1 : Value} {a0 : Nat} : pX 807 65 [.ref a0, l1] S h = pX 807 66 [.ref a0, l1] (.ref a0 :: S) h := pX_stp d807_65 rfl rfl rfl
theorem x807_66 {L S : List Value} {h : HP} {a : Nat} (hk : hp_k h a = 9) : pX 807 66 L (.ref a :: S) h = pX 807 69 L (.int (hp_i h a 0) :: S) h := pX_get d807_66 rfl rfl hk
theorem x807_69 {S : List Value} {h : HP} {l0 : Value} {x0 : Int32} : pX 807 69 [l0, .int x0] S h = pX 807 70 [l0, .int x0] (.int x0 :: S) h := pX_stp d807_69 rfl rfl rfl
theorem x807_70 {L S : List Value} {h : HP} {x y : Int32} : pX 807 70 L (.int y :: .int x :: S) h = if x = y then pX 807 73 L S h else pX 807 77 L S h := pX_icmp_ne d807_70 (by decide)
theorem x807_73 {L S : List Value} {h : HP} : pX 807 73 L S h = pX 807 74 L (.int 1 :: S) h := pX_iconst d807_73 (by decide)
theorem x807_74 {L S : List Value} {h : HP} : pX 807 74 L S h = pX 807 78 L S h := pX_goto d807_74 (by decide)
theorem x807_77 {L S : List Value} {h : HP} : pX 807 77 L S h = pX 807 78 L (.int 0 :: S) h := pX_iconst d807_77 (by decide)
theorem x807_78 {L : List Value} {h : HP} {x : Int32} (hx : x = 0 ∨ x = 1) : pX 807 78 L [.int x] h = some (some (.int x), h) := pX_ret d807_78 (by rcases hx with rfl | rfl <;> rfl)
theorem d808_0 : decode (mb 808) 0 = .ok (.aload_n 0, 1) := by decide +kernel
theorem d808_1 : decode (mb 808) 1 = .ok (.getfield 9, 3) := by decide +kernel
theorem d808_4 : decode (mb 808) 4 = .ok (.aload_n 1, 1) := by decide +kernel
theorem d808_5 : decode (mb 808) 5 = .ok (.getfield 9, 3) := by decide +kernel
theorem d808_8 : decode (mb 808) 8 = .ok (.if_icmp .ne 40, 3) := by decide +kernel
theorem d808_11 : decode (mb 808) 11 = .ok (.aload_n 0, 1) := by decide +kernel
theorem d808_12 : decode (mb 808) 12 = .ok (.getfield 15, 3) := by decide +kernel
theorem d808_15 : decode (mb 808) 15 = .ok (.aload_n 1, 1) := by decide +kernel
theorem d808_16 : decode (mb 808) 16 = .ok (.getfield 15, 3) := by decide +kernel
theorem d808_19 : decode (mb 808) 19 = .ok (.if_icmp .ne 29, 3) := by decide +kernel
theorem d808_22 : decode (mb 808) 22 = .ok (.aload_n 0, 1) := by decide +kernel
theorem d808_23 : decode (mb 808) 23 = .ok (.getfield 18, 3) := by decide +kernel
theorem d808_26 : decode (mb 808) 26 = .ok (.aload_n 1, 1) := by decide +kernel
theorem d808_27 : decode (mb 808) 27 = .ok (.getfield 18, 3) := by decide +kernel
theorem d808_30 : decode (mb 808) 30 = .ok (.if_acmp .ne 18, 3) := by decide +kernel
theorem d808_33 : decode (mb 808) 33 = .ok (.aload_n 0, 1) := by decide +kernel
theorem d808_34 : decode (mb 808) 34 = .ok (.getfield 22, 3) := by decide +kernel
theorem d808_37 : decode (mb 808) 37 = .ok (.aload_n 1, 1) := by decide +kernel
theorem d808_38 : decode (mb 808) 38 = .ok (.getfield 22, 3) := by decide +kernel
theorem d808_41 : decode (mb 808) 41 = .ok (.if_acmp .ne 7, 3) := by decide +kernel
theorem d808_44 : decode (mb 808) 44 = .ok (.iconst 1, 1) := by decide +kernel
theorem d808_45 : decode (mb 808) 45 = .ok (.goto 4, 3) := by decide +kernel
theorem d808_48 : decode (mb 808) 48 = .ok (.iconst 0, 1) := by decide +kernel
theorem d808_49 : decode (mb 808) 49 = .ok (.ireturn, 1) := by decide +kernel
theorem x808_0 {S : List Value} {h : HP} {l1 : Value} {a0 : Nat} : pX 808 0 [.ref a0, l1] S h = pX 808 1 [.ref a0, l1] (.ref a0 :: S) h := pX_stp d808_0 rfl rfl rfl
theorem x808_1 {L S : List Value} {h : HP} {a : Nat} (hk : hp_k h a = 9) : pX 808 1 L (.ref a :: S) h = pX 808 4 L (.int (hp_i h a 0) :: S) h := pX_get d808_1 rfl rfl hk
theorem x808_4 {S : List Value} {h : HP} {l0 : Value} {a0 : Nat} : pX 808 4 [l0, .ref a0] S h = pX 808 5 [l0, .ref a0] (.ref a0 :: S) h := pX_stp d808_4 rfl rfl rfl
theorem x808_5 {L S : List Value} {h : HP} {a : Nat} (hk : hp_k h a = 9) : pX 808 5 L (.ref a :: S) h = pX 808 8 L (.int (hp_i h a 0) :: S) h := pX_get d808_5 rfl rfl hk
theorem x808_8 {L S : List Value} {h : HP} {x y : Int32} : pX 808 8 L (.int y :: .int x :: S) h = if x = y then pX 808 11 L S h else pX 808 48 L S h := pX_icmp_ne d808_8 (by decide)
theorem x808_11 {S : List Value} {h : HP} {l1 : Value} {a0 : Nat} : pX 808 11 [.ref a0, l1] S h = pX 808 12 [.ref a0, l1] (.ref a0 :: S) h := pX_stp d808_11 rfl rfl rfl
theorem x808_12 {L S : List Value} {h : HP} {a : Nat} (hk : hp_k h a = 9) : pX 808 12 L (.ref a :: S) h = pX 808 15 L (.int (hp_i h a 1) :: S) h := pX_get d808_12 rfl rfl hk
theorem x808_15 {S : List Value} {h : HP} {l0 : Value} {a0 : Nat} : pX 808 15 [l0, .ref a0] S h = pX 808 16 [l0, .ref a0] (.ref a0 :: S) h := pX_stp d808_15 rfl rfl rfl
theorem x808_16 {L S : List Value} {h : HP} {a : Nat} (hk : hp_k h a = 9) : pX 808 16 L (.ref a :: S) h = pX 808 19 L (.int (hp_i h a 1) :: S) h := pX_get d808_16 rfl rfl hk
theorem x808_19 {L S : List Value} {h : HP} {x y : Int32} : pX 808 19 L (.int y :: .int x :: S) h = if x = y then pX 808 22 L S h else pX 808 48 L S h := pX_icmp_ne d808_19 (by decide)
theorem x808_22 {S : List Value} {h : HP} {l1 : Value} {a0 : Nat} : pX 808 22 [.ref a0, l1] S h = pX 808 23 [.ref a0, l1] (.ref a0 :: S) h := pX_stp d808_22 rfl rfl rfl
theorem x808_23 {L S : List Value} {h : HP} {a : Nat} (hk : hp_k h a = 9) : pX 808 23 L (.ref a :: S) h = pX 808 26 L (.ref (hp_a h a 2) :: S) h := pX_get d808_23 rfl rfl hk
theorem x808_26 {S : List Value} {h : HP} {l0 : Value} {a0 : Nat} : pX 808 26 [l0, .ref a0] S h = pX 808 27 [l0, .ref a0] (.ref a0 :: S) h := pX_stp d808_26 rfl rfl rfl
theorem x808_27 {L S : List Value} {h : HP} {a : Nat} (hk : hp_k h a = 9) : pX 808 27 L (.ref a :: S) h = pX 808 30 L (.ref (hp_a h a 2) :: S) h := pX_get d808_27 rfl rfl hk
theorem x808_30 {L S : List Value} {h : HP} {a b : Nat} (ha : okr a = true) (hb : okr b = true) : pX 808 30 L (.ref b :: .ref a :: S) h = if a = b then pX 808 33 L S h else pX 808 48 L S h := pX_acmp_ne d808_30 (by decide) ha hb
theorem x808_33 {S : List Value} {h : HP} {l1 : Value} {a0 : Nat} : pX 808 33 [.ref a0, l1] S h = pX 808 34 [.ref a0, l1] (.ref a0 :: S) h := pX_stp d808_33 rfl rfl rfl
theorem x808_34 {L S : List Value} {h : HP} {a : Nat} (hk : hp_k h a = 9) : pX 808 34 L (.ref a :: S) h = pX 808 37 L (.ref (hp_a h a 3) :: S) h := pX_get d808_34 rfl rfl hk
theorem x808_37 {S : List Value} {h : HP} {l0 : Value} {a0 : Nat} : pX 808 37 [l0, .ref a0] S h = pX 808 38 [l0, .ref a0] (.ref a0 :: S) h := pX_stp d808_37 rfl rfl rfl
theorem x808_38 {L S : List Value} {h : HP} {a : Nat} (hk : hp_k h a = 9) : pX 808 38 L (.ref a :: S) h = pX 808 41 L (.ref (hp_a h a 3) :: S) h := pX_get d808_38 rfl rfl hk
theorem x808_41 {L S : List Value} {h : HP} {a b : Nat} (ha : okr a = true) (hb : okr b = true) : pX 808 41 L (.ref b :: .ref a :: S) h = if a = b then pX 808 44 L S h else pX 808 48 L S h := pX_acmp_ne d808_41 (by decide) ha hb
theorem x808_44 {L S : List Value} {h : HP} : pX 808 44 L S h = pX 808 45 L (.int 1 :: S) h := pX_iconst d808_44 (by decide)
theorem x808_45 {L S : List Value} {h : HP} : pX 808 45 L S h = pX 808 49 L S h := pX_goto d808_45 (by decide)
theorem x808_48 {L S : List Value} {h : HP} : pX 808 48 L S h = pX 808 49 L (.int 0 :: S) h := pX_iconst d808_48 (by decide)
theorem x808_49 {L : List Value} {h : HP} {x : Int32} (hx : x = 0 ∨ x = 1) : pX 808 49 L [.int x] h = some (some (.int x), h) := pX_ret d808_49 (by rcases hx with rfl | rfl <;> rfl)
