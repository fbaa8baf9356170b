theorem d326_0 : decode (mb 326) 0 = .ok (.aload_n 0, 1) := by decide +kernel
theorem d326_1 : decode (mb 326) 1 = .ok (.getfield 335, 3) := by decide +kernel
theorem d326_4 : decode (mb 326) 4 = .ok (.astore_n 3, 1) := by decide +kernel
theorem d326_5 : decode (mb 326) 5 = .ok (.aload_n 3, 1) := by decide +kernel
theorem d326_6 : decode (mb 326) 6 = .ok (.ifnonnull 8, 3) := by decide +kernel
theorem d326_9 : decode (mb 326) 9 = .ok (.aload_n 0, 1) := by decide +kernel
theorem d326_10 : decode (mb 326) 10 = .ok (.invokevirtual 316, 3) := by decide +kernel
theorem d326_13 : decode (mb 326) 13 = .ok (.ireturn, 1) := by decide +kernel
theorem d326_14 : decode (mb 326) 14 = .ok (.iload_n 1, 1) := by decide +kernel
theorem d326_15 : decode (mb 326) 15 = .ok (.iconst 1, 1) := by decide +kernel
theorem d326_16 : decode (mb 326) 16 = .ok (.if_icmp .ne 13, 3) := by decide +kernel
theorem d326_19 : decode (mb 326) 19 = .ok (.aload_n 3, 1) := by decide +kernel
theorem d326_20 : decode (mb 326) 20 = .ok (.getfield 342, 3) := by decide +kernel
theorem d326_23 : decode (mb 326) 23 = .ok (.aload_n 2, 1) := by decide +kernel
theorem d326_24 : decode (mb 326) 24 = .ok (.invokevirtual 157, 3) := by decide +kernel
theorem d326_27 : decode (mb 326) 27 = .ok (.iconst 0, 1) := by decide +kernel
theorem d326_28 : decode (mb 326) 28 = .ok (.ireturn, 1) := by decide +kernel
theorem d326_29 : decode (mb 326) 29 = .ok (.aload_n 2, 1) := by decide +kernel
theorem d326_30 : decode (mb 326) 30 = .ok (.invokevirtual 283, 3) := by decide +kernel
theorem d326_33 : decode (mb 326) 33 = .ok (.istore 4, 2) := by decide +kernel
theorem d326_35 : decode (mb 326) 35 = .ok (.iload 4, 2) := by decide +kernel
theorem d326_37 : decode (mb 326) 37 = .ok (.ifCond .ne 11, 3) := by decide +kernel
theorem d326_40 : decode (mb 326) 40 = .ok (.aload_n 3, 1) := by decide +kernel
theorem d326_41 : decode (mb 326) 41 = .ok (.aload_n 2, 1) := by decide +kernel
theorem d326_42 : decode (mb 326) 42 = .ok (.getfield 289, 3) := by decide +kernel
theorem d326_45 : decode (mb 326) 45 = .ok (.putfield 339, 3) := by decide +kernel
theorem d326_48 : decode (mb 326) 48 = .ok (.iload 4, 2) := by decide +kernel
theorem d326_50 : decode (mb 326) 50 = .ok (.ireturn, 1) := by decide +kernel
theorem x326_0 {S : List Value} {h : HP} {l1 l2 l3 l4 : Value} {a0 : Nat} : pX 326 0 [.ref a0, l1, l2, l3, l4] S h = pX 326 1 [.ref a0, l1, l2, l3, l4] (.ref a0 :: S) h := pX_stp d326_0 rfl rfl rfl
theorem x326_1 {L S : List Value} {h : HP} {a : Nat} (hk : hp_k h a = 9) : pX 326 1 L (.ref a :: S) h = pX 326 4 L (.ref (hp_a h a 2) :: S) h := pX_get d326_1 rfl rfl hk
theorem x326_4 {S : List Value} {h : HP} {l0 l1 l2 l3 l4 : Value} {a0 : Nat} : pX 326 4 [l0, l1, l2, l3, l4] (.ref a0 :: S) h = pX 326 5 [l0, l1, l2, .ref a0, l4] S h := pX_stp d326_4 rfl rfl rfl
theorem x326_5 {S : List Value} {h : HP} {l0 l1 l2 l4 : Value} {a0 : Nat} : pX 326 5 [l0, l1, l2, .ref a0, l4] S h = pX 326 6 [l0, l1, l2, .ref a0, l4] (.ref a0 :: S) h := pX_stp d326_5 rfl rfl rfl
theorem x326_6 {L S : List Value} {h : HP} {a : Nat} : pX 326 6 L (.ref a :: S) h = if a = 0 then pX 326 9 L S h else pX 326 14 L S h := pX_ifnonnull d326_6 (by decide)
theorem x326_9 {S : List Value} {h : HP} {l1 l2 l3 l4 : Value} {a0 : Nat} : pX 326 9 [.ref a0, l1, l2, l3, l4] S h = pX 326 10 [.ref a0, l1, l2, l3, l4] (.ref a0 :: S) h := pX_stp d326_9 rfl rfl rfl
theorem x326_10 {L : List Value} {h : HP} {a0 : Nat} (hk : hp_k h a0 = 9) : pX 326 10 L [.ref a0] h = (pX 810 0 [.ref a0] [] h).bind (fun q => pX 326 13 L (q.1.toList ++ []) q.2) := pX_inv (a := a0) (t := 9) 810 [.ref a0] [] d326_10 rfl rfl rfl hk
theorem x326_13 {L : List Value} {h : HP} {x : Int32} : pX 326 13 L [.int x] h = some (some (.int x), h) := pX_ret d326_13 rfl
theorem x326_14 {S : List Value} {h : HP} {l0 l2 l3 l4 : Value} {x0 : Int32} : pX 326 14 [l0, .int x0, l2, l3, l4] S h = pX 326 15 [l0, .int x0, l2, l3, l4] (.int x0 :: S) h := pX_stp d326_14 rfl rfl rfl
theorem x326_15 {L S : List Value} {h : HP} : pX 326 15 L S h = pX 326 16 L (.int 1 :: S) h := pX_iconst d326_15 (by decide)
theorem x326_16 {L S : List Value} {h : HP} {x y : Int32} : pX 326 16 L (.int y :: .int x :: S) h = if x = y then pX 326 19 L S h else pX 326 29 L S h := pX_icmp_ne d326_16 (by decide)
theorem x326_19 {S : List Value} {h : HP} {l0 l1 l2 l4 : Value} {a0 : Nat} : pX 326 19 [l0, l1, l2, .ref a0, l4] S h = pX 326 20 [l0, l1, l2, .ref a0, l4] (.ref a0 :: S) h := pX_stp d326_19 rfl rfl rfl
theorem x326_20 {L S : List Value} {h : HP} {a : Nat} (hk : hp_k h a = 1) : pX 326 20 L (.ref a :: S) h = pX 326 23 L (.ref (hp_a h a 1) :: S) h := pX_get d326_20 rfl rfl hk
theorem x326_23 {S : List Value} {h : HP} {l0 l1 l3 l4 : Value} {a0 : Nat} : pX 326 23 [l0, l1, .ref a0, l3, l4] S h = pX 326 24 [l0, l1, .ref a0, l3, l4] (.ref a0 :: S) h := pX_stp d326_23 rfl rfl rfl
theorem x326_24 {L : List Value} {h : HP} {a0 : Nat} {a1 : Nat} (hk : hp_k h a1 = 9) : pX 326 24 L [.ref a0, .ref a1] h = (pX 805 0 [.ref a1, .ref a0] [] h).bind (fun q => pX 326 27 L (q.1.toList ++ []) q.2) := pX_inv (a := a1) (t := 9) 805 [.ref a1, .ref a0] [] d326_24 rfl rfl rfl hk
theorem x326_27 {L S : List Value} {h : HP} : pX 326 27 L S h = pX 326 28 L (.int 0 :: S) h := pX_iconst d326_27 (by decide)
theorem x326_28 {L : List Value} {h : HP} {x : Int32} : pX 326 28 L [.int x] h = some (some (.int x), h) := pX_ret d326_28 rfl
theorem x326_29 {S : List Value} {h : HP} {l0 l1 l3 l4 : Value} {a0 : Nat} : pX 326 29 [l0, l1, .ref a0, l3, l4] S h = pX 326 30 [l0, l1, .ref a0, l3, l4] (.ref a0 :: S) h := pX_stp d326_29 rfl rfl rfl
theorem x326_30 {L : List Value} {h : HP} {a0 : Nat} (hk : hp_k h a0 = 9) : pX 326 30 L [.ref a0] h = (pX 811 0 [.ref a0] [] h).bind (fun q => pX 326 33 L (q.1.toList ++ []) q.2) := pX_inv (a := a0) (t := 9) 811 [.ref a0] [] d326_30 rfl rfl rfl hk
theorem x326_33 {S : List Value} {h : HP} {l0 l1 l2 l3 l4 : Value} {x0 : Int32} : pX 326 33 [l0, l1, l2, l3, l4] (.int x0 :: S) h = pX 326 35 [l0, l1, l2, l3, .int x0] S h := pX_stp d326_33 rfl rfl rfl
theorem x326_35 {S : List Value} {h : HP} {l0 l1 l2 l3 : Value} {x0 : Int32} : pX 326 35 [l0, l1, l2, l3, .int x0] S h = pX 326 37 [l0, l1, l2, l3, .int x0] (.int x0 :: S) h := pX_stp d326_35 rfl rfl rfl
theorem x326_37 {L S : List Value} {h : HP} {x : Int32} : pX 326 37 L (.int x :: S) h = if x = 0 then pX 326 40 L S h else pX 326 48 L S h := pX_if_ne d326_37 (by decide)
theorem x326_40 {S : List Value} {h : HP} {l0 l1 l2 l4 : Value} {a0 : Nat} : pX 326 40 [l0, l1, l2, .ref a0, l4] S h = pX 326 41 [l0, l1, l2, .ref a0, l4] (.ref a0 :: S) h := pX_stp d326_40 rfl rfl rfl
theorem x326_41 {S : List Value} {h : HP} {l0 l1 l3 l4 : Value} {a0 : Nat} : pX 326 41 [l0, l1, .ref a0, l3, l4] S h = pX 326 42 [l0, l1, .ref a0, l3, l4] (.ref a0 :: S) h := pX_stp d326_41 rfl rfl rfl
theorem x326_42 {L S : List Value} {h : HP} {a : Nat} (hk : hp_k h a = 9) : pX 326 42 L (.ref a :: S) h = pX 326 45 L (.int (hp_i h a 1) :: S) h := pX_get d326_42 rfl rfl hk
theorem x326_45 {L S : List Value} {h : HP} {a : Nat} {x : Int32} (hk : hp_k h a = 1) : pX 326 45 L (.int x :: .ref a :: S) h = pX 326 48 L S (hp_wi h a 2 x) := pX_put d326_45 rfl rfl rfl hk
theorem x326_48 {S : List Value} {h : HP} {l0 l1 l2 l3 : Value} {x0 : Int32} : pX 326 48 [l0, l1, l2, l3, .int x0] S h = pX 326 50 [l0, l1, l2, l3, .int x0] (.int x0 :: S) h := pX_stp d326_48 rfl rfl rfl
theorem x326_50 {L : List Value} {h : HP} {x : Int32} : pX 326 50 L [.int x] h = some (some (.int x), h) := pX_ret d326_50 rfl
theorem d327_0 : decode (mb 327) 0 = .ok (.aload_n 2, 1) := by decide +kernel
theorem d327_1 : decode (mb 327) 1 = .ok (.getfield 335, 3) := by decide +kernel
theorem d327_4 : decode (mb 327) 4 = .ok (.astore_n 3, 1) := by decide +kernel
theorem d327_5 : decode (mb 327) 5 = .ok (.aload_n 3, 1) := by decide +kernel
theorem d327_6 : decode (mb 327) 6 = .ok (.ifnonnull 8, 3) := by decide +kernel
theorem d327_9 : decode (mb 327) 9 = .ok (.aload_n 2, 1) := by decide +kernel
theorem d327_10 : decode (mb 327) 10 = .ok (.invokevirtual 316, 3) := by decide +kernel
theorem d327_13 : decode (mb 327) 13 = .ok (.ireturn, 1) := by decide +kernel
theorem d327_14 : decode (mb 327) 14 = .ok (.aload_n 0, 1) := by decide +kernel
theorem d327_15 : decode (mb 327) 15 = .ok (.getfield 27, 3) := by decide +kernel
theorem d327_18 : decode (mb 327) 18 = .ok (.aload_n 1, 1) := by decide +kernel
theorem d327_19 : decode (mb 327) 19 = .ok (.aload_n 3, 1) := by decide +kernel
theorem d327_20 : decode (mb 327) 20 = .ok (.invokevirtual 348, 3) := by decide +kernel
theorem d327_23 : decode (mb 327) 23 = .ok (.aload_n 0, 1) := by decide +kernel
theorem d327_24 : decode (mb 327) 24 = .ok (.getfield 20, 3) := by decide +kernel
theorem d327_27 : decode (mb 327) 27 = .ok (.getfield 133, 3) := by decide +kernel
theorem d327_30 : decode (mb 327) 30 = .ok (.bipush 7, 2) := by decide +kernel
theorem d327_32 : decode (mb 327) 32 = .ok (.dup2, 1) := by decide +kernel
theorem d327_33 : decode (mb 327) 33 = .ok (.iaload, 1) := by decide +kernel
theorem d327_34 : decode (mb 327) 34 = .ok (.iconst 1, 1) := by decide +kernel
theorem d327_35 : decode (mb 327) 35 = .ok (.iadd, 1) := by decide +kernel
theorem d327_36 : decode (mb 327) 36 = .ok (.iastore, 1) := by decide +kernel
theorem d327_37 : decode (mb 327) 37 = .ok (.iconst 0, 1) := by decide +kernel
theorem d327_38 : decode (mb 327) 38 = .ok (.ireturn, 1) := by decide +kernel
theorem x327_0 {S : List Value} {h : HP} {l0 l1 l3 : Value} {a0 : Nat} : pX 327 0 [l0, l1, .ref a0, l3] S h = pX 327 1 [l0, l1, .ref a0, l3] (.ref a0 :: S) h := pX_stp d327_0 rfl rfl rfl
theorem x327_1 {L S : List Value} {h : HP} {a : Nat} (hk : hp_k h a = 9) : pX 327 1 L (.ref a :: S) h = pX 327 4 L (.ref (hp_a h a 2) :: S) h := pX_get d327_1 rfl rfl hk
theorem x327_4 {S : List Value} {h : HP} {l0 l1 l2 l3 : Value} {a0 : Nat} : pX 327 4 [l0, l1, l2, l3] (.ref a0 :: S) h = pX 327 5 [l0, l1, l2, .ref a0] S h := pX_stp d327_4 rfl rfl rfl
theorem x327_5 {S : List Value} {h : HP} {l0 l1 l2 : Value} {a0 : Nat} : pX 327 5 [l0, l1, l2, .ref a0] S h = pX 327 6 [l0, l1, l2, .ref a0] (.ref a0 :: S) h := pX_stp d327_5 rfl rfl rfl
theorem x327_6 {L S : List Value} {h : HP} {a : Nat} : pX 327 6 L (.ref a :: S) h = if a = 0 then pX 327 9 L S h else pX 327 14 L S h := pX_ifnonnull d327_6 (by decide)
theorem x327_9 {S : List Value} {h : HP} {l0 l1 l3 : Value} {a0 : Nat} : pX 327 9 [l0, l1, .ref a0, l3] S h = pX 327 10 [l0, l1, .ref a0, l3] (.ref a0 :: S) h := pX_stp d327_9 rfl rfl rfl
theorem x327_10 {L : List Value} {h : HP} {a0 : Nat} (hk : hp_k h a0 = 9) : pX 327 10 L [.ref a0] h = (pX 810 0 [.ref a0] [] h).bind (fun q => pX 327 13 L (q.1.toList ++ []) q.2) := pX_inv (a := a0) (t := 9) 810 [.ref a0] [] d327_10 rfl rfl rfl hk
theorem x327_13 {L : List Value} {h : HP} {x : Int32} : pX 327 13 L [.int x] h = some (some (.int x), h) := pX_ret d327_13 rfl
theorem x327_14 {S : List Value} {h : HP} {l1 l2 l3 : Value} {a0 : Nat} : pX 327 14 [.ref a0, l1, l2, l3] S h = pX 327 15 [.ref a0, l1, l2, l3] (.ref a0 :: S) h := pX_stp d327_14 rfl rfl rfl
theorem x327_15 {L S : List Value} {h : HP} {a : Nat} (hk : hp_k h a = 4) : pX 327 15 L (.ref a :: S) h = pX 327 18 L (.ref (hp_a h a 3) :: S) h := pX_get d327_15 rfl rfl hk
theorem x327_18 {S : List Value} {h : HP} {l0 l2 l3 : Value} {a0 : Nat} : pX 327 18 [l0, .ref a0, l2, l3] S h = pX 327 19 [l0, .ref a0, l2, l3] (.ref a0 :: S) h := pX_stp d327_18 rfl rfl rfl
theorem x327_19 {S : List Value} {h : HP} {l0 l1 l2 : Value} {a0 : Nat} : pX 327 19 [l0, l1, l2, .ref a0] S h = pX 327 20 [l0, l1, l2, .ref a0] (.ref a0 :: S) h := pX_stp d327_19 rfl rfl rfl
theorem x327_20 {L : List Value} {h : HP} {a0 : Nat} {a1 : Nat} {a2 : Nat} (hk : hp_k h a2 = 6) : pX 327 20 L [.ref a0, .ref a1, .ref a2] h = (pX 501 0 [.ref a2, .ref a1, .ref a0, .retAddr 0] [] h).bind (fun q => pX 327 23 L (q.1.toList ++ []) q.2) := pX_inv (a := a2) (t := 6) 501 [.ref a2, .ref a1, .ref a0] [] d327_20 rfl rfl rfl hk
theorem x327_23 {S : List Value} {h : HP} {l1 l2 l3 : Value} {a0 : Nat} : pX 327 23 [.ref a0, l1, l2, l3] S h = pX 327 24 [.ref a0, l1, l2, l3] (.ref a0 :: S) h := pX_stp d327_23 rfl rfl rfl
theorem x327_24 {L S : List Value} {h : HP} {a : Nat} (hk : hp_k h a = 4) : pX 327 24 L (.ref a :: S) h = pX 327 27 L (.ref (hp_a h a 2) :: S) h := pX_get d327_24 rfl rfl hk
theorem x327_27 {L S : List Value} {h : HP} {a : Nat} (hk : hp_k h a = 7) : pX 327 27 L (.ref a :: S) h = pX 327 30 L (.ref (hp_a h a 1) :: S) h := pX_get d327_27 rfl rfl hk
theorem x327_30 {L S : List Value} {h : HP} : pX 327 30 L S h = pX 327 32 L (.int 7 :: S) h := pX_bipush d327_30 (by decide)
theorem x327_32 {L S : List Value} {h : HP} {x0 : Int32} {a0 : Nat} : pX 327 32 L (.int x0 :: .ref a0 :: S) h = pX 327 33 L (.int x0 :: .ref a0 :: .int x0 :: .ref a0 :: S) h := pX_stp d327_32 rfl rfl rfl
theorem x327_33 {L S : List Value} {h : HP} {a : Nat} {j : Int32} (hk : hp_k h a = 100) (hj : inb j (hp_l h a) = true) : pX 327 33 L (.int j :: .ref a :: S) h = pX 327 34 L (.int (hp_i h a (ix j)) :: S) h := pX_ild d327_33 hk hj
theorem x327_34 {L S : List Value} {h : HP} : pX 327 34 L S h = pX 327 35 L (.int 1 :: S) h := pX_iconst d327_34 (by decide)
theorem x327_35 {L S : List Value} {h : HP} {x y : Int32} : pX 327 35 L (.int y :: .int x :: S) h = pX 327 36 L (.int (x + y) :: S) h := pX_stp d327_35 rfl rfl rfl
theorem x327_36 {L S : List Value} {h : HP} {a : Nat} {j x : Int32} (hk : hp_k h a = 100) (hj : inb j (hp_l h a) = true) : pX 327 36 L (.int x :: .int j :: .ref a :: S) h = pX 327 37 L S (hp_wi h a (ix j) x) := pX_ist d327_36 hk hj
theorem x327_37 {L S : List Value} {h : HP} : pX 327 37 L S h = pX 327 38 L (.int 0 :: S) h := pX_iconst d327_37 (by decide)
theorem x327_38 {L : List Value} {h : HP} {x : Int32} : pX 327 38 L [.int x] h = some (some (.int x), h) := pX_ret d327_38 rfl
theorem d328_0 : decode (mb 328) 0 = .ok (.aload_n 2, 1) := by decide +kernel
theorem d328_1 : decode (mb 328) 1 = .ok (.getfield 335, 3) := by decide +kernel
theorem d328_4 : decode (mb 328) 4 = .ok (.astore_n 3, 1) := by decide +kernel
theorem d328_5 : decode (mb 328) 5 = .ok (.aload_n 3, 1) := by decide +kernel
theorem d328_6 : decode (mb 328) 6 = .ok (.ifnonnull 8, 3) := by decide +kernel
theorem d328_9 : decode (mb 328) 9 = .ok (.aload_n 2, 1) := by decide +kernel
theorem d328_10 : decode (mb 328) 10 = .ok (.invokevirtual 316, 3) := by decide +kernel
theorem d328_13 : decode (mb 328) 13 = .ok (.ireturn, 1) := by decide +kernel
theorem d328_14 : decode (mb 328) 14 = .ok (.aload_n 0, 1) := by decide +kernel
theorem d328_15 : decode (mb 328) 15 = .ok (.getfield 27, 3) := by decide +kernel
theorem d328_18 : decode (mb 328) 18 = .ok (.aload_n 1, 1) := by decide +kernel
theorem d328_19 : decode (mb 328) 19 = .ok (.aload_n 3, 1) := by decide +kernel
theorem d328_20 : decode (mb 328) 20 = .ok (.invokevirtual 351, 3) := by decide +kernel
theorem d328_23 : decode (mb 328) 23 = .ok (.ifCond .eq 7, 3) := by decide +kernel
theorem d328_26 : decode (mb 328) 26 = .ok (.iconst 0, 1) := by decide +kernel
theorem d328_27 : decode (mb 328) 27 = .ok (.goto 5, 3) := by decide +kernel
theorem d328_30 : decode (mb 328) 30 = .ok (.bipush 6, 2) := by decide +kernel
theorem d328_32 : decode (mb 328) 32 = .ok (.ireturn, 1) := by decide +kernel
theorem x328_0 {S : List Value} {h : HP} {l0 l1 l3 : Value} {a0 : Nat} : pX 328 0 [l0, l1, .ref a0, l3] S h = pX 328 1 [l0, l1, .ref a0, l3] (.ref a0 :: S) h := pX_stp d328_0 rfl rfl rfl
theorem x328_1 {L S : List Value} {h : HP} {a : Nat} (hk : hp_k h a = 9) : pX 328 1 L (.ref a :: S) h = pX 328 4 L (.ref (hp_a h a 2) :: S) h := pX_get d328_1 rfl rfl hk
theorem x328_4 {S : List Value} {h : HP} {l0 l1 l2 l3 : Value} {a0 : Nat} : pX 328 4 [l0, l1, l2, l3] (.ref a0 :: S) h = pX 328 5 [l0, l1, l2, .ref a0] S h := pX_stp d328_4 rfl rfl rfl
theorem x328_5 {S : List Value} {h : HP} {l0 l1 l2 : Value} {a0 : Nat} : pX 328 5 [l0, l1, l2, .ref a0] S h = pX 328 6 [l0, l1, l2, .ref a0] (.ref a0 :: S) h := pX_stp d328_5 rfl rfl rfl
theorem x328_6 {L S : List Value} {h : HP} {a : Nat} : pX 328 6 L (.ref a :: S) h = if a = 0 then pX 328 9 L S h else pX 328 14 L S h := pX_ifnonnull d328_6 (by decide)
theorem x328_9 {S : List Value} {h : HP} {l0 l1 l3 : Value} {a0 : Nat} : pX 328 9 [l0, l1, .ref a0, l3] S h = pX 328 10 [l0, l1, .ref a0, l3] (.ref a0 :: S) h := pX_stp d328_9 rfl rfl rfl
theorem x328_10 {L : List Value} {h : HP} {a0 : Nat} (hk : hp_k h a0 = 9) : pX 328 10 L [.ref a0] h = (pX 810 0 [.ref a0] [] h).bind (fun q => pX 328 13 L (q.1.toList ++ []) q.2) := pX_inv (a := a0) (t := 9) 810 [.ref a0] [] d328_10 rfl rfl rfl hk
theorem x328_13 {L : List Value} {h : HP} {x : Int32} : pX 328 13 L [.int x] h = some (some (.int x), h) := pX_ret d328_13 rfl
theorem x328_14 {S : List Value} {h : HP} {l1 l2 l3 : Value} {a0 : Nat} : pX 328 14 [.ref a0, l1, l2, l3] S h = pX 328 15 [.ref a0, l1, l2, l3] (.ref a0 :: S) h := pX_stp d328_14 rfl rfl rfl
theorem x328_15 {L S : List Value} {h : HP} {a : Nat} (hk : hp_k h a = 4) : pX 328 15 L (.ref a :: S) h = pX 328 18 L (.ref (hp_a h a 3) :: S) h := pX_get d328_15 rfl rfl hk
theorem x328_18 {S : List Value} {h : HP} {l0 l2 l3 : Value} {a0 : Nat} : pX 328 18 [l0, .ref a0, l2, l3] S h = pX 328 19 [l0, .ref a0, l2, l3] (.ref a0 :: S) h := pX_stp d328_18 rfl rfl rfl
theorem x328_19 {S : List Value} {h : HP} {l0 l1 l2 : Value} {a0 : Nat} : pX 328 19 [l0, l1, l2, .ref a0] S h = pX 328 20 [l0, l1, l2, .ref a0] (.ref a0 :: S) h := pX_stp d328_19 rfl rfl rfl
theorem x328_20 {L : List Value} {h : HP} {a0 : Nat} {a1 : Nat} {a2 : Nat} (hk : hp_k h a2 = 6) : pX 328 20 L [.ref a0, .ref a1, .ref a2] h = (pX 502 0 [.ref a2, .ref a1, .ref a0, .retAddr 0] [] h).bind (fun q => pX 328 23 L (q.1.toList ++ []) q.2) := pX_inv (a := a2) (t := 6) 502 [.ref a2, .ref a1, .ref a0] [] d328_20 rfl rfl rfl hk
theorem x328_23 {L S : List Value} {h : HP} {x : Int32} : pX 328 23 L (.int x :: S) h = if x = 0 then pX 328 30 L S h else pX 328 26 L S h := pX_if_eq d328_23 (by decide)
theorem x328_26 {L S : List Value} {h : HP} : pX 328 26 L S h = pX 328 27 L (.int 0 :: S) h := pX_iconst d328_26 (by decide)
theorem x328_27 {L S : List Value} {h : HP} : pX 328 27 L S h = pX 328 32 L S h := pX_goto d328_27 (by decide)
theorem x328_30 {L S : List Value} {h : HP} : pX 328 30 L S h = pX 328 32 L (.int 6 :: S) h := pX_bipush d328_30 (by decide)
theorem x328_32 {L : List Value} {h : HP} {x : Int32} : pX 328 32 L [.int x] h = some (some (.int x), h) := pX_ret d328_32 rfl
theorem d329_0 : decode (mb 329) 0 = .ok (.aload_n 1, 1) := by decide +kernel
theorem d329_1 : decode (mb 329) 1 = .ok (.invokevirtual 283, 3) := by decide +kernel
theorem d329_4 : decode (mb 329) 4 = .ok (.istore_n 2, 1) := by decide +kernel
theorem d329_5 : decode (mb 329) 5 = .ok (.iload_n 2, 1) := by decide +kernel
theorem d329_6 : decode (mb 329) 6 = .ok (.ifCond .eq 5, 3) := by decide +kernel
theorem d329_9 : decode (mb 329) 9 = .ok (.iload_n 2, 1) := by decide +kernel
theorem d329_10 : decode (mb 329) 10 = .ok (.ireturn, 1) := by decide +kernel
theorem d329_11 : decode (mb 329) 11 = .ok (.aload_n 0, 1) := by decide +kernel
theorem d329_12 : decode (mb 329) 12 = .ok (.aload_n 1, 1) := by decide +kernel
theorem d329_13 : decode (mb 329) 13 = .ok (.getfield 289, 3) := by decide +kernel
theorem d329_16 : decode (mb 329) 16 = .ok (.putfield 181, 3) := by decide +kernel
theorem d329_19 : decode (mb 329) 19 = .ok (.bipush 9, 2) := by decide +kernel
theorem d329_21 : decode (mb 329) 21 = .ok (.ireturn, 1) := by decide +kernel
theorem x329_0 {S : List Value} {h : HP} {l0 l2 : Value} {a0 : Nat} : pX 329 0 [l0, .ref a0, l2] S h = pX 329 1 [l0, .ref a0, l2] (.ref a0 :: S) h := pX_stp d329_0 rfl rfl rfl
theorem x329_1 {L : List Value} {h : HP} {a0 : Nat} (hk : hp_k h a0 = 9) : pX 329 1 L [.ref a0] h = (pX 811 0 [.ref a0] [] h).bind (fun q => pX 329 4 L (q.1.toList ++ []) q.2) := pX_inv (a := a0) (t := 9) 811 [.ref a0] [] d329_1 rfl rfl rfl hk
theorem x329_4 {S : List Value} {h : HP} {l0 l1 l2 : Value} {x0 : Int32} : pX 329 4 [l0, l1, l2] (.int x0 :: S) h = pX 329 5 [l0, l1, .int x0] S h := pX_stp d329_4 rfl rfl rfl
theorem x329_5 {S : List Value} {h : HP} {l0 l1 : Value} {x0 : Int32} : pX 329 5 [l0, l1, .int x0] S h = pX 329 6 [l0, l1, .int x0] (.int x0 :: S) h := pX_stp d329_5 rfl rfl rfl
theorem x329_6 {L S : List Value} {h : HP} {x : Int32} : pX 329 6 L (.int x :: S) h = if x = 0 then pX 329 11 L S h else pX 329 9 L S h := pX_if_eq d329_6 (by decide)
theorem x329_9 {S : List Value} {h : HP} {l0 l1 : Value} {x0 : Int32} : pX 329 9 [l0, l1, .int x0] S h = pX 329 10 [l0, l1, .int x0] (.int x0 :: S) h := pX_stp d329_9 rfl rfl rfl
theorem x329_10 {L : List Value} {h : HP} {x : Int32} : pX 329 10 L [.int x] h = some (some (.int x), h) := pX_ret d329_10 rfl
theorem x329_11 {S : List Value} {h : HP} {l1 l2 : Value} {a0 : Nat} : pX 329 11 [.ref a0, l1, l2] S h = pX 329 12 [.ref a0, l1, l2] (.ref a0 :: S) h := pX_stp d329_11 rfl rfl rfl
theorem x329_12 {S : List Value} {h : HP} {l0 l2 : Value} {a0 : Nat} : pX 329 12 [l0, .ref a0, l2] S h = pX 329 13 [l0, .ref a0, l2] (.ref a0 :: S) h := pX_stp d329_12 rfl rfl rfl
theorem x329_13 {L S : List Value} {h : HP} {a : Nat} (hk : hp_k h a = 9) : pX 329 13 L (.ref a :: S) h = pX 329 16 L (.int (hp_i h a 1) :: S) h := pX_get d329_13 rfl rfl hk
theorem x329_16 {L S : List Value} {h : HP} {a : Nat} {x : Int32} (hk : hp_k h a = 4) : pX 329 16 L (.int x :: .ref a :: S) h = pX 329 19 L S (hp_wi h a 9 x) := pX_put d329_16 rfl rfl rfl hk
theorem x329_19 {L S : List Value} {h : HP} : pX 329 19 L S h = pX 329 21 L (.int 9 :: S) h := pX_bipush d329_19 (by decide)
theorem x329_21 {L : List Value} {h : HP} {x : Int32} : pX 329 21 L [.int x] h = some (some (.int x), h) := pX_ret d329_21 rfl
theorem d330_0 : decode (mb 330) 0 = .ok (.aload_n 0, 1) := by decide +kernel
theorem d330_1 : decode (mb 330) 1 = .ok (.iload_n 2, 1) := by decide +kernel
theorem d330_2 : decode (mb 330) 2 = .ok (.invokevirtual 354, 3) := by decide +kernel
theorem d330_5 : decode (mb 330) 5 = .ok (.ifCond .eq 6, 3) := by decide +kernel
theorem d330_8 : decode (mb 330) 8 = .ok (.bipush 8, 2) := by decide +kernel
theorem d330_10 : decode (mb 330) 10 = .ok (.ireturn, 1) := by decide +kernel
theorem d330_11 : decode (mb 330) 11 = .ok (.aload_n 0, 1) := by decide +kernel
theorem d330_12 : decode (mb 330) 12 = .ok (.getfield 62, 3) := by decide +kernel
theorem d330_15 : decode (mb 330) 15 = .ok (.bipush 12, 2) := by decide +kernel
theorem d330_17 : decode (mb 330) 17 = .ok (.if_icmp .lt 6, 3) := by decide +kernel
theorem d330_20 : decode (mb 330) 20 = .ok (.bipush 7, 2) := by decide +kernel
theorem d330_22 : decode (mb 330) 22 = .ok (.ireturn, 1) := by decide +kernel
theorem d330_23 : decode (mb 330) 23 = .ok (.aload_n 0, 1) := by decide +kernel
theorem d330_24 : decode (mb 330) 24 = .ok (.iload_n 2, 1) := by decide +kernel
theorem d330_25 : decode (mb 330) 25 = .ok (.aload_n 1, 1) := by decide +kernel
theorem d330_26 : decode (mb 330) 26 = .ok (.getfield 177, 3) := by decide +kernel
theorem d330_29 : decode (mb 330) 29 = .ok (.iload_n 3, 1) := by decide +kernel
theorem d330_30 : decode (mb 330) 30 = .ok (.invokevirtual 93, 3) := by decide +kernel
theorem d330_33 : decode (mb 330) 33 = .ok (.ifCond .eq 7, 3) := by decide +kernel
theorem d330_36 : decode (mb 330) 36 = .ok (.iconst (-1), 1) := by decide +kernel
theorem d330_37 : decode (mb 330) 37 = .ok (.goto 5, 3) := by decide +kernel
theorem d330_40 : decode (mb 330) 40 = .ok (.bipush (-9), 2) := by decide +kernel
theorem d330_42 : decode (mb 330) 42 = .ok (.ireturn, 1) := by decide +kernel
theorem x330_0 {S : List Value} {h : HP} {l1 l2 l3 : Value} {a0 : Nat} : pX 330 0 [.ref a0, l1, l2, l3] S h = pX 330 1 [.ref a0, l1, l2, l3] (.ref a0 :: S) h := pX_stp d330_0 rfl rfl rfl
theorem x330_1 {S : List Value} {h : HP} {l0 l1 l3 : Value} {x0 : Int32} : pX 330 1 [l0, l1, .int x0, l3] S h = pX 330 2 [l0, l1, .int x0, l3] (.int x0 :: S) h := pX_stp d330_1 rfl rfl rfl
theorem x330_2 {L : List Value} {h : HP} {x0 : Int32} {a0 : Nat} (hk : hp_k h a0 = 4) : pX 330 2 L [.int x0, .ref a0] h = (pX 301 0 [.ref a0, .int x0] [] h).bind (fun q => pX 330 5 L (q.1.toList ++ []) q.2) := pX_inv (a := a0) (t := 4) 301 [.ref a0, .int x0] [] d330_2 rfl rfl rfl hk
theorem x330_5 {L S : List Value} {h : HP} {x : Int32} : pX 330 5 L (.int x :: S) h = if x = 0 then pX 330 11 L S h else pX 330 8 L S h := pX_if_eq d330_5 (by decide)
theorem x330_8 {L S : List Value} {h : HP} : pX 330 8 L S h = pX 330 10 L (.int 8 :: S) h := pX_bipush d330_8 (by decide)
theorem x330_10 {L : List Value} {h : HP} {x : Int32} : pX 330 10 L [.int x] h = some (some (.int x), h) := pX_ret d330_10 rfl
theorem x330_11 {S : List Value} {h : HP} {l1 l2 l3 : Value} {a0 : Nat} : pX 330 11 [.ref a0, l1, l2, l3] S h = pX 330 12 [.ref a0, l1, l2, l3] (.ref a0 :: S) h := pX_stp d330_11 rfl rfl rfl
theorem x330_12 {L S : List Value} {h : HP} {a : Nat} (hk : hp_k h a = 4) : pX 330 12 L (.ref a :: S) h = pX 330 15 L (.int (hp_i h a 7) :: S) h := pX_get d330_12 rfl rfl hk
theorem x330_15 {L S : List Value} {h : HP} : pX 330 15 L S h = pX 330 17 L (.int 12 :: S) h := pX_bipush d330_15 (by decide)
theorem x330_17 {L S : List Value} {h : HP} {x y : Int32} : pX 330 17 L (.int y :: .int x :: S) h = if x < y then pX 330 23 L S h else pX 330 20 L S h := pX_icmp_lt d330_17 (by decide)
theorem x330_20 {L S : List Value} {h : HP} : pX 330 20 L S h = pX 330 22 L (.int 7 :: S) h := pX_bipush d330_20 (by decide)
theorem x330_22 {L : List Value} {h : HP} {x : Int32} : pX 330 22 L [.int x] h = some (some (.int x), h) := pX_ret d330_22 rfl
theorem x330_23 {S : List Value} {h : HP} {l1 l2 l3 : Value} {a0 : Nat} : pX 330 23 [.ref a0, l1, l2, l3] S h = pX 330 24 [.ref a0, l1, l2, l3] (.ref a0 :: S) h := pX_stp d330_23 rfl rfl rfl
theorem x330_24 {S : List Value} {h : HP} {l0 l1 l3 : Value} {x0 : Int32} : pX 330 24 [l0, l1, .int x0, l3] S h = pX 330 25 [l0, l1, .int x0, l3] (.int x0 :: S) h := pX_stp d330_24 rfl rfl rfl
theorem x330_25 {S : List Value} {h : HP} {l0 l2 l3 : Value} {a0 : Nat} : pX 330 25 [l0, .ref a0, l2, l3] S h = pX 330 26 [l0, .ref a0, l2, l3] (.ref a0 :: S) h := pX_stp d330_25 rfl rfl rfl
theorem x330_26 {L S : List Value} {h : HP} {a : Nat} (hk : hp_k h a = 2) : pX 330 26 L (.ref a :: S) h = pX 330 29 L (.ref (hp_a h a 0) :: S) h := pX_get d330_26 rfl rfl hk
theorem x330_29 {S : List Value} {h : HP} {l0 l1 l2 : Value} {x0 : Int32} : pX 330 29 [l0, l1, l2, .int x0] S h = pX 330 30 [l0, l1, l2, .int x0] (.int x0 :: S) h := pX_stp d330_29 rfl rfl rfl
theorem x330_30 {L : List Value} {h : HP} {x0 : Int32} {a0 : Nat} {x1 : Int32} {a1 : Nat} (hk : hp_k h a1 = 4) : pX 330 30 L [.int x0, .ref a0, .int x1, .ref a1] h = (pX 308 0 [.ref a1, .int x1, .ref a0, .int x0, .retAddr 0] [] h).bind (fun q => pX 330 33 L (q.1.toList ++ []) q.2) := pX_inv (a := a1) (t := 4) 308 [.ref a1, .int x1, .ref a0, .int x0] [] d330_30 rfl rfl rfl hk
theorem x330_33 {L S : List Value} {h : HP} {x : Int32} : pX 330 33 L (.int x :: S) h = if x = 0 then pX 330 40 L S h else pX 330 36 L S h := pX_if_eq d330_33 (by decide)
theorem x330_36 {L S : List Value} {h : HP} : pX 330 36 L S h = pX 330 37 L (.int (-1) :: S) h := pX_iconst d330_36 (by decide)
theorem x330_37 {L S : List Value} {h : HP} : pX 330 37 L S h = pX 330 42 L S h := pX_goto d330_37 (by decide)
theorem x330_40 {L S : List Value} {h : HP} : pX 330 40 L S h = pX 330 42 L (.int (-9) :: S) h := pX_bipush d330_40 (by decide)
theorem x330_42 {L : List Value} {h : HP} {x : Int32} : pX 330 42 L [.int x] h = some (some (.int x), h) := pX_ret d330_42 rfl
theorem d331_0 : decode (mb 331) 0 = .ok (.aload_n 1, 1) := by decide +kernel
theorem d331_1 : decode (mb 331) 1 = .ok (.aload_n 2, 1) := by decide +kernel
theorem d331_2 : decode (mb 331) 2 = .ok (.invokestatic 286, 3) := by decide +kernel
theorem d331_5 : decode (mb 331) 5 = .ok (.istore_n 3, 1) := by decide +kernel
theorem d331_6 : decode (mb 331) 6 = .ok (.iload_n 3, 1) := by decide +kernel
theorem d331_7 : decode (mb 331) 7 = .ok (.ifCond .eq 5, 3) := by decide +kernel
theorem d331_10 : decode (mb 331) 10 = .ok (.iload_n 3, 1) := by decide +kernel
theorem d331_11 : decode (mb 331) 11 = .ok (.ireturn, 1) := by decide +kernel
theorem d331_12 : decode (mb 331) 12 = .ok (.aload_n 2, 1) := by decide +kernel
theorem d331_13 : decode (mb 331) 13 = .ok (.getfield 289, 3) := by decide +kernel
theorem d331_16 : decode (mb 331) 16 = .ok (.iconst 0, 1) := by decide +kernel
theorem d331_17 : decode (mb 331) 17 = .ok (.bipush 11, 2) := by decide +kernel
theorem d331_19 : decode (mb 331) 19 = .ok (.invokestatic 357, 3) := by decide +kernel
theorem d331_22 : decode (mb 331) 22 = .ok (.ifCond .eq 5, 3) := by decide +kernel
theorem d331_25 : decode (mb 331) 25 = .ok (.iconst 2, 1) := by decide +kernel
theorem d331_26 : decode (mb 331) 26 = .ok (.ireturn, 1) := by decide +kernel
theorem d331_27 : decode (mb 331) 27 = .ok (.aload_n 0, 1) := by decide +kernel
theorem d331_28 : decode (mb 331) 28 = .ok (.getfield 31, 3) := by decide +kernel
theorem d331_31 : decode (mb 331) 31 = .ok (.aload_n 2, 1) := by decide +kernel
theorem d331_32 : decode (mb 331) 32 = .ok (.getfield 289, 3) := by decide +kernel
theorem d331_35 : decode (mb 331) 35 = .ok (.aload_n 1, 1) := by decide +kernel
theorem d331_36 : decode (mb 331) 36 = .ok (.getfield 289, 3) := by decide +kernel
theorem d331_39 : decode (mb 331) 39 = .ok (.iastore, 1) := by decide +kernel
theorem d331_40 : decode (mb 331) 40 = .ok (.iconst 0, 1) := by decide +kernel
theorem d331_41 : decode (mb 331) 41 = .ok (.ireturn, 1) := by decide +kernel
theorem x331_0 {S : List Value} {h : HP} {l0 l2 l3 : Value} {a0 : Nat} : pX 331 0 [l0, .ref a0, l2, l3] S h = pX 331 1 [l0, .ref a0, l2, l3] (.ref a0 :: S) h := pX_stp d331_0 rfl rfl rfl
theorem x331_1 {S : List Value} {h : HP} {l0 l1 l3 : Value} {a0 : Nat} : pX 331 1 [l0, l1, .ref a0, l3] S h = pX 331 2 [l0, l1, .ref a0, l3] (.ref a0 :: S) h := pX_stp d331_1 rfl rfl rfl
theorem x331_2 {L : List Value} {h : HP} {a0 : Nat} {a1 : Nat} : pX 331 2 L [.ref a0, .ref a1] h = (pX 316 0 [.ref a1, .ref a0, .retAddr 0] [] h).bind (fun q => pX 331 5 L (q.1.toList ++ []) q.2) := pX_ins 316 [.ref a1, .ref a0] [] d331_2 rfl rfl rfl
theorem x331_5 {S : List Value} {h : HP} {l0 l1 l2 l3 : Value} {x0 : Int32} : pX 331 5 [l0, l1, l2, l3] (.int x0 :: S) h = pX 331 6 [l0, l1, l2, .int x0] S h := pX_stp d331_5 rfl rfl rfl
theorem x331_6 {S : List Value} {h : HP} {l0 l1 l2 : Value} {x0 : Int32} : pX 331 6 [l0, l1, l2, .int x0] S h = pX 331 7 [l0, l1, l2, .int x0] (.int x0 :: S) h := pX_stp d331_6 rfl rfl rfl
theorem x331_7 {L S : List Value} {h : HP} {x : Int32} : pX 331 7 L (.int x :: S) h = if x = 0 then pX 331 12 L S h else pX 331 10 L S h := pX_if_eq d331_7 (by decide)
theorem x331_10 {S : List Value} {h : HP} {l0 l1 l2 : Value} {x0 : Int32} : pX 331 10 [l0, l1, l2, .int x0] S h = pX 331 11 [l0, l1, l2, .int x0] (.int x0 :: S) h := pX_stp d331_10 rfl rfl rfl
theorem x331_11 {L : List Value} {h : HP} {x : Int32} : pX 331 11 L [.int x] h = some (some (.int x), h) := pX_ret d331_11 rfl
theorem x331_12 {S : List Value} {h : HP} {l0 l1 l3 : Value} {a0 : Nat} : pX 331 12 [l0, l1, .ref a0, l3] S h = pX 331 13 [l0, l1, .ref a0, l3] (.ref a0 :: S) h := pX_stp d331_12 rfl rfl rfl
theorem x331_13 {L S : List Value} {h : HP} {a : Nat} (hk : hp_k h a = 9) : pX 331 13 L (.ref a :: S) h = pX 331 16 L (.int (hp_i h a 1) :: S) h := pX_get d331_13 rfl rfl hk
theorem x331_16 {L S : List Value} {h : HP} : pX 331 16 L S h = pX 331 17 L (.int 0 :: S) h := pX_iconst d331_16 (by decide)
theorem x331_17 {L S : List Value} {h : HP} : pX 331 17 L S h = pX 331 19 L (.int 11 :: S) h := pX_bipush d331_17 (by decide)
theorem x331_19 {L : List Value} {h : HP} {x0 : Int32} {x1 : Int32} {x2 : Int32} : pX 331 19 L [.int x0, .int x1, .int x2] h = (pX 1025 0 [.int x2, .int x1, .int x0] [] h).bind (fun q => pX 331 22 L (q.1.toList ++ []) q.2) := pX_ins 1025 [.int x2, .int x1, .int x0] [] d331_19 rfl rfl rfl
theorem x331_22 {L S : List Value} {h : HP} {x : Int32} : pX 331 22 L (.int x :: S) h = if x = 0 then pX 331 27 L S h else pX 331 25 L S h := pX_if_eq d331_22 (by decide)
theorem x331_25 {L S : List Value} {h : HP} : pX 331 25 L S h = pX 331 26 L (.int 2 :: S) h := pX_iconst d331_25 (by decide)
theorem x331_26 {L : List Value} {h : HP} {x : Int32} : pX 331 26 L [.int x] h = some (some (.int x), h) := pX_ret d331_26 rfl
theorem x331_27 {S : List Value} {h : HP} {l1 l2 l3 : Value} {a0 : Nat} : pX 331 27 [.ref a0, l1, l2, l3] S h = pX 331 28 [.ref a0, l1, l2, l3] (.ref a0 :: S) h := pX_stp d331_27 rfl rfl rfl
theorem x331_28 {L S : List Value} {h : HP} {a : Nat} (hk : hp_k h a = 4) : pX 331 28 L (.ref a :: S) h = pX 331 31 L (.ref (hp_a h a 4) :: S) h := pX_get d331_28 rfl rfl hk
theorem x331_31 {S : List Value} {h : HP} {l0 l1 l3 : Value} {a0 : Nat} : pX 331 31 [l0, l1, .ref a0, l3] S h = pX 331 32 [l0, l1, .ref a0, l3] (.ref a0 :: S) h := pX_stp d331_31 rfl rfl rfl
theorem x331_32 {L S : List Value} {h : HP} {a : Nat} (hk : hp_k h a = 9) : pX 331 32 L (.ref a :: S) h = pX 331 35 L (.int (hp_i h a 1) :: S) h := pX_get d331_32 rfl rfl hk
theorem x331_35 {S : List Value} {h : HP} {l0 l2 l3 : Value} {a0 : Nat} : pX 331 35 [l0, .ref a0, l2, l3] S h = pX 331 36 [l0, .ref a0, l2, l3] (.ref a0 :: S) h := pX_stp d331_35 rfl rfl rfl
theorem x331_36 {L S : List Value} {h : HP} {a : Nat} (hk : hp_k h a = 9) : pX 331 36 L (.ref a :: S) h = pX 331 39 L (.int (hp_i h a 1) :: S) h := pX_get d331_36 rfl rfl hk
theorem x331_39 {L S : List Value} {h : HP} {a : Nat} {j x : Int32} (hk : hp_k h a = 100) (hj : inb j (hp_l h a) = true) : pX 331 39 L (.int x :: .int j :: .ref a :: S) h = pX 331 40 L S (hp_wi h a (ix j) x) := pX_ist d331_39 hk hj
theorem x331_40 {L S : List Value} {h : HP} : pX 331 40 L S h = pX 331 41 L (.int 0 :: S) h := pX_iconst d331_40 (by decide)
theorem x331_41 {L : List Value} {h : HP} {x : Int32} : pX 331 41 L [.int x] h = some (some (.int x), h) := pX_ret d331_41 rfl
theorem d332_0 : decode (mb 332) 0 = .ok (.aload_n 2, 1) := by decide +kernel
theorem d332_1 : decode (mb 332) 1 = .ok (.invokevirtual 283, 3) := by decide +kernel
theorem d332_4 : decode (mb 332) 4 = .ok (.istore_n 3, 1) := by decide +kernel
theorem d332_5 : decode (mb 332) 5 = .ok (.iload_n 3, 1) := by decide +kernel
theorem d332_6 : decode (mb 332) 6 = .ok (.ifCond .eq 5, 3) := by decide +kernel
theorem d332_9 : decode (mb 332) 9 = .ok (.iload_n 3, 1) := by decide +kernel
theorem d332_10 : decode (mb 332) 10 = .ok (.ireturn, 1) := by decide +kernel
theorem d332_11 : decode (mb 332) 11 = .ok (.aload_n 2, 1) := by decide +kernel
theorem d332_12 : decode (mb 332) 12 = .ok (.getfield 289, 3) := by decide +kernel
theorem d332_15 : decode (mb 332) 15 = .ok (.iconst 0, 1) := by decide +kernel
theorem d332_16 : decode (mb 332) 16 = .ok (.bipush 11, 2) := by decide +kernel
theorem d332_18 : decode (mb 332) 18 = .ok (.invokestatic 357, 3) := by decide +kernel
theorem d332_21 : decode (mb 332) 21 = .ok (.ifCond .eq 5, 3) := by decide +kernel
theorem d332_24 : decode (mb 332) 24 = .ok (.iconst 2, 1) := by decide +kernel
theorem d332_25 : decode (mb 332) 25 = .ok (.ireturn, 1) := by decide +kernel
theorem d332_26 : decode (mb 332) 26 = .ok (.aload_n 1, 1) := by decide +kernel
theorem d332_27 : decode (mb 332) 27 = .ok (.aload_n 0, 1) := by decide +kernel
theorem d332_28 : decode (mb 332) 28 = .ok (.getfield 31, 3) := by decide +kernel
theorem d332_31 : decode (mb 332) 31 = .ok (.aload_n 2, 1) := by decide +kernel
theorem d332_32 : decode (mb 332) 32 = .ok (.getfield 289, 3) := by decide +kernel
theorem d332_35 : decode (mb 332) 35 = .ok (.iaload, 1) := by decide +kernel
theorem d332_36 : decode (mb 332) 36 = .ok (.invokevirtual 184, 3) := by decide +kernel
theorem d332_39 : decode (mb 332) 39 = .ok (.iconst 0, 1) := by decide +kernel
theorem d332_40 : decode (mb 332) 40 = .ok (.ireturn, 1) := by decide +kernel
theorem x332_0 {S : List Value} {h : HP} {l0 l1 l3 : Value} {a0 : Nat} : pX 332 0 [l0, l1, .ref a0, l3] S h = pX 332 1 [l0, l1, .ref a0, l3] (.ref a0 :: S) h := pX_stp d332_0 rfl rfl rfl
theorem x332_1 {L : List Value} {h : HP} {a0 : Nat} (hk : hp_k h a0 = 9) : pX 332 1 L [.ref a0] h = (pX 811 0 [.ref a0] [] h).bind (fun q => pX 332 4 L (q.1.toList ++ []) q.2) := pX_inv (a := a0) (t := 9) 811 [.ref a0] [] d332_1 rfl rfl rfl hk
theorem x332_4 {S : List Value} {h : HP} {l0 l1 l2 l3 : Value} {x0 : Int32} : pX 332 4 [l0, l1, l2, l3] (.int x0 :: S) h = pX 332 5 [l0, l1, l2, .int x0] S h := pX_stp d332_4 rfl rfl rfl
theorem x332_5 {S : List Value} {h : HP} {l0 l1 l2 : Value} {x0 : Int32} : pX 332 5 [l0, l1, l2, .int x0] S h = pX 332 6 [l0, l1, l2, .int x0] (.int x0 :: S) h := pX_stp d332_5 rfl rfl rfl
theorem x332_6 {L S : List Value} {h : HP} {x : Int32} : pX 332 6 L (.int x :: S) h = if x = 0 then pX 332 11 L S h else pX 332 9 L S h := pX_if_eq d332_6 (by decide)
theorem x332_9 {S : List Value} {h : HP} {l0 l1 l2 : Value} {x0 : Int32} : pX 332 9 [l0, l1, l2, .int x0] S h = pX 332 10 [l0, l1, l2, .int x0] (.int x0 :: S) h := pX_stp d332_9 rfl rfl rfl
theorem x332_10 {L : List Value} {h : HP} {x : Int32} : pX 332 10 L [.int x] h = some (some (.int x), h) := pX_ret d332_10 rfl
theorem x332_11 {S : List Value} {h : HP} {l0 l1 l3 : Value} {a0 : Nat} : pX 332 11 [l0, l1, .ref a0, l3] S h = pX 332 12 [l0, l1, .ref a0, l3] (.ref a0 :: S) h := pX_stp d332_11 rfl rfl rfl
theorem x332_12 {L S : List Value} {h : HP} {a : Nat} (hk : hp_k h a = 9) : pX 332 12 L (.ref a :: S) h = pX 332 15 L (.int (hp_i h a 1) :: S) h := pX_get d332_12 rfl rfl hk
theorem x332_15 {L S : List Value} {h : HP} : pX 332 15 L S h = pX 332 16 L (.int 0 :: S) h := pX_iconst d332_15 (by decide)
theorem x332_16 {L S : List Value} {h : HP} : pX 332 16 L S h = pX 332 18 L (.int 11 :: S) h := pX_bipush d332_16 (by decide)
theorem x332_18 {L : List Value} {h : HP} {x0 : Int32} {x1 : Int32} {x2 : Int32} : pX 332 18 L [.int x0, .int x1, .int x2] h = (pX 1025 0 [.int x2, .int x1, .int x0] [] h).bind (fun q => pX 332 21 L (q.1.toList ++ []) q.2) := pX_ins 1025 [.int x2, .int x1, .int x0] [] d332_18 rfl rfl rfl
theorem x332_21 {L S : List Value} {h : HP} {x : Int32} : pX 332 21 L (.int x :: S) h = if x = 0 then pX 332 26 L S h else pX 332 24 L S h := pX_if_eq d332_21 (by decide)
theorem x332_24 {L S : List Value} {h : HP} : pX 332 24 L S h = pX 332 25 L (.int 2 :: S) h := pX_iconst d332_24 (by decide)
theorem x332_25 {L : List Value} {h : HP} {x : Int32} : pX 332 25 L [.int x] h = some (some (.int x), h) := pX_ret d332_25 rfl
theorem x332_26 {S : List Value} {h : HP} {l0 l2 l3 : Value} {a0 : Nat} : pX 332 26 [l0, .ref a0, l2, l3] S h = pX 332 27 [l0, .ref a0, l2, l3] (.ref a0 :: S) h := pX_stp d332_26 rfl rfl rfl
theorem x332_27 {S : List Value} {h : HP} {l1 l2 l3 : Value} {a0 : Nat} : pX 332 27 [.ref a0, l1, l2, l3] S h = pX 332 28 [.ref a0, l1, l2, l3] (.ref a0 :: S) h := pX_stp d332_27 rfl rfl rfl
theorem x332_28 {L S : List Value} {h : HP} {a : Nat} (hk : hp_k h a = 4) : pX 332 28 L (.ref a :: S) h = pX 332 31 L (.ref (hp_a h a 4) :: S) h := pX_get d332_28 rfl rfl hk
theorem x332_31 {S : List Value} {h : HP} {l0 l1 l3 : Value} {a0 : Nat} : pX 332 31 [l0, l1, .ref a0, l3] S h = pX 332 32 [l0, l1, .ref a0, l3] (.ref a0 :: S) h := pX_stp d332_31 rfl rfl rfl
theorem x332_32 {L S : List Value} {h : HP} {a : Nat} (hk : hp_k h a = 9) : pX 332 32 L (.ref a :: S) h = pX 332 35 L (.int (hp_i h a 1) :: S) h := pX_get d332_32 rfl rfl hk
theorem x332_35 {L S : List Value} {h : HP} {a : Nat} {j : Int32} (hk : hp_k h a = 100) (hj : inb j (hp_l h a) = true) : pX 332 35 L (.int j :: .ref a :: S) h = pX 332 36 L (.int (hp_i h a (ix j)) :: S) h := pX_ild d332_35 hk hj
theorem x332_36 {L : List Value} {h : HP} {x0 : Int32} {a0 : Nat} (hk : hp_k h a0 = 9) : pX 332 36 L [.int x0, .ref a0] h = (pX 802 0 [.ref a0, .int x0] [] h).bind (fun q => pX 332 39 L (q.1.toList ++ []) q.2) := pX_inv (a := a0) (t := 9) 802 [.ref a0, .int x0] [] d332_36 rfl rfl rfl hk
theorem x332_39 {L S : List Value} {h : HP} : pX 332 39 L S h = pX 332 40 L (.int 0 :: S) h := pX_iconst d332_39 (by decide)
theorem x332_40 {L : List Value} {h : HP} {x : Int32} : pX 332 40 L [.int x] h = some (some (.int x), h) := pX_ret d332_40 rfl
theorem d333_0 : decode (mb 333) 0 = .ok (.aload_n 2, 1) := by decide +kernel
theorem d333_1 : decode (mb 333) 1 = .ok (.getfield 335, 3) := by decide +kernel
theorem d333_4 : decode (mb 333) 4 = .ok (.astore_n 3, 1) := by decide +kernel
theorem d333_5 : decode (mb 333) 5 = .ok (.aload_n 3, 1) := by decide +kernel
theorem d333_6 : decode (mb 333) 6 = .ok (.ifnonnull 8, 3) := by decide +kernel
theorem d333_9 : decode (mb 333) 9 = .ok (.aload_n 2, 1) := by decide +kernel
theorem d333_10 : decode (mb 333) 10 = .ok (.invokevirtual 316, 3) := by decide +kernel
theorem d333_13 : decode (mb 333) 13 = .ok (.ireturn, 1) := by decide +kernel
theorem d333_14 : decode (mb 333) 14 = .ok (.aload_n 3, 1) := by decide +kernel
theorem d333_15 : decode (mb 333) 15 = .ok (.invokevirtual 361, 3) := by decide +kernel
theorem d333_18 : decode (mb 333) 18 = .ok (.istore 4, 2) := by decide +kernel
theorem d333_20 : decode (mb 333) 20 = .ok (.iconst 0, 1) := by decide +kernel
theorem d333_21 : decode (mb 333) 21 = .ok (.istore 5, 2) := by decide +kernel
theorem d333_23 : decode (mb 333) 23 = .ok (.iload 5, 2) := by decide +kernel
theorem d333_25 : decode (mb 333) 25 = .ok (.iload 4, 2) := by decide +kernel
theorem d333_27 : decode (mb 333) 27 = .ok (.if_icmp .ge 23, 3) := by decide +kernel
theorem d333_30 : decode (mb 333) 30 = .ok (.aload_n 0, 1) := by decide +kernel
theorem d333_31 : decode (mb 333) 31 = .ok (.getfield 20, 3) := by decide +kernel
theorem d333_34 : decode (mb 333) 34 = .ok (.iconst 0, 1) := by decide +kernel
theorem d333_35 : decode (mb 333) 35 = .ok (.invokevirtual 122, 3) := by decide +kernel
theorem d333_38 : decode (mb 333) 38 = .ok (.ifCond .ne 6, 3) := by decide +kernel
theorem d333_41 : decode (mb 333) 41 = .ok (.bipush (-9), 2) := by decide +kernel
theorem d333_43 : decode (mb 333) 43 = .ok (.ireturn, 1) := by decide +kernel
theorem d333_44 : decode (mb 333) 44 = .ok (.iinc 5 1, 3) := by decide +kernel
theorem d333_47 : decode (mb 333) 47 = .ok (.goto (-24), 3) := by decide +kernel
theorem d333_50 : decode (mb 333) 50 = .ok (.aload_n 1, 1) := by decide +kernel
theorem d333_51 : decode (mb 333) 51 = .ok (.aload_n 3, 1) := by decide +kernel
theorem d333_52 : decode (mb 333) 52 = .ok (.invokevirtual 364, 3) := by decide +kernel
theorem d333_55 : decode (mb 333) 55 = .ok (.invokevirtual 184, 3) := by decide +kernel
theorem d333_58 : decode (mb 333) 58 = .ok (.iconst 0, 1) := by decide +kernel
theorem d333_59 : decode (mb 333) 59 = .ok (.ireturn, 1) := by decide +kernel
theorem x333_0 {S : List Value} {h : HP} {l0 l1 l3 l4 l5 : Value} {a0 : Nat} : pX 333 0 [l0, l1, .ref a0, l3, l4, l5] S h = pX 333 1 [l0, l1, .ref a0, l3, l4, l5] (.ref a0 :: S) h := pX_stp d333_0 rfl rfl rfl
theorem x333_1 {L S : List Value} {h : HP} {a : Nat} (hk : hp_k h a = 9) : pX 333 1 L (.ref a :: S) h = pX 333 4 L (.ref (hp_a h a 2) :: S) h := pX_get d333_1 rfl rfl hk
theorem x333_4 {S : List Value} {h : HP} {l0 l1 l2 l3 l4 l5 : Value} {a0 : Nat} : pX 333 4 [l0, l1, l2, l3, l4, l5] (.ref a0 :: S) h = pX 333 5 [l0, l1, l2, .ref a0, l4, l5] S h := pX_stp d333_4 rfl rfl rfl
theorem x333_5 {S : List Value} {h : HP} {l0 l1 l2 l4 l5 : Value} {a0 : Nat} : pX 333 5 [l0, l1, l2, .ref a0, l4, l5] S h = pX 333 6 [l0, l1, l2, .ref a0, l4, l5] (.ref a0 :: S) h := pX_stp d333_5 rfl rfl rfl
theorem x333_6 {L S : List Value} {h : HP} {a : Nat} : pX 333 6 L (.ref a :: S) h = if a = 0 then pX 333 9 L S h else pX 333 14 L S h := pX_ifnonnull d333_6 (by decide)
theorem x333_9 {S : List Value} {h : HP} {l0 l1 l3 l4 l5 : Value} {a0 : Nat} : pX 333 9 [l0, l1, .ref a0, l3, l4, l5] S h = pX 333 10 [l0, l1, .ref a0, l3, l4, l5] (.ref a0 :: S) h := pX_stp d333_9 rfl rfl rfl
theorem x333_10 {L : List Value} {h : HP} {a0 : Nat} (hk : hp_k h a0 = 9) : pX 333 10 L [.ref a0] h = (pX 810 0 [.ref a0] [] h).bind (fun q => pX 333 13 L (q.1.toList ++ []) q.2) := pX_inv (a := a0) (t := 9) 810 [.ref a0] [] d333_10 rfl rfl rfl hk
theorem x333_13 {L : List Value} {h : HP} {x : Int32} : pX 333 13 L [.int x] h = some (some (.int x), h) := pX_ret d333_13 rfl
theorem x333_14 {S : List Value} {h : HP} {l0 l1 l2 l4 l5 : Value} {a0 : Nat} : pX 333 14 [l0, l1, l2, .ref a0, l4, l5] S h = pX 333 15 [l0, l1, l2, .ref a0, l4, l5] (.ref a0 :: S) h := pX_stp d333_14 rfl rfl rfl
theorem x333_15 {L : List Value} {h : HP} {a0 : Nat} (hk : hp_k h a0 = 1) : pX 333 15 L [.ref a0] h = (pX 3 0 [.ref a0] [] h).bind (fun q => pX 333 18 L (q.1.toList ++ []) q.2) := pX_inv (a := a0) (t := 1) 3 [.ref a0] [] d333_15 rfl rfl rfl hk
theorem x333_18 {S : List Value} {h : HP} {l0 l1 l2 l3 l4 l5 : Value} {x0 : Int32} : pX 333 18 [l0, l1, l2, l3, l4, l5] (.int x0 :: S) h = pX 333 20 [l0, l1, l2, l3, .int x0, l5] S h := pX_stp d333_18 rfl rfl rfl
theorem x333_20 {L S : List Value} {h : HP} : pX 333 20 L S h = pX 333 21 L (.int 0 :: S) h := pX_iconst d333_20 (by decide)
theorem x333_21 {S : List Value} {h : HP} {l0 l1 l2 l3 l4 l5 : Value} {x0 : Int32} : pX 333 21 [l0, l1, l2, l3, l4, l5] (.int x0 :: S) h = pX 333 23 [l0, l1, l2, l3, l4, .int x0] S h := pX_stp d333_21 rfl rfl rfl
theorem x333_23 {S : List Value} {h : HP} {l0 l1 l2 l3 l4 : Value} {x0 : Int32} : pX 333 23 [l0, l1, l2, l3, l4, .int x0] S h = pX 333 25 [l0, l1, l2, l3, l4, .int x0] (.int x0 :: S) h := pX_stp d333_23 rfl rfl rfl
theorem x333_25 {S : List Value} {h : HP} {l0 l1 l2 l3 l5 : Value} {x0 : Int32} : pX 333 25 [l0, l1, l2, l3, .int x0, l5] S h = pX 333 27 [l0, l1, l2, l3, .int x0, l5] (.int x0 :: S) h := pX_stp d333_25 rfl rfl rfl
theorem x333_27 {L S : List Value} {h : HP} {x y : Int32} : pX 333 27 L (.int y :: .int x :: S) h = if y ≤ x then pX 333 50 L S h else pX 333 30 L S h := pX_icmp_ge d333_27 (by decide)
theorem x333_30 {S : List Value} {h : HP} {l1 l2 l3 l4 l5 : Value} {a0 : Nat} : pX 333 30 [.ref a0, l1, l2, l3, l4, l5] S h = pX 333 31 [.ref a0, l1, l2, l3, l4, l5] (.ref a0 :: S) h := pX_stp d333_30 rfl rfl rfl
theorem x333_31 {L S : List Value} {h : HP} {a : Nat} (hk : hp_k h a = 4) : pX 333 31 L (.ref a :: S) h = pX 333 34 L (.ref (hp_a h a 2) :: S) h := pX_get d333_31 rfl rfl hk
theorem x333_34 {L S : List Value} {h : HP} : pX 333 34 L S h = pX 333 35 L (.int 0 :: S) h := pX_iconst d333_34 (by decide)
theorem x333_35 {L : List Value} {h : HP} {x0 : Int32} {a0 : Nat} (hk : hp_k h a0 = 7) : pX 333 35 L [.int x0, .ref a0] h = (pX 603 0 [.ref a0, .int x0] [] h).bind (fun q => pX 333 38 L (q.1.toList ++ []) q.2) := pX_inv (a := a0) (t := 7) 603 [.ref a0, .int x0] [] d333_35 rfl rfl rfl hk
theorem x333_38 {L S : List Value} {h : HP} {x : Int32} : pX 333 38 L (.int x :: S) h = if x = 0 then pX 333 41 L S h else pX 333 44 L S h := pX_if_ne d333_38 (by decide)
theorem x333_41 {L S : List Value} {h : HP} : pX 333 41 L S h = pX 333 43 L (.int (-9) :: S) h := pX_bipush d333_41 (by decide)
theorem x333_43 {L : List Value} {h : HP} {x : Int32} : pX 333 43 L [.int x] h = some (some (.int x), h) := pX_ret d333_43 rfl
theorem x333_44 {S : List Value} {h : HP} {x0 : Int32} {l0 l1 l2 l3 l4 : Value} : pX 333 44 [l0, l1, l2, l3, l4, .int x0] S h = pX 333 47 [l0, l1, l2, l3, l4, .int (x0 + 1)] S h := pX_iinc (x := x0) d333_44 (by decide) rfl (Nat.le_of_ble_eq_true rfl) rfl rfl
theorem x333_47 {L S : List Value} {h : HP} : pX 333 47 L S h = pX 333 23 L S h := pX_goto d333_47 (by decide)
theorem x333_50 {S : List Value} {h : HP} {l0 l2 l3 l4 l5 : Value} {a0 : Nat} : pX 333 50 [l0, .ref a0, l2, l3, l4, l5] S h = pX 333 51 [l0, .ref a0, l2, l3, l4, l5] (.ref a0 :: S) h := pX_stp d333_50 rfl rfl rfl
theorem x333_51 {S : List Value} {h : HP} {l0 l1 l2 l4 l5 : Value} {a0 : Nat} : pX 333 51 [l0, l1, l2, .ref a0, l4, l5] S h = pX 333 52 [l0, l1, l2, .ref a0, l4, l5] (.ref a0 :: S) h := pX_stp d333_51 rfl rfl rfl
theorem x333_52 {L : List Value} {h : HP} {a0 : Nat} {a1 : Nat} (hk : hp_k h a0 = 1) : pX 333 52 L [.ref a0, .ref a1] h = (pX 4 0 [.ref a0, .retAddr 0, .retAddr 0] [] h).bind (fun q => pX 333 55 L (q.1.toList ++ [.ref a1]) q.2) := pX_inv (a := a0) (t := 1) 4 [.ref a0] [.ref a1] d333_52 rfl rfl rfl hk
theorem x333_55 {L : List Value} {h : HP} {x0 : Int32} {a0 : Nat} (hk : hp_k h a0 = 9) : pX 333 55 L [.int x0, .ref a0] h = (pX 802 0 [.ref a0, .int x0] [] h).bind (fun q => pX 333 58 L (q.1.toList ++ []) q.2) := pX_inv (a := a0) (t := 9) 802 [.ref a0, .int x0] [] d333_55 rfl rfl rfl hk
theorem x333_58 {L S : List Value} {h : HP} : pX 333 58 L S h = pX 333 59 L (.int 0 :: S) h := pX_iconst d333_58 (by decide)
theorem x333_59 {L : List Value} {h : HP} {x : Int32} : pX 333 59 L [.int x] h = some (some (.int x), h) := pX_ret d333_59 rfl
