theorem d809_0 : decode (mb 809) 0 = .ok (.aload_n 0, 1) := by decide +kernel
theorem d809_1 : decode (mb 809) 1 = .ok (.getfield 18, 3) := by decide +kernel
theorem d809_4 : decode (mb 809) 4 = .ok (.ifnull 11, 3) := by decide +kernel
theorem d809_7 : decode (mb 809) 7 = .ok (.aload_n 0, 1) := by decide +kernel
theorem d809_8 : decode (mb 809) 8 = .ok (.getfield 18, 3) := by decide +kernel
theorem d809_11 : decode (mb 809) 11 = .ok (.getfield 43, 3) := by decide +kernel
theorem d809_14 : decode (mb 809) 14 = .ok (.ireturn, 1) := by decide +kernel
theorem d809_15 : decode (mb 809) 15 = .ok (.aload_n 0, 1) := by decide +kernel
theorem d809_16 : decode (mb 809) 16 = .ok (.getfield 22, 3) := by decide +kernel
theorem d809_19 : decode (mb 809) 19 = .ok (.ifnull 13, 3) := by decide +kernel
theorem d809_22 : decode (mb 809) 22 = .ok (.aload_n 0, 1) := by decide +kernel
theorem d809_23 : decode (mb 809) 23 = .ok (.getfield 22, 3) := by decide +kernel
theorem d809_26 : decode (mb 809) 26 = .ok (.getfield 46, 3) := by decide +kernel
theorem d809_29 : decode (mb 809) 29 = .ok (.goto 7, 3) := by decide +kernel
theorem d809_32 : decode (mb 809) 32 = .ok (.aload_n 0, 1) := by decide +kernel
theorem d809_33 : decode (mb 809) 33 = .ok (.getfield 15, 3) := by decide +kernel
theorem d809_36 : decode (mb 809) 36 = .ok (.ireturn, 1) := by decide +kernel
theorem x809_0 {S : List Value} {h : HP}  {a0 : Nat} : pX 809 0 [.ref a0] S h = pX 809 1 [.ref a0] (.ref a0 :: S) h := pX_stp d809_0 rfl rfl rfl
theorem x809_1 {L S : List Value} {h : HP} {a : Nat} (hk : hp_k h a = 9) : pX 809 1 L (.ref a :: S) h = pX 809 4 L (.ref (hp_a h a 2) :: S) h := pX_get d809_1 rfl rfl hk
theorem x809_4 {L S : List Value} {h : HP} {a : Nat} : pX 809 4 L (.ref a :: S) h = if a = 0 then pX 809 15 L S h else pX 809 7 L S h := pX_ifnull d809_4 (by decide)
theorem x809_7 {S : List Value} {h : HP}  {a0 : Nat} : pX 809 7 [.ref a0] S h = pX 809 8 [.ref a0] (.ref a0 :: S) h := pX_stp d809_7 rfl rfl rfl
theorem x809_8 {L S : List Value} {h : HP} {a : Nat} (hk : hp_k h a = 9) : pX 809 8 L (.ref a :: S) h = pX 809 11 L (.ref (hp_a h a 2) :: S) h := pX_get d809_8 rfl rfl hk
theorem x809_11 {L S : List Value} {h : HP} {a : Nat} (hk : hp_k h a = 1) : pX 809 11 L (.ref a :: S) h = pX 809 14 L (.int (hp_i h a 2) :: S) h := pX_get d809_11 rfl rfl hk
theorem x809_14 {L : List Value} {h : HP} {x : Int32} : pX 809 14 L [.int x] h = some (some (.int x), h) := pX_ret d809_14 rfl
theorem x809_15 {S : List Value} {h : HP}  {a0 : Nat} : pX 809 15 [.ref a0] S h = pX 809 16 [.ref a0] (.ref a0 :: S) h := pX_stp d809_15 rfl rfl rfl
theorem x809_16 {L S : List Value} {h : HP} {a : Nat} (hk : hp_k h a = 9) : pX 809 16 L (.ref a :: S) h = pX 809 19 L (.ref (hp_a h a 3) :: S) h := pX_get d809_16 rfl rfl hk
theorem x809_19 {L S : List Value} {h : HP} {a : Nat} : pX 809 19 L (.ref a :: S) h = if a = 0 then pX 809 32 L S h else pX 809 22 L S h := pX_ifnull d809_19 (by decide)
theorem x809_22 {S : List Value} {h : HP}  {a0 : Nat} : pX 809 22 [.ref a0] S h = pX 809 23 [.ref a0] (.ref a0 :: S) h := pX_stp d809_22 rfl rfl rfl
theorem x809_23 {L S : List Value} {h : HP} {a : Nat} (hk : hp_k h a = 9) : pX 809 23 L (.ref a :: S) h = pX 809 26 L (.ref (hp_a h a 3) :: S) h := pX_get d809_23 rfl rfl hk
theorem x809_26 {L S : List Value} {h : HP} {a : Nat} (hk : hp_k h a = 8) : pX 809 26 L (.ref a :: S) h = pX 809 29 L (.int (hp_i h a 1) :: S) h := pX_get d809_26 rfl rfl hk
theorem x809_29 {L S : List Value} {h : HP} : pX 809 29 L S h = pX 809 36 L S h := pX_goto d809_29 (by decide)
theorem x809_32 {S : List Value} {h : HP}  {a0 : Nat} : pX 809 32 [.ref a0] S h = pX 809 33 [.ref a0] (.ref a0 :: S) h := pX_stp d809_32 rfl rfl rfl
theorem x809_33 {L S : List Value} {h : HP} {a : Nat} (hk : hp_k h a = 9) : pX 809 33 L (.ref a :: S) h = pX 809 36 L (.int (hp_i h a 1) :: S) h := pX_get d809_33 rfl rfl hk
theorem x809_36 {L : List Value} {h : HP} {x : Int32} : pX 809 36 L [.int x] h = some (some (.int x), h) := pX_ret d809_36 rfl
theorem d810_0 : decode (mb 810) 0 = .ok (.aload_n 0, 1) := by decide +kernel
theorem d810_1 : decode (mb 810) 1 = .ok (.getfield 9, 3) := by decide +kernel
theorem d810_4 : decode (mb 810) 4 = .ok (.bipush (-5), 2) := by decide +kernel
theorem d810_6 : decode (mb 810) 6 = .ok (.if_icmp .ne 7, 3) := by decide +kernel
theorem d810_9 : decode (mb 810) 9 = .ok (.iconst 1, 1) := by decide +kernel
theorem d810_10 : decode (mb 810) 10 = .ok (.goto 4, 3) := by decide +kernel
theorem d810_13 : decode (mb 810) 13 = .ok (.iconst 3, 1) := by decide +kernel
theorem d810_14 : decode (mb 810) 14 = .ok (.ireturn, 1) := by decide +kernel
theorem x810_0 {S : List Value} {h : HP}  {a0 : Nat} : pX 810 0 [.ref a0] S h = pX 810 1 [.ref a0] (.ref a0 :: S) h := pX_stp d810_0 rfl rfl rfl
theorem x810_1 {L S : List Value} {h : HP} {a : Nat} (hk : hp_k h a = 9) : pX 810 1 L (.ref a :: S) h = pX 810 4 L (.int (hp_i h a 0) :: S) h := pX_get d810_1 rfl rfl hk
theorem x810_4 {L S : List Value} {h : HP} : pX 810 4 L S h = pX 810 6 L (.int (-5) :: S) h := pX_bipush d810_4 (by decide)
theorem x810_6 {L S : List Value} {h : HP} {x y : Int32} : pX 810 6 L (.int y :: .int x :: S) h = if x = y then pX 810 9 L S h else pX 810 13 L S h := pX_icmp_ne d810_6 (by decide)
theorem x810_9 {L S : List Value} {h : HP} : pX 810 9 L S h = pX 810 10 L (.int 1 :: S) h := pX_iconst d810_9 (by decide)
theorem x810_10 {L S : List Value} {h : HP} : pX 810 10 L S h = pX 810 14 L S h := pX_goto d810_10 (by decide)
theorem x810_13 {L S : List Value} {h : HP} : pX 810 13 L S h = pX 810 14 L (.int 3 :: S) h := pX_iconst d810_13 (by decide)
theorem x810_14 {L : List Value} {h : HP} {x : Int32} : pX 810 14 L [.int x] h = some (some (.int x), h) := pX_ret d810_14 rfl
theorem d811_0 : decode (mb 811) 0 = .ok (.aload_n 0, 1) := by decide +kernel
theorem d811_1 : decode (mb 811) 1 = .ok (.getfield 9, 3) := by decide +kernel
theorem d811_4 : decode (mb 811) 4 = .ok (.ifCond .ne 7, 3) := by decide +kernel
theorem d811_7 : decode (mb 811) 7 = .ok (.iconst 0, 1) := by decide +kernel
theorem d811_8 : decode (mb 811) 8 = .ok (.goto 7, 3) := by decide +kernel
theorem d811_11 : decode (mb 811) 11 = .ok (.aload_n 0, 1) := by decide +kernel
theorem d811_12 : decode (mb 811) 12 = .ok (.invokevirtual 49, 3) := by decide +kernel
theorem d811_15 : decode (mb 811) 15 = .ok (.ireturn, 1) := by decide +kernel
theorem x811_0 {S : List Value} {h : HP}  {a0 : Nat} : pX 811 0 [.ref a0] S h = pX 811 1 [.ref a0] (.ref a0 :: S) h := pX_stp d811_0 rfl rfl rfl
theorem x811_1 {L S : List Value} {h : HP} {a : Nat} (hk : hp_k h a = 9) : pX 811 1 L (.ref a :: S) h = pX 811 4 L (.int (hp_i h a 0) :: S) h := pX_get d811_1 rfl rfl hk
theorem x811_4 {L S : List Value} {h : HP} {x : Int32} : pX 811 4 L (.int x :: S) h = if x = 0 then pX 811 7 L S h else pX 811 11 L S h := pX_if_ne d811_4 (by decide)
theorem x811_7 {L S : List Value} {h : HP} : pX 811 7 L S h = pX 811 8 L (.int 0 :: S) h := pX_iconst d811_7 (by decide)
theorem x811_8 {L S : List Value} {h : HP} : pX 811 8 L S h = pX 811 15 L S h := pX_goto d811_8 (by decide)
theorem x811_11 {S : List Value} {h : HP}  {a0 : Nat} : pX 811 11 [.ref a0] S h = pX 811 12 [.ref a0] (.ref a0 :: S) h := pX_stp d811_11 rfl rfl rfl
theorem x811_12 {L : List Value} {h : HP} {a0 : Nat} (hk : hp_k h a0 = 9) : pX 811 12 L [.ref a0] h = (pX 810 0 [.ref a0] [] h).bind (fun q => pX 811 15 L (q.1.toList ++ []) q.2) := pX_inv (a := a0) (t := 9) 810 [.ref a0] [] d811_12 rfl rfl rfl hk
theorem x811_15 {L : List Value} {h : HP} {x : Int32} : pX 811 15 L [.int x] h = some (some (.int x), h) := pX_ret d811_15 rfl
theorem d900_0 : decode (mb 900) 0 = .ok (.aload_n 0, 1) := by decide +kernel
theorem d900_1 : decode (mb 900) 1 = .ok (.invokespecial 3, 3) := by decide +kernel
theorem d900_4 : decode (mb 900) 4 = .ok (.aload_n 0, 1) := by decide +kernel
theorem d900_5 : decode (mb 900) 5 = .ok (.bipush 40, 2) := by decide +kernel
theorem d900_7 : decode (mb 900) 7 = .ok (.newarray .int, 2) := by decide +kernel
theorem d900_9 : decode (mb 900) 9 = .ok (.putfield 9, 3) := by decide +kernel
theorem d900_12 : decode (mb 900) 12 = .ok (.return_, 1) := by decide +kernel
theorem x900_0 {S : List Value} {h : HP}  {a0 : Nat} : pX 900 0 [.ref a0] S h = pX 900 1 [.ref a0] (.ref a0 :: S) h := pX_stp d900_0 rfl rfl rfl
theorem x900_1 {L : List Value} {h : HP} {a0 : Nat} (ha : ¬ a0 = 0) : pX 900 1 L [.ref a0] h = pX 900 4 L [] h := pX_oinit d900_1 rfl (Nat.le_of_ble_eq_true rfl) ha
theorem x900_4 {S : List Value} {h : HP}  {a0 : Nat} : pX 900 4 [.ref a0] S h = pX 900 5 [.ref a0] (.ref a0 :: S) h := pX_stp d900_4 rfl rfl rfl
theorem x900_5 {L S : List Value} {h : HP} : pX 900 5 L S h = pX 900 7 L (.int 40 :: S) h := pX_bipush d900_5 (by decide)
theorem x900_7 {L S : List Value} {h : HP} {j : Int32} (h0 : 0 ≤ j) (h1 : ix j ≤ 134217728) : pX 900 7 L (.int j :: S) h = pX 900 9 L (.ref (hp_n h) :: S) (hp_mk h 100 (ix j) (ix j)) := pX_newa d900_7 h0 h1
theorem x900_9 {L S : List Value} {h : HP} {a b : Nat} (hk : hp_k h a = 10) : pX 900 9 L (.ref b :: .ref a :: S) h = pX 900 12 L S (hp_wa h a 0 b) := pX_put d900_9 rfl rfl rfl hk
theorem x900_12 {L : List Value} {h : HP} : pX 900 12 L [] h = some (none, h) := pX_ret d900_12 rfl
theorem d901_0 : decode (mb 901) 0 = .ok (.iconst 0, 1) := by decide +kernel
theorem d901_1 : decode (mb 901) 1 = .ok (.istore_n 3, 1) := by decide +kernel
theorem d901_2 : decode (mb 901) 2 = .ok (.iload_n 3, 1) := by decide +kernel
theorem d901_3 : decode (mb 901) 3 = .ok (.bipush 40, 2) := by decide +kernel
theorem d901_5 : decode (mb 901) 5 = .ok (.if_icmp .ge 16, 3) := by decide +kernel
theorem d901_8 : decode (mb 901) 8 = .ok (.aload_n 0, 1) := by decide +kernel
theorem d901_9 : decode (mb 901) 9 = .ok (.getfield 9, 3) := by decide +kernel
theorem d901_12 : decode (mb 901) 12 = .ok (.iload_n 3, 1) := by decide +kernel
theorem d901_13 : decode (mb 901) 13 = .ok (.iconst (-1), 1) := by decide +kernel
theorem d901_14 : decode (mb 901) 14 = .ok (.iastore, 1) := by decide +kernel
theorem d901_15 : decode (mb 901) 15 = .ok (.iinc 3 1, 3) := by decide +kernel
theorem d901_18 : decode (mb 901) 18 = .ok (.goto (-16), 3) := by decide +kernel
theorem d901_21 : decode (mb 901) 21 = .ok (.aload_n 0, 1) := by decide +kernel
theorem d901_22 : decode (mb 901) 22 = .ok (.aload_n 2, 1) := by decide +kernel
theorem d901_23 : decode (mb 901) 23 = .ok (.iconst 0, 1) := by decide +kernel
theorem d901_24 : decode (mb 901) 24 = .ok (.iconst 1, 1) := by decide +kernel
theorem d901_25 : decode (mb 901) 25 = .ok (.aload_n 2, 1) := by decide +kernel
theorem d901_26 : decode (mb 901) 26 = .ok (.getfield 15, 3) := by decide +kernel
theorem d901_29 : decode (mb 901) 29 = .ok (.ishl, 1) := by decide +kernel
theorem d901_30 : decode (mb 901) 30 = .ok (.iconst 1, 1) := by decide +kernel
theorem d901_31 : decode (mb 901) 31 = .ok (.isub, 1) := by decide +kernel
theorem d901_32 : decode (mb 901) 32 = .ok (.invokevirtual 21, 3) := by decide +kernel
theorem d901_35 : decode (mb 901) 35 = .ok (.aload_n 0, 1) := by decide +kernel
theorem d901_36 : decode (mb 901) 36 = .ok (.iconst 1, 1) := by decide +kernel
theorem d901_37 : decode (mb 901) 37 = .ok (.putfield 25, 3) := by decide +kernel
theorem d901_40 : decode (mb 901) 40 = .ok (.iconst 0, 1) := by decide +kernel
theorem d901_41 : decode (mb 901) 41 = .ok (.istore_n 3, 1) := by decide +kernel
theorem d901_42 : decode (mb 901) 42 = .ok (.iload_n 3, 1) := by decide +kernel
theorem d901_43 : decode (mb 901) 43 = .ok (.sipush 361, 3) := by decide +kernel
theorem d901_46 : decode (mb 901) 46 = .ok (.if_icmp .ge 26, 3) := by decide +kernel
theorem d901_49 : decode (mb 901) 49 = .ok (.aload_n 0, 1) := by decide +kernel
theorem d901_50 : decode (mb 901) 50 = .ok (.getfield 25, 3) := by decide +kernel
theorem d901_53 : decode (mb 901) 53 = .ok (.ifCond .eq 19, 3) := by decide +kernel
theorem d901_56 : decode (mb 901) 56 = .ok (.aload_n 0, 1) := by decide +kernel
theorem d901_57 : decode (mb 901) 57 = .ok (.iconst 0, 1) := by decide +kernel
theorem d901_58 : decode (mb 901) 58 = .ok (.putfield 25, 3) := by decide +kernel
theorem d901_61 : decode (mb 901) 61 = .ok (.aload_n 0, 1) := by decide +kernel
theorem d901_62 : decode (mb 901) 62 = .ok (.aload_n 2, 1) := by decide +kernel
theorem d901_63 : decode (mb 901) 63 = .ok (.invokevirtual 29, 3) := by decide +kernel
theorem d901_66 : decode (mb 901) 66 = .ok (.iinc 3 1, 3) := by decide +kernel
theorem d901_69 : decode (mb 901) 69 = .ok (.goto (-27), 3) := by decide +kernel
theorem d901_72 : decode (mb 901) 72 = .ok (.iconst 0, 1) := by decide +kernel
theorem d901_73 : decode (mb 901) 73 = .ok (.istore_n 3, 1) := by decide +kernel
theorem d901_74 : decode (mb 901) 74 = .ok (.iload_n 3, 1) := by decide +kernel
theorem d901_75 : decode (mb 901) 75 = .ok (.aload_n 2, 1) := by decide +kernel
theorem d901_76 : decode (mb 901) 76 = .ok (.getfield 33, 3) := by decide +kernel
theorem d901_79 : decode (mb 901) 79 = .ok (.if_icmp .ge 39, 3) := by decide +kernel
theorem d901_82 : decode (mb 901) 82 = .ok (.aload_n 0, 1) := by decide +kernel
theorem d901_83 : decode (mb 901) 83 = .ok (.getfield 9, 3) := by decide +kernel
theorem d901_86 : decode (mb 901) 86 = .ok (.iload_n 3, 1) := by decide +kernel
theorem d901_87 : decode (mb 901) 87 = .ok (.iaload, 1) := by decide +kernel
theorem d901_88 : decode (mb 901) 88 = .ok (.iconst (-1), 1) := by decide +kernel
theorem d901_89 : decode (mb 901) 89 = .ok (.if_icmp .eq 23, 3) := by decide +kernel
theorem d901_92 : decode (mb 901) 92 = .ok (.aload_n 1, 1) := by decide +kernel
theorem d901_93 : decode (mb 901) 93 = .ok (.aload_n 2, 1) := by decide +kernel
theorem d901_94 : decode (mb 901) 94 = .ok (.iload_n 3, 1) := by decide +kernel
theorem d901_95 : decode (mb 901) 95 = .ok (.invokestatic 36, 3) := by decide +kernel
theorem d901_98 : decode (mb 901) 98 = .ok (.aload_n 0, 1) := by decide +kernel
theorem d901_99 : decode (mb 901) 99 = .ok (.getfield 9, 3) := by decide +kernel
theorem d901_102 : decode (mb 901) 102 = .ok (.iload_n 3, 1) := by decide +kernel
theorem d901_103 : decode (mb 901) 103 = .ok (.iaload, 1) := by decide +kernel
theorem d901_104 : decode (mb 901) 104 = .ok (.iconst (-1), 1) := by decide +kernel
theorem d901_105 : decode (mb 901) 105 = .ok (.ixor, 1) := by decide +kernel
theorem d901_106 : decode (mb 901) 106 = .ok (.iand, 1) := by decide +kernel
theorem d901_107 : decode (mb 901) 107 = .ok (.ifCond .eq 5, 3) := by decide +kernel
theorem d901_110 : decode (mb 901) 110 = .ok (.iload_n 3, 1) := by decide +kernel
theorem d901_111 : decode (mb 901) 111 = .ok (.ireturn, 1) := by decide +kernel
theorem d901_112 : decode (mb 901) 112 = .ok (.iinc 3 1, 3) := by decide +kernel
theorem d901_115 : decode (mb 901) 115 = .ok (.goto (-41), 3) := by decide +kernel
theorem d901_118 : decode (mb 901) 118 = .ok (.bipush (-5), 2) := by decide +kernel
theorem d901_120 : decode (mb 901) 120 = .ok (.ireturn, 1) := by decide +kernel
theorem x901_0 {L S : List Value} {h : HP} : pX 901 0 L S h = pX 901 1 L (.int 0 :: S) h := pX_iconst d901_0 (by decide)
theorem x901_1 {S : List Value} {h : HP} {l0 l1 l2 l3 : Value} {x0 : Int32} : pX 901 1 [l0, l1, l2, l3] (.int x0 :: S) h = pX 901 2 [l0, l1, l2, .int x0] S h := pX_stp d901_1 rfl rfl rfl
theorem x901_2 {S : List Value} {h : HP} {l0 l1 l2 : Value} {x0 : Int32} : pX 901 2 [l0, l1, l2, .int x0] S h = pX 901 3 [l0, l1, l2, .int x0] (.int x0 :: S) h := pX_stp d901_2 rfl rfl rfl
theorem x901_3 {L S : List Value} {h : HP} : pX 901 3 L S h = pX 901 5 L (.int 40 :: S) h := pX_bipush d901_3 (by decide)
theorem x901_5 {L S : List Value} {h : HP} {x y : Int32} : pX 901 5 L (.int y :: .int x :: S) h = if y ≤ x then pX 901 21 L S h else pX 901 8 L S h := pX_icmp_ge d901_5 (by decide)
theorem x901_8 {S : List Value} {h : HP} {l1 l2 l3 : Value} {a0 : Nat} : pX 901 8 [.ref a0, l1, l2, l3] S h = pX 901 9 [.ref a0, l1, l2, l3] (.ref a0 :: S) h := pX_stp d901_8 rfl rfl rfl
theorem x901_9 {L S : List Value} {h : HP} {a : Nat} (hk : hp_k h a = 10) : pX 901 9 L (.ref a :: S) h = pX 901 12 L (.ref (hp_a h a 0) :: S) h := pX_get d901_9 rfl rfl hk
theorem x901_12 {S : List Value} {h : HP} {l0 l1 l2 : Value} {x0 : Int32} : pX 901 12 [l0, l1, l2, .int x0] S h = pX 901 13 [l0, l1, l2, .int x0] (.int x0 :: S) h := pX_stp d901_12 rfl rfl rfl
theorem x901_13 {L S : List Value} {h : HP} : pX 901 13 L S h = pX 901 14 L (.int (-1) :: S) h := pX_iconst d901_13 (by decide)
theorem x901_14 {L S : List Value} {h : HP} {a : Nat} {j x : Int32} (hk : hp_k h a = 100) (hj : inb j (hp_l h a) = true) : pX 901 14 L (.int x :: .int j :: .ref a :: S) h = pX 901 15 L S (hp_wi h a (ix j) x) := pX_ist d901_14 hk hj
theorem x901_15 {S : List Value} {h : HP} {x0 : Int32} {l0 l1 l2 : Value} : pX 901 15 [l0, l1, l2, .int x0] S h = pX 901 18 [l0, l1, l2, .int (x0 + 1)] S h := pX_iinc (x := x0) d901_15 (by decide) rfl (Nat.le_of_ble_eq_true rfl) rfl rfl
theorem x901_18 {L S : List Value} {h : HP} : pX 901 18 L S h = pX 901 2 L S h := pX_goto d901_18 (by decide)
theorem x901_21 {S : List Value} {h : HP} {l1 l2 l3 : Value} {a0 : Nat} : pX 901 21 [.ref a0, l1, l2, l3] S h = pX 901 22 [.ref a0, l1, l2, l3] (.ref a0 :: S) h := pX_stp d901_21 rfl rfl rfl
theorem x901_22 {S : List Value} {h : HP} {l0 l1 l3 : Value} {a0 : Nat} : pX 901 22 [l0, l1, .ref a0, l3] S h = pX 901 23 [l0, l1, .ref a0, l3] (.ref a0 :: S) h := pX_stp d901_22 rfl rfl rfl
theorem x901_23 {L S : List Value} {h : HP} : pX 901 23 L S h = pX 901 24 L (.int 0 :: S) h := pX_iconst d901_23 (by decide)
theorem x901_24 {L S : List Value} {h : HP} : pX 901 24 L S h = pX 901 25 L (.int 1 :: S) h := pX_iconst d901_24 (by decide)
theorem x901_25 {S : List Value} {h : HP} {l0 l1 l3 : Value} {a0 : Nat} : pX 901 25 [l0, l1, .ref a0, l3] S h = pX 901 26 [l0, l1, .ref a0, l3] (.ref a0 :: S) h := pX_stp d901_25 rfl rfl rfl
theorem x901_26 {L S : List Value} {h : HP} {a : Nat} (hk : hp_k h a = 5) : pX 901 26 L (.ref a :: S) h = pX 901 29 L (.int (hp_i h a 0) :: S) h := pX_get d901_26 rfl rfl hk
theorem x901_29 {L S : List Value} {h : HP} {x y : Int32} : pX 901 29 L (.int y :: .int x :: S) h = pX 901 30 L (.int (x <<< (y &&& 31)) :: S) h := pX_stp d901_29 rfl rfl rfl
theorem x901_30 {L S : List Value} {h : HP} : pX 901 30 L S h = pX 901 31 L (.int 1 :: S) h := pX_iconst d901_30 (by decide)
theorem x901_31 {L S : List Value} {h : HP} {x y : Int32} : pX 901 31 L (.int y :: .int x :: S) h = pX 901 32 L (.int (x - y) :: S) h := pX_stp d901_31 rfl rfl rfl
theorem x901_32 {L : List Value} {h : HP} {x0 : Int32} {x1 : Int32} {a0 : Nat} {a1 : Nat} (hk : hp_k h a1 = 10) : pX 901 32 L [.int x0, .int x1, .ref a0, .ref a1] h = (pX 905 0 [.ref a1, .ref a0, .int x1, .int x0, .retAddr 0] [] h).bind (fun q => pX 901 35 L (q.1.toList ++ []) q.2) := pX_inv (a := a1) (t := 10) 905 [.ref a1, .ref a0, .int x1, .int x0] [] d901_32 rfl rfl rfl hk
theorem x901_35 {S : List Value} {h : HP} {l1 l2 l3 : Value} {a0 : Nat} : pX 901 35 [.ref a0, l1, l2, l3] S h = pX 901 36 [.ref a0, l1, l2, l3] (.ref a0 :: S) h := pX_stp d901_35 rfl rfl rfl
theorem x901_36 {L S : List Value} {h : HP} : pX 901 36 L S h = pX 901 37 L (.int 1 :: S) h := pX_iconst d901_36 (by decide)
theorem x901_37 {L S : List Value} {h : HP} {a : Nat} {x : Int32} (hk : hp_k h a = 10) (hx : x = 0 ∨ x = 1) : pX 901 37 L (.int x :: .ref a :: S) h = pX 901 40 L S (hp_wi h a 1 x) := pX_put d901_37 rfl rfl (by rcases hx with rfl | rfl <;> rfl) hk
theorem x901_40 {L S : List Value} {h : HP} : pX 901 40 L S h = pX 901 41 L (.int 0 :: S) h := pX_iconst d901_40 (by decide)
theorem x901_41 {S : List Value} {h : HP} {l0 l1 l2 l3 : Value} {x0 : Int32} : pX 901 41 [l0, l1, l2, l3] (.int x0 :: S) h = pX 901 42 [l0, l1, l2, .int x0] S h := pX_stp d901_41 rfl rfl rfl
theorem x901_42 {S : List Value} {h : HP} {l0 l1 l2 : Value} {x0 : Int32} : pX 901 42 [l0, l1, l2, .int x0] S h = pX 901 43 [l0, l1, l2, .int x0] (.int x0 :: S) h := pX_stp d901_42 rfl rfl rfl
theorem x901_43 {L S : List Value} {h : HP} : pX 901 43 L S h = pX 901 46 L (.int 361 :: S) h := pX_sipush d901_43 (by decide)
theorem x901_46 {L S : List Value} {h : HP} {x y : Int32} : pX 901 46 L (.int y :: .int x :: S) h = if y ≤ x then pX 901 72 L S h else pX 901 49 L S h := pX_icmp_ge d901_46 (by decide)
theorem x901_49 {S : List Value} {h : HP} {l1 l2 l3 : Value} {a0 : Nat} : pX 901 49 [.ref a0, l1, l2, l3] S h = pX 901 50 [.ref a0, l1, l2, l3] (.ref a0 :: S) h := pX_stp d901_49 rfl rfl rfl
theorem x901_50 {L S : List Value} {h : HP} {a : Nat} (hk : hp_k h a = 10) : pX 901 50 L (.ref a :: S) h = pX 901 53 L (.int (hp_i h a 1) :: S) h := pX_get d901_50 rfl rfl hk
theorem x901_53 {L S : List Value} {h : HP} {x : Int32} : pX 901 53 L (.int x :: S) h = if x = 0 then pX 901 72 L S h else pX 901 56 L S h := pX_if_eq d901_53 (by decide)
theorem x901_56 {S : List Value} {h : HP} {l1 l2 l3 : Value} {a0 : Nat} : pX 901 56 [.ref a0, l1, l2, l3] S h = pX 901 57 [.ref a0, l1, l2, l3] (.ref a0 :: S) h := pX_stp d901_56 rfl rfl rfl
theorem x901_57 {L S : List Value} {h : HP} : pX 901 57 L S h = pX 901 58 L (.int 0 :: S) h := pX_iconst d901_57 (by decide)
theorem x901_58 {L S : List Value} {h : HP} {a : Nat} {x : Int32} (hk : hp_k h a = 10) (hx : x = 0 ∨ x = 1) : pX 901 58 L (.int x :: .ref a :: S) h = pX 901 61 L S (hp_wi h a 1 x) := pX_put d901_58 rfl rfl (by rcases hx with rfl | rfl <;> rfl) hk
theorem x901_61 {S : List Value} {h : HP} {l1 l2 l3 : Value} {a0 : Nat} : pX 901 61 [.ref a0, l1, l2, l3] S h = pX 901 62 [.ref a0, l1, l2, l3] (.ref a0 :: S) h := pX_stp d901_61 rfl rfl rfl
theorem x901_62 {S : List Value} {h : HP} {l0 l1 l3 : Value} {a0 : Nat} : pX 901 62 [l0, l1, .ref a0, l3] S h = pX 901 63 [l0, l1, .ref a0, l3] (.ref a0 :: S) h := pX_stp d901_62 rfl rfl rfl
theorem x901_63 {L : List Value} {h : HP} {a0 : Nat} {a1 : Nat} (hk : hp_k h a1 = 10) : pX 901 63 L [.ref a0, .ref a1] h = (pX 902 0 [.ref a1, .ref a0, .retAddr 0] [] h).bind (fun q => pX 901 66 L (q.1.toList ++ []) q.2) := pX_inv (a := a1) (t := 10) 902 [.ref a1, .ref a0] [] d901_63 rfl rfl rfl hk
theorem x901_66 {S : List Value} {h : HP} {x0 : Int32} {l0 l1 l2 : Value} : pX 901 66 [l0, l1, l2, .int x0] S h = pX 901 69 [l0, l1, l2, .int (x0 + 1)] S h := pX_iinc (x := x0) d901_66 (by decide) rfl (Nat.le_of_ble_eq_true rfl) rfl rfl
theorem x901_69 {L S : List Value} {h : HP} : pX 901 69 L S h = pX 901 42 L S h := pX_goto d901_69 (by decide)
theorem x901_72 {L S : List Value} {h : HP} : pX 901 72 L S h = pX 901 73 L (.int 0 :: S) h := pX_iconst d901_72 (by decide)
theorem x901_73 {S : List Value} {h : HP} {l0 l1 l2 l3 : Value} {x0 : Int32} : pX 901 73 [l0, l1, l2, l3] (.int x0 :: S) h = pX 901 74 [l0, l1, l2, .int x0] S h := pX_stp d901_73 rfl rfl rfl
theorem x901_74 {S : List Value} {h : HP} {l0 l1 l2 : Value} {x0 : Int32} : pX 901 74 [l0, l1, l2, .int x0] S h = pX 901 75 [l0, l1, l2, .int x0] (.int x0 :: S) h := pX_stp d901_74 rfl rfl rfl
theorem x901_75 {S : List Value} {h : HP} {l0 l1 l3 : Value} {a0 : Nat} : pX 901 75 [l0, l1, .ref a0, l3] S h = pX 901 76 [l0, l1, .ref a0, l3] (.ref a0 :: S) h := pX_stp d901_75 rfl rfl rfl
theorem x901_76 {L S : List Value} {h : HP} {a : Nat} (hk : hp_k h a = 5) : pX 901 76 L (.ref a :: S) h = pX 901 79 L (.int (hp_i h a 2) :: S) h := pX_get d901_76 rfl rfl hk
theorem x901_79 {L S : List Value} {h : HP} {x y : Int32} : pX 901 79 L (.int y :: .int x :: S) h = if y ≤ x then pX 901 118 L S h else pX 901 82 L S h := pX_icmp_ge d901_79 (by decide)
theorem x901_82 {S : List Value} {h : HP} {l1 l2 l3 : Value} {a0 : Nat} : pX 901 82 [.ref a0, l1, l2, l3] S h = pX 901 83 [.ref a0, l1, l2, l3] (.ref a0 :: S) h := pX_stp d901_82 rfl rfl rfl
theorem x901_83 {L S : List Value} {h : HP} {a : Nat} (hk : hp_k h a = 10) : pX 901 83 L (.ref a :: S) h = pX 901 86 L (.ref (hp_a h a 0) :: S) h := pX_get d901_83 rfl rfl hk
theorem x901_86 {S : List Value} {h : HP} {l0 l1 l2 : Value} {x0 : Int32} : pX 901 86 [l0, l1, l2, .int x0] S h = pX 901 87 [l0, l1, l2, .int x0] (.int x0 :: S) h := pX_stp d901_86 rfl rfl rfl
theorem x901_87 {L S : List Value} {h : HP} {a : Nat} {j : Int32} (hk : hp_k h a = 100) (hj : inb j (hp_l h a) = true) : pX 901 87 L (.int j :: .ref a :: S) h = pX 901 88 L (.int (hp_i h a (ix j)) :: S) h := pX_ild d901_87 hk hj
theorem x901_87R {L S : List Value} {h : HP} {a : Nat} {j : Int32} (hk : hp_k h a = 99) (hj : inb j (hp_l h a) = true) : pX 901 87 L (.int j :: .ref a :: S) h = pX 901 88 L (.int (hp_i h a (ix j)) :: S) h := pX_ildR d901_87 hk hj
theorem x901_88 {L S : List Value} {h : HP} : pX 901 88 L S h = pX 901 89 L (.int (-1) :: S) h := pX_iconst d901_88 (by decide)
theorem x901_89 {L S : List Value} {h : HP} {x y : Int32} : pX 901 89 L (.int y :: .int x :: S) h = if x = y then pX 901 112 L S h else pX 901 92 L S h := pX_icmp_eq d901_89 (by decide)
theorem x901_92 {S : List Value} {h : HP} {l0 l2 l3 : Value} {a0 : Nat} : pX 901 92 [l0, .ref a0, l2, l3] S h = pX 901 93 [l0, .ref a0, l2, l3] (.ref a0 :: S) h := pX_stp d901_92 rfl rfl rfl
theorem x901_93 {S : List Value} {h : HP} {l0 l1 l3 : Value} {a0 : Nat} : pX 901 93 [l0, l1, .ref a0, l3] S h = pX 901 94 [l0, l1, .ref a0, l3] (.ref a0 :: S) h := pX_stp d901_93 rfl rfl rfl
theorem x901_94 {S : List Value} {h : HP} {l0 l1 l2 : Value} {x0 : Int32} : pX 901 94 [l0, l1, l2, .int x0] S h = pX 901 95 [l0, l1, l2, .int x0] (.int x0 :: S) h := pX_stp d901_94 rfl rfl rfl
theorem x901_95 {L : List Value} {h : HP} {x0 : Int32} {a0 : Nat} {a1 : Nat} : pX 901 95 L [.int x0, .ref a0, .ref a1] h = (pX 906 0 [.ref a1, .ref a0, .int x0, .retAddr 0, .retAddr 0] [] h).bind (fun q => pX 901 98 L (q.1.toList ++ []) q.2) := pX_ins 906 [.ref a1, .ref a0, .int x0] [] d901_95 rfl rfl rfl
theorem x901_98 {S : List Value} {h : HP} {l1 l2 l3 : Value} {a0 : Nat} : pX 901 98 [.ref a0, l1, l2, l3] S h = pX 901 99 [.ref a0, l1, l2, l3] (.ref a0 :: S) h := pX_stp d901_98 rfl rfl rfl
theorem x901_99 {L S : List Value} {h : HP} {a : Nat} (hk : hp_k h a = 10) : pX 901 99 L (.ref a :: S) h = pX 901 102 L (.ref (hp_a h a 0) :: S) h := pX_get d901_99 rfl rfl hk
theorem x901_102 {S : List Value} {h : HP} {l0 l1 l2 : Value} {x0 : Int32} : pX 901 102 [l0, l1, l2, .int x0] S h = pX 901 103 [l0, l1, l2, .int x0] (.int x0 :: S) h := pX_stp d901_102 rfl rfl rfl
theorem x901_103 {L S : List Value} {h : HP} {a : Nat} {j : Int32} (hk : hp_k h a = 100) (hj : inb j (hp_l h a) = true) : pX 901 103 L (.int j :: .ref a :: S) h = pX 901 104 L (.int (hp_i h a (ix j)) :: S) h := pX_ild d901_103 hk hj
theorem x901_103R {L S : List Value} {h : HP} {a : Nat} {j : Int32} (hk : hp_k h a = 99) (hj : inb j (hp_l h a) = true) : pX 901 103 L (.int j :: .ref a :: S) h = pX 901 104 L (.int (hp_i h a (ix j)) :: S) h := pX_ildR d901_103 hk hj
theorem x901_104 {L S : List Value} {h : HP} : pX 901 104 L S h = pX 901 105 L (.int (-1) :: S) h := pX_iconst d901_104 (by decide)
theorem x901_105 {L S : List Value} {h : HP} {x y : Int32} : pX 901 105 L (.int y :: .int x :: S) h = pX 901 106 L (.int (x ^^^ y) :: S) h := pX_stp d901_105 rfl rfl rfl
theorem x901_106 {L S : List Value} {h : HP} {x y : Int32} : pX 901 106 L (.int y :: .int x :: S) h = pX 901 107 L (.int (x &&& y) :: S) h := pX_stp d901_106 rfl rfl rfl
theorem x901_107 {L S : List Value} {h : HP} {x : Int32} : pX 901 107 L (.int x :: S) h = if x = 0 then pX 901 112 L S h else pX 901 110 L S h := pX_if_eq d901_107 (by decide)
theorem x901_110 {S : List Value} {h : HP} {l0 l1 l2 : Value} {x0 : Int32} : pX 901 110 [l0, l1, l2, .int x0] S h = pX 901 111 [l0, l1, l2, .int x0] (.int x0 :: S) h := pX_stp d901_110 rfl rfl rfl
theorem x901_111 {L : List Value} {h : HP} {x : Int32} : pX 901 111 L [.int x] h = some (some (.int x), h) := pX_ret d901_111 rfl
theorem x901_112 {S : List Value} {h : HP} {x0 : Int32} {l0 l1 l2 : Value} : pX 901 112 [l0, l1, l2, .int x0] S h = pX 901 115 [l0, l1, l2, .int (x0 + 1)] S h := pX_iinc (x := x0) d901_112 (by decide) rfl (Nat.le_of_ble_eq_true rfl) rfl rfl
theorem x901_115 {L S : List Value} {h : HP} : pX 901 115 L S h = pX 901 74 L S h := pX_goto d901_115 (by decide)
theorem x901_118 {L S : List Value} {h : HP} : pX 901 118 L S h = pX 901 120 L (.int (-5) :: S) h := pX_bipush d901_118 (by decide)
theorem x901_120 {L : List Value} {h : HP} {x : Int32} : pX 901 120 L [.int x] h = some (some (.int x), h) := pX_ret d901_120 rfl
theorem d902_0 : decode (mb 902) 0 = .ok (.iconst 0, 1) := by decide +kernel
theorem d902_1 : decode (mb 902) 1 = .ok (.istore_n 2, 1) := by decide +kernel
theorem d902_2 : decode (mb 902) 2 = .ok (.iload_n 2, 1) := by decide +kernel
theorem d902_3 : decode (mb 902) 3 = .ok (.aload_n 1, 1) := by decide +kernel
theorem d902_4 : decode (mb 902) 4 = .ok (.getfield 33, 3) := by decide +kernel
theorem d902_7 : decode (mb 902) 7 = .ok (.if_icmp .ge 31, 3) := by decide +kernel
theorem d902_10 : decode (mb 902) 10 = .ok (.aload_n 0, 1) := by decide +kernel
theorem d902_11 : decode (mb 902) 11 = .ok (.getfield 9, 3) := by decide +kernel
theorem d902_14 : decode (mb 902) 14 = .ok (.iload_n 2, 1) := by decide +kernel
theorem d902_15 : decode (mb 902) 15 = .ok (.iaload, 1) := by decide +kernel
theorem d902_16 : decode (mb 902) 16 = .ok (.iconst (-1), 1) := by decide +kernel
theorem d902_17 : decode (mb 902) 17 = .ok (.if_icmp .eq 15, 3) := by decide +kernel
theorem d902_20 : decode (mb 902) 20 = .ok (.aload_n 0, 1) := by decide +kernel
theorem d902_21 : decode (mb 902) 21 = .ok (.aload_n 1, 1) := by decide +kernel
theorem d902_22 : decode (mb 902) 22 = .ok (.iload_n 2, 1) := by decide +kernel
theorem d902_23 : decode (mb 902) 23 = .ok (.invokevirtual 40, 3) := by decide +kernel
theorem d902_26 : decode (mb 902) 26 = .ok (.aload_n 0, 1) := by decide +kernel
theorem d902_27 : decode (mb 902) 27 = .ok (.aload_n 1, 1) := by decide +kernel
theorem d902_28 : decode (mb 902) 28 = .ok (.iload_n 2, 1) := by decide +kernel
theorem d902_29 : decode (mb 902) 29 = .ok (.invokevirtual 44, 3) := by decide +kernel
theorem d902_32 : decode (mb 902) 32 = .ok (.iinc 2 1, 3) := by decide +kernel
theorem d902_35 : decode (mb 902) 35 = .ok (.goto (-33), 3) := by decide +kernel
theorem d902_38 : decode (mb 902) 38 = .ok (.return_, 1) := by decide +kernel
theorem x902_0 {L S : List Value} {h : HP} : pX 902 0 L S h = pX 902 1 L (.int 0 :: S) h := pX_iconst d902_0 (by decide)
theorem x902_1 {S : List Value} {h : HP} {l0 l1 l2 : Value} {x0 : Int32} : pX 902 1 [l0, l1, l2] (.int x0 :: S) h = pX 902 2 [l0, l1, .int x0] S h := pX_stp d902_1 rfl rfl rfl
theorem x902_2 {S : List Value} {h : HP} {l0 l1 : Value} {x0 : Int32} : pX 902 2 [l0, l1, .int x0] S h = pX 902 3 [l0, l1, .int x0] (.int x0 :: S) h := pX_stp d902_2 rfl rfl rfl
theorem x902_3 {S : List Value} {h : HP} {l0 l2 : Value} {a0 : Nat} : pX 902 3 [l0, .ref a0, l2] S h = pX 902 4 [l0, .ref a0, l2] (.ref a0 :: S) h := pX_stp d902_3 rfl rfl rfl
theorem x902_4 {L S : List Value} {h : HP} {a : Nat} (hk : hp_k h a = 5) : pX 902 4 L (.ref a :: S) h = pX 902 7 L (.int (hp_i h a 2) :: S) h := pX_get d902_4 rfl rfl hk
theorem x902_7 {L S : List Value} {h : HP} {x y : Int32} : pX 902 7 L (.int y :: .int x :: S) h = if y ≤ x then pX 902 38 L S h else pX 902 10 L S h := pX_icmp_ge d902_7 (by decide)
theorem x902_10 {S : List Value} {h : HP} {l1 l2 : Value} {a0 : Nat} : pX 902 10 [.ref a0, l1, l2] S h = pX 902 11 [.ref a0, l1, l2] (.ref a0 :: S) h := pX_stp d902_10 rfl rfl rfl
theorem x902_11 {L S : List Value} {h : HP} {a : Nat} (hk : hp_k h a = 10) : pX 902 11 L (.ref a :: S) h = pX 902 14 L (.ref (hp_a h a 0) :: S) h := pX_get d902_11 rfl rfl hk
theorem x902_14 {S : List Value} {h : HP} {l0 l1 : Value} {x0 : Int32} : pX 902 14 [l0, l1, .int x0] S h = pX 902 15 [l0, l1, .int x0] (.int x0 :: S) h := pX_stp d902_14 rfl rfl rfl
theorem x902_15 {L S : List Value} {h : HP} {a : Nat} {j : Int32} (hk : hp_k h a = 100) (hj : inb j (hp_l h a) = true) : pX 902 15 L (.int j :: .ref a :: S) h = pX 902 16 L (.int (hp_i h a (ix j)) :: S) h := pX_ild d902_15 hk hj
theorem x902_15R {L S : List Value} {h : HP} {a : Nat} {j : Int32} (hk : hp_k h a = 99) (hj : inb j (hp_l h a) = true) : pX 902 15 L (.int j :: .ref a :: S) h = pX 902 16 L (.int (hp_i h a (ix j)) :: S) h := pX_ildR d902_15 hk hj
theorem x902_16 {L S : List Value} {h : HP} : pX 902 16 L S h = pX 902 17 L (.int (-1) :: S) h := pX_iconst d902_16 (by decide)
theorem x902_17 {L S : List Value} {h : HP} {x y : Int32} : pX 902 17 L (.int y :: .int x :: S) h = if x = y then pX 902 32 L S h else pX 902 20 L S h := pX_icmp_eq d902_17 (by decide)
theorem x902_20 {S : List Value} {h : HP} {l1 l2 : Value} {a0 : Nat} : pX 902 20 [.ref a0, l1, l2] S h = pX 902 21 [.ref a0, l1, l2] (.ref a0 :: S) h := pX_stp d902_20 rfl rfl rfl
theorem x902_21 {S : List Value} {h : HP} {l0 l2 : Value} {a0 : Nat} : pX 902 21 [l0, .ref a0, l2] S h = pX 902 22 [l0, .ref a0, l2] (.ref a0 :: S) h := pX_stp d902_21 rfl rfl rfl
theorem x902_22 {S : List Value} {h : HP} {l0 l1 : Value} {x0 : Int32} : pX 902 22 [l0, l1, .int x0] S h = pX 902 23 [l0, l1, .int x0] (.int x0 :: S) h := pX_stp d902_22 rfl rfl rfl
theorem x902_23 {L : List Value} {h : HP} {x0 : Int32} {a0 : Nat} {a1 : Nat} (hk : hp_k h a1 = 10) : pX 902 23 L [.int x0, .ref a0, .ref a1] h = (pX 903 0 [.ref a1, .ref a0, .int x0, .retAddr 0, .retAddr 0] [] h).bind (fun q => pX 902 26 L (q.1.toList ++ []) q.2) := pX_inv (a := a1) (t := 10) 903 [.ref a1, .ref a0, .int x0] [] d902_23 rfl rfl rfl hk
theorem x902_26 {S : List Value} {h : HP} {l1 l2 : Value} {a0 : Nat} : pX 902 26 [.ref a0, l1, l2] S h = pX 902 27 [.ref a0, l1, l2] (.ref a0 :: S) h := pX_stp d902_26 rfl rfl rfl
theorem x902_27 {S : List Value} {h : HP} {l0 l2 : Value} {a0 : Nat} : pX 902 27 [l0, .ref a0, l2] S h = pX 902 28 [l0, .ref a0, l2] (.ref a0 :: S) h := pX_stp d902_27 rfl rfl rfl
theorem x902_28 {S : List Value} {h : HP} {l0 l1 : Value} {x0 : Int32} : pX 902 28 [l0, l1, .int x0] S h = pX 902 29 [l0, l1, .int x0] (.int x0 :: S) h := pX_stp d902_28 rfl rfl rfl
theorem x902_29 {L : List Value} {h : HP} {x0 : Int32} {a0 : Nat} {a1 : Nat} (hk : hp_k h a1 = 10) : pX 902 29 L [.int x0, .ref a0, .ref a1] h = (pX 904 0 [.ref a1, .ref a0, .int x0, .retAddr 0] [] h).bind (fun q => pX 902 32 L (q.1.toList ++ []) q.2) := pX_inv (a := a1) (t := 10) 904 [.ref a1, .ref a0, .int x0] [] d902_29 rfl rfl rfl hk
theorem x902_32 {S : List Value} {h : HP} {x0 : Int32} {l0 l1 : Value} : pX 902 32 [l0, l1, .int x0] S h = pX 902 35 [l0, l1, .int (x0 + 1)] S h := pX_iinc (x := x0) d902_32 (by decide) rfl (Nat.le_of_ble_eq_true rfl) rfl rfl
theorem x902_35 {L S : List Value} {h : HP} : pX 902 35 L S h = pX 902 2 L S h := pX_goto d902_35 (by decide)
theorem x902_38 {L : List Value} {h : HP} : pX 902 38 L [] h = some (none, h) := pX_ret d902_38 rfl
theorem d903_0 : decode (mb 903) 0 = .ok (.aload_n 1, 1) := by decide +kernel
theorem d903_1 : decode (mb 903) 1 = .ok (.getfield 47, 3) := by decide +kernel
theorem d903_4 : decode (mb 903) 4 = .ok (.iload_n 2, 1) := by decide +kernel
theorem d903_5 : decode (mb 903) 5 = .ok (.iaload, 1) := by decide +kernel
theorem d903_6 : decode (mb 903) 6 = .ok (.istore_n 3, 1) := by decide +kernel
theorem d903_7 : decode (mb 903) 7 = .ok (.getstatic 50, 3) := by decide +kernel
theorem d903_10 : decode (mb 903) 10 = .ok (.iload_n 3, 1) := by decide +kernel
theorem d903_11 : decode (mb 903) 11 = .ok (.iaload, 1) := by decide +kernel
theorem d903_12 : decode (mb 903) 12 = .ok (.ifCond .ne 12, 3) := by decide +kernel
theorem d903_15 : decode (mb 903) 15 = .ok (.aload_n 0, 1) := by decide +kernel
theorem d903_16 : decode (mb 903) 16 = .ok (.getfield 9, 3) := by decide +kernel
theorem d903_19 : decode (mb 903) 19 = .ok (.iload_n 2, 1) := by decide +kernel
theorem d903_20 : decode (mb 903) 20 = .ok (.iaload, 1) := by decide +kernel
theorem d903_21 : decode (mb 903) 21 = .ok (.goto 18, 3) := by decide +kernel
theorem d903_24 : decode (mb 903) 24 = .ok (.aload_n 0, 1) := by decide +kernel
theorem d903_25 : decode (mb 903) 25 = .ok (.getfield 9, 3) := by decide +kernel
theorem d903_28 : decode (mb 903) 28 = .ok (.iload_n 2, 1) := by decide +kernel
theorem d903_29 : decode (mb 903) 29 = .ok (.iaload, 1) := by decide +kernel
theorem d903_30 : decode (mb 903) 30 = .ok (.iconst 1, 1) := by decide +kernel
theorem d903_31 : decode (mb 903) 31 = .ok (.aload_n 1, 1) := by decide +kernel
theorem d903_32 : decode (mb 903) 32 = .ok (.getfield 53, 3) := by decide +kernel
theorem d903_35 : decode (mb 903) 35 = .ok (.iload_n 2, 1) := by decide +kernel
theorem d903_36 : decode (mb 903) 36 = .ok (.iaload, 1) := by decide +kernel
theorem d903_37 : decode (mb 903) 37 = .ok (.ishl, 1) := by decide +kernel
theorem d903_38 : decode (mb 903) 38 = .ok (.ior, 1) := by decide +kernel
theorem d903_39 : decode (mb 903) 39 = .ok (.istore 4, 2) := by decide +kernel
theorem d903_41 : decode (mb 903) 41 = .ok (.iload_n 3, 1) := by decide +kernel
theorem d903_42 : decode (mb 903) 42 = .ok (.bipush 9, 2) := by decide +kernel
theorem d903_44 : decode (mb 903) 44 = .ok (.if_icmp .ne 19, 3) := by decide +kernel
theorem d903_47 : decode (mb 903) 47 = .ok (.aload_n 0, 1) := by decide +kernel
theorem d903_48 : decode (mb 903) 48 = .ok (.aload_n 1, 1) := by decide +kernel
theorem d903_49 : decode (mb 903) 49 = .ok (.aload_n 1, 1) := by decide +kernel
theorem d903_50 : decode (mb 903) 50 = .ok (.getfield 53, 3) := by decide +kernel
theorem d903_53 : decode (mb 903) 53 = .ok (.iload_n 2, 1) := by decide +kernel
theorem d903_54 : decode (mb 903) 54 = .ok (.iaload, 1) := by decide +kernel
theorem d903_55 : decode (mb 903) 55 = .ok (.iload 4, 2) := by decide +kernel
theorem d903_57 : decode (mb 903) 57 = .ok (.invokevirtual 21, 3) := by decide +kernel
theorem d903_60 : decode (mb 903) 60 = .ok (.goto 25, 3) := by decide +kernel
theorem d903_63 : decode (mb 903) 63 = .ok (.iload_n 3, 1) := by decide +kernel
theorem d903_64 : decode (mb 903) 64 = .ok (.bipush 22, 2) := by decide +kernel
theorem d903_66 : decode (mb 903) 66 = .ok (.if_icmp .eq 19, 3) := by decide +kernel
theorem d903_69 : decode (mb 903) 69 = .ok (.iload_n 3, 1) := by decide +kernel
theorem d903_70 : decode (mb 903) 70 = .ok (.bipush 24, 2) := by decide +kernel
theorem d903_72 : decode (mb 903) 72 = .ok (.if_icmp .eq 13, 3) := by decide +kernel
theorem d903_75 : decode (mb 903) 75 = .ok (.aload_n 0, 1) := by decide +kernel
theorem d903_76 : decode (mb 903) 76 = .ok (.aload_n 1, 1) := by decide +kernel
theorem d903_77 : decode (mb 903) 77 = .ok (.iload_n 2, 1) := by decide +kernel
theorem d903_78 : decode (mb 903) 78 = .ok (.iconst 1, 1) := by decide +kernel
theorem d903_79 : decode (mb 903) 79 = .ok (.iadd, 1) := by decide +kernel
theorem d903_80 : decode (mb 903) 80 = .ok (.iload 4, 2) := by decide +kernel
theorem d903_82 : decode (mb 903) 82 = .ok (.invokevirtual 21, 3) := by decide +kernel
theorem d903_85 : decode (mb 903) 85 = .ok (.iload_n 3, 1) := by decide +kernel
theorem d903_86 : decode (mb 903) 86 = .ok (.bipush 10, 2) := by decide +kernel
theorem d903_88 : decode (mb 903) 88 = .ok (.if_icmp .ne 16, 3) := by decide +kernel
theorem d903_91 : decode (mb 903) 91 = .ok (.aload_n 0, 1) := by decide +kernel
theorem d903_92 : decode (mb 903) 92 = .ok (.aload_n 1, 1) := by decide +kernel
theorem d903_93 : decode (mb 903) 93 = .ok (.aload_n 1, 1) := by decide +kernel
theorem d903_94 : decode (mb 903) 94 = .ok (.getfield 56, 3) := by decide +kernel
theorem d903_97 : decode (mb 903) 97 = .ok (.iload_n 2, 1) := by decide +kernel
theorem d903_98 : decode (mb 903) 98 = .ok (.iaload, 1) := by decide +kernel
theorem d903_99 : decode (mb 903) 99 = .ok (.iload 4, 2) := by decide +kernel
theorem d903_101 : decode (mb 903) 101 = .ok (.invokevirtual 21, 3) := by decide +kernel
theorem d903_104 : decode (mb 903) 104 = .ok (.return_, 1) := by decide +kernel
theorem x903_0 {S : List Value} {h : HP} {l0 l2 l3 l4 : Value} {a0 : Nat} : pX 903 0 [l0, .ref a0, l2, l3, l4] S h = pX 903 1 [l0, .ref a0, l2, l3, l4] (.ref a0 :: S) h := pX_stp d903_0 rfl rfl rfl
theorem x903_1 {L S : List Value} {h : HP} {a : Nat} (hk : hp_k h a = 5) : pX 903 1 L (.ref a :: S) h = pX 903 4 L (.ref (hp_a h a 3) :: S) h := pX_get d903_1 rfl rfl hk
theorem x903_4 {S : List Value} {h : HP} {l0 l1 l3 l4 : Value} {x0 : Int32} : pX 903 4 [l0, l1, .int x0, l3, l4] S h = pX 903 5 [l0, l1, .int x0, l3, l4] (.int x0 :: S) h := pX_stp d903_4 rfl rfl rfl
theorem x903_5 {L S : List Value} {h : HP} {a : Nat} {j : Int32} (hk : hp_k h a = 100) (hj : inb j (hp_l h a) = true) : pX 903 5 L (.int j :: .ref a :: S) h = pX 903 6 L (.int (hp_i h a (ix j)) :: S) h := pX_ild d903_5 hk hj
theorem x903_5R {L S : List Value} {h : HP} {a : Nat} {j : Int32} (hk : hp_k h a = 99) (hj : inb j (hp_l h a) = true) : pX 903 5 L (.int j :: .ref a :: S) h = pX 903 6 L (.int (hp_i h a (ix j)) :: S) h := pX_ildR d903_5 hk hj
theorem x903_6 {S : List Value} {h : HP} {l0 l1 l2 l3 l4 : Value} {x0 : Int32} : pX 903 6 [l0, l1, l2, l3, l4] (.int x0 :: S) h = pX 903 7 [l0, l1, l2, .int x0, l4] S h := pX_stp d903_6 rfl rfl rfl
theorem x903_7 {L S : List Value} {h : HP} : pX 903 7 L S h = pX 903 10 L (.ref 3 :: S) h := pX_gets d903_7 rfl
theorem x903_10 {S : List Value} {h : HP} {l0 l1 l2 l4 : Value} {x0 : Int32} : pX 903 10 [l0, l1, l2, .int x0, l4] S h = pX 903 11 [l0, l1, l2, .int x0, l4] (.int x0 :: S) h := pX_stp d903_10 rfl rfl rfl
theorem x903_11 {L S : List Value} {h : HP} {a : Nat} {j : Int32} (hk : hp_k h a = 100) (hj : inb j (hp_l h a) = true) : pX 903 11 L (.int j :: .ref a :: S) h = pX 903 12 L (.int (hp_i h a (ix j)) :: S) h := pX_ild d903_11 hk hj
theorem x903_11R {L S : List Value} {h : HP} {a : Nat} {j : Int32} (hk : hp_k h a = 99) (hj : inb j (hp_l h a) = true) : pX 903 11 L (.int j :: .ref a :: S) h = pX 903 12 L (.int (hp_i h a (ix j)) :: S) h := pX_ildR d903_11 hk hj
theorem x903_12 {L S : List Value} {h : HP} {x : Int32} : pX 903 12 L (.int x :: S) h = if x = 0 then pX 903 15 L S h else pX 903 24 L S h := pX_if_ne d903_12 (by decide)
theorem x903_15 {S : List Value} {h : HP} {l1 l2 l3 l4 : Value} {a0 : Nat} : pX 903 15 [.ref a0, l1, l2, l3, l4] S h = pX 903 16 [.ref a0, l1, l2, l3, l4] (.ref a0 :: S) h := pX_stp d903_15 rfl rfl rfl
theorem x903_16 {L S : List Value} {h : HP} {a : Nat} (hk : hp_k h a = 10) : pX 903 16 L (.ref a :: S) h = pX 903 19 L (.ref (hp_a h a 0) :: S) h := pX_get d903_16 rfl rfl hk
theorem x903_19 {S : List Value} {h : HP} {l0 l1 l3 l4 : Value} {x0 : Int32} : pX 903 19 [l0, l1, .int x0, l3, l4] S h = pX 903 20 [l0, l1, .int x0, l3, l4] (.int x0 :: S) h := pX_stp d903_19 rfl rfl rfl
theorem x903_20 {L S : List Value} {h : HP} {a : Nat} {j : Int32} (hk : hp_k h a = 100) (hj : inb j (hp_l h a) = true) : pX 903 20 L (.int j :: .ref a :: S) h = pX 903 21 L (.int (hp_i h a (ix j)) :: S) h := pX_ild d903_20 hk hj
theorem x903_20R {L S : List Value} {h : HP} {a : Nat} {j : Int32} (hk : hp_k h a = 99) (hj : inb j (hp_l h a) = true) : pX 903 20 L (.int j :: .ref a :: S) h = pX 903 21 L (.int (hp_i h a (ix j)) :: S) h := pX_ildR d903_20 hk hj
theorem x903_21 {L S : List Value} {h : HP} : pX 903 21 L S h = pX 903 39 L S h := pX_goto d903_21 (by decide)
theorem x903_24 {S : List Value} {h : HP} {l1 l2 l3 l4 : Value} {a0 : Nat} : pX 903 24 [.ref a0, l1, l2, l3, l4] S h = pX 903 25 [.ref a0, l1, l2, l3, l4] (.ref a0 :: S) h := pX_stp d903_24 rfl rfl rfl
theorem x903_25 {L S : List Value} {h : HP} {a : Nat} (hk : hp_k h a = 10) : pX 903 25 L (.ref a :: S) h = pX 903 28 L (.ref (hp_a h a 0) :: S) h := pX_get d903_25 rfl rfl hk
theorem x903_28 {S : List Value} {h : HP} {l0 l1 l3 l4 : Value} {x0 : Int32} : pX 903 28 [l0, l1, .int x0, l3, l4] S h = pX 903 29 [l0, l1, .int x0, l3, l4] (.int x0 :: S) h := pX_stp d903_28 rfl rfl rfl
theorem x903_29 {L S : List Value} {h : HP} {a : Nat} {j : Int32} (hk : hp_k h a = 100) (hj : inb j (hp_l h a) = true) : pX 903 29 L (.int j :: .ref a :: S) h = pX 903 30 L (.int (hp_i h a (ix j)) :: S) h := pX_ild d903_29 hk hj
theorem x903_29R {L S : List Value} {h : HP} {a : Nat} {j : Int32} (hk : hp_k h a = 99) (hj : inb j (hp_l h a) = true) : pX 903 29 L (.int j :: .ref a :: S) h = pX 903 30 L (.int (hp_i h a (ix j)) :: S) h := pX_ildR d903_29 hk hj
theorem x903_30 {L S : List Value} {h : HP} : pX 903 30 L S h = pX 903 31 L (.int 1 :: S) h := pX_iconst d903_30 (by decide)
theorem x903_31 {S : List Value} {h : HP} {l0 l2 l3 l4 : Value} {a0 : Nat} : pX 903 31 [l0, .ref a0, l2, l3, l4] S h = pX 903 32 [l0, .ref a0, l2, l3, l4] (.ref a0 :: S) h := pX_stp d903_31 rfl rfl rfl
theorem x903_32 {L S : List Value} {h : HP} {a : Nat} (hk : hp_k h a = 5) : pX 903 32 L (.ref a :: S) h = pX 903 35 L (.ref (hp_a h a 4) :: S) h := pX_get d903_32 rfl rfl hk
theorem x903_35 {S : List Value} {h : HP} {l0 l1 l3 l4 : Value} {x0 : Int32} : pX 903 35 [l0, l1, .int x0, l3, l4] S h = pX 903 36 [l0, l1, .int x0, l3, l4] (.int x0 :: S) h := pX_stp d903_35 rfl rfl rfl
theorem x903_36 {L S : List Value} {h : HP} {a : Nat} {j : Int32} (hk : hp_k h a = 100) (hj : inb j (hp_l h a) = true) : pX 903 36 L (.int j :: .ref a :: S) h = pX 903 37 L (.int (hp_i h a (ix j)) :: S) h := pX_ild d903_36 hk hj
theorem x903_36R {L S : List Value} {h : HP} {a : Nat} {j : Int32} (hk : hp_k h a = 99) (hj : inb j (hp_l h a) = true) : pX 903 36 L (.int j :: .ref a :: S) h = pX 903 37 L (.int (hp_i h a (ix j)) :: S) h := pX_ildR d903_36 hk hj
theorem x903_37 {L S : List Value} {h : HP} {x y : Int32} : pX 903 37 L (.int y :: .int x :: S) h = pX 903 38 L (.int (x <<< (y &&& 31)) :: S) h := pX_stp d903_37 rfl rfl rfl
theorem x903_38 {L S : List Value} {h : HP} {x y : Int32} : pX 903 38 L (.int y :: .int x :: S) h = pX 903 39 L (.int (x ||| y) :: S) h := pX_stp d903_38 rfl rfl rfl
theorem x903_39 {S : List Value} {h : HP} {l0 l1 l2 l3 l4 : Value} {x0 : Int32} : pX 903 39 [l0, l1, l2, l3, l4] (.int x0 :: S) h = pX 903 41 [l0, l1, l2, l3, .int x0] S h := pX_stp d903_39 rfl rfl rfl
theorem x903_41 {S : List Value} {h : HP} {l0 l1 l2 l4 : Value} {x0 : Int32} : pX 903 41 [l0, l1, l2, .int x0, l4] S h = pX 903 42 [l0, l1, l2, .int x0, l4] (.int x0 :: S) h := pX_stp d903_41 rfl rfl rfl
theorem x903_42 {L S : List Value} {h : HP} : pX 903 42 L S h = pX 903 44 L (.int 9 :: S) h := pX_bipush d903_42 (by decide)
theorem x903_44 {L S : List Value} {h : HP} {x y : Int32} : pX 903 44 L (.int y :: .int x :: S) h = if x = y then pX 903 47 L S h else pX 903 63 L S h := pX_icmp_ne d903_44 (by decide)
theorem x903_47 {S : List Value} {h : HP} {l1 l2 l3 l4 : Value} {a0 : Nat} : pX 903 47 [.ref a0, l1, l2, l3, l4] S h = pX 903 48 [.ref a0, l1, l2, l3, l4] (.ref a0 :: S) h := pX_stp d903_47 rfl rfl rfl
theorem x903_48 {S : List Value} {h : HP} {l0 l2 l3 l4 : Value} {a0 : Nat} : pX 903 48 [l0, .ref a0, l2, l3, l4] S h = pX 903 49 [l0, .ref a0, l2, l3, l4] (.ref a0 :: S) h := pX_stp d903_48 rfl rfl rfl
theorem x903_49 {S : List Value} {h : HP} {l0 l2 l3 l4 : Value} {a0 : Nat} : pX 903 49 [l0, .ref a0, l2, l3, l4] S h = pX 903 50 [l0, .ref a0, l2, l3, l4] (.ref a0 :: S) h := pX_stp d903_49 rfl rfl rfl
theorem x903_50 {L S : List Value} {h : HP} {a : Nat} (hk : hp_k h a = 5) : pX 903 50 L (.ref a :: S) h = pX 903 53 L (.ref (hp_a h a 4) :: S) h := pX_get d903_50 rfl rfl hk
theorem x903_53 {S : List Value} {h : HP} {l0 l1 l3 l4 : Value} {x0 : Int32} : pX 903 53 [l0, l1, .int x0, l3, l4] S h = pX 903 54 [l0, l1, .int x0, l3, l4] (.int x0 :: S) h := pX_stp d903_53 rfl rfl rfl
theorem x903_54 {L S : List Value} {h : HP} {a : Nat} {j : Int32} (hk : hp_k h a = 100) (hj : inb j (hp_l h a) = true) : pX 903 54 L (.int j :: .ref a :: S) h = pX 903 55 L (.int (hp_i h a (ix j)) :: S) h := pX_ild d903_54 hk hj
theorem x903_54R {L S : List Value} {h : HP} {a : Nat} {j : Int32} (hk : hp_k h a = 99) (hj : inb j (hp_l h a) = true) : pX 903 54 L (.int j :: .ref a :: S) h = pX 903 55 L (.int (hp_i h a (ix j)) :: S) h := pX_ildR d903_54 hk hj
theorem x903_55 {S : List Value} {h : HP} {l0 l1 l2 l3 : Value} {x0 : Int32} : pX 903 55 [l0, l1, l2, l3, .int x0] S h = pX 903 57 [l0, l1, l2, l3, .int x0] (.int x0 :: S) h := pX_stp d903_55 rfl rfl rfl
theorem x903_57 {L : List Value} {h : HP} {x0 : Int32} {x1 : Int32} {a0 : Nat} {a1 : Nat} (hk : hp_k h a1 = 10) : pX 903 57 L [.int x0, .int x1, .ref a0, .ref a1] h = (pX 905 0 [.ref a1, .ref a0, .int x1, .int x0, .retAddr 0] [] h).bind (fun q => pX 903 60 L (q.1.toList ++ []) q.2) := pX_inv (a := a1) (t := 10) 905 [.ref a1, .ref a0, .int x1, .int x0] [] d903_57 rfl rfl rfl hk
theorem x903_60 {L S : List Value} {h : HP} : pX 903 60 L S h = pX 903 85 L S h := pX_goto d903_60 (by decide)
theorem x903_63 {S : List Value} {h : HP} {l0 l1 l2 l4 : Value} {x0 : Int32} : pX 903 63 [l0, l1, l2, .int x0, l4] S h = pX 903 64 [l0, l1, l2, .int x0, l4] (.int x0 :: S) h := pX_stp d903_63 rfl rfl rfl
theorem x903_64 {L S : List Value} {h : HP} : pX 903 64 L S h = pX 903 66 L (.int 22 :: S) h := pX_bipush d903_64 (by decide)
theorem x903_66 {L S : List Value} {h : HP} {x y : Int32} : pX 903 66 L (.int y :: .int x :: S) h = if x = y then pX 903 85 L S h else pX 903 69 L S h := pX_icmp_eq d903_66 (by decide)
theorem x903_69 {S : List Value} {h : HP} {l0 l1 l2 l4 : Value} {x0 : Int32} : pX 903 69 [l0, l1, l2, .int x0, l4] S h = pX 903 70 [l0, l1, l2, .int x0, l4] (.int x0 :: S) h := pX_stp d903_69 rfl rfl rfl
theorem x903_70 {L S : List Value} {h : HP} : pX 903 70 L S h = pX 903 72 L (.int 24 :: S) h := pX_bipush d903_70 (by decide)
theorem x903_72 {L S : List Value} {h : HP} {x y : Int32} : pX 903 72 L (.int y :: .int x :: S) h = if x = y then pX 903 85 L S h else pX 903 75 L S h := pX_icmp_eq d903_72 (by decide)
theorem x903_75 {S : List Value} {h : HP} {l1 l2 l3 l4 : Value} {a0 : Nat} : pX 903 75 [.ref a0, l1, l2, l3, l4] S h = pX 903 76 [.ref a0, l1, l2, l3, l4] (.ref a0 :: S) h := pX_stp d903_75 rfl rfl rfl
theorem x903_76 {S : List Value} {h : HP} {l0 l2 l3 l4 : Value} {a0 : Nat} : pX 903 76 [l0, .ref a0, l2, l3, l4] S h = pX 903 77 [l0, .ref a0, l2, l3, l4] (.ref a0 :: S) h := pX_stp d903_76 rfl rfl rfl
theorem x903_77 {S : List Value} {h : HP} {l0 l1 l3 l4 : Value} {x0 : Int32} : pX 903 77 [l0, l1, .int x0, l3, l4] S h = pX 903 78 [l0, l1, .int x0, l3, l4] (.int x0 :: S) h := pX_stp d903_77 rfl rfl rfl
theorem x903_78 {L S : List Value} {h : HP} : pX 903 78 L S h = pX 903 79 L (.int 1 :: S) h := pX_iconst d903_78 (by decide)
theorem x903_79 {L S : List Value} {h : HP} {x y : Int32} : pX 903 79 L (.int y :: .int x :: S) h = pX 903 80 L (.int (x + y) :: S) h := pX_stp d903_79 rfl rfl rfl
theorem x903_80 {S : List Value} {h : HP} {l0 l1 l2 l3 : Value} {x0 : Int32} : pX 903 80 [l0, l1, l2, l3, .int x0] S h = pX 903 82 [l0, l1, l2, l3, .int x0] (.int x0 :: S) h := pX_stp d903_80 rfl rfl rfl
theorem x903_82 {L : List Value} {h : HP} {x0 : Int32} {x1 : Int32} {a0 : Nat} {a1 : Nat} (hk : hp_k h a1 = 10) : pX 903 82 L [.int x0, .int x1, .ref a0, .ref a1] h = (pX 905 0 [.ref a1, .ref a0, .int x1, .int x0, .retAddr 0] [] h).bind (fun q => pX 903 85 L (q.1.toList ++ []) q.2) := pX_inv (a := a1) (t := 10) 905 [.ref a1, .ref a0, .int x1, .int x0] [] d903_82 rfl rfl rfl hk
theorem x903_85 {S : List Value} {h : HP} {l0 l1 l2 l4 : Value} {x0 : Int32} : pX 903 85 [l0, l1, l2, .int x0, l4] S h = pX 903 86 [l0, l1, l2, .int x0, l4] (.int x0 :: S) h := pX_stp d903_85 rfl rfl rfl
theorem x903_86 {L S : List Value} {h : HP} : pX 903 86 L S h = pX 903 88 L (.int 10 :: S) h := pX_bipush d903_86 (by decide)
theorem x903_88 {L S : List Value} {h : HP} {x y : Int32} : pX 903 88 L (.int y :: .int x :: S) h = if x = y then pX 903 91 L S h else pX 903 104 L S h := pX_icmp_ne d903_88 (by decide)
theorem x903_91 {S : List Value} {h : HP} {l1 l2 l3 l4 : Value} {a0 : Nat} : pX 903 91 [.ref a0, l1, l2, l3, l4] S h = pX 903 92 [.ref a0, l1, l2, l3, l4] (.ref a0 :: S) h := pX_stp d903_91 rfl rfl rfl
theorem x903_92 {S : List Value} {h : HP} {l0 l2 l3 l4 : Value} {a0 : Nat} : pX 903 92 [l0, .ref a0, l2, l3, l4] S h = pX 903 93 [l0, .ref a0, l2, l3, l4] (.ref a0 :: S) h := pX_stp d903_92 rfl rfl rfl
theorem x903_93 {S : List Value} {h : HP} {l0 l2 l3 l4 : Value} {a0 : Nat} : pX 903 93 [l0, .ref a0, l2, l3, l4] S h = pX 903 94 [l0, .ref a0, l2, l3, l4] (.ref a0 :: S) h := pX_stp d903_93 rfl rfl rfl
theorem x903_94 {L S : List Value} {h : HP} {a : Nat} (hk : hp_k h a = 5) : pX 903 94 L (.ref a :: S) h = pX 903 97 L (.ref (hp_a h a 5) :: S) h := pX_get d903_94 rfl rfl hk
theorem x903_97 {S : List Value} {h : HP} {l0 l1 l3 l4 : Value} {x0 : Int32} : pX 903 97 [l0, l1, .int x0, l3, l4] S h = pX 903 98 [l0, l1, .int x0, l3, l4] (.int x0 :: S) h := pX_stp d903_97 rfl rfl rfl
theorem x903_98 {L S : List Value} {h : HP} {a : Nat} {j : Int32} (hk : hp_k h a = 100) (hj : inb j (hp_l h a) = true) : pX 903 98 L (.int j :: .ref a :: S) h = pX 903 99 L (.int (hp_i h a (ix j)) :: S) h := pX_ild d903_98 hk hj
theorem x903_98R {L S : List Value} {h : HP} {a : Nat} {j : Int32} (hk : hp_k h a = 99) (hj : inb j (hp_l h a) = true) : pX 903 98 L (.int j :: .ref a :: S) h = pX 903 99 L (.int (hp_i h a (ix j)) :: S) h := pX_ildR d903_98 hk hj
theorem x903_99 {S : List Value} {h : HP} {l0 l1 l2 l3 : Value} {x0 : Int32} : pX 903 99 [l0, l1, l2, l3, .int x0] S h = pX 903 101 [l0, l1, l2, l3, .int x0] (.int x0 :: S) h := pX_stp d903_99 rfl rfl rfl
theorem x903_101 {L : List Value} {h : HP} {x0 : Int32} {x1 : Int32} {a0 : Nat} {a1 : Nat} (hk : hp_k h a1 = 10) : pX 903 101 L [.int x0, .int x1, .ref a0, .ref a1] h = (pX 905 0 [.ref a1, .ref a0, .int x1, .int x0, .retAddr 0] [] h).bind (fun q => pX 903 104 L (q.1.toList ++ []) q.2) := pX_inv (a := a1) (t := 10) 905 [.ref a1, .ref a0, .int x1, .int x0] [] d903_101 rfl rfl rfl hk
theorem x903_104 {L : List Value} {h : HP} : pX 903 104 L [] h = some (none, h) := pX_ret d903_104 rfl
theorem d904_0 : decode (mb 904) 0 = .ok (.iconst 0, 1) := by decide +kernel
theorem d904_1 : decode (mb 904) 1 = .ok (.istore_n 3, 1) := by decide +kernel
theorem d904_2 : decode (mb 904) 2 = .ok (.iload_n 3, 1) := by decide +kernel
theorem d904_3 : decode (mb 904) 3 = .ok (.aload_n 1, 1) := by decide +kernel
theorem d904_4 : decode (mb 904) 4 = .ok (.getfield 59, 3) := by decide +kernel
theorem d904_7 : decode (mb 904) 7 = .ok (.if_icmp .ge 39, 3) := by decide +kernel
theorem d904_10 : decode (mb 904) 10 = .ok (.aload_n 1, 1) := by decide +kernel
theorem d904_11 : decode (mb 904) 11 = .ok (.iload_n 3, 1) := by decide +kernel
theorem d904_12 : decode (mb 904) 12 = .ok (.iload_n 2, 1) := by decide +kernel
theorem d904_13 : decode (mb 904) 13 = .ok (.invokevirtual 62, 3) := by decide +kernel
theorem d904_16 : decode (mb 904) 16 = .ok (.ifCond .eq 24, 3) := by decide +kernel
theorem d904_19 : decode (mb 904) 19 = .ok (.aload_n 0, 1) := by decide +kernel
theorem d904_20 : decode (mb 904) 20 = .ok (.aload_n 1, 1) := by decide +kernel
theorem d904_21 : decode (mb 904) 21 = .ok (.aload_n 1, 1) := by decide +kernel
theorem d904_22 : decode (mb 904) 22 = .ok (.getfield 66, 3) := by decide +kernel
theorem d904_25 : decode (mb 904) 25 = .ok (.iload_n 3, 1) := by decide +kernel
theorem d904_26 : decode (mb 904) 26 = .ok (.iaload, 1) := by decide +kernel
theorem d904_27 : decode (mb 904) 27 = .ok (.aload_n 0, 1) := by decide +kernel
theorem d904_28 : decode (mb 904) 28 = .ok (.getfield 9, 3) := by decide +kernel
theorem d904_31 : decode (mb 904) 31 = .ok (.iload_n 2, 1) := by decide +kernel
theorem d904_32 : decode (mb 904) 32 = .ok (.iaload, 1) := by decide +kernel
theorem d904_33 : decode (mb 904) 33 = .ok (.sipush 128, 3) := by decide +kernel
theorem d904_36 : decode (mb 904) 36 = .ok (.ior, 1) := by decide +kernel
theorem d904_37 : decode (mb 904) 37 = .ok (.invokevirtual 21, 3) := by decide +kernel
theorem d904_40 : decode (mb 904) 40 = .ok (.iinc 3 1, 3) := by decide +kernel
theorem d904_43 : decode (mb 904) 43 = .ok (.goto (-41), 3) := by decide +kernel
theorem d904_46 : decode (mb 904) 46 = .ok (.return_, 1) := by decide +kernel
theorem x904_0 {L S : List Value} {h : HP} : pX 904 0 L S h = pX 904 1 L (.int 0 :: S) h := pX_iconst d904_0 (by decide)
theorem x904_1 {S : List Value} {h : HP} {l0 l1 l2 l3 : Value} {x0 : Int32} : pX 904 1 [l0, l1, l2, l3] (.int x0 :: S) h = pX 904 2 [l0, l1, l2, .int x0] S h := pX_stp d904_1 rfl rfl rfl
theorem x904_2 {S : List Value} {h : HP} {l0 l1 l2 : Value} {x0 : Int32} : pX 904 2 [l0, l1, l2, .int x0] S h = pX 904 3 [l0, l1, l2, .int x0] (.int x0 :: S) h := pX_stp d904_2 rfl rfl rfl
theorem x904_3 {S : List Value} {h : HP} {l0 l2 l3 : Value} {a0 : Nat} : pX 904 3 [l0, .ref a0, l2, l3] S h = pX 904 4 [l0, .ref a0, l2, l3] (.ref a0 :: S) h := pX_stp d904_3 rfl rfl rfl
theorem x904_4 {L S : List Value} {h : HP} {a : Nat} (hk : hp_k h a = 5) : pX 904 4 L (.ref a :: S) h = pX 904 7 L (.int (hp_i h a 7) :: S) h := pX_get d904_4 rfl rfl hk
theorem x904_7 {L S : List Value} {h : HP} {x y : Int32} : pX 904 7 L (.int y :: .int x :: S) h = if y ≤ x then pX 904 46 L S h else pX 904 10 L S h := pX_icmp_ge d904_7 (by decide)
theorem x904_10 {S : List Value} {h : HP} {l0 l2 l3 : Value} {a0 : Nat} : pX 904 10 [l0, .ref a0, l2, l3] S h = pX 904 11 [l0, .ref a0, l2, l3] (.ref a0 :: S) h := pX_stp d904_10 rfl rfl rfl
theorem x904_11 {S : List Value} {h : HP} {l0 l1 l2 : Value} {x0 : Int32} : pX 904 11 [l0, l1, l2, .int x0] S h = pX 904 12 [l0, l1, l2, .int x0] (.int x0 :: S) h := pX_stp d904_11 rfl rfl rfl
theorem x904_12 {S : List Value} {h : HP} {l0 l1 l3 : Value} {x0 : Int32} : pX 904 12 [l0, l1, .int x0, l3] S h = pX 904 13 [l0, l1, .int x0, l3] (.int x0 :: S) h := pX_stp d904_12 rfl rfl rfl
theorem x904_13 {L : List Value} {h : HP} {x0 : Int32} {x1 : Int32} {a0 : Nat} (hk : hp_k h a0 = 5) : pX 904 13 L [.int x0, .int x1, .ref a0] h = (pX 403 0 [.ref a0, .int x1, .int x0] [] h).bind (fun q => pX 904 16 L (q.1.toList ++ []) q.2) := pX_inv (a := a0) (t := 5) 403 [.ref a0, .int x1, .int x0] [] d904_13 rfl rfl rfl hk
theorem x904_16 {L S : List Value} {h : HP} {x : Int32} : pX 904 16 L (.int x :: S) h = if x = 0 then pX 904 40 L S h else pX 904 19 L S h := pX_if_eq d904_16 (by decide)
theorem x904_19 {S : List Value} {h : HP} {l1 l2 l3 : Value} {a0 : Nat} : pX 904 19 [.ref a0, l1, l2, l3] S h = pX 904 20 [.ref a0, l1, l2, l3] (.ref a0 :: S) h := pX_stp d904_19 rfl rfl rfl
theorem x904_20 {S : List Value} {h : HP} {l0 l2 l3 : Value} {a0 : Nat} : pX 904 20 [l0, .ref a0, l2, l3] S h = pX 904 21 [l0, .ref a0, l2, l3] (.ref a0 :: S) h := pX_stp d904_20 rfl rfl rfl
theorem x904_21 {S : List Value} {h : HP} {l0 l2 l3 : Value} {a0 : Nat} : pX 904 21 [l0, .ref a0, l2, l3] S h = pX 904 22 [l0, .ref a0, l2, l3] (.ref a0 :: S) h := pX_stp d904_21 rfl rfl rfl
theorem x904_22 {L S : List Value} {h : HP} {a : Nat} (hk : hp_k h a = 5) : pX 904 22 L (.ref a :: S) h = pX 904 25 L (.ref (hp_a h a 11) :: S) h := pX_get d904_22 rfl rfl hk
theorem x904_25 {S : List Value} {h : HP} {l0 l1 l2 : Value} {x0 : Int32} : pX 904 25 [l0, l1, l2, .int x0] S h = pX 904 26 [l0, l1, l2, .int x0] (.int x0 :: S) h := pX_stp d904_25 rfl rfl rfl
theorem x904_26 {L S : List Value} {h : HP} {a : Nat} {j : Int32} (hk : hp_k h a = 100) (hj : inb j (hp_l h a) = true) : pX 904 26 L (.int j :: .ref a :: S) h = pX 904 27 L (.int (hp_i h a (ix j)) :: S) h := pX_ild d904_26 hk hj
theorem x904_26R {L S : List Value} {h : HP} {a : Nat} {j : Int32} (hk : hp_k h a = 99) (hj : inb j (hp_l h a) = true) : pX 904 26 L (.int j :: .ref a :: S) h = pX 904 27 L (.int (hp_i h a (ix j)) :: S) h := pX_ildR d904_26 hk hj
theorem x904_27 {S : List Value} {h : HP} {l1 l2 l3 : Value} {a0 : Nat} : pX 904 27 [.ref a0, l1, l2, l3] S h = pX 904 28 [.ref a0, l1, l2, l3] (.ref a0 :: S) h := pX_stp d904_27 rfl rfl rfl
theorem x904_28 {L S : List Value} {h : HP} {a : Nat} (hk : hp_k h a = 10) : pX 904 28 L (.ref a :: S) h = pX 904 31 L (.ref (hp_a h a 0) :: S) h := pX_get d904_28 rfl rfl hk
theorem x904_31 {S : List Value} {h : HP} {l0 l1 l3 : Value} {x0 : Int32} : pX 904 31 [l0, l1, .int x0, l3] S h = pX 904 32 [l0, l1, .int x0, l3] (.int x0 :: S) h := pX_stp d904_31 rfl rfl rfl
theorem x904_32 {L S : List Value} {h : HP} {a : Nat} {j : Int32} (hk : hp_k h a = 100) (hj : inb j (hp_l h a) = true) : pX 904 32 L (.int j :: .ref a :: S) h = pX 904 33 L (.int (hp_i h a (ix j)) :: S) h := pX_ild d904_32 hk hj
theorem x904_32R {L S : List Value} {h : HP} {a : Nat} {j : Int32} (hk : hp_k h a = 99) (hj : inb j (hp_l h a) = true) : pX 904 32 L (.int j :: .ref a :: S) h = pX 904 33 L (.int (hp_i h a (ix j)) :: S) h := pX_ildR d904_32 hk hj
theorem x904_33 {L S : List Value} {h : HP} : pX 904 33 L S h = pX 904 36 L (.int 128 :: S) h := pX_sipush d904_33 (by decide)
theorem x904_36 {L S : List Value} {h : HP} {x y : Int32} : pX 904 36 L (.int y :: .int x :: S) h = pX 904 37 L (.int (x ||| y) :: S) h := pX_stp d904_36 rfl rfl rfl
theorem x904_37 {L : List Value} {h : HP} {x0 : Int32} {x1 : Int32} {a0 : Nat} {a1 : Nat} (hk : hp_k h a1 = 10) : pX 904 37 L [.int x0, .int x1, .ref a0, .ref a1] h = (pX 905 0 [.ref a1, .ref a0, .int x1, .int x0, .retAddr 0] [] h).bind (fun q => pX 904 40 L (q.1.toList ++ []) q.2) := pX_inv (a := a1) (t := 10) 905 [.ref a1, .ref a0, .int x1, .int x0] [] d904_37 rfl rfl rfl hk
theorem x904_40 {S : List Value} {h : HP} {x0 : Int32} {l0 l1 l2 : Value} : pX 904 40 [l0, l1, l2, .int x0] S h = pX 904 43 [l0, l1, l2, .int (x0 + 1)] S h := pX_iinc (x := x0) d904_40 (by decide) rfl (Nat.le_of_ble_eq_true rfl) rfl rfl
theorem x904_43 {L S : List Value} {h : HP} : pX 904 43 L S h = pX 904 2 L S h := pX_goto d904_43 (by decide)
theorem x904_46 {L : List Value} {h : HP} : pX 904 46 L [] h = some (none, h) := pX_ret d904_46 rfl
theorem d905_0 : decode (mb 905) 0 = .ok (.iload_n 2, 1) := by decide +kernel
theorem d905_1 : decode (mb 905) 1 = .ok (.aload_n 1, 1) := by decide +kernel
theorem d905_2 : decode (mb 905) 2 = .ok (.getfield 33, 3) := by decide +kernel
theorem d905_5 : decode (mb 905) 5 = .ok (.if_icmp .lt 4, 3) := by decide +kernel
theorem d905_8 : decode (mb 905) 8 = .ok (.return_, 1) := by decide +kernel
theorem d905_9 : decode (mb 905) 9 = .ok (.aload_n 0, 1) := by decide +kernel
theorem d905_10 : decode (mb 905) 10 = .ok (.getfield 9, 3) := by decide +kernel
theorem d905_13 : decode (mb 905) 13 = .ok (.iload_n 2, 1) := by decide +kernel
theorem d905_14 : decode (mb 905) 14 = .ok (.iaload, 1) := by decide +kernel
theorem d905_15 : decode (mb 905) 15 = .ok (.istore 4, 2) := by decide +kernel
theorem d905_17 : decode (mb 905) 17 = .ok (.aload_n 0, 1) := by decide +kernel
theorem d905_18 : decode (mb 905) 18 = .ok (.getfield 9, 3) := by decide +kernel
theorem d905_21 : decode (mb 905) 21 = .ok (.iload_n 2, 1) := by decide +kernel
theorem d905_22 : decode (mb 905) 22 = .ok (.iload 4, 2) := by decide +kernel
theorem d905_24 : decode (mb 905) 24 = .ok (.iload_n 3, 1) := by decide +kernel
theorem d905_25 : decode (mb 905) 25 = .ok (.iand, 1) := by decide +kernel
theorem d905_26 : decode (mb 905) 26 = .ok (.iastore, 1) := by decide +kernel
theorem d905_27 : decode (mb 905) 27 = .ok (.aload_n 0, 1) := by decide +kernel
theorem d905_28 : decode (mb 905) 28 = .ok (.getfield 9, 3) := by decide +kernel
theorem d905_31 : decode (mb 905) 31 = .ok (.iload_n 2, 1) := by decide +kernel
theorem d905_32 : decode (mb 905) 32 = .ok (.iaload, 1) := by decide +kernel
theorem d905_33 : decode (mb 905) 33 = .ok (.iload 4, 2) := by decide +kernel
theorem d905_35 : decode (mb 905) 35 = .ok (.if_icmp .eq 8, 3) := by decide +kernel
theorem d905_38 : decode (mb 905) 38 = .ok (.aload_n 0, 1) := by decide +kernel
theorem d905_39 : decode (mb 905) 39 = .ok (.iconst 1, 1) := by decide +kernel
theorem d905_40 : decode (mb 905) 40 = .ok (.putfield 25, 3) := by decide +kernel
theorem d905_43 : decode (mb 905) 43 = .ok (.return_, 1) := by decide +kernel
theorem x905_0 {S : List Value} {h : HP} {l0 l1 l3 l4 : Value} {x0 : Int32} : pX 905 0 [l0, l1, .int x0, l3, l4] S h = pX 905 1 [l0, l1, .int x0, l3, l4] (.int x0 :: S) h := pX_stp d905_0 rfl rfl rfl
theorem x905_1 {S : List Value} {h : HP} {l0 l2 l3 l4 : Value} {a0 : Nat} : pX 905 1 [l0, .ref a0, l2, l3, l4] S h = pX 905 2 [l0, .ref a0, l2, l3, l4] (.ref a0 :: S) h := pX_stp d905_1 rfl rfl rfl
theorem x905_2 {L S : List Value} {h : HP} {a : Nat} (hk : hp_k h a = 5) : pX 905 2 L (.ref a :: S) h = pX 905 5 L (.int (hp_i h a 2) :: S) h := pX_get d905_2 rfl rfl hk
theorem x905_5 {L S : List Value} {h : HP} {x y : Int32} : pX 905 5 L (.int y :: .int x :: S) h = if x < y then pX 905 9 L S h else pX 905 8 L S h := pX_icmp_lt d905_5 (by decide)
theorem x905_8 {L : List Value} {h : HP} : pX 905 8 L [] h = some (none, h) := pX_ret d905_8 rfl
theorem x905_9 {S : List Value} {h : HP} {l1 l2 l3 l4 : Value} {a0 : Nat} : pX 905 9 [.ref a0, l1, l2, l3, l4] S h = pX 905 10 [.ref a0, l1, l2, l3, l4] (.ref a0 :: S) h := pX_stp d905_9 rfl rfl rfl
theorem x905_10 {L S : List Value} {h : HP} {a : Nat} (hk : hp_k h a = 10) : pX 905 10 L (.ref a :: S) h = pX 905 13 L (.ref (hp_a h a 0) :: S) h := pX_get d905_10 rfl rfl hk
theorem x905_13 {S : List Value} {h : HP} {l0 l1 l3 l4 : Value} {x0 : Int32} : pX 905 13 [l0, l1, .int x0, l3, l4] S h = pX 905 14 [l0, l1, .int x0, l3, l4] (.int x0 :: S) h := pX_stp d905_13 rfl rfl rfl
theorem x905_14 {L S : List Value} {h : HP} {a : Nat} {j : Int32} (hk : hp_k h a = 100) (hj : inb j (hp_l h a) = true) : pX 905 14 L (.int j :: .ref a :: S) h = pX 905 15 L (.int (hp_i h a (ix j)) :: S) h := pX_ild d905_14 hk hj
theorem x905_14R {L S : List Value} {h : HP} {a : Nat} {j : Int32} (hk : hp_k h a = 99) (hj : inb j (hp_l h a) = true) : pX 905 14 L (.int j :: .ref a :: S) h = pX 905 15 L (.int (hp_i h a (ix j)) :: S) h := pX_ildR d905_14 hk hj
theorem x905_15 {S : List Value} {h : HP} {l0 l1 l2 l3 l4 : Value} {x0 : Int32} : pX 905 15 [l0, l1, l2, l3, l4] (.int x0 :: S) h = pX 905 17 [l0, l1, l2, l3, .int x0] S h := pX_stp d905_15 rfl rfl rfl
theorem x905_17 {S : List Value} {h : HP} {l1 l2 l3 l4 : Value} {a0 : Nat} : pX 905 17 [.ref a0, l1, l2, l3, l4] S h = pX 905 18 [.ref a0, l1, l2, l3, l4] (.ref a0 :: S) h := pX_stp d905_17 rfl rfl rfl
theorem x905_18 {L S : List Value} {h : HP} {a : Nat} (hk : hp_k h a = 10) : pX 905 18 L (.ref a :: S) h = pX 905 21 L (.ref (hp_a h a 0) :: S) h := pX_get d905_18 rfl rfl hk
theorem x905_21 {S : List Value} {h : HP} {l0 l1 l3 l4 : Value} {x0 : Int32} : pX 905 21 [l0, l1, .int x0, l3, l4] S h = pX 905 22 [l0, l1, .int x0, l3, l4] (.int x0 :: S) h := pX_stp d905_21 rfl rfl rfl
theorem x905_22 {S : List Value} {h : HP} {l0 l1 l2 l3 : Value} {x0 : Int32} : pX 905 22 [l0, l1, l2, l3, .int x0] S h = pX 905 24 [l0, l1, l2, l3, .int x0] (.int x0 :: S) h := pX_stp d905_22 rfl rfl rfl
theorem x905_24 {S : List Value} {h : HP} {l0 l1 l2 l4 : Value} {x0 : Int32} : pX 905 24 [l0, l1, l2, .int x0, l4] S h = pX 905 25 [l0, l1, l2, .int x0, l4] (.int x0 :: S) h := pX_stp d905_24 rfl rfl rfl
theorem x905_25 {L S : List Value} {h : HP} {x y : Int32} : pX 905 25 L (.int y :: .int x :: S) h = pX 905 26 L (.int (x &&& y) :: S) h := pX_stp d905_25 rfl rfl rfl
theorem x905_26 {L S : List Value} {h : HP} {a : Nat} {j x : Int32} (hk : hp_k h a = 100) (hj : inb j (hp_l h a) = true) : pX 905 26 L (.int x :: .int j :: .ref a :: S) h = pX 905 27 L S (hp_wi h a (ix j) x) := pX_ist d905_26 hk hj
theorem x905_27 {S : List Value} {h : HP} {l1 l2 l3 l4 : Value} {a0 : Nat} : pX 905 27 [.ref a0, l1, l2, l3, l4] S h = pX 905 28 [.ref a0, l1, l2, l3, l4] (.ref a0 :: S) h := pX_stp d905_27 rfl rfl rfl
theorem x905_28 {L S : List Value} {h : HP} {a : Nat} (hk : hp_k h a = 10) : pX 905 28 L (.ref a :: S) h = pX 905 31 L (.ref (hp_a h a 0) :: S) h := pX_get d905_28 rfl rfl hk
theorem x905_31 {S : List Value} {h : HP} {l0 l1 l3 l4 : Value} {x0 : Int32} : pX 905 31 [l0, l1, .int x0, l3, l4] S h = pX 905 32 [l0, l1, .int x0, l3, l4] (.int x0 :: S) h := pX_stp d905_31 rfl rfl rfl
theorem x905_32 {L S : List Value} {h : HP} {a : Nat} {j : Int32} (hk : hp_k h a = 100) (hj : inb j (hp_l h a) = true) : pX 905 32 L (.int j :: .ref a :: S) h = pX 905 33 L (.int (hp_i h a (ix j)) :: S) h := pX_ild d905_32 hk hj
theorem x905_32R {L S : List Value} {h : HP} {a : Nat} {j : Int32} (hk : hp_k h a = 99) (hj : inb j (hp_l h a) = true) : pX 905 32 L (.int j :: .ref a :: S) h = pX 905 33 L (.int (hp_i h a (ix j)) :: S) h := pX_ildR d905_32 hk hj
theorem x905_33 {S : List Value} {h : HP} {l0 l1 l2 l3 : Value} {x0 : Int32} : pX 905 33 [l0, l1, l2, l3, .int x0] S h = pX 905 35 [l0, l1, l2, l3, .int x0] (.int x0 :: S) h := pX_stp d905_33 rfl rfl rfl
theorem x905_35 {L S : List Value} {h : HP} {x y : Int32} : pX 905 35 L (.int y :: .int x :: S) h = if x = y then pX 905 43 L S h else pX 905 38 L S h := pX_icmp_eq d905_35 (by decide)
theorem x905_38 {S : List Value} {h : HP} {l1 l2 l3 l4 : Value} {a0 : Nat} : pX 905 38 [.ref a0, l1, l2, l3, l4] S h = pX 905 39 [.ref a0, l1, l2, l3, l4] (.ref a0 :: S) h := pX_stp d905_38 rfl rfl rfl
theorem x905_39 {L S : List Value} {h : HP} : pX 905 39 L S h = pX 905 40 L (.int 1 :: S) h := pX_iconst d905_39 (by decide)
theorem x905_40 {L S : List Value} {h : HP} {a : Nat} {x : Int32} (hk : hp_k h a = 10) (hx : x = 0 ∨ x = 1) : pX 905 40 L (.int x :: .ref a :: S) h = pX 905 43 L S (hp_wi h a 1 x) := pX_put d905_40 rfl rfl (by rcases hx with rfl | rfl <;> rfl) hk
theorem x905_43 {L : List Value} {h : HP} : pX 905 43 L [] h = some (none, h) := pX_ret d905_43 rfl
theorem d906_0 : decode (mb 906) 0 = .ok (.aload_n 1, 1) := by decide +kernel
theorem d906_1 : decode (mb 906) 1 = .ok (.getfield 47, 3) := by decide +kernel
theorem d906_4 : decode (mb 906) 4 = .ok (.iload_n 2, 1) := by decide +kernel
theorem d906_5 : decode (mb 906) 5 = .ok (.iaload, 1) := by decide +kernel
theorem d906_6 : decode (mb 906) 6 = .ok (.istore_n 3, 1) := by decide +kernel
theorem d906_7 : decode (mb 906) 7 = .ok (.iload_n 3, 1) := by decide +kernel
theorem d906_8 : decode (mb 906) 8 = .ok (.bipush 23, 2) := by decide +kernel
theorem d906_10 : decode (mb 906) 10 = .ok (.if_icmp .ne 44, 3) := by decide +kernel
theorem d906_13 : decode (mb 906) 13 = .ok (.aload_n 1, 1) := by decide +kernel
theorem d906_14 : decode (mb 906) 14 = .ok (.getfield 56, 3) := by decide +kernel
theorem d906_17 : decode (mb 906) 17 = .ok (.iload_n 2, 1) := by decide +kernel
theorem d906_18 : decode (mb 906) 18 = .ok (.iaload, 1) := by decide +kernel
theorem d906_19 : decode (mb 906) 19 = .ok (.istore 4, 2) := by decide +kernel
theorem d906_21 : decode (mb 906) 21 = .ok (.aload_n 0, 1) := by decide +kernel
theorem d906_22 : decode (mb 906) 22 = .ok (.iload 4, 2) := by decide +kernel
theorem d906_24 : decode (mb 906) 24 = .ok (.invokevirtual 69, 3) := by decide +kernel
theorem d906_27 : decode (mb 906) 27 = .ok (.ifCond .eq 7, 3) := by decide +kernel
theorem d906_30 : decode (mb 906) 30 = .ok (.iconst 0, 1) := by decide +kernel
theorem d906_31 : decode (mb 906) 31 = .ok (.goto 22, 3) := by decide +kernel
theorem d906_34 : decode (mb 906) 34 = .ok (.aload_n 1, 1) := by decide +kernel
theorem d906_35 : decode (mb 906) 35 = .ok (.getfield 75, 3) := by decide +kernel
theorem d906_38 : decode (mb 906) 38 = .ok (.iload_n 2, 1) := by decide +kernel
theorem d906_39 : decode (mb 906) 39 = .ok (.iaload, 1) := by decide +kernel
theorem d906_40 : decode (mb 906) 40 = .ok (.aload_n 0, 1) := by decide +kernel
theorem d906_41 : decode (mb 906) 41 = .ok (.getfield 78, 3) := by decide +kernel
theorem d906_44 : decode (mb 906) 44 = .ok (.iload 4, 2) := by decide +kernel
theorem d906_46 : decode (mb 906) 46 = .ok (.aaload, 1) := by decide +kernel
theorem d906_47 : decode (mb 906) 47 = .ok (.getfield 15, 3) := by decide +kernel
theorem d906_50 : decode (mb 906) 50 = .ok (.invokestatic 82, 3) := by decide +kernel
theorem d906_53 : decode (mb 906) 53 = .ok (.ireturn, 1) := by decide +kernel
theorem d906_54 : decode (mb 906) 54 = .ok (.iconst 0, 1) := by decide +kernel
theorem d906_55 : decode (mb 906) 55 = .ok (.istore 4, 2) := by decide +kernel
theorem d906_57 : decode (mb 906) 57 = .ok (.iload 4, 2) := by decide +kernel
theorem d906_59 : decode (mb 906) 59 = .ok (.getstatic 86, 3) := by decide +kernel
theorem d906_62 : decode (mb 906) 62 = .ok (.iload_n 3, 1) := by decide +kernel
theorem d906_63 : decode (mb 906) 63 = .ok (.iaload, 1) := by decide +kernel
theorem d906_64 : decode (mb 906) 64 = .ok (.iconst 1, 1) := by decide +kernel
theorem d906_65 : decode (mb 906) 65 = .ok (.iand, 1) := by decide +kernel
theorem d906_66 : decode (mb 906) 66 = .ok (.ifCond .eq 14, 3) := by decide +kernel
theorem d906_69 : decode (mb 906) 69 = .ok (.iconst 1, 1) := by decide +kernel
theorem d906_70 : decode (mb 906) 70 = .ok (.aload_n 1, 1) := by decide +kernel
theorem d906_71 : decode (mb 906) 71 = .ok (.getfield 53, 3) := by decide +kernel
theorem d906_74 : decode (mb 906) 74 = .ok (.iload_n 2, 1) := by decide +kernel
theorem d906_75 : decode (mb 906) 75 = .ok (.iaload, 1) := by decide +kernel
theorem d906_76 : decode (mb 906) 76 = .ok (.ishl, 1) := by decide +kernel
theorem d906_77 : decode (mb 906) 77 = .ok (.goto 4, 3) := by decide +kernel
theorem d906_80 : decode (mb 906) 80 = .ok (.iconst 0, 1) := by decide +kernel
theorem d906_81 : decode (mb 906) 81 = .ok (.ior, 1) := by decide +kernel
theorem d906_82 : decode (mb 906) 82 = .ok (.istore 4, 2) := by decide +kernel
theorem d906_84 : decode (mb 906) 84 = .ok (.iload 4, 2) := by decide +kernel
theorem d906_86 : decode (mb 906) 86 = .ok (.getstatic 86, 3) := by decide +kernel
theorem d906_89 : decode (mb 906) 89 = .ok (.iload_n 3, 1) := by decide +kernel
theorem d906_90 : decode (mb 906) 90 = .ok (.iaload, 1) := by decide +kernel
theorem d906_91 : decode (mb 906) 91 = .ok (.iconst 2, 1) := by decide +kernel
theorem d906_92 : decode (mb 906) 92 = .ok (.iand, 1) := by decide +kernel
theorem d906_93 : decode (mb 906) 93 = .ok (.ifCond .eq 14, 3) := by decide +kernel
theorem d906_96 : decode (mb 906) 96 = .ok (.iconst 1, 1) := by decide +kernel
theorem d906_97 : decode (mb 906) 97 = .ok (.aload_n 1, 1) := by decide +kernel
theorem d906_98 : decode (mb 906) 98 = .ok (.getfield 56, 3) := by decide +kernel
theorem d906_101 : decode (mb 906) 101 = .ok (.iload_n 2, 1) := by decide +kernel
theorem d906_102 : decode (mb 906) 102 = .ok (.iaload, 1) := by decide +kernel
theorem d906_103 : decode (mb 906) 103 = .ok (.ishl, 1) := by decide +kernel
theorem d906_104 : decode (mb 906) 104 = .ok (.goto 4, 3) := by decide +kernel
theorem d906_107 : decode (mb 906) 107 = .ok (.iconst 0, 1) := by decide +kernel
theorem d906_108 : decode (mb 906) 108 = .ok (.ior, 1) := by decide +kernel
theorem d906_109 : decode (mb 906) 109 = .ok (.istore 4, 2) := by decide +kernel
theorem d906_111 : decode (mb 906) 111 = .ok (.iload 4, 2) := by decide +kernel
theorem d906_113 : decode (mb 906) 113 = .ok (.getstatic 86, 3) := by decide +kernel
theorem d906_116 : decode (mb 906) 116 = .ok (.iload_n 3, 1) := by decide +kernel
theorem d906_117 : decode (mb 906) 117 = .ok (.iaload, 1) := by decide +kernel
theorem d906_118 : decode (mb 906) 118 = .ok (.iconst 4, 1) := by decide +kernel
theorem d906_119 : decode (mb 906) 119 = .ok (.iand, 1) := by decide +kernel
theorem d906_120 : decode (mb 906) 120 = .ok (.ifCond .eq 14, 3) := by decide +kernel
theorem d906_123 : decode (mb 906) 123 = .ok (.iconst 1, 1) := by decide +kernel
theorem d906_124 : decode (mb 906) 124 = .ok (.aload_n 1, 1) := by decide +kernel
theorem d906_125 : decode (mb 906) 125 = .ok (.getfield 75, 3) := by decide +kernel
theorem d906_128 : decode (mb 906) 128 = .ok (.iload_n 2, 1) := by decide +kernel
theorem d906_129 : decode (mb 906) 129 = .ok (.iaload, 1) := by decide +kernel
theorem d906_130 : decode (mb 906) 130 = .ok (.ishl, 1) := by decide +kernel
theorem d906_131 : decode (mb 906) 131 = .ok (.goto 4, 3) := by decide +kernel
theorem d906_134 : decode (mb 906) 134 = .ok (.iconst 0, 1) := by decide +kernel
theorem d906_135 : decode (mb 906) 135 = .ok (.ior, 1) := by decide +kernel
theorem d906_136 : decode (mb 906) 136 = .ok (.istore 4, 2) := by decide +kernel
theorem d906_138 : decode (mb 906) 138 = .ok (.iload 4, 2) := by decide +kernel
theorem d906_140 : decode (mb 906) 140 = .ok (.ireturn, 1) := by decide +kernel
theorem x906_0 {S : List Value} {h : HP} {l0 l2 l3 l4 : Value} {a0 : Nat} : pX 906 0 [l0, .ref a0, l2, l3, l4] S h = pX 906 1 [l0, .ref a0, l2, l3, l4] (.ref a0 :: S) h := pX_stp d906_0 rfl rfl rfl
theorem x906_1 {L S : List Value} {h : HP} {a : Nat} (hk : hp_k h a = 5) : pX 906 1 L (.ref a :: S) h = pX 906 4 L (.ref (hp_a h a 3) :: S) h := pX_get d906_1 rfl rfl hk
theorem x906_4 {S : List Value} {h : HP} {l0 l1 l3 l4 : Value} {x0 : Int32} : pX 906 4 [l0, l1, .int x0, l3, l4] S h = pX 906 5 [l0, l1, .int x0, l3, l4] (.int x0 :: S) h := pX_stp d906_4 rfl rfl rfl
theorem x906_5 {L S : List Value} {h : HP} {a : Nat} {j : Int32} (hk : hp_k h a = 100) (hj : inb j (hp_l h a) = true) : pX 906 5 L (.int j :: .ref a :: S) h = pX 906 6 L (.int (hp_i h a (ix j)) :: S) h := pX_ild d906_5 hk hj
theorem x906_5R {L S : List Value} {h : HP} {a : Nat} {j : Int32} (hk : hp_k h a = 99) (hj : inb j (hp_l h a) = true) : pX 906 5 L (.int j :: .ref a :: S) h = pX 906 6 L (.int (hp_i h a (ix j)) :: S) h := pX_ildR d906_5 hk hj
theorem x906_6 {S : List Value} {h : HP} {l0 l1 l2 l3 l4 : Value} {x0 : Int32} : pX 906 6 [l0, l1, l2, l3, l4] (.int x0 :: S) h = pX 906 7 [l0, l1, l2, .int x0, l4] S h := pX_stp d906_6 rfl rfl rfl
theorem x906_7 {S : List Value} {h : HP} {l0 l1 l2 l4 : Value} {x0 : Int32} : pX 906 7 [l0, l1, l2, .int x0, l4] S h = pX 906 8 [l0, l1, l2, .int x0, l4] (.int x0 :: S) h := pX_stp d906_7 rfl rfl rfl
theorem x906_8 {L S : List Value} {h : HP} : pX 906 8 L S h = pX 906 10 L (.int 23 :: S) h := pX_bipush d906_8 (by decide)
theorem x906_10 {L S : List Value} {h : HP} {x y : Int32} : pX 906 10 L (.int y :: .int x :: S) h = if x = y then pX 906 13 L S h else pX 906 54 L S h := pX_icmp_ne d906_10 (by decide)
theorem x906_13 {S : List Value} {h : HP} {l0 l2 l3 l4 : Value} {a0 : Nat} : pX 906 13 [l0, .ref a0, l2, l3, l4] S h = pX 906 14 [l0, .ref a0, l2, l3, l4] (.ref a0 :: S) h := pX_stp d906_13 rfl rfl rfl
theorem x906_14 {L S : List Value} {h : HP} {a : Nat} (hk : hp_k h a = 5) : pX 906 14 L (.ref a :: S) h = pX 906 17 L (.ref (hp_a h a 5) :: S) h := pX_get d906_14 rfl rfl hk
theorem x906_17 {S : List Value} {h : HP} {l0 l1 l3 l4 : Value} {x0 : Int32} : pX 906 17 [l0, l1, .int x0, l3, l4] S h = pX 906 18 [l0, l1, .int x0, l3, l4] (.int x0 :: S) h := pX_stp d906_17 rfl rfl rfl
theorem x906_18 {L S : List Value} {h : HP} {a : Nat} {j : Int32} (hk : hp_k h a = 100) (hj : inb j (hp_l h a) = true) : pX 906 18 L (.int j :: .ref a :: S) h = pX 906 19 L (.int (hp_i h a (ix j)) :: S) h := pX_ild d906_18 hk hj
theorem x906_18R {L S : List Value} {h : HP} {a : Nat} {j : Int32} (hk : hp_k h a = 99) (hj : inb j (hp_l h a) = true) : pX 906 18 L (.int j :: .ref a :: S) h = pX 906 19 L (.int (hp_i h a (ix j)) :: S) h := pX_ildR d906_18 hk hj
theorem x906_19 {S : List Value} {h : HP} {l0 l1 l2 l3 l4 : Value} {x0 : Int32} : pX 906 19 [l0, l1, l2, l3, l4] (.int x0 :: S) h = pX 906 21 [l0, l1, l2, l3, .int x0] S h := pX_stp d906_19 rfl rfl rfl
theorem x906_21 {S : List Value} {h : HP} {l1 l2 l3 l4 : Value} {a0 : Nat} : pX 906 21 [.ref a0, l1, l2, l3, l4] S h = pX 906 22 [.ref a0, l1, l2, l3, l4] (.ref a0 :: S) h := pX_stp d906_21 rfl rfl rfl
theorem x906_22 {S : List Value} {h : HP} {l0 l1 l2 l3 : Value} {x0 : Int32} : pX 906 22 [l0, l1, l2, l3, .int x0] S h = pX 906 24 [l0, l1, l2, l3, .int x0] (.int x0 :: S) h := pX_stp d906_22 rfl rfl rfl
theorem x906_24 {L : List Value} {h : HP} {x0 : Int32} {a0 : Nat} (hk : hp_k h a0 = 4) : pX 906 24 L [.int x0, .ref a0] h = (pX 301 0 [.ref a0, .int x0] [] h).bind (fun q => pX 906 27 L (q.1.toList ++ []) q.2) := pX_inv (a := a0) (t := 4) 301 [.ref a0, .int x0] [] d906_24 rfl rfl rfl hk
theorem x906_27 {L S : List Value} {h : HP} {x : Int32} : pX 906 27 L (.int x :: S) h = if x = 0 then pX 906 34 L S h else pX 906 30 L S h := pX_if_eq d906_27 (by decide)
theorem x906_30 {L S : List Value} {h : HP} : pX 906 30 L S h = pX 906 31 L (.int 0 :: S) h := pX_iconst d906_30 (by decide)
theorem x906_31 {L S : List Value} {h : HP} : pX 906 31 L S h = pX 906 53 L S h := pX_goto d906_31 (by decide)
theorem x906_34 {S : List Value} {h : HP} {l0 l2 l3 l4 : Value} {a0 : Nat} : pX 906 34 [l0, .ref a0, l2, l3, l4] S h = pX 906 35 [l0, .ref a0, l2, l3, l4] (.ref a0 :: S) h := pX_stp d906_34 rfl rfl rfl
theorem x906_35 {L S : List Value} {h : HP} {a : Nat} (hk : hp_k h a = 5) : pX 906 35 L (.ref a :: S) h = pX 906 38 L (.ref (hp_a h a 6) :: S) h := pX_get d906_35 rfl rfl hk
theorem x906_38 {S : List Value} {h : HP} {l0 l1 l3 l4 : Value} {x0 : Int32} : pX 906 38 [l0, l1, .int x0, l3, l4] S h = pX 906 39 [l0, l1, .int x0, l3, l4] (.int x0 :: S) h := pX_stp d906_38 rfl rfl rfl
theorem x906_39 {L S : List Value} {h : HP} {a : Nat} {j : Int32} (hk : hp_k h a = 100) (hj : inb j (hp_l h a) = true) : pX 906 39 L (.int j :: .ref a :: S) h = pX 906 40 L (.int (hp_i h a (ix j)) :: S) h := pX_ild d906_39 hk hj
theorem x906_39R {L S : List Value} {h : HP} {a : Nat} {j : Int32} (hk : hp_k h a = 99) (hj : inb j (hp_l h a) = true) : pX 906 39 L (.int j :: .ref a :: S) h = pX 906 40 L (.int (hp_i h a (ix j)) :: S) h := pX_ildR d906_39 hk hj
theorem x906_40 {S : List Value} {h : HP} {l1 l2 l3 l4 : Value} {a0 : Nat} : pX 906 40 [.ref a0, l1, l2, l3, l4] S h = pX 906 41 [.ref a0, l1, l2, l3, l4] (.ref a0 :: S) h := pX_stp d906_40 rfl rfl rfl
theorem x906_41 {L S : List Value} {h : HP} {a : Nat} (hk : hp_k h a = 4) : pX 906 41 L (.ref a :: S) h = pX 906 44 L (.ref (hp_a h a 0) :: S) h := pX_get d906_41 rfl rfl hk
theorem x906_44 {S : List Value} {h : HP} {l0 l1 l2 l3 : Value} {x0 : Int32} : pX 906 44 [l0, l1, l2, l3, .int x0] S h = pX 906 46 [l0, l1, l2, l3, .int x0] (.int x0 :: S) h := pX_stp d906_44 rfl rfl rfl
theorem x906_46 {L S : List Value} {h : HP} {a : Nat} {j : Int32} (hk : 200 ≤ hp_k h a) (hj : inb j (hp_l h a) = true) : pX 906 46 L (.int j :: .ref a :: S) h = pX 906 47 L (.ref (hp_a h a (ix j)) :: S) h := pX_ald d906_46 hk hj
theorem x906_47 {L S : List Value} {h : HP} {a : Nat} (hk : hp_k h a = 5) : pX 906 47 L (.ref a :: S) h = pX 906 50 L (.int (hp_i h a 0) :: S) h := pX_get d906_47 rfl rfl hk
theorem x906_50 {L : List Value} {h : HP} {x0 : Int32} {x1 : Int32} : pX 906 50 L [.int x0, .int x1] h = (pX 907 0 [.int x1, .int x0, .retAddr 0] [] h).bind (fun q => pX 906 53 L (q.1.toList ++ []) q.2) := pX_ins 907 [.int x1, .int x0] [] d906_50 rfl rfl rfl
theorem x906_53 {L : List Value} {h : HP} {x : Int32} : pX 906 53 L [.int x] h = some (some (.int x), h) := pX_ret d906_53 rfl
theorem x906_54 {L S : List Value} {h : HP} : pX 906 54 L S h = pX 906 55 L (.int 0 :: S) h := pX_iconst d906_54 (by decide)
theorem x906_55 {S : List Value} {h : HP} {l0 l1 l2 l3 l4 : Value} {x0 : Int32} : pX 906 55 [l0, l1, l2, l3, l4] (.int x0 :: S) h = pX 906 57 [l0, l1, l2, l3, .int x0] S h := pX_stp d906_55 rfl rfl rfl
theorem x906_57 {S : List Value} {h : HP} {l0 l1 l2 l3 : Value} {x0 : Int32} : pX 906 57 [l0, l1, l2, l3, .int x0] S h = pX 906 59 [l0, l1, l2, l3, .int x0] (.int x0 :: S) h := pX_stp d906_57 rfl rfl rfl
theorem x906_59 {L S : List Value} {h : HP} : pX 906 59 L S h = pX 906 62 L (.ref 2 :: S) h := pX_gets d906_59 rfl
theorem x906_62 {S : List Value} {h : HP} {l0 l1 l2 l4 : Value} {x0 : Int32} : pX 906 62 [l0, l1, l2, .int x0, l4] S h = pX 906 63 [l0, l1, l2, .int x0, l4] (.int x0 :: S) h := pX_stp d906_62 rfl rfl rfl
theorem x906_63 {L S : List Value} {h : HP} {a : Nat} {j : Int32} (hk : hp_k h a = 100) (hj : inb j (hp_l h a) = true) : pX 906 63 L (.int j :: .ref a :: S) h = pX 906 64 L (.int (hp_i h a (ix j)) :: S) h := pX_ild d906_63 hk hj
theorem x906_63R {L S : List Value} {h : HP} {a : Nat} {j : Int32} (hk : hp_k h a = 99) (hj : inb j (hp_l h a) = true) : pX 906 63 L (.int j :: .ref a :: S) h = pX 906 64 L (.int (hp_i h a (ix j)) :: S) h := pX_ildR d906_63 hk hj
theorem x906_64 {L S : List Value} {h : HP} : pX 906 64 L S h = pX 906 65 L (.int 1 :: S) h := pX_iconst d906_64 (by decide)
theorem x906_65 {L S : List Value} {h : HP} {x y : Int32} : pX 906 65 L (.int y :: .int x :: S) h = pX 906 66 L (.int (x &&& y) :: S) h := pX_stp d906_65 rfl rfl rfl
theorem x906_66 {L S : List Value} {h : HP} {x : Int32} : pX 906 66 L (.int x :: S) h = if x = 0 then pX 906 80 L S h else pX 906 69 L S h := pX_if_eq d906_66 (by decide)
theorem x906_69 {L S : List Value} {h : HP} : pX 906 69 L S h = pX 906 70 L (.int 1 :: S) h := pX_iconst d906_69 (by decide)
theorem x906_70 {S : List Value} {h : HP} {l0 l2 l3 l4 : Value} {a0 : Nat} : pX 906 70 [l0, .ref a0, l2, l3, l4] S h = pX 906 71 [l0, .ref a0, l2, l3, l4] (.ref a0 :: S) h := pX_stp d906_70 rfl rfl rfl
theorem x906_71 {L S : List Value} {h : HP} {a : Nat} (hk : hp_k h a = 5) : pX 906 71 L (.ref a :: S) h = pX 906 74 L (.ref (hp_a h a 4) :: S) h := pX_get d906_71 rfl rfl hk
theorem x906_74 {S : List Value} {h : HP} {l0 l1 l3 l4 : Value} {x0 : Int32} : pX 906 74 [l0, l1, .int x0, l3, l4] S h = pX 906 75 [l0, l1, .int x0, l3, l4] (.int x0 :: S) h := pX_stp d906_74 rfl rfl rfl
theorem x906_75 {L S : List Value} {h : HP} {a : Nat} {j : Int32} (hk : hp_k h a = 100) (hj : inb j (hp_l h a) = true) : pX 906 75 L (.int j :: .ref a :: S) h = pX 906 76 L (.int (hp_i h a (ix j)) :: S) h := pX_ild d906_75 hk hj
theorem x906_75R {L S : List Value} {h : HP} {a : Nat} {j : Int32} (hk : hp_k h a = 99) (hj : inb j (hp_l h a) = true) : pX 906 75 L (.int j :: .ref a :: S) h = pX 906 76 L (.int (hp_i h a (ix j)) :: S) h := pX_ildR d906_75 hk hj
theorem x906_76 {L S : List Value} {h : HP} {x y : Int32} : pX 906 76 L (.int y :: .int x :: S) h = pX 906 77 L (.int (x <<< (y &&& 31)) :: S) h := pX_stp d906_76 rfl rfl rfl
theorem x906_77 {L S : List Value} {h : HP} : pX 906 77 L S h = pX 906 81 L S h := pX_goto d906_77 (by decide)
theorem x906_80 {L S : List Value} {h : HP} : pX 906 80 L S h = pX 906 81 L (.int 0 :: S) h := pX_iconst d906_80 (by decide)
theorem x906_81 {L S : List Value} {h : HP} {x y : Int32} : pX 906 81 L (.int y :: .int x :: S) h = pX 906 82 L (.int (x ||| y) :: S) h := pX_stp d906_81 rfl rfl rfl
theorem x906_82 {S : List Value} {h : HP} {l0 l1 l2 l3 l4 : Value} {x0 : Int32} : pX 906 82 [l0, l1, l2, l3, l4] (.int x0 :: S) h = pX 906 84 [l0, l1, l2, l3, .int x0] S h := pX_stp d906_82 rfl rfl rfl
theorem x906_84 {S : List Value} {h : HP} {l0 l1 l2 l3 : Value} {x0 : Int32} : pX 906 84 [l0, l1, l2, l3, .int x0] S h = pX 906 86 [l0, l1, l2, l3, .int x0] (.int x0 :: S) h := pX_stp d906_84 rfl rfl rfl
theorem x906_86 {L S : List Value} {h : HP} : pX 906 86 L S h = pX 906 89 L (.ref 2 :: S) h := pX_gets d906_86 rfl
theorem x906_89 {S : List Value} {h : HP} {l0 l1 l2 l4 : Value} {x0 : Int32} : pX 906 89 [l0, l1, l2, .int x0, l4] S h = pX 906 90 [l0, l1, l2, .int x0, l4] (.int x0 :: S) h := pX_stp d906_89 rfl rfl rfl
theorem x906_90 {L S : List Value} {h : HP} {a : Nat} {j : Int32} (hk : hp_k h a = 100) (hj : inb j (hp_l h a) = true) : pX 906 90 L (.int j :: .ref a :: S) h = pX 906 91 L (.int (hp_i h a (ix j)) :: S) h := pX_ild d906_90 hk hj
theorem x906_90R {L S : List Value} {h : HP} {a : Nat} {j : Int32} (hk : hp_k h a = 99) (hj : inb j (hp_l h a) = true) : pX 906 90 L (.int j :: .ref a :: S) h = pX 906 91 L (.int (hp_i h a (ix j)) :: S) h := pX_ildR d906_90 hk hj
theorem x906_91 {L S : List Value} {h : HP} : pX 906 91 L S h = pX 906 92 L (.int 2 :: S) h := pX_iconst d906_91 (by decide)
theorem x906_92 {L S : List Value} {h : HP} {x y : Int32} : pX 906 92 L (.int y :: .int x :: S) h = pX 906 93 L (.int (x &&& y) :: S) h := pX_stp d906_92 rfl rfl rfl
theorem x906_93 {L S : List Value} {h : HP} {x : Int32} : pX 906 93 L (.int x :: S) h = if x = 0 then pX 906 107 L S h else pX 906 96 L S h := pX_if_eq d906_93 (by decide)
theorem x906_96 {L S : List Value} {h : HP} : pX 906 96 L S h = pX 906 97 L (.int 1 :: S) h := pX_iconst d906_96 (by decide)
theorem x906_97 {S : List Value} {h : HP} {l0 l2 l3 l4 : Value} {a0 : Nat} : pX 906 97 [l0, .ref a0, l2, l3, l4] S h = pX 906 98 [l0, .ref a0, l2, l3, l4] (.ref a0 :: S) h := pX_stp d906_97 rfl rfl rfl
theorem x906_98 {L S : List Value} {h : HP} {a : Nat} (hk : hp_k h a = 5) : pX 906 98 L (.ref a :: S) h = pX 906 101 L (.ref (hp_a h a 5) :: S) h := pX_get d906_98 rfl rfl hk
theorem x906_101 {S : List Value} {h : HP} {l0 l1 l3 l4 : Value} {x0 : Int32} : pX 906 101 [l0, l1, .int x0, l3, l4] S h = pX 906 102 [l0, l1, .int x0, l3, l4] (.int x0 :: S) h := pX_stp d906_101 rfl rfl rfl
theorem x906_102 {L S : List Value} {h : HP} {a : Nat} {j : Int32} (hk : hp_k h a = 100) (hj : inb j (hp_l h a) = true) : pX 906 102 L (.int j :: .ref a :: S) h = pX 906 103 L (.int (hp_i h a (ix j)) :: S) h := pX_ild d906_102 hk hj
theorem x906_102R {L S : List Value} {h : HP} {a : Nat} {j : Int32} (hk : hp_k h a = 99) (hj : inb j (hp_l h a) = true) : pX 906 102 L (.int j :: .ref a :: S) h = pX 906 103 L (.int (hp_i h a (ix j)) :: S) h := pX_ildR d906_102 hk hj
theorem x906_103 {L S : List Value} {h : HP} {x y : Int32} : pX 906 103 L (.int y :: .int x :: S) h = pX 906 104 L (.int (x <<< (y &&& 31)) :: S) h := pX_stp d906_103 rfl rfl rfl
theorem x906_104 {L S : List Value} {h : HP} : pX 906 104 L S h = pX 906 108 L S h := pX_goto d906_104 (by decide)
theorem x906_107 {L S : List Value} {h : HP} : pX 906 107 L S h = pX 906 108 L (.int 0 :: S) h := pX_iconst d906_107 (by decide)
theorem x906_108 {L S : List Value} {h : HP} {x y : Int32} : pX 906 108 L (.int y :: .int x :: S) h = pX 906 109 L (.int (x ||| y) :: S) h := pX_stp d906_108 rfl rfl rfl
theorem x906_109 {S : List Value} {h : HP} {l0 l1 l2 l3 l4 : Value} {x0 : Int32} : pX 906 109 [l0, l1, l2, l3, l4] (.int x0 :: S) h = pX 906 111 [l0, l1, l2, l3, .int x0] S h := pX_stp d906_109 rfl rfl rfl
theorem x906_111 {S : List Value} {h : HP} {l0 l1 l2 l3 : Value} {x0 : Int32} : pX 906 111 [l0, l1, l2, l3, .int x0] S h = pX 906 113 [l0, l1, l2, l3, .int x0] (.int x0 :: S) h := pX_stp d906_111 rfl rfl rfl
theorem x906_113 {L S : List Value} {h : HP} : pX 906 113 L S h = pX 906 116 L (.ref 2 :: S) h := pX_gets d906_113 rfl
theorem x906_116 {S : List Value} {h : HP} {l0 l1 l2 l4 : Value} {x0 : Int32} : pX 906 116 [l0, l1, l2, .int x0, l4] S h = pX 906 117 [l0, l1, l2, .int x0, l4] (.int x0 :: S) h := pX_stp d906_116 rfl rfl rfl
theorem x906_117 {L S : List Value} {h : HP} {a : Nat} {j : Int32} (hk : hp_k h a = 100) (hj : inb j (hp_l h a) = true) : pX 906 117 L (.int j :: .ref a :: S) h = pX 906 118 L (.int (hp_i h a (ix j)) :: S) h := pX_ild d906_117 hk hj
theorem x906_117R {L S : List Value} {h : HP} {a : Nat} {j : Int32} (hk : hp_k h a = 99) (hj : inb j (hp_l h a) = true) : pX 906 117 L (.int j :: .ref a :: S) h = pX 906 118 L (.int (hp_i h a (ix j)) :: S) h := pX_ildR d906_117 hk hj
theorem x906_118 {L S : List Value} {h : HP} : pX 906 118 L S h = pX 906 119 L (.int 4 :: S) h := pX_iconst d906_118 (by decide)
theorem x906_119 {L S : List Value} {h : HP} {x y : Int32} : pX 906 119 L (.int y :: .int x :: S) h = pX 906 120 L (.int (x &&& y) :: S) h := pX_stp d906_119 rfl rfl rfl
theorem x906_120 {L S : List Value} {h : HP} {x : Int32} : pX 906 120 L (.int x :: S) h = if x = 0 then pX 906 134 L S h else pX 906 123 L S h := pX_if_eq d906_120 (by decide)
theorem x906_123 {L S : List Value} {h : HP} : pX 906 123 L S h = pX 906 124 L (.int 1 :: S) h := pX_iconst d906_123 (by decide)
theorem x906_124 {S : List Value} {h : HP} {l0 l2 l3 l4 : Value} {a0 : Nat} : pX 906 124 [l0, .ref a0, l2, l3, l4] S h = pX 906 125 [l0, .ref a0, l2, l3, l4] (.ref a0 :: S) h := pX_stp d906_124 rfl rfl rfl
theorem x906_125 {L S : List Value} {h : HP} {a : Nat} (hk : hp_k h a = 5) : pX 906 125 L (.ref a :: S) h = pX 906 128 L (.ref (hp_a h a 6) :: S) h := pX_get d906_125 rfl rfl hk
theorem x906_128 {S : List Value} {h : HP} {l0 l1 l3 l4 : Value} {x0 : Int32} : pX 906 128 [l0, l1, .int x0, l3, l4] S h = pX 906 129 [l0, l1, .int x0, l3, l4] (.int x0 :: S) h := pX_stp d906_128 rfl rfl rfl
theorem x906_129 {L S : List Value} {h : HP} {a : Nat} {j : Int32} (hk : hp_k h a = 100) (hj : inb j (hp_l h a) = true) : pX 906 129 L (.int j :: .ref a :: S) h = pX 906 130 L (.int (hp_i h a (ix j)) :: S) h := pX_ild d906_129 hk hj
theorem x906_129R {L S : List Value} {h : HP} {a : Nat} {j : Int32} (hk : hp_k h a = 99) (hj : inb j (hp_l h a) = true) : pX 906 129 L (.int j :: .ref a :: S) h = pX 906 130 L (.int (hp_i h a (ix j)) :: S) h := pX_ildR d906_129 hk hj
theorem x906_130 {L S : List Value} {h : HP} {x y : Int32} : pX 906 130 L (.int y :: .int x :: S) h = pX 906 131 L (.int (x <<< (y &&& 31)) :: S) h := pX_stp d906_130 rfl rfl rfl
theorem x906_131 {L S : List Value} {h : HP} : pX 906 131 L S h = pX 906 135 L S h := pX_goto d906_131 (by decide)
theorem x906_134 {L S : List Value} {h : HP} : pX 906 134 L S h = pX 906 135 L (.int 0 :: S) h := pX_iconst d906_134 (by decide)
theorem x906_135 {L S : List Value} {h : HP} {x y : Int32} : pX 906 135 L (.int y :: .int x :: S) h = pX 906 136 L (.int (x ||| y) :: S) h := pX_stp d906_135 rfl rfl rfl
theorem x906_136 {S : List Value} {h : HP} {l0 l1 l2 l3 l4 : Value} {x0 : Int32} : pX 906 136 [l0, l1, l2, l3, l4] (.int x0 :: S) h = pX 906 138 [l0, l1, l2, l3, .int x0] S h := pX_stp d906_136 rfl rfl rfl
theorem x906_138 {S : List Value} {h : HP} {l0 l1 l2 l3 : Value} {x0 : Int32} : pX 906 138 [l0, l1, l2, l3, .int x0] S h = pX 906 140 [l0, l1, l2, l3, .int x0] (.int x0 :: S) h := pX_stp d906_138 rfl rfl rfl
theorem x906_140 {L : List Value} {h : HP} {x : Int32} : pX 906 140 L [.int x] h = some (some (.int x), h) := pX_ret d906_140 rfl
theorem d907_0 : decode (mb 907) 0 = .ok (.sipush 255, 3) := by decide +kernel
theorem d907_3 : decode (mb 907) 3 = .ok (.istore_n 2, 1) := by decide +kernel
theorem d907_4 : decode (mb 907) 4 = .ok (.iconst 1, 1) := by decide +kernel
theorem d907_5 : decode (mb 907) 5 = .ok (.iload_n 1, 1) := by decide +kernel
theorem d907_6 : decode (mb 907) 6 = .ok (.ishl, 1) := by decide +kernel
theorem d907_7 : decode (mb 907) 7 = .ok (.iconst 1, 1) := by decide +kernel
theorem d907_8 : decode (mb 907) 8 = .ok (.isub, 1) := by decide +kernel
theorem d907_9 : decode (mb 907) 9 = .ok (.iload_n 0, 1) := by decide +kernel
theorem d907_10 : decode (mb 907) 10 = .ok (.ishl, 1) := by decide +kernel
theorem d907_11 : decode (mb 907) 11 = .ok (.iload_n 2, 1) := by decide +kernel
theorem d907_12 : decode (mb 907) 12 = .ok (.iand, 1) := by decide +kernel
theorem d907_13 : decode (mb 907) 13 = .ok (.ireturn, 1) := by decide +kernel
theorem x907_0 {L S : List Value} {h : HP} : pX 907 0 L S h = pX 907 3 L (.int 255 :: S) h := pX_sipush d907_0 (by decide)
theorem x907_3 {S : List Value} {h : HP} {l0 l1 l2 : Value} {x0 : Int32} : pX 907 3 [l0, l1, l2] (.int x0 :: S) h = pX 907 4 [l0, l1, .int x0] S h := pX_stp d907_3 rfl rfl rfl
theorem x907_4 {L S : List Value} {h : HP} : pX 907 4 L S h = pX 907 5 L (.int 1 :: S) h := pX_iconst d907_4 (by decide)
theorem x907_5 {S : List Value} {h : HP} {l0 l2 : Value} {x0 : Int32} : pX 907 5 [l0, .int x0, l2] S h = pX 907 6 [l0, .int x0, l2] (.int x0 :: S) h := pX_stp d907_5 rfl rfl rfl
theorem x907_6 {L S : List Value} {h : HP} {x y : Int32} : pX 907 6 L (.int y :: .int x :: S) h = pX 907 7 L (.int (x <<< (y &&& 31)) :: S) h := pX_stp d907_6 rfl rfl rfl
theorem x907_7 {L S : List Value} {h : HP} : pX 907 7 L S h = pX 907 8 L (.int 1 :: S) h := pX_iconst d907_7 (by decide)
theorem x907_8 {L S : List Value} {h : HP} {x y : Int32} : pX 907 8 L (.int y :: .int x :: S) h = pX 907 9 L (.int (x - y) :: S) h := pX_stp d907_8 rfl rfl rfl
theorem x907_9 {S : List Value} {h : HP} {l1 l2 : Value} {x0 : Int32} : pX 907 9 [.int x0, l1, l2] S h = pX 907 10 [.int x0, l1, l2] (.int x0 :: S) h := pX_stp d907_9 rfl rfl rfl
theorem x907_10 {L S : List Value} {h : HP} {x y : Int32} : pX 907 10 L (.int y :: .int x :: S) h = pX 907 11 L (.int (x <<< (y &&& 31)) :: S) h := pX_stp d907_10 rfl rfl rfl
theorem x907_11 {S : List Value} {h : HP} {l0 l1 : Value} {x0 : Int32} : pX 907 11 [l0, l1, .int x0] S h = pX 907 12 [l0, l1, .int x0] (.int x0 :: S) h := pX_stp d907_11 rfl rfl rfl
theorem x907_12 {L S : List Value} {h : HP} {x y : Int32} : pX 907 12 L (.int y :: .int x :: S) h = pX 907 13 L (.int (x &&& y) :: S) h := pX_stp d907_12 rfl rfl rfl
theorem x907_13 {L : List Value} {h : HP} {x : Int32} : pX 907 13 L [.int x] h = some (some (.int x), h) := pX_ret d907_13 rfl
