theorem d1134_0 : decode (mb 1134) 0 = .ok (.aload_n 0, 1) := by decide +kernel
theorem d1134_1 : decode (mb 1134) 1 = .ok (.getfield 174, 3) := by decide +kernel
theorem d1134_4 : decode (mb 1134) 4 = .ok (.iconst 1, 1) := by decide +kernel
theorem d1134_5 : decode (mb 1134) 5 = .ok (.isub, 1) := by decide +kernel
theorem d1134_6 : decode (mb 1134) 6 = .ok (.istore_n 2, 1) := by decide +kernel
theorem d1134_7 : decode (mb 1134) 7 = .ok (.iload_n 1, 1) := by decide +kernel
theorem d1134_8 : decode (mb 1134) 8 = .ok (.aload_n 0, 1) := by decide +kernel
theorem d1134_9 : decode (mb 1134) 9 = .ok (.getfield 76, 3) := by decide +kernel
theorem d1134_12 : decode (mb 1134) 12 = .ok (.iload_n 2, 1) := by decide +kernel
theorem d1134_13 : decode (mb 1134) 13 = .ok (.iaload, 1) := by decide +kernel
theorem d1134_14 : decode (mb 1134) 14 = .ok (.if_icmp .gt 30, 3) := by decide +kernel
theorem d1134_17 : decode (mb 1134) 17 = .ok (.aload_n 0, 1) := by decide +kernel
theorem d1134_18 : decode (mb 1134) 18 = .ok (.aload_n 0, 1) := by decide +kernel
theorem d1134_19 : decode (mb 1134) 19 = .ok (.getfield 28, 3) := by decide +kernel
theorem d1134_22 : decode (mb 1134) 22 = .ok (.iconst 1, 1) := by decide +kernel
theorem d1134_23 : decode (mb 1134) 23 = .ok (.iaload, 1) := by decide +kernel
theorem d1134_24 : decode (mb 1134) 24 = .ok (.i2l, 1) := by decide +kernel
theorem d1134_25 : decode (mb 1134) 25 = .ok (.invokevirtual 166, 3) := by decide +kernel
theorem d1134_28 : decode (mb 1134) 28 = .ok (.ifCond .ne 6, 3) := by decide +kernel
theorem d1134_31 : decode (mb 1134) 31 = .ok (.bipush 10, 2) := by decide +kernel
theorem d1134_33 : decode (mb 1134) 33 = .ok (.ireturn, 1) := by decide +kernel
theorem d1134_34 : decode (mb 1134) 34 = .ok (.aload_n 0, 1) := by decide +kernel
theorem d1134_35 : decode (mb 1134) 35 = .ok (.getfield 95, 3) := by decide +kernel
theorem d1134_38 : decode (mb 1134) 38 = .ok (.iconst 2, 1) := by decide +kernel
theorem d1134_39 : decode (mb 1134) 39 = .ok (.dup2, 1) := by decide +kernel
theorem d1134_40 : decode (mb 1134) 40 = .ok (.iaload, 1) := by decide +kernel
theorem d1134_41 : decode (mb 1134) 41 = .ok (.iconst 1, 1) := by decide +kernel
theorem d1134_42 : decode (mb 1134) 42 = .ok (.iadd, 1) := by decide +kernel
theorem d1134_43 : decode (mb 1134) 43 = .ok (.iastore, 1) := by decide +kernel
theorem d1134_44 : decode (mb 1134) 44 = .ok (.aload_n 0, 1) := by decide +kernel
theorem d1134_45 : decode (mb 1134) 45 = .ok (.getfield 76, 3) := by decide +kernel
theorem d1134_48 : decode (mb 1134) 48 = .ok (.iload_n 2, 1) := by decide +kernel
theorem d1134_49 : decode (mb 1134) 49 = .ok (.iload_n 1, 1) := by decide +kernel
theorem d1134_50 : decode (mb 1134) 50 = .ok (.iconst 1, 1) := by decide +kernel
theorem d1134_51 : decode (mb 1134) 51 = .ok (.isub, 1) := by decide +kernel
theorem d1134_52 : decode (mb 1134) 52 = .ok (.iastore, 1) := by decide +kernel
theorem d1134_53 : decode (mb 1134) 53 = .ok (.iconst 0, 1) := by decide +kernel
theorem d1134_54 : decode (mb 1134) 54 = .ok (.ireturn, 1) := by decide +kernel
theorem x1134_0 {S : List Value} {h : HP} {l1 l2 : Value} {a0 : Nat} : pX 1134 0 [.ref a0, l1, l2] S h = pX 1134 1 [.ref a0, l1, l2] (.ref a0 :: S) h := pX_stp d1134_0 rfl rfl rfl
theorem x1134_1 {L S : List Value} {h : HP} {a : Nat} (hk : hp_k h a = 12) : pX 1134 1 L (.ref a :: S) h = pX 1134 4 L (.int (hp_i h a 29) :: S) h := pX_get d1134_1 rfl rfl hk
theorem x1134_4 {L S : List Value} {h : HP} : pX 1134 4 L S h = pX 1134 5 L (.int 1 :: S) h := pX_iconst d1134_4 (by decide)
theorem x1134_5 {L S : List Value} {h : HP} {x y : Int32} : pX 1134 5 L (.int y :: .int x :: S) h = pX 1134 6 L (.int (x - y) :: S) h := pX_stp d1134_5 rfl rfl rfl
theorem x1134_6 {S : List Value} {h : HP} {l0 l1 l2 : Value} {x0 : Int32} : pX 1134 6 [l0, l1, l2] (.int x0 :: S) h = pX 1134 7 [l0, l1, .int x0] S h := pX_stp d1134_6 rfl rfl rfl
theorem x1134_7 {S : List Value} {h : HP} {l0 l2 : Value} {x0 : Int32} : pX 1134 7 [l0, .int x0, l2] S h = pX 1134 8 [l0, .int x0, l2] (.int x0 :: S) h := pX_stp d1134_7 rfl rfl rfl
theorem x1134_8 {S : List Value} {h : HP} {l1 l2 : Value} {a0 : Nat} : pX 1134 8 [.ref a0, l1, l2] S h = pX 1134 9 [.ref a0, l1, l2] (.ref a0 :: S) h := pX_stp d1134_8 rfl rfl rfl
theorem x1134_9 {L S : List Value} {h : HP} {a : Nat} (hk : hp_k h a = 12) : pX 1134 9 L (.ref a :: S) h = pX 1134 12 L (.ref (hp_a h a 31) :: S) h := pX_get d1134_9 rfl rfl hk
theorem x1134_12 {S : List Value} {h : HP} {l0 l1 : Value} {x0 : Int32} : pX 1134 12 [l0, l1, .int x0] S h = pX 1134 13 [l0, l1, .int x0] (.int x0 :: S) h := pX_stp d1134_12 rfl rfl rfl
theorem x1134_13 {L S : List Value} {h : HP} {a : Nat} {j : Int32} (hk : hp_k h a = 100) (hj : inb j (hp_l h a) = true) : pX 1134 13 L (.int j :: .ref a :: S) h = pX 1134 14 L (.int (hp_i h a (ix j)) :: S) h := pX_ild d1134_13 hk hj
theorem x1134_14 {L S : List Value} {h : HP} {x y : Int32} : pX 1134 14 L (.int y :: .int x :: S) h = if y < x then pX 1134 44 L S h else pX 1134 17 L S h := pX_icmp_gt d1134_14 (by decide)
theorem x1134_17 {S : List Value} {h : HP} {l1 l2 : Value} {a0 : Nat} : pX 1134 17 [.ref a0, l1, l2] S h = pX 1134 18 [.ref a0, l1, l2] (.ref a0 :: S) h := pX_stp d1134_17 rfl rfl rfl
theorem x1134_18 {S : List Value} {h : HP} {l1 l2 : Value} {a0 : Nat} : pX 1134 18 [.ref a0, l1, l2] S h = pX 1134 19 [.ref a0, l1, l2] (.ref a0 :: S) h := pX_stp d1134_18 rfl rfl rfl
theorem x1134_19 {L S : List Value} {h : HP} {a : Nat} (hk : hp_k h a = 12) : pX 1134 19 L (.ref a :: S) h = pX 1134 22 L (.ref (hp_a h a 7) :: S) h := pX_get d1134_19 rfl rfl hk
theorem x1134_22 {L S : List Value} {h : HP} : pX 1134 22 L S h = pX 1134 23 L (.int 1 :: S) h := pX_iconst d1134_22 (by decide)
theorem x1134_23 {L S : List Value} {h : HP} {a : Nat} {j : Int32} (hk : hp_k h a = 100) (hj : inb j (hp_l h a) = true) : pX 1134 23 L (.int j :: .ref a :: S) h = pX 1134 24 L (.int (hp_i h a (ix j)) :: S) h := pX_ild d1134_23 hk hj
theorem x1134_24 {L S : List Value} {h : HP} {x : Int32} : pX 1134 24 L (.int x :: S) h = pX 1134 25 L (.long x.toInt64 :: S) h := pX_stp d1134_24 rfl rfl rfl
theorem x1134_25 {L : List Value} {h : HP} {z0 : Int64} {a0 : Nat} (hk : hp_k h a0 = 12) : pX 1134 25 L [.long z0, .ref a0] h = (pX 1122 0 [.ref a0, .long z0, .retAddr 0] [] h).bind (fun q => pX 1134 28 L (q.1.toList ++ []) q.2) := pX_inv (a := a0) (t := 12) 1122 [.ref a0, .long z0] [] d1134_25 rfl rfl rfl hk
theorem x1134_28 {L S : List Value} {h : HP} {x : Int32} : pX 1134 28 L (.int x :: S) h = if x = 0 then pX 1134 31 L S h else pX 1134 34 L S h := pX_if_ne d1134_28 (by decide)
theorem x1134_31 {L S : List Value} {h : HP} : pX 1134 31 L S h = pX 1134 33 L (.int 10 :: S) h := pX_bipush d1134_31 (by decide)
theorem x1134_33 {L : List Value} {h : HP} {x : Int32} : pX 1134 33 L [.int x] h = some (some (.int x), h) := pX_ret d1134_33 rfl
theorem x1134_34 {S : List Value} {h : HP} {l1 l2 : Value} {a0 : Nat} : pX 1134 34 [.ref a0, l1, l2] S h = pX 1134 35 [.ref a0, l1, l2] (.ref a0 :: S) h := pX_stp d1134_34 rfl rfl rfl
theorem x1134_35 {L S : List Value} {h : HP} {a : Nat} (hk : hp_k h a = 12) : pX 1134 35 L (.ref a :: S) h = pX 1134 38 L (.ref (hp_a h a 39) :: S) h := pX_get d1134_35 rfl rfl hk
theorem x1134_38 {L S : List Value} {h : HP} : pX 1134 38 L S h = pX 1134 39 L (.int 2 :: S) h := pX_iconst d1134_38 (by decide)
theorem x1134_39 {L S : List Value} {h : HP} {x0 : Int32} {a0 : Nat} : pX 1134 39 L (.int x0 :: .ref a0 :: S) h = pX 1134 40 L (.int x0 :: .ref a0 :: .int x0 :: .ref a0 :: S) h := pX_stp d1134_39 rfl rfl rfl
theorem x1134_40 {L S : List Value} {h : HP} {a : Nat} {j : Int32} (hk : hp_k h a = 100) (hj : inb j (hp_l h a) = true) : pX 1134 40 L (.int j :: .ref a :: S) h = pX 1134 41 L (.int (hp_i h a (ix j)) :: S) h := pX_ild d1134_40 hk hj
theorem x1134_41 {L S : List Value} {h : HP} : pX 1134 41 L S h = pX 1134 42 L (.int 1 :: S) h := pX_iconst d1134_41 (by decide)
theorem x1134_42 {L S : List Value} {h : HP} {x y : Int32} : pX 1134 42 L (.int y :: .int x :: S) h = pX 1134 43 L (.int (x + y) :: S) h := pX_stp d1134_42 rfl rfl rfl
theorem x1134_43 {L S : List Value} {h : HP} {a : Nat} {j x : Int32} (hk : hp_k h a = 100) (hj : inb j (hp_l h a) = true) : pX 1134 43 L (.int x :: .int j :: .ref a :: S) h = pX 1134 44 L S (hp_wi h a (ix j) x) := pX_ist d1134_43 hk hj
theorem x1134_44 {S : List Value} {h : HP} {l1 l2 : Value} {a0 : Nat} : pX 1134 44 [.ref a0, l1, l2] S h = pX 1134 45 [.ref a0, l1, l2] (.ref a0 :: S) h := pX_stp d1134_44 rfl rfl rfl
theorem x1134_45 {L S : List Value} {h : HP} {a : Nat} (hk : hp_k h a = 12) : pX 1134 45 L (.ref a :: S) h = pX 1134 48 L (.ref (hp_a h a 31) :: S) h := pX_get d1134_45 rfl rfl hk
theorem x1134_48 {S : List Value} {h : HP} {l0 l1 : Value} {x0 : Int32} : pX 1134 48 [l0, l1, .int x0] S h = pX 1134 49 [l0, l1, .int x0] (.int x0 :: S) h := pX_stp d1134_48 rfl rfl rfl
theorem x1134_49 {S : List Value} {h : HP} {l0 l2 : Value} {x0 : Int32} : pX 1134 49 [l0, .int x0, l2] S h = pX 1134 50 [l0, .int x0, l2] (.int x0 :: S) h := pX_stp d1134_49 rfl rfl rfl
theorem x1134_50 {L S : List Value} {h : HP} : pX 1134 50 L S h = pX 1134 51 L (.int 1 :: S) h := pX_iconst d1134_50 (by decide)
theorem x1134_51 {L S : List Value} {h : HP} {x y : Int32} : pX 1134 51 L (.int y :: .int x :: S) h = pX 1134 52 L (.int (x - y) :: S) h := pX_stp d1134_51 rfl rfl rfl
theorem x1134_52 {L S : List Value} {h : HP} {a : Nat} {j x : Int32} (hk : hp_k h a = 100) (hj : inb j (hp_l h a) = true) : pX 1134 52 L (.int x :: .int j :: .ref a :: S) h = pX 1134 53 L S (hp_wi h a (ix j) x) := pX_ist d1134_52 hk hj
theorem x1134_53 {L S : List Value} {h : HP} : pX 1134 53 L S h = pX 1134 54 L (.int 0 :: S) h := pX_iconst d1134_53 (by decide)
theorem x1134_54 {L : List Value} {h : HP} {x : Int32} : pX 1134 54 L [.int x] h = some (some (.int x), h) := pX_ret d1134_54 rfl
theorem d1135_0 : decode (mb 1135) 0 = .ok (.aload_n 0, 1) := by decide +kernel
theorem d1135_1 : decode (mb 1135) 1 = .ok (.aload_n 0, 1) := by decide +kernel
theorem d1135_2 : decode (mb 1135) 2 = .ok (.getfield 195, 3) := by decide +kernel
theorem d1135_5 : decode (mb 1135) 5 = .ok (.iconst 1, 1) := by decide +kernel
theorem d1135_6 : decode (mb 1135) 6 = .ok (.invokevirtual 198, 3) := by decide +kernel
theorem d1135_9 : decode (mb 1135) 9 = .ok (.istore_n 1, 1) := by decide +kernel
theorem d1135_10 : decode (mb 1135) 10 = .ok (.iload_n 1, 1) := by decide +kernel
theorem d1135_11 : decode (mb 1135) 11 = .ok (.ifCond .le 5, 3) := by decide +kernel
theorem d1135_14 : decode (mb 1135) 14 = .ok (.iload_n 1, 1) := by decide +kernel
theorem d1135_15 : decode (mb 1135) 15 = .ok (.ireturn, 1) := by decide +kernel
theorem d1135_16 : decode (mb 1135) 16 = .ok (.aload_n 0, 1) := by decide +kernel
theorem d1135_17 : decode (mb 1135) 17 = .ok (.aload_n 0, 1) := by decide +kernel
theorem d1135_18 : decode (mb 1135) 18 = .ok (.getfield 195, 3) := by decide +kernel
theorem d1135_21 : decode (mb 1135) 21 = .ok (.invokevirtual 208, 3) := by decide +kernel
theorem d1135_24 : decode (mb 1135) 24 = .ok (.istore_n 2, 1) := by decide +kernel
theorem d1135_25 : decode (mb 1135) 25 = .ok (.iload_n 2, 1) := by decide +kernel
theorem d1135_26 : decode (mb 1135) 26 = .ok (.ifCond .ge 5, 3) := by decide +kernel
theorem d1135_29 : decode (mb 1135) 29 = .ok (.iconst 4, 1) := by decide +kernel
theorem d1135_30 : decode (mb 1135) 30 = .ok (.ireturn, 1) := by decide +kernel
theorem d1135_31 : decode (mb 1135) 31 = .ok (.aload_n 0, 1) := by decide +kernel
theorem d1135_32 : decode (mb 1135) 32 = .ok (.aload_n 0, 1) := by decide +kernel
theorem d1135_33 : decode (mb 1135) 33 = .ok (.getfield 28, 3) := by decide +kernel
theorem d1135_36 : decode (mb 1135) 36 = .ok (.iconst 3, 1) := by decide +kernel
theorem d1135_37 : decode (mb 1135) 37 = .ok (.iaload, 1) := by decide +kernel
theorem d1135_38 : decode (mb 1135) 38 = .ok (.i2l, 1) := by decide +kernel
theorem d1135_39 : decode (mb 1135) 39 = .ok (.iload_n 2, 1) := by decide +kernel
theorem d1135_40 : decode (mb 1135) 40 = .ok (.i2l, 1) := by decide +kernel
theorem d1135_41 : decode (mb 1135) 41 = .ok (.aload_n 0, 1) := by decide +kernel
theorem d1135_42 : decode (mb 1135) 42 = .ok (.getfield 28, 3) := by decide +kernel
theorem d1135_45 : decode (mb 1135) 45 = .ok (.iconst 4, 1) := by decide +kernel
theorem d1135_46 : decode (mb 1135) 46 = .ok (.iaload, 1) := by decide +kernel
theorem d1135_47 : decode (mb 1135) 47 = .ok (.i2l, 1) := by decide +kernel
theorem d1135_48 : decode (mb 1135) 48 = .ok (.lmul, 1) := by decide +kernel
theorem d1135_49 : decode (mb 1135) 49 = .ok (.ladd, 1) := by decide +kernel
theorem d1135_50 : decode (mb 1135) 50 = .ok (.invokevirtual 166, 3) := by decide +kernel
theorem d1135_53 : decode (mb 1135) 53 = .ok (.ifCond .ne 6, 3) := by decide +kernel
theorem d1135_56 : decode (mb 1135) 56 = .ok (.bipush 10, 2) := by decide +kernel
theorem d1135_58 : decode (mb 1135) 58 = .ok (.ireturn, 1) := by decide +kernel
theorem d1135_59 : decode (mb 1135) 59 = .ok (.aload_n 0, 1) := by decide +kernel
theorem d1135_60 : decode (mb 1135) 60 = .ok (.getfield 95, 3) := by decide +kernel
theorem d1135_63 : decode (mb 1135) 63 = .ok (.iconst 4, 1) := by decide +kernel
theorem d1135_64 : decode (mb 1135) 64 = .ok (.dup2, 1) := by decide +kernel
theorem d1135_65 : decode (mb 1135) 65 = .ok (.iaload, 1) := by decide +kernel
theorem d1135_66 : decode (mb 1135) 66 = .ok (.iconst 1, 1) := by decide +kernel
theorem d1135_67 : decode (mb 1135) 67 = .ok (.iadd, 1) := by decide +kernel
theorem d1135_68 : decode (mb 1135) 68 = .ok (.iastore, 1) := by decide +kernel
theorem d1135_69 : decode (mb 1135) 69 = .ok (.aload_n 0, 1) := by decide +kernel
theorem d1135_70 : decode (mb 1135) 70 = .ok (.getfield 95, 3) := by decide +kernel
theorem d1135_73 : decode (mb 1135) 73 = .ok (.iconst 5, 1) := by decide +kernel
theorem d1135_74 : decode (mb 1135) 74 = .ok (.dup2, 1) := by decide +kernel
theorem d1135_75 : decode (mb 1135) 75 = .ok (.iaload, 1) := by decide +kernel
theorem d1135_76 : decode (mb 1135) 76 = .ok (.iload_n 2, 1) := by decide +kernel
theorem d1135_77 : decode (mb 1135) 77 = .ok (.iadd, 1) := by decide +kernel
theorem d1135_78 : decode (mb 1135) 78 = .ok (.iastore, 1) := by decide +kernel
theorem d1135_79 : decode (mb 1135) 79 = .ok (.aload_n 0, 1) := by decide +kernel
theorem d1135_80 : decode (mb 1135) 80 = .ok (.getfield 61, 3) := by decide +kernel
theorem d1135_83 : decode (mb 1135) 83 = .ok (.aload_n 0, 1) := by decide +kernel
theorem d1135_84 : decode (mb 1135) 84 = .ok (.getfield 213, 3) := by decide +kernel
theorem d1135_87 : decode (mb 1135) 87 = .ok (.aload_n 0, 1) := by decide +kernel
theorem d1135_88 : decode (mb 1135) 88 = .ok (.getfield 201, 3) := by decide +kernel
theorem d1135_91 : decode (mb 1135) 91 = .ok (.iastore, 1) := by decide +kernel
theorem d1135_92 : decode (mb 1135) 92 = .ok (.aload_n 0, 1) := by decide +kernel
theorem d1135_93 : decode (mb 1135) 93 = .ok (.getfield 64, 3) := by decide +kernel
theorem d1135_96 : decode (mb 1135) 96 = .ok (.aload_n 0, 1) := by decide +kernel
theorem d1135_97 : decode (mb 1135) 97 = .ok (.getfield 213, 3) := by decide +kernel
theorem d1135_100 : decode (mb 1135) 100 = .ok (.aload_n 0, 1) := by decide +kernel
theorem d1135_101 : decode (mb 1135) 101 = .ok (.getfield 216, 3) := by decide +kernel
theorem d1135_104 : decode (mb 1135) 104 = .ok (.iastore, 1) := by decide +kernel
theorem d1135_105 : decode (mb 1135) 105 = .ok (.aload_n 0, 1) := by decide +kernel
theorem d1135_106 : decode (mb 1135) 106 = .ok (.getfield 67, 3) := by decide +kernel
theorem d1135_109 : decode (mb 1135) 109 = .ok (.aload_n 0, 1) := by decide +kernel
theorem d1135_110 : decode (mb 1135) 110 = .ok (.getfield 213, 3) := by decide +kernel
theorem d1135_113 : decode (mb 1135) 113 = .ok (.iload_n 2, 1) := by decide +kernel
theorem d1135_114 : decode (mb 1135) 114 = .ok (.iastore, 1) := by decide +kernel
theorem d1135_115 : decode (mb 1135) 115 = .ok (.aload_n 0, 1) := by decide +kernel
theorem d1135_116 : decode (mb 1135) 116 = .ok (.dup, 1) := by decide +kernel
theorem d1135_117 : decode (mb 1135) 117 = .ok (.getfield 216, 3) := by decide +kernel
theorem d1135_120 : decode (mb 1135) 120 = .ok (.iload_n 2, 1) := by decide +kernel
theorem d1135_121 : decode (mb 1135) 121 = .ok (.iadd, 1) := by decide +kernel
theorem d1135_122 : decode (mb 1135) 122 = .ok (.putfield 216, 3) := by decide +kernel
theorem d1135_125 : decode (mb 1135) 125 = .ok (.aload_n 0, 1) := by decide +kernel
theorem d1135_126 : decode (mb 1135) 126 = .ok (.dup, 1) := by decide +kernel
theorem d1135_127 : decode (mb 1135) 127 = .ok (.getfield 213, 3) := by decide +kernel
theorem d1135_130 : decode (mb 1135) 130 = .ok (.iconst 1, 1) := by decide +kernel
theorem d1135_131 : decode (mb 1135) 131 = .ok (.iadd, 1) := by decide +kernel
theorem d1135_132 : decode (mb 1135) 132 = .ok (.putfield 213, 3) := by decide +kernel
theorem d1135_135 : decode (mb 1135) 135 = .ok (.aload_n 0, 1) := by decide +kernel
theorem d1135_136 : decode (mb 1135) 136 = .ok (.iconst 3, 1) := by decide +kernel
theorem d1135_137 : decode (mb 1135) 137 = .ok (.aload_n 0, 1) := by decide +kernel
theorem d1135_138 : decode (mb 1135) 138 = .ok (.getfield 213, 3) := by decide +kernel
theorem d1135_141 : decode (mb 1135) 141 = .ok (.iconst 1, 1) := by decide +kernel
theorem d1135_142 : decode (mb 1135) 142 = .ok (.isub, 1) := by decide +kernel
theorem d1135_143 : decode (mb 1135) 143 = .ok (.invokevirtual 211, 3) := by decide +kernel
theorem d1135_146 : decode (mb 1135) 146 = .ok (.iconst 0, 1) := by decide +kernel
theorem d1135_147 : decode (mb 1135) 147 = .ok (.ireturn, 1) := by decide +kernel
theorem x1135_0 {S : List Value} {h : HP} {l1 l2 : Value} {a0 : Nat} : pX 1135 0 [.ref a0, l1, l2] S h = pX 1135 1 [.ref a0, l1, l2] (.ref a0 :: S) h := pX_stp d1135_0 rfl rfl rfl
theorem x1135_1 {S : List Value} {h : HP} {l1 l2 : Value} {a0 : Nat} : pX 1135 1 [.ref a0, l1, l2] S h = pX 1135 2 [.ref a0, l1, l2] (.ref a0 :: S) h := pX_stp d1135_1 rfl rfl rfl
theorem x1135_2 {L S : List Value} {h : HP} {a : Nat} (hk : hp_k h a = 12) : pX 1135 2 L (.ref a :: S) h = pX 1135 5 L (.int (hp_i h a 47) :: S) h := pX_get d1135_2 rfl rfl hk
theorem x1135_5 {L S : List Value} {h : HP} : pX 1135 5 L S h = pX 1135 6 L (.int 1 :: S) h := pX_iconst d1135_5 (by decide)
theorem x1135_6 {L : List Value} {h : HP} {x0 : Int32} {x1 : Int32} {a0 : Nat} (hk : hp_k h a0 = 12) : pX 1135 6 L [.int x0, .int x1, .ref a0] h = (pX 1130 0 [.ref a0, .int x1, .int x0] [] h).bind (fun q => pX 1135 9 L (q.1.toList ++ []) q.2) := pX_inv (a := a0) (t := 12) 1130 [.ref a0, .int x1, .int x0] [] d1135_6 rfl rfl rfl hk
theorem x1135_9 {S : List Value} {h : HP} {l0 l1 l2 : Value} {x0 : Int32} : pX 1135 9 [l0, l1, l2] (.int x0 :: S) h = pX 1135 10 [l0, .int x0, l2] S h := pX_stp d1135_9 rfl rfl rfl
theorem x1135_10 {S : List Value} {h : HP} {l0 l2 : Value} {x0 : Int32} : pX 1135 10 [l0, .int x0, l2] S h = pX 1135 11 [l0, .int x0, l2] (.int x0 :: S) h := pX_stp d1135_10 rfl rfl rfl
theorem x1135_11 {L S : List Value} {h : HP} {x : Int32} : pX 1135 11 L (.int x :: S) h = if x ≤ 0 then pX 1135 16 L S h else pX 1135 14 L S h := pX_if_le d1135_11 (by decide)
theorem x1135_14 {S : List Value} {h : HP} {l0 l2 : Value} {x0 : Int32} : pX 1135 14 [l0, .int x0, l2] S h = pX 1135 15 [l0, .int x0, l2] (.int x0 :: S) h := pX_stp d1135_14 rfl rfl rfl
theorem x1135_15 {L : List Value} {h : HP} {x : Int32} : pX 1135 15 L [.int x] h = some (some (.int x), h) := pX_ret d1135_15 rfl
theorem x1135_16 {S : List Value} {h : HP} {l1 l2 : Value} {a0 : Nat} : pX 1135 16 [.ref a0, l1, l2] S h = pX 1135 17 [.ref a0, l1, l2] (.ref a0 :: S) h := pX_stp d1135_16 rfl rfl rfl
theorem x1135_17 {S : List Value} {h : HP} {l1 l2 : Value} {a0 : Nat} : pX 1135 17 [.ref a0, l1, l2] S h = pX 1135 18 [.ref a0, l1, l2] (.ref a0 :: S) h := pX_stp d1135_17 rfl rfl rfl
theorem x1135_18 {L S : List Value} {h : HP} {a : Nat} (hk : hp_k h a = 12) : pX 1135 18 L (.ref a :: S) h = pX 1135 21 L (.int (hp_i h a 47) :: S) h := pX_get d1135_18 rfl rfl hk
theorem x1135_21 {L : List Value} {h : HP} {x0 : Int32} {a0 : Nat} (hk : hp_k h a0 = 12) : pX 1135 21 L [.int x0, .ref a0] h = (pX 1131 0 [.ref a0, .int x0] [] h).bind (fun q => pX 1135 24 L (q.1.toList ++ []) q.2) := pX_inv (a := a0) (t := 12) 1131 [.ref a0, .int x0] [] d1135_21 rfl rfl rfl hk
theorem x1135_24 {S : List Value} {h : HP} {l0 l1 l2 : Value} {x0 : Int32} : pX 1135 24 [l0, l1, l2] (.int x0 :: S) h = pX 1135 25 [l0, l1, .int x0] S h := pX_stp d1135_24 rfl rfl rfl
theorem x1135_25 {S : List Value} {h : HP} {l0 l1 : Value} {x0 : Int32} : pX 1135 25 [l0, l1, .int x0] S h = pX 1135 26 [l0, l1, .int x0] (.int x0 :: S) h := pX_stp d1135_25 rfl rfl rfl
theorem x1135_26 {L S : List Value} {h : HP} {x : Int32} : pX 1135 26 L (.int x :: S) h = if 0 ≤ x then pX 1135 31 L S h else pX 1135 29 L S h := pX_if_ge d1135_26 (by decide)
theorem x1135_29 {L S : List Value} {h : HP} : pX 1135 29 L S h = pX 1135 30 L (.int 4 :: S) h := pX_iconst d1135_29 (by decide)
theorem x1135_30 {L : List Value} {h : HP} {x : Int32} : pX 1135 30 L [.int x] h = some (some (.int x), h) := pX_ret d1135_30 rfl
theorem x1135_31 {S : List Value} {h : HP} {l1 l2 : Value} {a0 : Nat} : pX 1135 31 [.ref a0, l1, l2] S h = pX 1135 32 [.ref a0, l1, l2] (.ref a0 :: S) h := pX_stp d1135_31 rfl rfl rfl
theorem x1135_32 {S : List Value} {h : HP} {l1 l2 : Value} {a0 : Nat} : pX 1135 32 [.ref a0, l1, l2] S h = pX 1135 33 [.ref a0, l1, l2] (.ref a0 :: S) h := pX_stp d1135_32 rfl rfl rfl
theorem x1135_33 {L S : List Value} {h : HP} {a : Nat} (hk : hp_k h a = 12) : pX 1135 33 L (.ref a :: S) h = pX 1135 36 L (.ref (hp_a h a 7) :: S) h := pX_get d1135_33 rfl rfl hk
theorem x1135_36 {L S : List Value} {h : HP} : pX 1135 36 L S h = pX 1135 37 L (.int 3 :: S) h := pX_iconst d1135_36 (by decide)
theorem x1135_37 {L S : List Value} {h : HP} {a : Nat} {j : Int32} (hk : hp_k h a = 100) (hj : inb j (hp_l h a) = true) : pX 1135 37 L (.int j :: .ref a :: S) h = pX 1135 38 L (.int (hp_i h a (ix j)) :: S) h := pX_ild d1135_37 hk hj
theorem x1135_38 {L S : List Value} {h : HP} {x : Int32} : pX 1135 38 L (.int x :: S) h = pX 1135 39 L (.long x.toInt64 :: S) h := pX_stp d1135_38 rfl rfl rfl
theorem x1135_39 {S : List Value} {h : HP} {l0 l1 : Value} {x0 : Int32} : pX 1135 39 [l0, l1, .int x0] S h = pX 1135 40 [l0, l1, .int x0] (.int x0 :: S) h := pX_stp d1135_39 rfl rfl rfl
theorem x1135_40 {L S : List Value} {h : HP} {x : Int32} : pX 1135 40 L (.int x :: S) h = pX 1135 41 L (.long x.toInt64 :: S) h := pX_stp d1135_40 rfl rfl rfl
theorem x1135_41 {S : List Value} {h : HP} {l1 l2 : Value} {a0 : Nat} : pX 1135 41 [.ref a0, l1, l2] S h = pX 1135 42 [.ref a0, l1, l2] (.ref a0 :: S) h := pX_stp d1135_41 rfl rfl rfl
theorem x1135_42 {L S : List Value} {h : HP} {a : Nat} (hk : hp_k h a = 12) : pX 1135 42 L (.ref a :: S) h = pX 1135 45 L (.ref (hp_a h a 7) :: S) h := pX_get d1135_42 rfl rfl hk
theorem x1135_45 {L S : List Value} {h : HP} : pX 1135 45 L S h = pX 1135 46 L (.int 4 :: S) h := pX_iconst d1135_45 (by decide)
theorem x1135_46 {L S : List Value} {h : HP} {a : Nat} {j : Int32} (hk : hp_k h a = 100) (hj : inb j (hp_l h a) = true) : pX 1135 46 L (.int j :: .ref a :: S) h = pX 1135 47 L (.int (hp_i h a (ix j)) :: S) h := pX_ild d1135_46 hk hj
theorem x1135_47 {L S : List Value} {h : HP} {x : Int32} : pX 1135 47 L (.int x :: S) h = pX 1135 48 L (.long x.toInt64 :: S) h := pX_stp d1135_47 rfl rfl rfl
theorem x1135_48 {L S : List Value} {h : HP} {x y : Int64} : pX 1135 48 L (.long y :: .long x :: S) h = pX 1135 49 L (.long (x * y) :: S) h := pX_stp d1135_48 rfl rfl rfl
theorem x1135_49 {L S : List Value} {h : HP} {x y : Int64} : pX 1135 49 L (.long y :: .long x :: S) h = pX 1135 50 L (.long (x + y) :: S) h := pX_stp d1135_49 rfl rfl rfl
theorem x1135_50 {L : List Value} {h : HP} {z0 : Int64} {a0 : Nat} (hk : hp_k h a0 = 12) : pX 1135 50 L [.long z0, .ref a0] h = (pX 1122 0 [.ref a0, .long z0, .retAddr 0] [] h).bind (fun q => pX 1135 53 L (q.1.toList ++ []) q.2) := pX_inv (a := a0) (t := 12) 1122 [.ref a0, .long z0] [] d1135_50 rfl rfl rfl hk
theorem x1135_53 {L S : List Value} {h : HP} {x : Int32} : pX 1135 53 L (.int x :: S) h = if x = 0 then pX 1135 56 L S h else pX 1135 59 L S h := pX_if_ne d1135_53 (by decide)
theorem x1135_56 {L S : List Value} {h : HP} : pX 1135 56 L S h = pX 1135 58 L (.int 10 :: S) h := pX_bipush d1135_56 (by decide)
theorem x1135_58 {L : List Value} {h : HP} {x : Int32} : pX 1135 58 L [.int x] h = some (some (.int x), h) := pX_ret d1135_58 rfl
theorem x1135_59 {S : List Value} {h : HP} {l1 l2 : Value} {a0 : Nat} : pX 1135 59 [.ref a0, l1, l2] S h = pX 1135 60 [.ref a0, l1, l2] (.ref a0 :: S) h := pX_stp d1135_59 rfl rfl rfl
theorem x1135_60 {L S : List Value} {h : HP} {a : Nat} (hk : hp_k h a = 12) : pX 1135 60 L (.ref a :: S) h = pX 1135 63 L (.ref (hp_a h a 39) :: S) h := pX_get d1135_60 rfl rfl hk
theorem x1135_63 {L S : List Value} {h : HP} : pX 1135 63 L S h = pX 1135 64 L (.int 4 :: S) h := pX_iconst d1135_63 (by decide)
theorem x1135_64 {L S : List Value} {h : HP} {x0 : Int32} {a0 : Nat} : pX 1135 64 L (.int x0 :: .ref a0 :: S) h = pX 1135 65 L (.int x0 :: .ref a0 :: .int x0 :: .ref a0 :: S) h := pX_stp d1135_64 rfl rfl rfl
theorem x1135_65 {L S : List Value} {h : HP} {a : Nat} {j : Int32} (hk : hp_k h a = 100) (hj : inb j (hp_l h a) = true) : pX 1135 65 L (.int j :: .ref a :: S) h = pX 1135 66 L (.int (hp_i h a (ix j)) :: S) h := pX_ild d1135_65 hk hj
theorem x1135_66 {L S : List Value} {h : HP} : pX 1135 66 L S h = pX 1135 67 L (.int 1 :: S) h := pX_iconst d1135_66 (by decide)
theorem x1135_67 {L S : List Value} {h : HP} {x y : Int32} : pX 1135 67 L (.int y :: .int x :: S) h = pX 1135 68 L (.int (x + y) :: S) h := pX_stp d1135_67 rfl rfl rfl
theorem x1135_68 {L S : List Value} {h : HP} {a : Nat} {j x : Int32} (hk : hp_k h a = 100) (hj : inb j (hp_l h a) = true) : pX 1135 68 L (.int x :: .int j :: .ref a :: S) h = pX 1135 69 L S (hp_wi h a (ix j) x) := pX_ist d1135_68 hk hj
theorem x1135_69 {S : List Value} {h : HP} {l1 l2 : Value} {a0 : Nat} : pX 1135 69 [.ref a0, l1, l2] S h = pX 1135 70 [.ref a0, l1, l2] (.ref a0 :: S) h := pX_stp d1135_69 rfl rfl rfl
theorem x1135_70 {L S : List Value} {h : HP} {a : Nat} (hk : hp_k h a = 12) : pX 1135 70 L (.ref a :: S) h = pX 1135 73 L (.ref (hp_a h a 39) :: S) h := pX_get d1135_70 rfl rfl hk
theorem x1135_73 {L S : List Value} {h : HP} : pX 1135 73 L S h = pX 1135 74 L (.int 5 :: S) h := pX_iconst d1135_73 (by decide)
theorem x1135_74 {L S : List Value} {h : HP} {x0 : Int32} {a0 : Nat} : pX 1135 74 L (.int x0 :: .ref a0 :: S) h = pX 1135 75 L (.int x0 :: .ref a0 :: .int x0 :: .ref a0 :: S) h := pX_stp d1135_74 rfl rfl rfl
theorem x1135_75 {L S : List Value} {h : HP} {a : Nat} {j : Int32} (hk : hp_k h a = 100) (hj : inb j (hp_l h a) = true) : pX 1135 75 L (.int j :: .ref a :: S) h = pX 1135 76 L (.int (hp_i h a (ix j)) :: S) h := pX_ild d1135_75 hk hj
theorem x1135_76 {S : List Value} {h : HP} {l0 l1 : Value} {x0 : Int32} : pX 1135 76 [l0, l1, .int x0] S h = pX 1135 77 [l0, l1, .int x0] (.int x0 :: S) h := pX_stp d1135_76 rfl rfl rfl
theorem x1135_77 {L S : List Value} {h : HP} {x y : Int32} : pX 1135 77 L (.int y :: .int x :: S) h = pX 1135 78 L (.int (x + y) :: S) h := pX_stp d1135_77 rfl rfl rfl
theorem x1135_78 {L S : List Value} {h : HP} {a : Nat} {j x : Int32} (hk : hp_k h a = 100) (hj : inb j (hp_l h a) = true) : pX 1135 78 L (.int x :: .int j :: .ref a :: S) h = pX 1135 79 L S (hp_wi h a (ix j) x) := pX_ist d1135_78 hk hj
theorem x1135_79 {S : List Value} {h : HP} {l1 l2 : Value} {a0 : Nat} : pX 1135 79 [.ref a0, l1, l2] S h = pX 1135 80 [.ref a0, l1, l2] (.ref a0 :: S) h := pX_stp d1135_79 rfl rfl rfl
theorem x1135_80 {L S : List Value} {h : HP} {a : Nat} (hk : hp_k h a = 12) : pX 1135 80 L (.ref a :: S) h = pX 1135 83 L (.ref (hp_a h a 24) :: S) h := pX_get d1135_80 rfl rfl hk
theorem x1135_83 {S : List Value} {h : HP} {l1 l2 : Value} {a0 : Nat} : pX 1135 83 [.ref a0, l1, l2] S h = pX 1135 84 [.ref a0, l1, l2] (.ref a0 :: S) h := pX_stp d1135_83 rfl rfl rfl
theorem x1135_84 {L S : List Value} {h : HP} {a : Nat} (hk : hp_k h a = 12) : pX 1135 84 L (.ref a :: S) h = pX 1135 87 L (.int (hp_i h a 23) :: S) h := pX_get d1135_84 rfl rfl hk
theorem x1135_87 {S : List Value} {h : HP} {l1 l2 : Value} {a0 : Nat} : pX 1135 87 [.ref a0, l1, l2] S h = pX 1135 88 [.ref a0, l1, l2] (.ref a0 :: S) h := pX_stp d1135_87 rfl rfl rfl
theorem x1135_88 {L S : List Value} {h : HP} {a : Nat} (hk : hp_k h a = 12) : pX 1135 88 L (.ref a :: S) h = pX 1135 91 L (.int (hp_i h a 48) :: S) h := pX_get d1135_88 rfl rfl hk
theorem x1135_91 {L S : List Value} {h : HP} {a : Nat} {j x : Int32} (hk : hp_k h a = 100) (hj : inb j (hp_l h a) = true) : pX 1135 91 L (.int x :: .int j :: .ref a :: S) h = pX 1135 92 L S (hp_wi h a (ix j) x) := pX_ist d1135_91 hk hj
theorem x1135_92 {S : List Value} {h : HP} {l1 l2 : Value} {a0 : Nat} : pX 1135 92 [.ref a0, l1, l2] S h = pX 1135 93 [.ref a0, l1, l2] (.ref a0 :: S) h := pX_stp d1135_92 rfl rfl rfl
theorem x1135_93 {L S : List Value} {h : HP} {a : Nat} (hk : hp_k h a = 12) : pX 1135 93 L (.ref a :: S) h = pX 1135 96 L (.ref (hp_a h a 25) :: S) h := pX_get d1135_93 rfl rfl hk
theorem x1135_96 {S : List Value} {h : HP} {l1 l2 : Value} {a0 : Nat} : pX 1135 96 [.ref a0, l1, l2] S h = pX 1135 97 [.ref a0, l1, l2] (.ref a0 :: S) h := pX_stp d1135_96 rfl rfl rfl
theorem x1135_97 {L S : List Value} {h : HP} {a : Nat} (hk : hp_k h a = 12) : pX 1135 97 L (.ref a :: S) h = pX 1135 100 L (.int (hp_i h a 23) :: S) h := pX_get d1135_97 rfl rfl hk
theorem x1135_100 {S : List Value} {h : HP} {l1 l2 : Value} {a0 : Nat} : pX 1135 100 [.ref a0, l1, l2] S h = pX 1135 101 [.ref a0, l1, l2] (.ref a0 :: S) h := pX_stp d1135_100 rfl rfl rfl
theorem x1135_101 {L S : List Value} {h : HP} {a : Nat} (hk : hp_k h a = 12) : pX 1135 101 L (.ref a :: S) h = pX 1135 104 L (.int (hp_i h a 28) :: S) h := pX_get d1135_101 rfl rfl hk
theorem x1135_104 {L S : List Value} {h : HP} {a : Nat} {j x : Int32} (hk : hp_k h a = 100) (hj : inb j (hp_l h a) = true) : pX 1135 104 L (.int x :: .int j :: .ref a :: S) h = pX 1135 105 L S (hp_wi h a (ix j) x) := pX_ist d1135_104 hk hj
theorem x1135_105 {S : List Value} {h : HP} {l1 l2 : Value} {a0 : Nat} : pX 1135 105 [.ref a0, l1, l2] S h = pX 1135 106 [.ref a0, l1, l2] (.ref a0 :: S) h := pX_stp d1135_105 rfl rfl rfl
theorem x1135_106 {L S : List Value} {h : HP} {a : Nat} (hk : hp_k h a = 12) : pX 1135 106 L (.ref a :: S) h = pX 1135 109 L (.ref (hp_a h a 26) :: S) h := pX_get d1135_106 rfl rfl hk
theorem x1135_109 {S : List Value} {h : HP} {l1 l2 : Value} {a0 : Nat} : pX 1135 109 [.ref a0, l1, l2] S h = pX 1135 110 [.ref a0, l1, l2] (.ref a0 :: S) h := pX_stp d1135_109 rfl rfl rfl
theorem x1135_110 {L S : List Value} {h : HP} {a : Nat} (hk : hp_k h a = 12) : pX 1135 110 L (.ref a :: S) h = pX 1135 113 L (.int (hp_i h a 23) :: S) h := pX_get d1135_110 rfl rfl hk
theorem x1135_113 {S : List Value} {h : HP} {l0 l1 : Value} {x0 : Int32} : pX 1135 113 [l0, l1, .int x0] S h = pX 1135 114 [l0, l1, .int x0] (.int x0 :: S) h := pX_stp d1135_113 rfl rfl rfl
theorem x1135_114 {L S : List Value} {h : HP} {a : Nat} {j x : Int32} (hk : hp_k h a = 100) (hj : inb j (hp_l h a) = true) : pX 1135 114 L (.int x :: .int j :: .ref a :: S) h = pX 1135 115 L S (hp_wi h a (ix j) x) := pX_ist d1135_114 hk hj
theorem x1135_115 {S : List Value} {h : HP} {l1 l2 : Value} {a0 : Nat} : pX 1135 115 [.ref a0, l1, l2] S h = pX 1135 116 [.ref a0, l1, l2] (.ref a0 :: S) h := pX_stp d1135_115 rfl rfl rfl
theorem x1135_116 {L S : List Value} {h : HP} {a0 : Nat} : pX 1135 116 L (.ref a0 :: S) h = pX 1135 117 L (.ref a0 :: .ref a0 :: S) h := pX_stp d1135_116 rfl rfl rfl
theorem x1135_117 {L S : List Value} {h : HP} {a : Nat} (hk : hp_k h a = 12) : pX 1135 117 L (.ref a :: S) h = pX 1135 120 L (.int (hp_i h a 28) :: S) h := pX_get d1135_117 rfl rfl hk
theorem x1135_120 {S : List Value} {h : HP} {l0 l1 : Value} {x0 : Int32} : pX 1135 120 [l0, l1, .int x0] S h = pX 1135 121 [l0, l1, .int x0] (.int x0 :: S) h := pX_stp d1135_120 rfl rfl rfl
theorem x1135_121 {L S : List Value} {h : HP} {x y : Int32} : pX 1135 121 L (.int y :: .int x :: S) h = pX 1135 122 L (.int (x + y) :: S) h := pX_stp d1135_121 rfl rfl rfl
theorem x1135_122 {L S : List Value} {h : HP} {a : Nat} {x : Int32} (hk : hp_k h a = 12) : pX 1135 122 L (.int x :: .ref a :: S) h = pX 1135 125 L S (hp_wi h a 28 x) := pX_put d1135_122 rfl rfl rfl hk
theorem x1135_125 {S : List Value} {h : HP} {l1 l2 : Value} {a0 : Nat} : pX 1135 125 [.ref a0, l1, l2] S h = pX 1135 126 [.ref a0, l1, l2] (.ref a0 :: S) h := pX_stp d1135_125 rfl rfl rfl
theorem x1135_126 {L S : List Value} {h : HP} {a0 : Nat} : pX 1135 126 L (.ref a0 :: S) h = pX 1135 127 L (.ref a0 :: .ref a0 :: S) h := pX_stp d1135_126 rfl rfl rfl
theorem x1135_127 {L S : List Value} {h : HP} {a : Nat} (hk : hp_k h a = 12) : pX 1135 127 L (.ref a :: S) h = pX 1135 130 L (.int (hp_i h a 23) :: S) h := pX_get d1135_127 rfl rfl hk
theorem x1135_130 {L S : List Value} {h : HP} : pX 1135 130 L S h = pX 1135 131 L (.int 1 :: S) h := pX_iconst d1135_130 (by decide)
theorem x1135_131 {L S : List Value} {h : HP} {x y : Int32} : pX 1135 131 L (.int y :: .int x :: S) h = pX 1135 132 L (.int (x + y) :: S) h := pX_stp d1135_131 rfl rfl rfl
theorem x1135_132 {L S : List Value} {h : HP} {a : Nat} {x : Int32} (hk : hp_k h a = 12) : pX 1135 132 L (.int x :: .ref a :: S) h = pX 1135 135 L S (hp_wi h a 23 x) := pX_put d1135_132 rfl rfl rfl hk
theorem x1135_135 {S : List Value} {h : HP} {l1 l2 : Value} {a0 : Nat} : pX 1135 135 [.ref a0, l1, l2] S h = pX 1135 136 [.ref a0, l1, l2] (.ref a0 :: S) h := pX_stp d1135_135 rfl rfl rfl
theorem x1135_136 {L S : List Value} {h : HP} : pX 1135 136 L S h = pX 1135 137 L (.int 3 :: S) h := pX_iconst d1135_136 (by decide)
theorem x1135_137 {S : List Value} {h : HP} {l1 l2 : Value} {a0 : Nat} : pX 1135 137 [.ref a0, l1, l2] S h = pX 1135 138 [.ref a0, l1, l2] (.ref a0 :: S) h := pX_stp d1135_137 rfl rfl rfl
theorem x1135_138 {L S : List Value} {h : HP} {a : Nat} (hk : hp_k h a = 12) : pX 1135 138 L (.ref a :: S) h = pX 1135 141 L (.int (hp_i h a 23) :: S) h := pX_get d1135_138 rfl rfl hk
theorem x1135_141 {L S : List Value} {h : HP} : pX 1135 141 L S h = pX 1135 142 L (.int 1 :: S) h := pX_iconst d1135_141 (by decide)
theorem x1135_142 {L S : List Value} {h : HP} {x y : Int32} : pX 1135 142 L (.int y :: .int x :: S) h = pX 1135 143 L (.int (x - y) :: S) h := pX_stp d1135_142 rfl rfl rfl
theorem x1135_143 {L : List Value} {h : HP} {x0 : Int32} {x1 : Int32} {a0 : Nat} (hk : hp_k h a0 = 12) : pX 1135 143 L [.int x0, .int x1, .ref a0] h = (pX 1129 0 [.ref a0, .int x1, .int x0] [] h).bind (fun q => pX 1135 146 L (q.1.toList ++ []) q.2) := pX_inv (a := a0) (t := 12) 1129 [.ref a0, .int x1, .int x0] [] d1135_143 rfl rfl rfl hk
theorem x1135_146 {L S : List Value} {h : HP} : pX 1135 146 L S h = pX 1135 147 L (.int 0 :: S) h := pX_iconst d1135_146 (by decide)
theorem x1135_147 {L : List Value} {h : HP} {x : Int32} : pX 1135 147 L [.int x] h = some (some (.int x), h) := pX_ret d1135_147 rfl
theorem d1136_0 : decode (mb 1136) 0 = .ok (.aload_n 0, 1) := by decide +kernel
theorem d1136_1 : decode (mb 1136) 1 = .ok (.aload_n 0, 1) := by decide +kernel
theorem d1136_2 : decode (mb 1136) 2 = .ok (.getfield 28, 3) := by decide +kernel
theorem d1136_5 : decode (mb 1136) 5 = .ok (.iconst 3, 1) := by decide +kernel
theorem d1136_6 : decode (mb 1136) 6 = .ok (.iaload, 1) := by decide +kernel
theorem d1136_7 : decode (mb 1136) 7 = .ok (.i2l, 1) := by decide +kernel
theorem d1136_8 : decode (mb 1136) 8 = .ok (.invokevirtual 166, 3) := by decide +kernel
theorem d1136_11 : decode (mb 1136) 11 = .ok (.ifCond .ne 6, 3) := by decide +kernel
theorem d1136_14 : decode (mb 1136) 14 = .ok (.bipush 10, 2) := by decide +kernel
theorem d1136_16 : decode (mb 1136) 16 = .ok (.ireturn, 1) := by decide +kernel
theorem d1136_17 : decode (mb 1136) 17 = .ok (.aload_n 0, 1) := by decide +kernel
theorem d1136_18 : decode (mb 1136) 18 = .ok (.getfield 95, 3) := by decide +kernel
theorem d1136_21 : decode (mb 1136) 21 = .ok (.iconst 4, 1) := by decide +kernel
theorem d1136_22 : decode (mb 1136) 22 = .ok (.dup2, 1) := by decide +kernel
theorem d1136_23 : decode (mb 1136) 23 = .ok (.iaload, 1) := by decide +kernel
theorem d1136_24 : decode (mb 1136) 24 = .ok (.iconst 1, 1) := by decide +kernel
theorem d1136_25 : decode (mb 1136) 25 = .ok (.iadd, 1) := by decide +kernel
theorem d1136_26 : decode (mb 1136) 26 = .ok (.iastore, 1) := by decide +kernel
theorem d1136_27 : decode (mb 1136) 27 = .ok (.aload_n 0, 1) := by decide +kernel
theorem d1136_28 : decode (mb 1136) 28 = .ok (.getfield 46, 3) := by decide +kernel
theorem d1136_31 : decode (mb 1136) 31 = .ok (.aload_n 0, 1) := by decide +kernel
theorem d1136_32 : decode (mb 1136) 32 = .ok (.getfield 163, 3) := by decide +kernel
theorem d1136_35 : decode (mb 1136) 35 = .ok (.aload_n 0, 1) := by decide +kernel
theorem d1136_36 : decode (mb 1136) 36 = .ok (.getfield 195, 3) := by decide +kernel
theorem d1136_39 : decode (mb 1136) 39 = .ok (.iastore, 1) := by decide +kernel
theorem d1136_40 : decode (mb 1136) 40 = .ok (.aload_n 0, 1) := by decide +kernel
theorem d1136_41 : decode (mb 1136) 41 = .ok (.dup, 1) := by decide +kernel
theorem d1136_42 : decode (mb 1136) 42 = .ok (.getfield 163, 3) := by decide +kernel
theorem d1136_45 : decode (mb 1136) 45 = .ok (.iconst 1, 1) := by decide +kernel
theorem d1136_46 : decode (mb 1136) 46 = .ok (.iadd, 1) := by decide +kernel
theorem d1136_47 : decode (mb 1136) 47 = .ok (.putfield 163, 3) := by decide +kernel
theorem d1136_50 : decode (mb 1136) 50 = .ok (.aload_n 0, 1) := by decide +kernel
theorem d1136_51 : decode (mb 1136) 51 = .ok (.iconst 2, 1) := by decide +kernel
theorem d1136_52 : decode (mb 1136) 52 = .ok (.aload_n 0, 1) := by decide +kernel
theorem d1136_53 : decode (mb 1136) 53 = .ok (.getfield 163, 3) := by decide +kernel
theorem d1136_56 : decode (mb 1136) 56 = .ok (.iconst 1, 1) := by decide +kernel
theorem d1136_57 : decode (mb 1136) 57 = .ok (.isub, 1) := by decide +kernel
theorem d1136_58 : decode (mb 1136) 58 = .ok (.invokevirtual 211, 3) := by decide +kernel
theorem d1136_61 : decode (mb 1136) 61 = .ok (.iconst 0, 1) := by decide +kernel
theorem d1136_62 : decode (mb 1136) 62 = .ok (.ireturn, 1) := by decide +kernel
theorem x1136_0 {S : List Value} {h : HP}  {a0 : Nat} : pX 1136 0 [.ref a0] S h = pX 1136 1 [.ref a0] (.ref a0 :: S) h := pX_stp d1136_0 rfl rfl rfl
theorem x1136_1 {S : List Value} {h : HP}  {a0 : Nat} : pX 1136 1 [.ref a0] S h = pX 1136 2 [.ref a0] (.ref a0 :: S) h := pX_stp d1136_1 rfl rfl rfl
theorem x1136_2 {L S : List Value} {h : HP} {a : Nat} (hk : hp_k h a = 12) : pX 1136 2 L (.ref a :: S) h = pX 1136 5 L (.ref (hp_a h a 7) :: S) h := pX_get d1136_2 rfl rfl hk
theorem x1136_5 {L S : List Value} {h : HP} : pX 1136 5 L S h = pX 1136 6 L (.int 3 :: S) h := pX_iconst d1136_5 (by decide)
theorem x1136_6 {L S : List Value} {h : HP} {a : Nat} {j : Int32} (hk : hp_k h a = 100) (hj : inb j (hp_l h a) = true) : pX 1136 6 L (.int j :: .ref a :: S) h = pX 1136 7 L (.int (hp_i h a (ix j)) :: S) h := pX_ild d1136_6 hk hj
theorem x1136_7 {L S : List Value} {h : HP} {x : Int32} : pX 1136 7 L (.int x :: S) h = pX 1136 8 L (.long x.toInt64 :: S) h := pX_stp d1136_7 rfl rfl rfl
theorem x1136_8 {L : List Value} {h : HP} {z0 : Int64} {a0 : Nat} (hk : hp_k h a0 = 12) : pX 1136 8 L [.long z0, .ref a0] h = (pX 1122 0 [.ref a0, .long z0, .retAddr 0] [] h).bind (fun q => pX 1136 11 L (q.1.toList ++ []) q.2) := pX_inv (a := a0) (t := 12) 1122 [.ref a0, .long z0] [] d1136_8 rfl rfl rfl hk
theorem x1136_11 {L S : List Value} {h : HP} {x : Int32} : pX 1136 11 L (.int x :: S) h = if x = 0 then pX 1136 14 L S h else pX 1136 17 L S h := pX_if_ne d1136_11 (by decide)
theorem x1136_14 {L S : List Value} {h : HP} : pX 1136 14 L S h = pX 1136 16 L (.int 10 :: S) h := pX_bipush d1136_14 (by decide)
theorem x1136_16 {L : List Value} {h : HP} {x : Int32} : pX 1136 16 L [.int x] h = some (some (.int x), h) := pX_ret d1136_16 rfl
theorem x1136_17 {S : List Value} {h : HP}  {a0 : Nat} : pX 1136 17 [.ref a0] S h = pX 1136 18 [.ref a0] (.ref a0 :: S) h := pX_stp d1136_17 rfl rfl rfl
theorem x1136_18 {L S : List Value} {h : HP} {a : Nat} (hk : hp_k h a = 12) : pX 1136 18 L (.ref a :: S) h = pX 1136 21 L (.ref (hp_a h a 39) :: S) h := pX_get d1136_18 rfl rfl hk
theorem x1136_21 {L S : List Value} {h : HP} : pX 1136 21 L S h = pX 1136 22 L (.int 4 :: S) h := pX_iconst d1136_21 (by decide)
theorem x1136_22 {L S : List Value} {h : HP} {x0 : Int32} {a0 : Nat} : pX 1136 22 L (.int x0 :: .ref a0 :: S) h = pX 1136 23 L (.int x0 :: .ref a0 :: .int x0 :: .ref a0 :: S) h := pX_stp d1136_22 rfl rfl rfl
theorem x1136_23 {L S : List Value} {h : HP} {a : Nat} {j : Int32} (hk : hp_k h a = 100) (hj : inb j (hp_l h a) = true) : pX 1136 23 L (.int j :: .ref a :: S) h = pX 1136 24 L (.int (hp_i h a (ix j)) :: S) h := pX_ild d1136_23 hk hj
theorem x1136_24 {L S : List Value} {h : HP} : pX 1136 24 L S h = pX 1136 25 L (.int 1 :: S) h := pX_iconst d1136_24 (by decide)
theorem x1136_25 {L S : List Value} {h : HP} {x y : Int32} : pX 1136 25 L (.int y :: .int x :: S) h = pX 1136 26 L (.int (x + y) :: S) h := pX_stp d1136_25 rfl rfl rfl
theorem x1136_26 {L S : List Value} {h : HP} {a : Nat} {j x : Int32} (hk : hp_k h a = 100) (hj : inb j (hp_l h a) = true) : pX 1136 26 L (.int x :: .int j :: .ref a :: S) h = pX 1136 27 L S (hp_wi h a (ix j) x) := pX_ist d1136_26 hk hj
theorem x1136_27 {S : List Value} {h : HP}  {a0 : Nat} : pX 1136 27 [.ref a0] S h = pX 1136 28 [.ref a0] (.ref a0 :: S) h := pX_stp d1136_27 rfl rfl rfl
theorem x1136_28 {L S : List Value} {h : HP} {a : Nat} (hk : hp_k h a = 12) : pX 1136 28 L (.ref a :: S) h = pX 1136 31 L (.ref (hp_a h a 18) :: S) h := pX_get d1136_28 rfl rfl hk
theorem x1136_31 {S : List Value} {h : HP}  {a0 : Nat} : pX 1136 31 [.ref a0] S h = pX 1136 32 [.ref a0] (.ref a0 :: S) h := pX_stp d1136_31 rfl rfl rfl
theorem x1136_32 {L S : List Value} {h : HP} {a : Nat} (hk : hp_k h a = 12) : pX 1136 32 L (.ref a :: S) h = pX 1136 35 L (.int (hp_i h a 17) :: S) h := pX_get d1136_32 rfl rfl hk
theorem x1136_35 {S : List Value} {h : HP}  {a0 : Nat} : pX 1136 35 [.ref a0] S h = pX 1136 36 [.ref a0] (.ref a0 :: S) h := pX_stp d1136_35 rfl rfl rfl
theorem x1136_36 {L S : List Value} {h : HP} {a : Nat} (hk : hp_k h a = 12) : pX 1136 36 L (.ref a :: S) h = pX 1136 39 L (.int (hp_i h a 47) :: S) h := pX_get d1136_36 rfl rfl hk
theorem x1136_39 {L S : List Value} {h : HP} {a : Nat} {j x : Int32} (hk : hp_k h a = 100) (hj : inb j (hp_l h a) = true) : pX 1136 39 L (.int x :: .int j :: .ref a :: S) h = pX 1136 40 L S (hp_wi h a (ix j) x) := pX_ist d1136_39 hk hj
theorem x1136_40 {S : List Value} {h : HP}  {a0 : Nat} : pX 1136 40 [.ref a0] S h = pX 1136 41 [.ref a0] (.ref a0 :: S) h := pX_stp d1136_40 rfl rfl rfl
theorem x1136_41 {L S : List Value} {h : HP} {a0 : Nat} : pX 1136 41 L (.ref a0 :: S) h = pX 1136 42 L (.ref a0 :: .ref a0 :: S) h := pX_stp d1136_41 rfl rfl rfl
theorem x1136_42 {L S : List Value} {h : HP} {a : Nat} (hk : hp_k h a = 12) : pX 1136 42 L (.ref a :: S) h = pX 1136 45 L (.int (hp_i h a 17) :: S) h := pX_get d1136_42 rfl rfl hk
theorem x1136_45 {L S : List Value} {h : HP} : pX 1136 45 L S h = pX 1136 46 L (.int 1 :: S) h := pX_iconst d1136_45 (by decide)
theorem x1136_46 {L S : List Value} {h : HP} {x y : Int32} : pX 1136 46 L (.int y :: .int x :: S) h = pX 1136 47 L (.int (x + y) :: S) h := pX_stp d1136_46 rfl rfl rfl
theorem x1136_47 {L S : List Value} {h : HP} {a : Nat} {x : Int32} (hk : hp_k h a = 12) : pX 1136 47 L (.int x :: .ref a :: S) h = pX 1136 50 L S (hp_wi h a 17 x) := pX_put d1136_47 rfl rfl rfl hk
theorem x1136_50 {S : List Value} {h : HP}  {a0 : Nat} : pX 1136 50 [.ref a0] S h = pX 1136 51 [.ref a0] (.ref a0 :: S) h := pX_stp d1136_50 rfl rfl rfl
theorem x1136_51 {L S : List Value} {h : HP} : pX 1136 51 L S h = pX 1136 52 L (.int 2 :: S) h := pX_iconst d1136_51 (by decide)
theorem x1136_52 {S : List Value} {h : HP}  {a0 : Nat} : pX 1136 52 [.ref a0] S h = pX 1136 53 [.ref a0] (.ref a0 :: S) h := pX_stp d1136_52 rfl rfl rfl
theorem x1136_53 {L S : List Value} {h : HP} {a : Nat} (hk : hp_k h a = 12) : pX 1136 53 L (.ref a :: S) h = pX 1136 56 L (.int (hp_i h a 17) :: S) h := pX_get d1136_53 rfl rfl hk
theorem x1136_56 {L S : List Value} {h : HP} : pX 1136 56 L S h = pX 1136 57 L (.int 1 :: S) h := pX_iconst d1136_56 (by decide)
theorem x1136_57 {L S : List Value} {h : HP} {x y : Int32} : pX 1136 57 L (.int y :: .int x :: S) h = pX 1136 58 L (.int (x - y) :: S) h := pX_stp d1136_57 rfl rfl rfl
theorem x1136_58 {L : List Value} {h : HP} {x0 : Int32} {x1 : Int32} {a0 : Nat} (hk : hp_k h a0 = 12) : pX 1136 58 L [.int x0, .int x1, .ref a0] h = (pX 1129 0 [.ref a0, .int x1, .int x0] [] h).bind (fun q => pX 1136 61 L (q.1.toList ++ []) q.2) := pX_inv (a := a0) (t := 12) 1129 [.ref a0, .int x1, .int x0] [] d1136_58 rfl rfl rfl hk
theorem x1136_61 {L S : List Value} {h : HP} : pX 1136 61 L S h = pX 1136 62 L (.int 0 :: S) h := pX_iconst d1136_61 (by decide)
theorem x1136_62 {L : List Value} {h : HP} {x : Int32} : pX 1136 62 L [.int x] h = some (some (.int x), h) := pX_ret d1136_62 rfl
theorem d1137_0 : decode (mb 1137) 0 = .ok (.iload_n 0, 1) := by decide +kernel
theorem d1137_1 : decode (mb 1137) 1 = .ok (.iconst 1, 1) := by decide +kernel
theorem d1137_2 : decode (mb 1137) 2 = .ok (.if_icmp .ne 8, 3) := by decide +kernel
theorem d1137_5 : decode (mb 1137) 5 = .ok (.iload_n 1, 1) := by decide +kernel
theorem d1137_6 : decode (mb 1137) 6 = .ok (.i2b, 1) := by decide +kernel
theorem d1137_7 : decode (mb 1137) 7 = .ok (.goto 16, 3) := by decide +kernel
theorem d1137_10 : decode (mb 1137) 10 = .ok (.iload_n 0, 1) := by decide +kernel
theorem d1137_11 : decode (mb 1137) 11 = .ok (.iconst 2, 1) := by decide +kernel
theorem d1137_12 : decode (mb 1137) 12 = .ok (.if_icmp .ne 10, 3) := by decide +kernel
theorem d1137_15 : decode (mb 1137) 15 = .ok (.iload_n 1, 1) := by decide +kernel
theorem d1137_16 : decode (mb 1137) 16 = .ok (.ldc 219, 2) := by decide +kernel
theorem d1137_18 : decode (mb 1137) 18 = .ok (.iand, 1) := by decide +kernel
theorem d1137_19 : decode (mb 1137) 19 = .ok (.goto 4, 3) := by decide +kernel
theorem d1137_22 : decode (mb 1137) 22 = .ok (.iload_n 1, 1) := by decide +kernel
theorem d1137_23 : decode (mb 1137) 23 = .ok (.ireturn, 1) := by decide +kernel
theorem x1137_0 {S : List Value} {h : HP} {l1 : Value} {x0 : Int32} : pX 1137 0 [.int x0, l1] S h = pX 1137 1 [.int x0, l1] (.int x0 :: S) h := pX_stp d1137_0 rfl rfl rfl
theorem x1137_1 {L S : List Value} {h : HP} : pX 1137 1 L S h = pX 1137 2 L (.int 1 :: S) h := pX_iconst d1137_1 (by decide)
theorem x1137_2 {L S : List Value} {h : HP} {x y : Int32} : pX 1137 2 L (.int y :: .int x :: S) h = if x = y then pX 1137 5 L S h else pX 1137 10 L S h := pX_icmp_ne d1137_2 (by decide)
theorem x1137_5 {S : List Value} {h : HP} {l0 : Value} {x0 : Int32} : pX 1137 5 [l0, .int x0] S h = pX 1137 6 [l0, .int x0] (.int x0 :: S) h := pX_stp d1137_5 rfl rfl rfl
theorem x1137_6 {L S : List Value} {h : HP} {x : Int32} : pX 1137 6 L (.int x :: S) h = pX 1137 7 L (.int x.toInt8.toInt32 :: S) h := pX_stp d1137_6 rfl rfl rfl
theorem x1137_7 {L S : List Value} {h : HP} : pX 1137 7 L S h = pX 1137 23 L S h := pX_goto d1137_7 (by decide)
theorem x1137_10 {S : List Value} {h : HP} {l1 : Value} {x0 : Int32} : pX 1137 10 [.int x0, l1] S h = pX 1137 11 [.int x0, l1] (.int x0 :: S) h := pX_stp d1137_10 rfl rfl rfl
theorem x1137_11 {L S : List Value} {h : HP} : pX 1137 11 L S h = pX 1137 12 L (.int 2 :: S) h := pX_iconst d1137_11 (by decide)
theorem x1137_12 {L S : List Value} {h : HP} {x y : Int32} : pX 1137 12 L (.int y :: .int x :: S) h = if x = y then pX 1137 15 L S h else pX 1137 22 L S h := pX_icmp_ne d1137_12 (by decide)
theorem x1137_15 {S : List Value} {h : HP} {l0 : Value} {x0 : Int32} : pX 1137 15 [l0, .int x0] S h = pX 1137 16 [l0, .int x0] (.int x0 :: S) h := pX_stp d1137_15 rfl rfl rfl
theorem x1137_16 {L S : List Value} {h : HP} : pX 1137 16 L S h = pX 1137 18 L (.int 65535 :: S) h := pX_ldc d1137_16 rfl
theorem x1137_18 {L S : List Value} {h : HP} {x y : Int32} : pX 1137 18 L (.int y :: .int x :: S) h = pX 1137 19 L (.int (x &&& y) :: S) h := pX_stp d1137_18 rfl rfl rfl
theorem x1137_19 {L S : List Value} {h : HP} : pX 1137 19 L S h = pX 1137 23 L S h := pX_goto d1137_19 (by decide)
theorem x1137_22 {S : List Value} {h : HP} {l0 : Value} {x0 : Int32} : pX 1137 22 [l0, .int x0] S h = pX 1137 23 [l0, .int x0] (.int x0 :: S) h := pX_stp d1137_22 rfl rfl rfl
theorem x1137_23 {L : List Value} {h : HP} {x : Int32} : pX 1137 23 L [.int x] h = some (some (.int x), h) := pX_ret d1137_23 rfl
theorem d1138_0 : decode (mb 1138) 0 = .ok (.aload_n 0, 1) := by decide +kernel
theorem d1138_1 : decode (mb 1138) 1 = .ok (.aload_n 0, 1) := by decide +kernel
theorem d1138_2 : decode (mb 1138) 2 = .ok (.getfield 192, 3) := by decide +kernel
theorem d1138_5 : decode (mb 1138) 5 = .ok (.iconst 3, 1) := by decide +kernel
theorem d1138_6 : decode (mb 1138) 6 = .ok (.invokevirtual 198, 3) := by decide +kernel
theorem d1138_9 : decode (mb 1138) 9 = .ok (.istore_n 1, 1) := by decide +kernel
theorem d1138_10 : decode (mb 1138) 10 = .ok (.iload_n 1, 1) := by decide +kernel
theorem d1138_11 : decode (mb 1138) 11 = .ok (.ifCond .le 7, 3) := by decide +kernel
theorem d1138_14 : decode (mb 1138) 14 = .ok (.iload_n 1, 1) := by decide +kernel
theorem d1138_15 : decode (mb 1138) 15 = .ok (.goto 12, 3) := by decide +kernel
theorem d1138_18 : decode (mb 1138) 18 = .ok (.aload_n 0, 1) := by decide +kernel
theorem d1138_19 : decode (mb 1138) 19 = .ok (.aload_n 0, 1) := by decide +kernel
theorem d1138_20 : decode (mb 1138) 20 = .ok (.getfield 195, 3) := by decide +kernel
theorem d1138_23 : decode (mb 1138) 23 = .ok (.iconst 1, 1) := by decide +kernel
theorem d1138_24 : decode (mb 1138) 24 = .ok (.invokevirtual 198, 3) := by decide +kernel
theorem d1138_27 : decode (mb 1138) 27 = .ok (.istore_n 1, 1) := by decide +kernel
theorem d1138_28 : decode (mb 1138) 28 = .ok (.iload_n 1, 1) := by decide +kernel
theorem d1138_29 : decode (mb 1138) 29 = .ok (.ifCond .le 5, 3) := by decide +kernel
theorem d1138_32 : decode (mb 1138) 32 = .ok (.iload_n 1, 1) := by decide +kernel
theorem d1138_33 : decode (mb 1138) 33 = .ok (.ireturn, 1) := by decide +kernel
theorem d1138_34 : decode (mb 1138) 34 = .ok (.aload_n 0, 1) := by decide +kernel
theorem d1138_35 : decode (mb 1138) 35 = .ok (.aload_n 0, 1) := by decide +kernel
theorem d1138_36 : decode (mb 1138) 36 = .ok (.getfield 192, 3) := by decide +kernel
theorem d1138_39 : decode (mb 1138) 39 = .ok (.invokevirtual 208, 3) := by decide +kernel
theorem d1138_42 : decode (mb 1138) 42 = .ok (.istore_n 2, 1) := by decide +kernel
theorem d1138_43 : decode (mb 1138) 43 = .ok (.aload_n 0, 1) := by decide +kernel
theorem d1138_44 : decode (mb 1138) 44 = .ok (.getfield 61, 3) := by decide +kernel
theorem d1138_47 : decode (mb 1138) 47 = .ok (.iload_n 2, 1) := by decide +kernel
theorem d1138_48 : decode (mb 1138) 48 = .ok (.iaload, 1) := by decide +kernel
theorem d1138_49 : decode (mb 1138) 49 = .ok (.iconst 4, 1) := by decide +kernel
theorem d1138_50 : decode (mb 1138) 50 = .ok (.if_icmp .ge 16, 3) := by decide +kernel
theorem d1138_53 : decode (mb 1138) 53 = .ok (.aload_n 0, 1) := by decide +kernel
theorem d1138_54 : decode (mb 1138) 54 = .ok (.aload_n 0, 1) := by decide +kernel
theorem d1138_55 : decode (mb 1138) 55 = .ok (.getfield 201, 3) := by decide +kernel
theorem d1138_58 : decode (mb 1138) 58 = .ok (.iconst 1, 1) := by decide +kernel
theorem d1138_59 : decode (mb 1138) 59 = .ok (.invokevirtual 198, 3) := by decide +kernel
theorem d1138_62 : decode (mb 1138) 62 = .ok (.istore_n 1, 1) := by decide +kernel
theorem d1138_63 : decode (mb 1138) 63 = .ok (.goto 60, 3) := by decide +kernel
theorem d1138_66 : decode (mb 1138) 66 = .ok (.aload_n 0, 1) := by decide +kernel
theorem d1138_67 : decode (mb 1138) 67 = .ok (.getfield 82, 3) := by decide +kernel
theorem d1138_70 : decode (mb 1138) 70 = .ok (.aload_n 0, 1) := by decide +kernel
theorem d1138_71 : decode (mb 1138) 71 = .ok (.getfield 189, 3) := by decide +kernel
theorem d1138_74 : decode (mb 1138) 74 = .ok (.aload_n 0, 1) := by decide +kernel
theorem d1138_75 : decode (mb 1138) 75 = .ok (.getfield 201, 3) := by decide +kernel
theorem d1138_78 : decode (mb 1138) 78 = .ok (.iadd, 1) := by decide +kernel
theorem d1138_79 : decode (mb 1138) 79 = .ok (.iaload, 1) := by decide +kernel
theorem d1138_80 : decode (mb 1138) 80 = .ok (.ifCond .eq 43, 3) := by decide +kernel
theorem d1138_83 : decode (mb 1138) 83 = .ok (.aload_n 0, 1) := by decide +kernel
theorem d1138_84 : decode (mb 1138) 84 = .ok (.getfield 82, 3) := by decide +kernel
theorem d1138_87 : decode (mb 1138) 87 = .ok (.aload_n 0, 1) := by decide +kernel
theorem d1138_88 : decode (mb 1138) 88 = .ok (.getfield 189, 3) := by decide +kernel
theorem d1138_91 : decode (mb 1138) 91 = .ok (.aload_n 0, 1) := by decide +kernel
theorem d1138_92 : decode (mb 1138) 92 = .ok (.getfield 201, 3) := by decide +kernel
theorem d1138_95 : decode (mb 1138) 95 = .ok (.iadd, 1) := by decide +kernel
theorem d1138_96 : decode (mb 1138) 96 = .ok (.iaload, 1) := by decide +kernel
theorem d1138_97 : decode (mb 1138) 97 = .ok (.iconst 3, 1) := by decide +kernel
theorem d1138_98 : decode (mb 1138) 98 = .ok (.if_icmp .ne 19, 3) := by decide +kernel
theorem d1138_101 : decode (mb 1138) 101 = .ok (.aload_n 0, 1) := by decide +kernel
theorem d1138_102 : decode (mb 1138) 102 = .ok (.getfield 61, 3) := by decide +kernel
theorem d1138_105 : decode (mb 1138) 105 = .ok (.aload_n 0, 1) := by decide +kernel
theorem d1138_106 : decode (mb 1138) 106 = .ok (.aload_n 0, 1) := by decide +kernel
theorem d1138_107 : decode (mb 1138) 107 = .ok (.getfield 201, 3) := by decide +kernel
theorem d1138_110 : decode (mb 1138) 110 = .ok (.invokevirtual 208, 3) := by decide +kernel
theorem d1138_113 : decode (mb 1138) 113 = .ok (.iaload, 1) := by decide +kernel
theorem d1138_114 : decode (mb 1138) 114 = .ok (.ifCond .eq 7, 3) := by decide +kernel
theorem d1138_117 : decode (mb 1138) 117 = .ok (.iconst 3, 1) := by decide +kernel
theorem d1138_118 : decode (mb 1138) 118 = .ok (.goto 4, 3) := by decide +kernel
theorem d1138_121 : decode (mb 1138) 121 = .ok (.iconst 0, 1) := by decide +kernel
theorem d1138_122 : decode (mb 1138) 122 = .ok (.istore_n 1, 1) := by decide +kernel
theorem d1138_123 : decode (mb 1138) 123 = .ok (.iload_n 1, 1) := by decide +kernel
theorem d1138_124 : decode (mb 1138) 124 = .ok (.ifCond .le 5, 3) := by decide +kernel
theorem d1138_127 : decode (mb 1138) 127 = .ok (.iload_n 1, 1) := by decide +kernel
theorem d1138_128 : decode (mb 1138) 128 = .ok (.ireturn, 1) := by decide +kernel
theorem d1138_129 : decode (mb 1138) 129 = .ok (.aload_n 0, 1) := by decide +kernel
theorem d1138_130 : decode (mb 1138) 130 = .ok (.aload_n 0, 1) := by decide +kernel
theorem d1138_131 : decode (mb 1138) 131 = .ok (.getfield 195, 3) := by decide +kernel
theorem d1138_134 : decode (mb 1138) 134 = .ok (.invokevirtual 208, 3) := by decide +kernel
theorem d1138_137 : decode (mb 1138) 137 = .ok (.iconst 0, 1) := by decide +kernel
theorem d1138_138 : decode (mb 1138) 138 = .ok (.aload_n 0, 1) := by decide +kernel
theorem d1138_139 : decode (mb 1138) 139 = .ok (.getfield 67, 3) := by decide +kernel
theorem d1138_142 : decode (mb 1138) 142 = .ok (.iload_n 2, 1) := by decide +kernel
theorem d1138_143 : decode (mb 1138) 143 = .ok (.iaload, 1) := by decide +kernel
theorem d1138_144 : decode (mb 1138) 144 = .ok (.iconst 1, 1) := by decide +kernel
theorem d1138_145 : decode (mb 1138) 145 = .ok (.isub, 1) := by decide +kernel
theorem d1138_146 : decode (mb 1138) 146 = .ok (.invokestatic 111, 3) := by decide +kernel
theorem d1138_149 : decode (mb 1138) 149 = .ok (.ifCond .ne 5, 3) := by decide +kernel
theorem d1138_152 : decode (mb 1138) 152 = .ok (.iconst 2, 1) := by decide +kernel
theorem d1138_153 : decode (mb 1138) 153 = .ok (.ireturn, 1) := by decide +kernel
theorem d1138_154 : decode (mb 1138) 154 = .ok (.aload_n 0, 1) := by decide +kernel
theorem d1138_155 : decode (mb 1138) 155 = .ok (.getfield 70, 3) := by decide +kernel
theorem d1138_158 : decode (mb 1138) 158 = .ok (.aload_n 0, 1) := by decide +kernel
theorem d1138_159 : decode (mb 1138) 159 = .ok (.getfield 64, 3) := by decide +kernel
theorem d1138_162 : decode (mb 1138) 162 = .ok (.iload_n 2, 1) := by decide +kernel
theorem d1138_163 : decode (mb 1138) 163 = .ok (.iaload, 1) := by decide +kernel
theorem d1138_164 : decode (mb 1138) 164 = .ok (.aload_n 0, 1) := by decide +kernel
theorem d1138_165 : decode (mb 1138) 165 = .ok (.aload_n 0, 1) := by decide +kernel
theorem d1138_166 : decode (mb 1138) 166 = .ok (.getfield 195, 3) := by decide +kernel
theorem d1138_169 : decode (mb 1138) 169 = .ok (.invokevirtual 208, 3) := by decide +kernel
theorem d1138_172 : decode (mb 1138) 172 = .ok (.iadd, 1) := by decide +kernel
theorem d1138_173 : decode (mb 1138) 173 = .ok (.aload_n 0, 1) := by decide +kernel
theorem d1138_174 : decode (mb 1138) 174 = .ok (.getfield 61, 3) := by decide +kernel
theorem d1138_177 : decode (mb 1138) 177 = .ok (.iload_n 2, 1) := by decide +kernel
theorem d1138_178 : decode (mb 1138) 178 = .ok (.iaload, 1) := by decide +kernel
theorem d1138_179 : decode (mb 1138) 179 = .ok (.iconst 4, 1) := by decide +kernel
theorem d1138_180 : decode (mb 1138) 180 = .ok (.if_icmp .ge 23, 3) := by decide +kernel
theorem d1138_183 : decode (mb 1138) 183 = .ok (.aload_n 0, 1) := by decide +kernel
theorem d1138_184 : decode (mb 1138) 184 = .ok (.getfield 61, 3) := by decide +kernel
theorem d1138_187 : decode (mb 1138) 187 = .ok (.iload_n 2, 1) := by decide +kernel
theorem d1138_188 : decode (mb 1138) 188 = .ok (.iaload, 1) := by decide +kernel
theorem d1138_189 : decode (mb 1138) 189 = .ok (.aload_n 0, 1) := by decide +kernel
theorem d1138_190 : decode (mb 1138) 190 = .ok (.aload_n 0, 1) := by decide +kernel
theorem d1138_191 : decode (mb 1138) 191 = .ok (.getfield 201, 3) := by decide +kernel
theorem d1138_194 : decode (mb 1138) 194 = .ok (.invokevirtual 208, 3) := by decide +kernel
theorem d1138_197 : decode (mb 1138) 197 = .ok (.invokestatic 220, 3) := by decide +kernel
theorem d1138_200 : decode (mb 1138) 200 = .ok (.goto 34, 3) := by decide +kernel
theorem d1138_203 : decode (mb 1138) 203 = .ok (.aload_n 0, 1) := by decide +kernel
theorem d1138_204 : decode (mb 1138) 204 = .ok (.getfield 82, 3) := by decide +kernel
theorem d1138_207 : decode (mb 1138) 207 = .ok (.aload_n 0, 1) := by decide +kernel
theorem d1138_208 : decode (mb 1138) 208 = .ok (.getfield 189, 3) := by decide +kernel
theorem d1138_211 : decode (mb 1138) 211 = .ok (.aload_n 0, 1) := by decide +kernel
theorem d1138_212 : decode (mb 1138) 212 = .ok (.getfield 201, 3) := by decide +kernel
theorem d1138_215 : decode (mb 1138) 215 = .ok (.iadd, 1) := by decide +kernel
theorem d1138_216 : decode (mb 1138) 216 = .ok (.iaload, 1) := by decide +kernel
theorem d1138_217 : decode (mb 1138) 217 = .ok (.ifCond .ne 7, 3) := by decide +kernel
theorem d1138_220 : decode (mb 1138) 220 = .ok (.iconst 0, 1) := by decide +kernel
theorem d1138_221 : decode (mb 1138) 221 = .ok (.goto 13, 3) := by decide +kernel
theorem d1138_224 : decode (mb 1138) 224 = .ok (.aload_n 0, 1) := by decide +kernel
theorem d1138_225 : decode (mb 1138) 225 = .ok (.aload_n 0, 1) := by decide +kernel
theorem d1138_226 : decode (mb 1138) 226 = .ok (.getfield 201, 3) := by decide +kernel
theorem d1138_229 : decode (mb 1138) 229 = .ok (.invokevirtual 208, 3) := by decide +kernel
theorem d1138_232 : decode (mb 1138) 232 = .ok (.iconst 1, 1) := by decide +kernel
theorem d1138_233 : decode (mb 1138) 233 = .ok (.iadd, 1) := by decide +kernel
theorem d1138_234 : decode (mb 1138) 234 = .ok (.iastore, 1) := by decide +kernel
theorem d1138_235 : decode (mb 1138) 235 = .ok (.iconst 0, 1) := by decide +kernel
theorem d1138_236 : decode (mb 1138) 236 = .ok (.ireturn, 1) := by decide +kernel
theorem x1138_0 {S : List Value} {h : HP} {l1 l2 : Value} {a0 : Nat} : pX 1138 0 [.ref a0, l1, l2] S h = pX 1138 1 [.ref a0, l1, l2] (.ref a0 :: S) h := pX_stp d1138_0 rfl rfl rfl
theorem x1138_1 {S : List Value} {h : HP} {l1 l2 : Value} {a0 : Nat} : pX 1138 1 [.ref a0, l1, l2] S h = pX 1138 2 [.ref a0, l1, l2] (.ref a0 :: S) h := pX_stp d1138_1 rfl rfl rfl
theorem x1138_2 {L S : List Value} {h : HP} {a : Nat} (hk : hp_k h a = 12) : pX 1138 2 L (.ref a :: S) h = pX 1138 5 L (.int (hp_i h a 46) :: S) h := pX_get d1138_2 rfl rfl hk
theorem x1138_5 {L S : List Value} {h : HP} : pX 1138 5 L S h = pX 1138 6 L (.int 3 :: S) h := pX_iconst d1138_5 (by decide)
theorem x1138_6 {L : List Value} {h : HP} {x0 : Int32} {x1 : Int32} {a0 : Nat} (hk : hp_k h a0 = 12) : pX 1138 6 L [.int x0, .int x1, .ref a0] h = (pX 1130 0 [.ref a0, .int x1, .int x0] [] h).bind (fun q => pX 1138 9 L (q.1.toList ++ []) q.2) := pX_inv (a := a0) (t := 12) 1130 [.ref a0, .int x1, .int x0] [] d1138_6 rfl rfl rfl hk
theorem x1138_9 {S : List Value} {h : HP} {l0 l1 l2 : Value} {x0 : Int32} : pX 1138 9 [l0, l1, l2] (.int x0 :: S) h = pX 1138 10 [l0, .int x0, l2] S h := pX_stp d1138_9 rfl rfl rfl
theorem x1138_10 {S : List Value} {h : HP} {l0 l2 : Value} {x0 : Int32} : pX 1138 10 [l0, .int x0, l2] S h = pX 1138 11 [l0, .int x0, l2] (.int x0 :: S) h := pX_stp d1138_10 rfl rfl rfl
theorem x1138_11 {L S : List Value} {h : HP} {x : Int32} : pX 1138 11 L (.int x :: S) h = if x ≤ 0 then pX 1138 18 L S h else pX 1138 14 L S h := pX_if_le d1138_11 (by decide)
theorem x1138_14 {S : List Value} {h : HP} {l0 l2 : Value} {x0 : Int32} : pX 1138 14 [l0, .int x0, l2] S h = pX 1138 15 [l0, .int x0, l2] (.int x0 :: S) h := pX_stp d1138_14 rfl rfl rfl
theorem x1138_15 {L S : List Value} {h : HP} : pX 1138 15 L S h = pX 1138 27 L S h := pX_goto d1138_15 (by decide)
theorem x1138_18 {S : List Value} {h : HP} {l1 l2 : Value} {a0 : Nat} : pX 1138 18 [.ref a0, l1, l2] S h = pX 1138 19 [.ref a0, l1, l2] (.ref a0 :: S) h := pX_stp d1138_18 rfl rfl rfl
theorem x1138_19 {S : List Value} {h : HP} {l1 l2 : Value} {a0 : Nat} : pX 1138 19 [.ref a0, l1, l2] S h = pX 1138 20 [.ref a0, l1, l2] (.ref a0 :: S) h := pX_stp d1138_19 rfl rfl rfl
theorem x1138_20 {L S : List Value} {h : HP} {a : Nat} (hk : hp_k h a = 12) : pX 1138 20 L (.ref a :: S) h = pX 1138 23 L (.int (hp_i h a 47) :: S) h := pX_get d1138_20 rfl rfl hk
theorem x1138_23 {L S : List Value} {h : HP} : pX 1138 23 L S h = pX 1138 24 L (.int 1 :: S) h := pX_iconst d1138_23 (by decide)
theorem x1138_24 {L : List Value} {h : HP} {x0 : Int32} {x1 : Int32} {a0 : Nat} (hk : hp_k h a0 = 12) : pX 1138 24 L [.int x0, .int x1, .ref a0] h = (pX 1130 0 [.ref a0, .int x1, .int x0] [] h).bind (fun q => pX 1138 27 L (q.1.toList ++ []) q.2) := pX_inv (a := a0) (t := 12) 1130 [.ref a0, .int x1, .int x0] [] d1138_24 rfl rfl rfl hk
theorem x1138_27 {S : List Value} {h : HP} {l0 l1 l2 : Value} {x0 : Int32} : pX 1138 27 [l0, l1, l2] (.int x0 :: S) h = pX 1138 28 [l0, .int x0, l2] S h := pX_stp d1138_27 rfl rfl rfl
theorem x1138_28 {S : List Value} {h : HP} {l0 l2 : Value} {x0 : Int32} : pX 1138 28 [l0, .int x0, l2] S h = pX 1138 29 [l0, .int x0, l2] (.int x0 :: S) h := pX_stp d1138_28 rfl rfl rfl
theorem x1138_29 {L S : List Value} {h : HP} {x : Int32} : pX 1138 29 L (.int x :: S) h = if x ≤ 0 then pX 1138 34 L S h else pX 1138 32 L S h := pX_if_le d1138_29 (by decide)
theorem x1138_32 {S : List Value} {h : HP} {l0 l2 : Value} {x0 : Int32} : pX 1138 32 [l0, .int x0, l2] S h = pX 1138 33 [l0, .int x0, l2] (.int x0 :: S) h := pX_stp d1138_32 rfl rfl rfl
theorem x1138_33 {L : List Value} {h : HP} {x : Int32} : pX 1138 33 L [.int x] h = some (some (.int x), h) := pX_ret d1138_33 rfl
theorem x1138_34 {S : List Value} {h : HP} {l1 l2 : Value} {a0 : Nat} : pX 1138 34 [.ref a0, l1, l2] S h = pX 1138 35 [.ref a0, l1, l2] (.ref a0 :: S) h := pX_stp d1138_34 rfl rfl rfl
theorem x1138_35 {S : List Value} {h : HP} {l1 l2 : Value} {a0 : Nat} : pX 1138 35 [.ref a0, l1, l2] S h = pX 1138 36 [.ref a0, l1, l2] (.ref a0 :: S) h := pX_stp d1138_35 rfl rfl rfl
theorem x1138_36 {L S : List Value} {h : HP} {a : Nat} (hk : hp_k h a = 12) : pX 1138 36 L (.ref a :: S) h = pX 1138 39 L (.int (hp_i h a 46) :: S) h := pX_get d1138_36 rfl rfl hk
theorem x1138_39 {L : List Value} {h : HP} {x0 : Int32} {a0 : Nat} (hk : hp_k h a0 = 12) : pX 1138 39 L [.int x0, .ref a0] h = (pX 1131 0 [.ref a0, .int x0] [] h).bind (fun q => pX 1138 42 L (q.1.toList ++ []) q.2) := pX_inv (a := a0) (t := 12) 1131 [.ref a0, .int x0] [] d1138_39 rfl rfl rfl hk
theorem x1138_42 {S : List Value} {h : HP} {l0 l1 l2 : Value} {x0 : Int32} : pX 1138 42 [l0, l1, l2] (.int x0 :: S) h = pX 1138 43 [l0, l1, .int x0] S h := pX_stp d1138_42 rfl rfl rfl
theorem x1138_43 {S : List Value} {h : HP} {l1 l2 : Value} {a0 : Nat} : pX 1138 43 [.ref a0, l1, l2] S h = pX 1138 44 [.ref a0, l1, l2] (.ref a0 :: S) h := pX_stp d1138_43 rfl rfl rfl
theorem x1138_44 {L S : List Value} {h : HP} {a : Nat} (hk : hp_k h a = 12) : pX 1138 44 L (.ref a :: S) h = pX 1138 47 L (.ref (hp_a h a 24) :: S) h := pX_get d1138_44 rfl rfl hk
theorem x1138_47 {S : List Value} {h : HP} {l0 l1 : Value} {x0 : Int32} : pX 1138 47 [l0, l1, .int x0] S h = pX 1138 48 [l0, l1, .int x0] (.int x0 :: S) h := pX_stp d1138_47 rfl rfl rfl
theorem x1138_48 {L S : List Value} {h : HP} {a : Nat} {j : Int32} (hk : hp_k h a = 100) (hj : inb j (hp_l h a) = true) : pX 1138 48 L (.int j :: .ref a :: S) h = pX 1138 49 L (.int (hp_i h a (ix j)) :: S) h := pX_ild d1138_48 hk hj
theorem x1138_49 {L S : List Value} {h : HP} : pX 1138 49 L S h = pX 1138 50 L (.int 4 :: S) h := pX_iconst d1138_49 (by decide)
theorem x1138_50 {L S : List Value} {h : HP} {x y : Int32} : pX 1138 50 L (.int y :: .int x :: S) h = if y ≤ x then pX 1138 66 L S h else pX 1138 53 L S h := pX_icmp_ge d1138_50 (by decide)
theorem x1138_53 {S : List Value} {h : HP} {l1 l2 : Value} {a0 : Nat} : pX 1138 53 [.ref a0, l1, l2] S h = pX 1138 54 [.ref a0, l1, l2] (.ref a0 :: S) h := pX_stp d1138_53 rfl rfl rfl
theorem x1138_54 {S : List Value} {h : HP} {l1 l2 : Value} {a0 : Nat} : pX 1138 54 [.ref a0, l1, l2] S h = pX 1138 55 [.ref a0, l1, l2] (.ref a0 :: S) h := pX_stp d1138_54 rfl rfl rfl
theorem x1138_55 {L S : List Value} {h : HP} {a : Nat} (hk : hp_k h a = 12) : pX 1138 55 L (.ref a :: S) h = pX 1138 58 L (.int (hp_i h a 48) :: S) h := pX_get d1138_55 rfl rfl hk
theorem x1138_58 {L S : List Value} {h : HP} : pX 1138 58 L S h = pX 1138 59 L (.int 1 :: S) h := pX_iconst d1138_58 (by decide)
theorem x1138_59 {L : List Value} {h : HP} {x0 : Int32} {x1 : Int32} {a0 : Nat} (hk : hp_k h a0 = 12) : pX 1138 59 L [.int x0, .int x1, .ref a0] h = (pX 1130 0 [.ref a0, .int x1, .int x0] [] h).bind (fun q => pX 1138 62 L (q.1.toList ++ []) q.2) := pX_inv (a := a0) (t := 12) 1130 [.ref a0, .int x1, .int x0] [] d1138_59 rfl rfl rfl hk
theorem x1138_62 {S : List Value} {h : HP} {l0 l1 l2 : Value} {x0 : Int32} : pX 1138 62 [l0, l1, l2] (.int x0 :: S) h = pX 1138 63 [l0, .int x0, l2] S h := pX_stp d1138_62 rfl rfl rfl
theorem x1138_63 {L S : List Value} {h : HP} : pX 1138 63 L S h = pX 1138 123 L S h := pX_goto d1138_63 (by decide)
theorem x1138_66 {S : List Value} {h : HP} {l1 l2 : Value} {a0 : Nat} : pX 1138 66 [.ref a0, l1, l2] S h = pX 1138 67 [.ref a0, l1, l2] (.ref a0 :: S) h := pX_stp d1138_66 rfl rfl rfl
theorem x1138_67 {L S : List Value} {h : HP} {a : Nat} (hk : hp_k h a = 12) : pX 1138 67 L (.ref a :: S) h = pX 1138 70 L (.ref (hp_a h a 33) :: S) h := pX_get d1138_67 rfl rfl hk
theorem x1138_70 {S : List Value} {h : HP} {l1 l2 : Value} {a0 : Nat} : pX 1138 70 [.ref a0, l1, l2] S h = pX 1138 71 [.ref a0, l1, l2] (.ref a0 :: S) h := pX_stp d1138_70 rfl rfl rfl
theorem x1138_71 {L S : List Value} {h : HP} {a : Nat} (hk : hp_k h a = 12) : pX 1138 71 L (.ref a :: S) h = pX 1138 74 L (.int (hp_i h a 45) :: S) h := pX_get d1138_71 rfl rfl hk
theorem x1138_74 {S : List Value} {h : HP} {l1 l2 : Value} {a0 : Nat} : pX 1138 74 [.ref a0, l1, l2] S h = pX 1138 75 [.ref a0, l1, l2] (.ref a0 :: S) h := pX_stp d1138_74 rfl rfl rfl
theorem x1138_75 {L S : List Value} {h : HP} {a : Nat} (hk : hp_k h a = 12) : pX 1138 75 L (.ref a :: S) h = pX 1138 78 L (.int (hp_i h a 48) :: S) h := pX_get d1138_75 rfl rfl hk
theorem x1138_78 {L S : List Value} {h : HP} {x y : Int32} : pX 1138 78 L (.int y :: .int x :: S) h = pX 1138 79 L (.int (x + y) :: S) h := pX_stp d1138_78 rfl rfl rfl
theorem x1138_79 {L S : List Value} {h : HP} {a : Nat} {j : Int32} (hk : hp_k h a = 100) (hj : inb j (hp_l h a) = true) : pX 1138 79 L (.int j :: .ref a :: S) h = pX 1138 80 L (.int (hp_i h a (ix j)) :: S) h := pX_ild d1138_79 hk hj
theorem x1138_80 {L S : List Value} {h : HP} {x : Int32} : pX 1138 80 L (.int x :: S) h = if x = 0 then pX 1138 123 L S h else pX 1138 83 L S h := pX_if_eq d1138_80 (by decide)
theorem x1138_83 {S : List Value} {h : HP} {l1 l2 : Value} {a0 : Nat} : pX 1138 83 [.ref a0, l1, l2] S h = pX 1138 84 [.ref a0, l1, l2] (.ref a0 :: S) h := pX_stp d1138_83 rfl rfl rfl
theorem x1138_84 {L S : List Value} {h : HP} {a : Nat} (hk : hp_k h a = 12) : pX 1138 84 L (.ref a :: S) h = pX 1138 87 L (.ref (hp_a h a 33) :: S) h := pX_get d1138_84 rfl rfl hk
theorem x1138_87 {S : List Value} {h : HP} {l1 l2 : Value} {a0 : Nat} : pX 1138 87 [.ref a0, l1, l2] S h = pX 1138 88 [.ref a0, l1, l2] (.ref a0 :: S) h := pX_stp d1138_87 rfl rfl rfl
theorem x1138_88 {L S : List Value} {h : HP} {a : Nat} (hk : hp_k h a = 12) : pX 1138 88 L (.ref a :: S) h = pX 1138 91 L (.int (hp_i h a 45) :: S) h := pX_get d1138_88 rfl rfl hk
theorem x1138_91 {S : List Value} {h : HP} {l1 l2 : Value} {a0 : Nat} : pX 1138 91 [.ref a0, l1, l2] S h = pX 1138 92 [.ref a0, l1, l2] (.ref a0 :: S) h := pX_stp d1138_91 rfl rfl rfl
theorem x1138_92 {L S : List Value} {h : HP} {a : Nat} (hk : hp_k h a = 12) : pX 1138 92 L (.ref a :: S) h = pX 1138 95 L (.int (hp_i h a 48) :: S) h := pX_get d1138_92 rfl rfl hk
theorem x1138_95 {L S : List Value} {h : HP} {x y : Int32} : pX 1138 95 L (.int y :: .int x :: S) h = pX 1138 96 L (.int (x + y) :: S) h := pX_stp d1138_95 rfl rfl rfl
theorem x1138_96 {L S : List Value} {h : HP} {a : Nat} {j : Int32} (hk : hp_k h a = 100) (hj : inb j (hp_l h a) = true) : pX 1138 96 L (.int j :: .ref a :: S) h = pX 1138 97 L (.int (hp_i h a (ix j)) :: S) h := pX_ild d1138_96 hk hj
theorem x1138_97 {L S : List Value} {h : HP} : pX 1138 97 L S h = pX 1138 98 L (.int 3 :: S) h := pX_iconst d1138_97 (by decide)
theorem x1138_98 {L S : List Value} {h : HP} {x y : Int32} : pX 1138 98 L (.int y :: .int x :: S) h = if x = y then pX 1138 101 L S h else pX 1138 117 L S h := pX_icmp_ne d1138_98 (by decide)
theorem x1138_101 {S : List Value} {h : HP} {l1 l2 : Value} {a0 : Nat} : pX 1138 101 [.ref a0, l1, l2] S h = pX 1138 102 [.ref a0, l1, l2] (.ref a0 :: S) h := pX_stp d1138_101 rfl rfl rfl
theorem x1138_102 {L S : List Value} {h : HP} {a : Nat} (hk : hp_k h a = 12) : pX 1138 102 L (.ref a :: S) h = pX 1138 105 L (.ref (hp_a h a 24) :: S) h := pX_get d1138_102 rfl rfl hk
theorem x1138_105 {S : List Value} {h : HP} {l1 l2 : Value} {a0 : Nat} : pX 1138 105 [.ref a0, l1, l2] S h = pX 1138 106 [.ref a0, l1, l2] (.ref a0 :: S) h := pX_stp d1138_105 rfl rfl rfl
theorem x1138_106 {S : List Value} {h : HP} {l1 l2 : Value} {a0 : Nat} : pX 1138 106 [.ref a0, l1, l2] S h = pX 1138 107 [.ref a0, l1, l2] (.ref a0 :: S) h := pX_stp d1138_106 rfl rfl rfl
theorem x1138_107 {L S : List Value} {h : HP} {a : Nat} (hk : hp_k h a = 12) : pX 1138 107 L (.ref a :: S) h = pX 1138 110 L (.int (hp_i h a 48) :: S) h := pX_get d1138_107 rfl rfl hk
theorem x1138_110 {L : List Value} {h : HP} {x0 : Int32} {a0 : Nat} {a1 : Nat} (hk : hp_k h a0 = 12) : pX 1138 110 L [.int x0, .ref a0, .ref a1] h = (pX 1131 0 [.ref a0, .int x0] [] h).bind (fun q => pX 1138 113 L (q.1.toList ++ [.ref a1]) q.2) := pX_inv (a := a0) (t := 12) 1131 [.ref a0, .int x0] [.ref a1] d1138_110 rfl rfl rfl hk
theorem x1138_113 {L S : List Value} {h : HP} {a : Nat} {j : Int32} (hk : hp_k h a = 100) (hj : inb j (hp_l h a) = true) : pX 1138 113 L (.int j :: .ref a :: S) h = pX 1138 114 L (.int (hp_i h a (ix j)) :: S) h := pX_ild d1138_113 hk hj
theorem x1138_114 {L S : List Value} {h : HP} {x : Int32} : pX 1138 114 L (.int x :: S) h = if x = 0 then pX 1138 121 L S h else pX 1138 117 L S h := pX_if_eq d1138_114 (by decide)
theorem x1138_117 {L S : List Value} {h : HP} : pX 1138 117 L S h = pX 1138 118 L (.int 3 :: S) h := pX_iconst d1138_117 (by decide)
theorem x1138_118 {L S : List Value} {h : HP} : pX 1138 118 L S h = pX 1138 122 L S h := pX_goto d1138_118 (by decide)
theorem x1138_121 {L S : List Value} {h : HP} : pX 1138 121 L S h = pX 1138 122 L (.int 0 :: S) h := pX_iconst d1138_121 (by decide)
theorem x1138_122 {S : List Value} {h : HP} {l0 l1 l2 : Value} {x0 : Int32} : pX 1138 122 [l0, l1, l2] (.int x0 :: S) h = pX 1138 123 [l0, .int x0, l2] S h := pX_stp d1138_122 rfl rfl rfl
theorem x1138_123 {S : List Value} {h : HP} {l0 l2 : Value} {x0 : Int32} : pX 1138 123 [l0, .int x0, l2] S h = pX 1138 124 [l0, .int x0, l2] (.int x0 :: S) h := pX_stp d1138_123 rfl rfl rfl
theorem x1138_124 {L S : List Value} {h : HP} {x : Int32} : pX 1138 124 L (.int x :: S) h = if x ≤ 0 then pX 1138 129 L S h else pX 1138 127 L S h := pX_if_le d1138_124 (by decide)
theorem x1138_127 {S : List Value} {h : HP} {l0 l2 : Value} {x0 : Int32} : pX 1138 127 [l0, .int x0, l2] S h = pX 1138 128 [l0, .int x0, l2] (.int x0 :: S) h := pX_stp d1138_127 rfl rfl rfl
theorem x1138_128 {L : List Value} {h : HP} {x : Int32} : pX 1138 128 L [.int x] h = some (some (.int x), h) := pX_ret d1138_128 rfl
theorem x1138_129 {S : List Value} {h : HP} {l1 l2 : Value} {a0 : Nat} : pX 1138 129 [.ref a0, l1, l2] S h = pX 1138 130 [.ref a0, l1, l2] (.ref a0 :: S) h := pX_stp d1138_129 rfl rfl rfl
theorem x1138_130 {S : List Value} {h : HP} {l1 l2 : Value} {a0 : Nat} : pX 1138 130 [.ref a0, l1, l2] S h = pX 1138 131 [.ref a0, l1, l2] (.ref a0 :: S) h := pX_stp d1138_130 rfl rfl rfl
theorem x1138_131 {L S : List Value} {h : HP} {a : Nat} (hk : hp_k h a = 12) : pX 1138 131 L (.ref a :: S) h = pX 1138 134 L (.int (hp_i h a 47) :: S) h := pX_get d1138_131 rfl rfl hk
theorem x1138_134 {L : List Value} {h : HP} {x0 : Int32} {a0 : Nat} (hk : hp_k h a0 = 12) : pX 1138 134 L [.int x0, .ref a0] h = (pX 1131 0 [.ref a0, .int x0] [] h).bind (fun q => pX 1138 137 L (q.1.toList ++ []) q.2) := pX_inv (a := a0) (t := 12) 1131 [.ref a0, .int x0] [] d1138_134 rfl rfl rfl hk
theorem x1138_137 {L S : List Value} {h : HP} : pX 1138 137 L S h = pX 1138 138 L (.int 0 :: S) h := pX_iconst d1138_137 (by decide)
theorem x1138_138 {S : List Value} {h : HP} {l1 l2 : Value} {a0 : Nat} : pX 1138 138 [.ref a0, l1, l2] S h = pX 1138 139 [.ref a0, l1, l2] (.ref a0 :: S) h := pX_stp d1138_138 rfl rfl rfl
theorem x1138_139 {L S : List Value} {h : HP} {a : Nat} (hk : hp_k h a = 12) : pX 1138 139 L (.ref a :: S) h = pX 1138 142 L (.ref (hp_a h a 26) :: S) h := pX_get d1138_139 rfl rfl hk
theorem x1138_142 {S : List Value} {h : HP} {l0 l1 : Value} {x0 : Int32} : pX 1138 142 [l0, l1, .int x0] S h = pX 1138 143 [l0, l1, .int x0] (.int x0 :: S) h := pX_stp d1138_142 rfl rfl rfl
theorem x1138_143 {L S : List Value} {h : HP} {a : Nat} {j : Int32} (hk : hp_k h a = 100) (hj : inb j (hp_l h a) = true) : pX 1138 143 L (.int j :: .ref a :: S) h = pX 1138 144 L (.int (hp_i h a (ix j)) :: S) h := pX_ild d1138_143 hk hj
theorem x1138_144 {L S : List Value} {h : HP} : pX 1138 144 L S h = pX 1138 145 L (.int 1 :: S) h := pX_iconst d1138_144 (by decide)
theorem x1138_145 {L S : List Value} {h : HP} {x y : Int32} : pX 1138 145 L (.int y :: .int x :: S) h = pX 1138 146 L (.int (x - y) :: S) h := pX_stp d1138_145 rfl rfl rfl
theorem x1138_146 {L : List Value} {h : HP} {x0 : Int32} {x1 : Int32} {x2 : Int32} : pX 1138 146 L [.int x0, .int x1, .int x2] h = (pX 1101 0 [.int x2, .int x1, .int x0] [] h).bind (fun q => pX 1138 149 L (q.1.toList ++ []) q.2) := pX_ins 1101 [.int x2, .int x1, .int x0] [] d1138_146 rfl rfl rfl
theorem x1138_149 {L S : List Value} {h : HP} {x : Int32} : pX 1138 149 L (.int x :: S) h = if x = 0 then pX 1138 152 L S h else pX 1138 154 L S h := pX_if_ne d1138_149 (by decide)
theorem x1138_152 {L S : List Value} {h : HP} : pX 1138 152 L S h = pX 1138 153 L (.int 2 :: S) h := pX_iconst d1138_152 (by decide)
theorem x1138_153 {L : List Value} {h : HP} {x : Int32} : pX 1138 153 L [.int x] h = some (some (.int x), h) := pX_ret d1138_153 rfl
theorem x1138_154 {S : List Value} {h : HP} {l1 l2 : Value} {a0 : Nat} : pX 1138 154 [.ref a0, l1, l2] S h = pX 1138 155 [.ref a0, l1, l2] (.ref a0 :: S) h := pX_stp d1138_154 rfl rfl rfl
theorem x1138_155 {L S : List Value} {h : HP} {a : Nat} (hk : hp_k h a = 12) : pX 1138 155 L (.ref a :: S) h = pX 1138 158 L (.ref (hp_a h a 27) :: S) h := pX_get d1138_155 rfl rfl hk
theorem x1138_158 {S : List Value} {h : HP} {l1 l2 : Value} {a0 : Nat} : pX 1138 158 [.ref a0, l1, l2] S h = pX 1138 159 [.ref a0, l1, l2] (.ref a0 :: S) h := pX_stp d1138_158 rfl rfl rfl
theorem x1138_159 {L S : List Value} {h : HP} {a : Nat} (hk : hp_k h a = 12) : pX 1138 159 L (.ref a :: S) h = pX 1138 162 L (.ref (hp_a h a 25) :: S) h := pX_get d1138_159 rfl rfl hk
theorem x1138_162 {S : List Value} {h : HP} {l0 l1 : Value} {x0 : Int32} : pX 1138 162 [l0, l1, .int x0] S h = pX 1138 163 [l0, l1, .int x0] (.int x0 :: S) h := pX_stp d1138_162 rfl rfl rfl
theorem x1138_163 {L S : List Value} {h : HP} {a : Nat} {j : Int32} (hk : hp_k h a = 100) (hj : inb j (hp_l h a) = true) : pX 1138 163 L (.int j :: .ref a :: S) h = pX 1138 164 L (.int (hp_i h a (ix j)) :: S) h := pX_ild d1138_163 hk hj
theorem x1138_164 {S : List Value} {h : HP} {l1 l2 : Value} {a0 : Nat} : pX 1138 164 [.ref a0, l1, l2] S h = pX 1138 165 [.ref a0, l1, l2] (.ref a0 :: S) h := pX_stp d1138_164 rfl rfl rfl
theorem x1138_165 {S : List Value} {h : HP} {l1 l2 : Value} {a0 : Nat} : pX 1138 165 [.ref a0, l1, l2] S h = pX 1138 166 [.ref a0, l1, l2] (.ref a0 :: S) h := pX_stp d1138_165 rfl rfl rfl
theorem x1138_166 {L S : List Value} {h : HP} {a : Nat} (hk : hp_k h a = 12) : pX 1138 166 L (.ref a :: S) h = pX 1138 169 L (.int (hp_i h a 47) :: S) h := pX_get d1138_166 rfl rfl hk
theorem x1138_169 {L : List Value} {h : HP} {x0 : Int32} {a0 : Nat} {x1 : Int32} {a1 : Nat} (hk : hp_k h a0 = 12) : pX 1138 169 L [.int x0, .ref a0, .int x1, .ref a1] h = (pX 1131 0 [.ref a0, .int x0] [] h).bind (fun q => pX 1138 172 L (q.1.toList ++ [.int x1, .ref a1]) q.2) := pX_inv (a := a0) (t := 12) 1131 [.ref a0, .int x0] [.int x1, .ref a1] d1138_169 rfl rfl rfl hk
theorem x1138_172 {L S : List Value} {h : HP} {x y : Int32} : pX 1138 172 L (.int y :: .int x :: S) h = pX 1138 173 L (.int (x + y) :: S) h := pX_stp d1138_172 rfl rfl rfl
theorem x1138_173 {S : List Value} {h : HP} {l1 l2 : Value} {a0 : Nat} : pX 1138 173 [.ref a0, l1, l2] S h = pX 1138 174 [.ref a0, l1, l2] (.ref a0 :: S) h := pX_stp d1138_173 rfl rfl rfl
theorem x1138_174 {L S : List Value} {h : HP} {a : Nat} (hk : hp_k h a = 12) : pX 1138 174 L (.ref a :: S) h = pX 1138 177 L (.ref (hp_a h a 24) :: S) h := pX_get d1138_174 rfl rfl hk
theorem x1138_177 {S : List Value} {h : HP} {l0 l1 : Value} {x0 : Int32} : pX 1138 177 [l0, l1, .int x0] S h = pX 1138 178 [l0, l1, .int x0] (.int x0 :: S) h := pX_stp d1138_177 rfl rfl rfl
theorem x1138_178 {L S : List Value} {h : HP} {a : Nat} {j : Int32} (hk : hp_k h a = 100) (hj : inb j (hp_l h a) = true) : pX 1138 178 L (.int j :: .ref a :: S) h = pX 1138 179 L (.int (hp_i h a (ix j)) :: S) h := pX_ild d1138_178 hk hj
theorem x1138_179 {L S : List Value} {h : HP} : pX 1138 179 L S h = pX 1138 180 L (.int 4 :: S) h := pX_iconst d1138_179 (by decide)
theorem x1138_180 {L S : List Value} {h : HP} {x y : Int32} : pX 1138 180 L (.int y :: .int x :: S) h = if y ≤ x then pX 1138 203 L S h else pX 1138 183 L S h := pX_icmp_ge d1138_180 (by decide)
theorem x1138_183 {S : List Value} {h : HP} {l1 l2 : Value} {a0 : Nat} : pX 1138 183 [.ref a0, l1, l2] S h = pX 1138 184 [.ref a0, l1, l2] (.ref a0 :: S) h := pX_stp d1138_183 rfl rfl rfl
theorem x1138_184 {L S : List Value} {h : HP} {a : Nat} (hk : hp_k h a = 12) : pX 1138 184 L (.ref a :: S) h = pX 1138 187 L (.ref (hp_a h a 24) :: S) h := pX_get d1138_184 rfl rfl hk
theorem x1138_187 {S : List Value} {h : HP} {l0 l1 : Value} {x0 : Int32} : pX 1138 187 [l0, l1, .int x0] S h = pX 1138 188 [l0, l1, .int x0] (.int x0 :: S) h := pX_stp d1138_187 rfl rfl rfl
theorem x1138_188 {L S : List Value} {h : HP} {a : Nat} {j : Int32} (hk : hp_k h a = 100) (hj : inb j (hp_l h a) = true) : pX 1138 188 L (.int j :: .ref a :: S) h = pX 1138 189 L (.int (hp_i h a (ix j)) :: S) h := pX_ild d1138_188 hk hj
theorem x1138_189 {S : List Value} {h : HP} {l1 l2 : Value} {a0 : Nat} : pX 1138 189 [.ref a0, l1, l2] S h = pX 1138 190 [.ref a0, l1, l2] (.ref a0 :: S) h := pX_stp d1138_189 rfl rfl rfl
theorem x1138_190 {S : List Value} {h : HP} {l1 l2 : Value} {a0 : Nat} : pX 1138 190 [.ref a0, l1, l2] S h = pX 1138 191 [.ref a0, l1, l2] (.ref a0 :: S) h := pX_stp d1138_190 rfl rfl rfl
theorem x1138_191 {L S : List Value} {h : HP} {a : Nat} (hk : hp_k h a = 12) : pX 1138 191 L (.ref a :: S) h = pX 1138 194 L (.int (hp_i h a 48) :: S) h := pX_get d1138_191 rfl rfl hk
theorem x1138_194 {L : List Value} {h : HP} {x0 : Int32} {a0 : Nat} {x1 : Int32} {x2 : Int32} {a1 : Nat} (hk : hp_k h a0 = 12) : pX 1138 194 L [.int x0, .ref a0, .int x1, .int x2, .ref a1] h = (pX 1131 0 [.ref a0, .int x0] [] h).bind (fun q => pX 1138 197 L (q.1.toList ++ [.int x1, .int x2, .ref a1]) q.2) := pX_inv (a := a0) (t := 12) 1131 [.ref a0, .int x0] [.int x1, .int x2, .ref a1] d1138_194 rfl rfl rfl hk
theorem x1138_197 {L : List Value} {h : HP} {x0 : Int32} {x1 : Int32} {x2 : Int32} {a0 : Nat} : pX 1138 197 L [.int x0, .int x1, .int x2, .ref a0] h = (pX 1137 0 [.int x1, .int x0] [] h).bind (fun q => pX 1138 200 L (q.1.toList ++ [.int x2, .ref a0]) q.2) := pX_ins 1137 [.int x1, .int x0] [.int x2, .ref a0] d1138_197 rfl rfl rfl
theorem x1138_200 {L S : List Value} {h : HP} : pX 1138 200 L S h = pX 1138 234 L S h := pX_goto d1138_200 (by decide)
theorem x1138_203 {S : List Value} {h : HP} {l1 l2 : Value} {a0 : Nat} : pX 1138 203 [.ref a0, l1, l2] S h = pX 1138 204 [.ref a0, l1, l2] (.ref a0 :: S) h := pX_stp d1138_203 rfl rfl rfl
theorem x1138_204 {L S : List Value} {h : HP} {a : Nat} (hk : hp_k h a = 12) : pX 1138 204 L (.ref a :: S) h = pX 1138 207 L (.ref (hp_a h a 33) :: S) h := pX_get d1138_204 rfl rfl hk
theorem x1138_207 {S : List Value} {h : HP} {l1 l2 : Value} {a0 : Nat} : pX 1138 207 [.ref a0, l1, l2] S h = pX 1138 208 [.ref a0, l1, l2] (.ref a0 :: S) h := pX_stp d1138_207 rfl rfl rfl
theorem x1138_208 {L S : List Value} {h : HP} {a : Nat} (hk : hp_k h a = 12) : pX 1138 208 L (.ref a :: S) h = pX 1138 211 L (.int (hp_i h a 45) :: S) h := pX_get d1138_208 rfl rfl hk
theorem x1138_211 {S : List Value} {h : HP} {l1 l2 : Value} {a0 : Nat} : pX 1138 211 [.ref a0, l1, l2] S h = pX 1138 212 [.ref a0, l1, l2] (.ref a0 :: S) h := pX_stp d1138_211 rfl rfl rfl
theorem x1138_212 {L S : List Value} {h : HP} {a : Nat} (hk : hp_k h a = 12) : pX 1138 212 L (.ref a :: S) h = pX 1138 215 L (.int (hp_i h a 48) :: S) h := pX_get d1138_212 rfl rfl hk
theorem x1138_215 {L S : List Value} {h : HP} {x y : Int32} : pX 1138 215 L (.int y :: .int x :: S) h = pX 1138 216 L (.int (x + y) :: S) h := pX_stp d1138_215 rfl rfl rfl
theorem x1138_216 {L S : List Value} {h : HP} {a : Nat} {j : Int32} (hk : hp_k h a = 100) (hj : inb j (hp_l h a) = true) : pX 1138 216 L (.int j :: .ref a :: S) h = pX 1138 217 L (.int (hp_i h a (ix j)) :: S) h := pX_ild d1138_216 hk hj
theorem x1138_217 {L S : List Value} {h : HP} {x : Int32} : pX 1138 217 L (.int x :: S) h = if x = 0 then pX 1138 220 L S h else pX 1138 224 L S h := pX_if_ne d1138_217 (by decide)
theorem x1138_220 {L S : List Value} {h : HP} : pX 1138 220 L S h = pX 1138 221 L (.int 0 :: S) h := pX_iconst d1138_220 (by decide)
theorem x1138_221 {L S : List Value} {h : HP} : pX 1138 221 L S h = pX 1138 234 L S h := pX_goto d1138_221 (by decide)
theorem x1138_224 {S : List Value} {h : HP} {l1 l2 : Value} {a0 : Nat} : pX 1138 224 [.ref a0, l1, l2] S h = pX 1138 225 [.ref a0, l1, l2] (.ref a0 :: S) h := pX_stp d1138_224 rfl rfl rfl
theorem x1138_225 {S : List Value} {h : HP} {l1 l2 : Value} {a0 : Nat} : pX 1138 225 [.ref a0, l1, l2] S h = pX 1138 226 [.ref a0, l1, l2] (.ref a0 :: S) h := pX_stp d1138_225 rfl rfl rfl
theorem x1138_226 {L S : List Value} {h : HP} {a : Nat} (hk : hp_k h a = 12) : pX 1138 226 L (.ref a :: S) h = pX 1138 229 L (.int (hp_i h a 48) :: S) h := pX_get d1138_226 rfl rfl hk
theorem x1138_229 {L : List Value} {h : HP} {x0 : Int32} {a0 : Nat} {x1 : Int32} {a1 : Nat} (hk : hp_k h a0 = 12) : pX 1138 229 L [.int x0, .ref a0, .int x1, .ref a1] h = (pX 1131 0 [.ref a0, .int x0] [] h).bind (fun q => pX 1138 232 L (q.1.toList ++ [.int x1, .ref a1]) q.2) := pX_inv (a := a0) (t := 12) 1131 [.ref a0, .int x0] [.int x1, .ref a1] d1138_229 rfl rfl rfl hk
theorem x1138_232 {L S : List Value} {h : HP} : pX 1138 232 L S h = pX 1138 233 L (.int 1 :: S) h := pX_iconst d1138_232 (by decide)
theorem x1138_233 {L S : List Value} {h : HP} {x y : Int32} : pX 1138 233 L (.int y :: .int x :: S) h = pX 1138 234 L (.int (x + y) :: S) h := pX_stp d1138_233 rfl rfl rfl
theorem x1138_234 {L S : List Value} {h : HP} {a : Nat} {j x : Int32} (hk : hp_k h a = 100) (hj : inb j (hp_l h a) = true) : pX 1138 234 L (.int x :: .int j :: .ref a :: S) h = pX 1138 235 L S (hp_wi h a (ix j) x) := pX_ist d1138_234 hk hj
theorem x1138_235 {L S : List Value} {h : HP} : pX 1138 235 L S h = pX 1138 236 L (.int 0 :: S) h := pX_iconst d1138_235 (by decide)
theorem x1138_236 {L : List Value} {h : HP} {x : Int32} : pX 1138 236 L [.int x] h = some (some (.int x), h) := pX_ret d1138_236 rfl
theorem d1139_0 : decode (mb 1139) 0 = .ok (.aload_n 0, 1) := by decide +kernel
theorem d1139_1 : decode (mb 1139) 1 = .ok (.aload_n 0, 1) := by decide +kernel
theorem d1139_2 : decode (mb 1139) 2 = .ok (.getfield 195, 3) := by decide +kernel
theorem d1139_5 : decode (mb 1139) 5 = .ok (.iconst 3, 1) := by decide +kernel
theorem d1139_6 : decode (mb 1139) 6 = .ok (.invokevirtual 198, 3) := by decide +kernel
theorem d1139_9 : decode (mb 1139) 9 = .ok (.istore_n 1, 1) := by decide +kernel
theorem d1139_10 : decode (mb 1139) 10 = .ok (.iload_n 1, 1) := by decide +kernel
theorem d1139_11 : decode (mb 1139) 11 = .ok (.ifCond .le 7, 3) := by decide +kernel
theorem d1139_14 : decode (mb 1139) 14 = .ok (.iload_n 1, 1) := by decide +kernel
theorem d1139_15 : decode (mb 1139) 15 = .ok (.goto 12, 3) := by decide +kernel
theorem d1139_18 : decode (mb 1139) 18 = .ok (.aload_n 0, 1) := by decide +kernel
theorem d1139_19 : decode (mb 1139) 19 = .ok (.aload_n 0, 1) := by decide +kernel
theorem d1139_20 : decode (mb 1139) 20 = .ok (.getfield 201, 3) := by decide +kernel
theorem d1139_23 : decode (mb 1139) 23 = .ok (.iconst 1, 1) := by decide +kernel
theorem d1139_24 : decode (mb 1139) 24 = .ok (.invokevirtual 198, 3) := by decide +kernel
theorem d1139_27 : decode (mb 1139) 27 = .ok (.istore_n 1, 1) := by decide +kernel
theorem d1139_28 : decode (mb 1139) 28 = .ok (.iload_n 1, 1) := by decide +kernel
theorem d1139_29 : decode (mb 1139) 29 = .ok (.ifCond .le 5, 3) := by decide +kernel
theorem d1139_32 : decode (mb 1139) 32 = .ok (.iload_n 1, 1) := by decide +kernel
theorem d1139_33 : decode (mb 1139) 33 = .ok (.ireturn, 1) := by decide +kernel
theorem d1139_34 : decode (mb 1139) 34 = .ok (.aload_n 0, 1) := by decide +kernel
theorem d1139_35 : decode (mb 1139) 35 = .ok (.aload_n 0, 1) := by decide +kernel
theorem d1139_36 : decode (mb 1139) 36 = .ok (.getfield 195, 3) := by decide +kernel
theorem d1139_39 : decode (mb 1139) 39 = .ok (.invokevirtual 208, 3) := by decide +kernel
theorem d1139_42 : decode (mb 1139) 42 = .ok (.istore_n 2, 1) := by decide +kernel
theorem d1139_43 : decode (mb 1139) 43 = .ok (.aload_n 0, 1) := by decide +kernel
theorem d1139_44 : decode (mb 1139) 44 = .ok (.aload_n 0, 1) := by decide +kernel
theorem d1139_45 : decode (mb 1139) 45 = .ok (.getfield 201, 3) := by decide +kernel
theorem d1139_48 : decode (mb 1139) 48 = .ok (.invokevirtual 208, 3) := by decide +kernel
theorem d1139_51 : decode (mb 1139) 51 = .ok (.iconst 0, 1) := by decide +kernel
theorem d1139_52 : decode (mb 1139) 52 = .ok (.aload_n 0, 1) := by decide +kernel
theorem d1139_53 : decode (mb 1139) 53 = .ok (.getfield 67, 3) := by decide +kernel
theorem d1139_56 : decode (mb 1139) 56 = .ok (.iload_n 2, 1) := by decide +kernel
theorem d1139_57 : decode (mb 1139) 57 = .ok (.iaload, 1) := by decide +kernel
theorem d1139_58 : decode (mb 1139) 58 = .ok (.iconst 1, 1) := by decide +kernel
theorem d1139_59 : decode (mb 1139) 59 = .ok (.isub, 1) := by decide +kernel
theorem d1139_60 : decode (mb 1139) 60 = .ok (.invokestatic 111, 3) := by decide +kernel
theorem d1139_63 : decode (mb 1139) 63 = .ok (.ifCond .ne 5, 3) := by decide +kernel
theorem d1139_66 : decode (mb 1139) 66 = .ok (.iconst 2, 1) := by decide +kernel
theorem d1139_67 : decode (mb 1139) 67 = .ok (.ireturn, 1) := by decide +kernel
theorem d1139_68 : decode (mb 1139) 68 = .ok (.aload_n 0, 1) := by decide +kernel
theorem d1139_69 : decode (mb 1139) 69 = .ok (.getfield 70, 3) := by decide +kernel
theorem d1139_72 : decode (mb 1139) 72 = .ok (.aload_n 0, 1) := by decide +kernel
theorem d1139_73 : decode (mb 1139) 73 = .ok (.getfield 64, 3) := by decide +kernel
theorem d1139_76 : decode (mb 1139) 76 = .ok (.iload_n 2, 1) := by decide +kernel
theorem d1139_77 : decode (mb 1139) 77 = .ok (.iaload, 1) := by decide +kernel
theorem d1139_78 : decode (mb 1139) 78 = .ok (.aload_n 0, 1) := by decide +kernel
theorem d1139_79 : decode (mb 1139) 79 = .ok (.aload_n 0, 1) := by decide +kernel
theorem d1139_80 : decode (mb 1139) 80 = .ok (.getfield 201, 3) := by decide +kernel
theorem d1139_83 : decode (mb 1139) 83 = .ok (.invokevirtual 208, 3) := by decide +kernel
theorem d1139_86 : decode (mb 1139) 86 = .ok (.iadd, 1) := by decide +kernel
theorem d1139_87 : decode (mb 1139) 87 = .ok (.iaload, 1) := by decide +kernel
theorem d1139_88 : decode (mb 1139) 88 = .ok (.istore_n 3, 1) := by decide +kernel
theorem d1139_89 : decode (mb 1139) 89 = .ok (.aload_n 0, 1) := by decide +kernel
theorem d1139_90 : decode (mb 1139) 90 = .ok (.getfield 61, 3) := by decide +kernel
theorem d1139_93 : decode (mb 1139) 93 = .ok (.iload_n 2, 1) := by decide +kernel
theorem d1139_94 : decode (mb 1139) 94 = .ok (.iaload, 1) := by decide +kernel
theorem d1139_95 : decode (mb 1139) 95 = .ok (.iconst 4, 1) := by decide +kernel
theorem d1139_96 : decode (mb 1139) 96 = .ok (.if_icmp .ge 12, 3) := by decide +kernel
theorem d1139_99 : decode (mb 1139) 99 = .ok (.aload_n 0, 1) := by decide +kernel
theorem d1139_100 : decode (mb 1139) 100 = .ok (.iconst 1, 1) := by decide +kernel
theorem d1139_101 : decode (mb 1139) 101 = .ok (.iload_n 3, 1) := by decide +kernel
theorem d1139_102 : decode (mb 1139) 102 = .ok (.invokevirtual 211, 3) := by decide +kernel
theorem d1139_105 : decode (mb 1139) 105 = .ok (.goto 27, 3) := by decide +kernel
theorem d1139_108 : decode (mb 1139) 108 = .ok (.aload_n 0, 1) := by decide +kernel
theorem d1139_109 : decode (mb 1139) 109 = .ok (.iload_n 3, 1) := by decide +kernel
theorem d1139_110 : decode (mb 1139) 110 = .ok (.ifCond .ne 7, 3) := by decide +kernel
theorem d1139_113 : decode (mb 1139) 113 = .ok (.iconst 0, 1) := by decide +kernel
theorem d1139_114 : decode (mb 1139) 114 = .ok (.goto 4, 3) := by decide +kernel
theorem d1139_117 : decode (mb 1139) 117 = .ok (.iconst 3, 1) := by decide +kernel
theorem d1139_118 : decode (mb 1139) 118 = .ok (.iload_n 3, 1) := by decide +kernel
theorem d1139_119 : decode (mb 1139) 119 = .ok (.ifCond .ne 7, 3) := by decide +kernel
theorem d1139_122 : decode (mb 1139) 122 = .ok (.iconst 0, 1) := by decide +kernel
theorem d1139_123 : decode (mb 1139) 123 = .ok (.goto 6, 3) := by decide +kernel
theorem d1139_126 : decode (mb 1139) 126 = .ok (.iload_n 3, 1) := by decide +kernel
theorem d1139_127 : decode (mb 1139) 127 = .ok (.iconst 1, 1) := by decide +kernel
theorem d1139_128 : decode (mb 1139) 128 = .ok (.isub, 1) := by decide +kernel
theorem d1139_129 : decode (mb 1139) 129 = .ok (.invokevirtual 211, 3) := by decide +kernel
theorem d1139_132 : decode (mb 1139) 132 = .ok (.iconst 0, 1) := by decide +kernel
theorem d1139_133 : decode (mb 1139) 133 = .ok (.ireturn, 1) := by decide +kernel
theorem x1139_0 {S : List Value} {h : HP} {l1 l2 l3 : Value} {a0 : Nat} : pX 1139 0 [.ref a0, l1, l2, l3] S h = pX 1139 1 [.ref a0, l1, l2, l3] (.ref a0 :: S) h := pX_stp d1139_0 rfl rfl rfl
theorem x1139_1 {S : List Value} {h : HP} {l1 l2 l3 : Value} {a0 : Nat} : pX 1139 1 [.ref a0, l1, l2, l3] S h = pX 1139 2 [.ref a0, l1, l2, l3] (.ref a0 :: S) h := pX_stp d1139_1 rfl rfl rfl
theorem x1139_2 {L S : List Value} {h : HP} {a : Nat} (hk : hp_k h a = 12) : pX 1139 2 L (.ref a :: S) h = pX 1139 5 L (.int (hp_i h a 47) :: S) h := pX_get d1139_2 rfl rfl hk
theorem x1139_5 {L S : List Value} {h : HP} : pX 1139 5 L S h = pX 1139 6 L (.int 3 :: S) h := pX_iconst d1139_5 (by decide)
theorem x1139_6 {L : List Value} {h : HP} {x0 : Int32} {x1 : Int32} {a0 : Nat} (hk : hp_k h a0 = 12) : pX 1139 6 L [.int x0, .int x1, .ref a0] h = (pX 1130 0 [.ref a0, .int x1, .int x0] [] h).bind (fun q => pX 1139 9 L (q.1.toList ++ []) q.2) := pX_inv (a := a0) (t := 12) 1130 [.ref a0, .int x1, .int x0] [] d1139_6 rfl rfl rfl hk
theorem x1139_9 {S : List Value} {h : HP} {l0 l1 l2 l3 : Value} {x0 : Int32} : pX 1139 9 [l0, l1, l2, l3] (.int x0 :: S) h = pX 1139 10 [l0, .int x0, l2, l3] S h := pX_stp d1139_9 rfl rfl rfl
theorem x1139_10 {S : List Value} {h : HP} {l0 l2 l3 : Value} {x0 : Int32} : pX 1139 10 [l0, .int x0, l2, l3] S h = pX 1139 11 [l0, .int x0, l2, l3] (.int x0 :: S) h := pX_stp d1139_10 rfl rfl rfl
theorem x1139_11 {L S : List Value} {h : HP} {x : Int32} : pX 1139 11 L (.int x :: S) h = if x ≤ 0 then pX 1139 18 L S h else pX 1139 14 L S h := pX_if_le d1139_11 (by decide)
theorem x1139_14 {S : List Value} {h : HP} {l0 l2 l3 : Value} {x0 : Int32} : pX 1139 14 [l0, .int x0, l2, l3] S h = pX 1139 15 [l0, .int x0, l2, l3] (.int x0 :: S) h := pX_stp d1139_14 rfl rfl rfl
theorem x1139_15 {L S : List Value} {h : HP} : pX 1139 15 L S h = pX 1139 27 L S h := pX_goto d1139_15 (by decide)
theorem x1139_18 {S : List Value} {h : HP} {l1 l2 l3 : Value} {a0 : Nat} : pX 1139 18 [.ref a0, l1, l2, l3] S h = pX 1139 19 [.ref a0, l1, l2, l3] (.ref a0 :: S) h := pX_stp d1139_18 rfl rfl rfl
theorem x1139_19 {S : List Value} {h : HP} {l1 l2 l3 : Value} {a0 : Nat} : pX 1139 19 [.ref a0, l1, l2, l3] S h = pX 1139 20 [.ref a0, l1, l2, l3] (.ref a0 :: S) h := pX_stp d1139_19 rfl rfl rfl
theorem x1139_20 {L S : List Value} {h : HP} {a : Nat} (hk : hp_k h a = 12) : pX 1139 20 L (.ref a :: S) h = pX 1139 23 L (.int (hp_i h a 48) :: S) h := pX_get d1139_20 rfl rfl hk
theorem x1139_23 {L S : List Value} {h : HP} : pX 1139 23 L S h = pX 1139 24 L (.int 1 :: S) h := pX_iconst d1139_23 (by decide)
theorem x1139_24 {L : List Value} {h : HP} {x0 : Int32} {x1 : Int32} {a0 : Nat} (hk : hp_k h a0 = 12) : pX 1139 24 L [.int x0, .int x1, .ref a0] h = (pX 1130 0 [.ref a0, .int x1, .int x0] [] h).bind (fun q => pX 1139 27 L (q.1.toList ++ []) q.2) := pX_inv (a := a0) (t := 12) 1130 [.ref a0, .int x1, .int x0] [] d1139_24 rfl rfl rfl hk
theorem x1139_27 {S : List Value} {h : HP} {l0 l1 l2 l3 : Value} {x0 : Int32} : pX 1139 27 [l0, l1, l2, l3] (.int x0 :: S) h = pX 1139 28 [l0, .int x0, l2, l3] S h := pX_stp d1139_27 rfl rfl rfl
theorem x1139_28 {S : List Value} {h : HP} {l0 l2 l3 : Value} {x0 : Int32} : pX 1139 28 [l0, .int x0, l2, l3] S h = pX 1139 29 [l0, .int x0, l2, l3] (.int x0 :: S) h := pX_stp d1139_28 rfl rfl rfl
theorem x1139_29 {L S : List Value} {h : HP} {x : Int32} : pX 1139 29 L (.int x :: S) h = if x ≤ 0 then pX 1139 34 L S h else pX 1139 32 L S h := pX_if_le d1139_29 (by decide)
theorem x1139_32 {S : List Value} {h : HP} {l0 l2 l3 : Value} {x0 : Int32} : pX 1139 32 [l0, .int x0, l2, l3] S h = pX 1139 33 [l0, .int x0, l2, l3] (.int x0 :: S) h := pX_stp d1139_32 rfl rfl rfl
theorem x1139_33 {L : List Value} {h : HP} {x : Int32} : pX 1139 33 L [.int x] h = some (some (.int x), h) := pX_ret d1139_33 rfl
theorem x1139_34 {S : List Value} {h : HP} {l1 l2 l3 : Value} {a0 : Nat} : pX 1139 34 [.ref a0, l1, l2, l3] S h = pX 1139 35 [.ref a0, l1, l2, l3] (.ref a0 :: S) h := pX_stp d1139_34 rfl rfl rfl
theorem x1139_35 {S : List Value} {h : HP} {l1 l2 l3 : Value} {a0 : Nat} : pX 1139 35 [.ref a0, l1, l2, l3] S h = pX 1139 36 [.ref a0, l1, l2, l3] (.ref a0 :: S) h := pX_stp d1139_35 rfl rfl rfl
theorem x1139_36 {L S : List Value} {h : HP} {a : Nat} (hk : hp_k h a = 12) : pX 1139 36 L (.ref a :: S) h = pX 1139 39 L (.int (hp_i h a 47) :: S) h := pX_get d1139_36 rfl rfl hk
theorem x1139_39 {L : List Value} {h : HP} {x0 : Int32} {a0 : Nat} (hk : hp_k h a0 = 12) : pX 1139 39 L [.int x0, .ref a0] h = (pX 1131 0 [.ref a0, .int x0] [] h).bind (fun q => pX 1139 42 L (q.1.toList ++ []) q.2) := pX_inv (a := a0) (t := 12) 1131 [.ref a0, .int x0] [] d1139_39 rfl rfl rfl hk
theorem x1139_42 {S : List Value} {h : HP} {l0 l1 l2 l3 : Value} {x0 : Int32} : pX 1139 42 [l0, l1, l2, l3] (.int x0 :: S) h = pX 1139 43 [l0, l1, .int x0, l3] S h := pX_stp d1139_42 rfl rfl rfl
theorem x1139_43 {S : List Value} {h : HP} {l1 l2 l3 : Value} {a0 : Nat} : pX 1139 43 [.ref a0, l1, l2, l3] S h = pX 1139 44 [.ref a0, l1, l2, l3] (.ref a0 :: S) h := pX_stp d1139_43 rfl rfl rfl
theorem x1139_44 {S : List Value} {h : HP} {l1 l2 l3 : Value} {a0 : Nat} : pX 1139 44 [.ref a0, l1, l2, l3] S h = pX 1139 45 [.ref a0, l1, l2, l3] (.ref a0 :: S) h := pX_stp d1139_44 rfl rfl rfl
theorem x1139_45 {L S : List Value} {h : HP} {a : Nat} (hk : hp_k h a = 12) : pX 1139 45 L (.ref a :: S) h = pX 1139 48 L (.int (hp_i h a 48) :: S) h := pX_get d1139_45 rfl rfl hk
theorem x1139_48 {L : List Value} {h : HP} {x0 : Int32} {a0 : Nat} (hk : hp_k h a0 = 12) : pX 1139 48 L [.int x0, .ref a0] h = (pX 1131 0 [.ref a0, .int x0] [] h).bind (fun q => pX 1139 51 L (q.1.toList ++ []) q.2) := pX_inv (a := a0) (t := 12) 1131 [.ref a0, .int x0] [] d1139_48 rfl rfl rfl hk
theorem x1139_51 {L S : List Value} {h : HP} : pX 1139 51 L S h = pX 1139 52 L (.int 0 :: S) h := pX_iconst d1139_51 (by decide)
theorem x1139_52 {S : List Value} {h : HP} {l1 l2 l3 : Value} {a0 : Nat} : pX 1139 52 [.ref a0, l1, l2, l3] S h = pX 1139 53 [.ref a0, l1, l2, l3] (.ref a0 :: S) h := pX_stp d1139_52 rfl rfl rfl
theorem x1139_53 {L S : List Value} {h : HP} {a : Nat} (hk : hp_k h a = 12) : pX 1139 53 L (.ref a :: S) h = pX 1139 56 L (.ref (hp_a h a 26) :: S) h := pX_get d1139_53 rfl rfl hk
theorem x1139_56 {S : List Value} {h : HP} {l0 l1 l3 : Value} {x0 : Int32} : pX 1139 56 [l0, l1, .int x0, l3] S h = pX 1139 57 [l0, l1, .int x0, l3] (.int x0 :: S) h := pX_stp d1139_56 rfl rfl rfl
theorem x1139_57 {L S : List Value} {h : HP} {a : Nat} {j : Int32} (hk : hp_k h a = 100) (hj : inb j (hp_l h a) = true) : pX 1139 57 L (.int j :: .ref a :: S) h = pX 1139 58 L (.int (hp_i h a (ix j)) :: S) h := pX_ild d1139_57 hk hj
theorem x1139_58 {L S : List Value} {h : HP} : pX 1139 58 L S h = pX 1139 59 L (.int 1 :: S) h := pX_iconst d1139_58 (by decide)
theorem x1139_59 {L S : List Value} {h : HP} {x y : Int32} : pX 1139 59 L (.int y :: .int x :: S) h = pX 1139 60 L (.int (x - y) :: S) h := pX_stp d1139_59 rfl rfl rfl
theorem x1139_60 {L : List Value} {h : HP} {x0 : Int32} {x1 : Int32} {x2 : Int32} : pX 1139 60 L [.int x0, .int x1, .int x2] h = (pX 1101 0 [.int x2, .int x1, .int x0] [] h).bind (fun q => pX 1139 63 L (q.1.toList ++ []) q.2) := pX_ins 1101 [.int x2, .int x1, .int x0] [] d1139_60 rfl rfl rfl
theorem x1139_63 {L S : List Value} {h : HP} {x : Int32} : pX 1139 63 L (.int x :: S) h = if x = 0 then pX 1139 66 L S h else pX 1139 68 L S h := pX_if_ne d1139_63 (by decide)
theorem x1139_66 {L S : List Value} {h : HP} : pX 1139 66 L S h = pX 1139 67 L (.int 2 :: S) h := pX_iconst d1139_66 (by decide)
theorem x1139_67 {L : List Value} {h : HP} {x : Int32} : pX 1139 67 L [.int x] h = some (some (.int x), h) := pX_ret d1139_67 rfl
theorem x1139_68 {S : List Value} {h : HP} {l1 l2 l3 : Value} {a0 : Nat} : pX 1139 68 [.ref a0, l1, l2, l3] S h = pX 1139 69 [.ref a0, l1, l2, l3] (.ref a0 :: S) h := pX_stp d1139_68 rfl rfl rfl
theorem x1139_69 {L S : List Value} {h : HP} {a : Nat} (hk : hp_k h a = 12) : pX 1139 69 L (.ref a :: S) h = pX 1139 72 L (.ref (hp_a h a 27) :: S) h := pX_get d1139_69 rfl rfl hk
theorem x1139_72 {S : List Value} {h : HP} {l1 l2 l3 : Value} {a0 : Nat} : pX 1139 72 [.ref a0, l1, l2, l3] S h = pX 1139 73 [.ref a0, l1, l2, l3] (.ref a0 :: S) h := pX_stp d1139_72 rfl rfl rfl
theorem x1139_73 {L S : List Value} {h : HP} {a : Nat} (hk : hp_k h a = 12) : pX 1139 73 L (.ref a :: S) h = pX 1139 76 L (.ref (hp_a h a 25) :: S) h := pX_get d1139_73 rfl rfl hk
theorem x1139_76 {S : List Value} {h : HP} {l0 l1 l3 : Value} {x0 : Int32} : pX 1139 76 [l0, l1, .int x0, l3] S h = pX 1139 77 [l0, l1, .int x0, l3] (.int x0 :: S) h := pX_stp d1139_76 rfl rfl rfl
theorem x1139_77 {L S : List Value} {h : HP} {a : Nat} {j : Int32} (hk : hp_k h a = 100) (hj : inb j (hp_l h a) = true) : pX 1139 77 L (.int j :: .ref a :: S) h = pX 1139 78 L (.int (hp_i h a (ix j)) :: S) h := pX_ild d1139_77 hk hj
theorem x1139_78 {S : List Value} {h : HP} {l1 l2 l3 : Value} {a0 : Nat} : pX 1139 78 [.ref a0, l1, l2, l3] S h = pX 1139 79 [.ref a0, l1, l2, l3] (.ref a0 :: S) h := pX_stp d1139_78 rfl rfl rfl
theorem x1139_79 {S : List Value} {h : HP} {l1 l2 l3 : Value} {a0 : Nat} : pX 1139 79 [.ref a0, l1, l2, l3] S h = pX 1139 80 [.ref a0, l1, l2, l3] (.ref a0 :: S) h := pX_stp d1139_79 rfl rfl rfl
theorem x1139_80 {L S : List Value} {h : HP} {a : Nat} (hk : hp_k h a = 12) : pX 1139 80 L (.ref a :: S) h = pX 1139 83 L (.int (hp_i h a 48) :: S) h := pX_get d1139_80 rfl rfl hk
theorem x1139_83 {L : List Value} {h : HP} {x0 : Int32} {a0 : Nat} {x1 : Int32} {a1 : Nat} (hk : hp_k h a0 = 12) : pX 1139 83 L [.int x0, .ref a0, .int x1, .ref a1] h = (pX 1131 0 [.ref a0, .int x0] [] h).bind (fun q => pX 1139 86 L (q.1.toList ++ [.int x1, .ref a1]) q.2) := pX_inv (a := a0) (t := 12) 1131 [.ref a0, .int x0] [.int x1, .ref a1] d1139_83 rfl rfl rfl hk
theorem x1139_86 {L S : List Value} {h : HP} {x y : Int32} : pX 1139 86 L (.int y :: .int x :: S) h = pX 1139 87 L (.int (x + y) :: S) h := pX_stp d1139_86 rfl rfl rfl
theorem x1139_87 {L S : List Value} {h : HP} {a : Nat} {j : Int32} (hk : hp_k h a = 100) (hj : inb j (hp_l h a) = true) : pX 1139 87 L (.int j :: .ref a :: S) h = pX 1139 88 L (.int (hp_i h a (ix j)) :: S) h := pX_ild d1139_87 hk hj
theorem x1139_88 {S : List Value} {h : HP} {l0 l1 l2 l3 : Value} {x0 : Int32} : pX 1139 88 [l0, l1, l2, l3] (.int x0 :: S) h = pX 1139 89 [l0, l1, l2, .int x0] S h := pX_stp d1139_88 rfl rfl rfl
theorem x1139_89 {S : List Value} {h : HP} {l1 l2 l3 : Value} {a0 : Nat} : pX 1139 89 [.ref a0, l1, l2, l3] S h = pX 1139 90 [.ref a0, l1, l2, l3] (.ref a0 :: S) h := pX_stp d1139_89 rfl rfl rfl
theorem x1139_90 {L S : List Value} {h : HP} {a : Nat} (hk : hp_k h a = 12) : pX 1139 90 L (.ref a :: S) h = pX 1139 93 L (.ref (hp_a h a 24) :: S) h := pX_get d1139_90 rfl rfl hk
theorem x1139_93 {S : List Value} {h : HP} {l0 l1 l3 : Value} {x0 : Int32} : pX 1139 93 [l0, l1, .int x0, l3] S h = pX 1139 94 [l0, l1, .int x0, l3] (.int x0 :: S) h := pX_stp d1139_93 rfl rfl rfl
theorem x1139_94 {L S : List Value} {h : HP} {a : Nat} {j : Int32} (hk : hp_k h a = 100) (hj : inb j (hp_l h a) = true) : pX 1139 94 L (.int j :: .ref a :: S) h = pX 1139 95 L (.int (hp_i h a (ix j)) :: S) h := pX_ild d1139_94 hk hj
theorem x1139_95 {L S : List Value} {h : HP} : pX 1139 95 L S h = pX 1139 96 L (.int 4 :: S) h := pX_iconst d1139_95 (by decide)
theorem x1139_96 {L S : List Value} {h : HP} {x y : Int32} : pX 1139 96 L (.int y :: .int x :: S) h = if y ≤ x then pX 1139 108 L S h else pX 1139 99 L S h := pX_icmp_ge d1139_96 (by decide)
theorem x1139_99 {S : List Value} {h : HP} {l1 l2 l3 : Value} {a0 : Nat} : pX 1139 99 [.ref a0, l1, l2, l3] S h = pX 1139 100 [.ref a0, l1, l2, l3] (.ref a0 :: S) h := pX_stp d1139_99 rfl rfl rfl
theorem x1139_100 {L S : List Value} {h : HP} : pX 1139 100 L S h = pX 1139 101 L (.int 1 :: S) h := pX_iconst d1139_100 (by decide)
theorem x1139_101 {S : List Value} {h : HP} {l0 l1 l2 : Value} {x0 : Int32} : pX 1139 101 [l0, l1, l2, .int x0] S h = pX 1139 102 [l0, l1, l2, .int x0] (.int x0 :: S) h := pX_stp d1139_101 rfl rfl rfl
theorem x1139_102 {L : List Value} {h : HP} {x0 : Int32} {x1 : Int32} {a0 : Nat} (hk : hp_k h a0 = 12) : pX 1139 102 L [.int x0, .int x1, .ref a0] h = (pX 1129 0 [.ref a0, .int x1, .int x0] [] h).bind (fun q => pX 1139 105 L (q.1.toList ++ []) q.2) := pX_inv (a := a0) (t := 12) 1129 [.ref a0, .int x1, .int x0] [] d1139_102 rfl rfl rfl hk
theorem x1139_105 {L S : List Value} {h : HP} : pX 1139 105 L S h = pX 1139 132 L S h := pX_goto d1139_105 (by decide)
theorem x1139_108 {S : List Value} {h : HP} {l1 l2 l3 : Value} {a0 : Nat} : pX 1139 108 [.ref a0, l1, l2, l3] S h = pX 1139 109 [.ref a0, l1, l2, l3] (.ref a0 :: S) h := pX_stp d1139_108 rfl rfl rfl
theorem x1139_109 {S : List Value} {h : HP} {l0 l1 l2 : Value} {x0 : Int32} : pX 1139 109 [l0, l1, l2, .int x0] S h = pX 1139 110 [l0, l1, l2, .int x0] (.int x0 :: S) h := pX_stp d1139_109 rfl rfl rfl
theorem x1139_110 {L S : List Value} {h : HP} {x : Int32} : pX 1139 110 L (.int x :: S) h = if x = 0 then pX 1139 113 L S h else pX 1139 117 L S h := pX_if_ne d1139_110 (by decide)
theorem x1139_113 {L S : List Value} {h : HP} : pX 1139 113 L S h = pX 1139 114 L (.int 0 :: S) h := pX_iconst d1139_113 (by decide)
theorem x1139_114 {L S : List Value} {h : HP} : pX 1139 114 L S h = pX 1139 118 L S h := pX_goto d1139_114 (by decide)
theorem x1139_117 {L S : List Value} {h : HP} : pX 1139 117 L S h = pX 1139 118 L (.int 3 :: S) h := pX_iconst d1139_117 (by decide)
theorem x1139_118 {S : List Value} {h : HP} {l0 l1 l2 : Value} {x0 : Int32} : pX 1139 118 [l0, l1, l2, .int x0] S h = pX 1139 119 [l0, l1, l2, .int x0] (.int x0 :: S) h := pX_stp d1139_118 rfl rfl rfl
theorem x1139_119 {L S : List Value} {h : HP} {x : Int32} : pX 1139 119 L (.int x :: S) h = if x = 0 then pX 1139 122 L S h else pX 1139 126 L S h := pX_if_ne d1139_119 (by decide)
theorem x1139_122 {L S : List Value} {h : HP} : pX 1139 122 L S h = pX 1139 123 L (.int 0 :: S) h := pX_iconst d1139_122 (by decide)
theorem x1139_123 {L S : List Value} {h : HP} : pX 1139 123 L S h = pX 1139 129 L S h := pX_goto d1139_123 (by decide)
theorem x1139_126 {S : List Value} {h : HP} {l0 l1 l2 : Value} {x0 : Int32} : pX 1139 126 [l0, l1, l2, .int x0] S h = pX 1139 127 [l0, l1, l2, .int x0] (.int x0 :: S) h := pX_stp d1139_126 rfl rfl rfl
theorem x1139_127 {L S : List Value} {h : HP} : pX 1139 127 L S h = pX 1139 128 L (.int 1 :: S) h := pX_iconst d1139_127 (by decide)
theorem x1139_128 {L S : List Value} {h : HP} {x y : Int32} : pX 1139 128 L (.int y :: .int x :: S) h = pX 1139 129 L (.int (x - y) :: S) h := pX_stp d1139_128 rfl rfl rfl
theorem x1139_129 {L : List Value} {h : HP} {x0 : Int32} {x1 : Int32} {a0 : Nat} (hk : hp_k h a0 = 12) : pX 1139 129 L [.int x0, .int x1, .ref a0] h = (pX 1129 0 [.ref a0, .int x1, .int x0] [] h).bind (fun q => pX 1139 132 L (q.1.toList ++ []) q.2) := pX_inv (a := a0) (t := 12) 1129 [.ref a0, .int x1, .int x0] [] d1139_129 rfl rfl rfl hk
theorem x1139_132 {L S : List Value} {h : HP} : pX 1139 132 L S h = pX 1139 133 L (.int 0 :: S) h := pX_iconst d1139_132 (by decide)
theorem x1139_133 {L : List Value} {h : HP} {x : Int32} : pX 1139 133 L [.int x] h = some (some (.int x), h) := pX_ret d1139_133 rfl
theorem d1140_0 : decode (mb 1140) 0 = .ok (.aload_n 0, 1) := by decide +kernel
theorem d1140_1 : decode (mb 1140) 1 = .ok (.aload_n 0, 1) := by decide +kernel
theorem d1140_2 : decode (mb 1140) 2 = .ok (.getfield 195, 3) := by decide +kernel
theorem d1140_5 : decode (mb 1140) 5 = .ok (.iconst 2, 1) := by decide +kernel
theorem d1140_6 : decode (mb 1140) 6 = .ok (.invokevirtual 198, 3) := by decide +kernel
theorem d1140_9 : decode (mb 1140) 9 = .ok (.istore_n 1, 1) := by decide +kernel
theorem d1140_10 : decode (mb 1140) 10 = .ok (.iload_n 1, 1) := by decide +kernel
theorem d1140_11 : decode (mb 1140) 11 = .ok (.ifCond .le 5, 3) := by decide +kernel
theorem d1140_14 : decode (mb 1140) 14 = .ok (.iload_n 1, 1) := by decide +kernel
theorem d1140_15 : decode (mb 1140) 15 = .ok (.ireturn, 1) := by decide +kernel
theorem d1140_16 : decode (mb 1140) 16 = .ok (.aload_n 0, 1) := by decide +kernel
theorem d1140_17 : decode (mb 1140) 17 = .ok (.aload_n 0, 1) := by decide +kernel
theorem d1140_18 : decode (mb 1140) 18 = .ok (.getfield 195, 3) := by decide +kernel
theorem d1140_21 : decode (mb 1140) 21 = .ok (.invokevirtual 208, 3) := by decide +kernel
theorem d1140_24 : decode (mb 1140) 24 = .ok (.istore_n 2, 1) := by decide +kernel
theorem d1140_25 : decode (mb 1140) 25 = .ok (.aload_n 0, 1) := by decide +kernel
theorem d1140_26 : decode (mb 1140) 26 = .ok (.getfield 201, 3) := by decide +kernel
theorem d1140_29 : decode (mb 1140) 29 = .ok (.iconst 1, 1) := by decide +kernel
theorem d1140_30 : decode (mb 1140) 30 = .ok (.if_icmp .ne 22, 3) := by decide +kernel
theorem d1140_33 : decode (mb 1140) 33 = .ok (.aload_n 0, 1) := by decide +kernel
theorem d1140_34 : decode (mb 1140) 34 = .ok (.aload_n 0, 1) := by decide +kernel
theorem d1140_35 : decode (mb 1140) 35 = .ok (.getfield 52, 3) := by decide +kernel
theorem d1140_38 : decode (mb 1140) 38 = .ok (.iload_n 2, 1) := by decide +kernel
theorem d1140_39 : decode (mb 1140) 39 = .ok (.iaload, 1) := by decide +kernel
theorem d1140_40 : decode (mb 1140) 40 = .ok (.aload_n 0, 1) := by decide +kernel
theorem d1140_41 : decode (mb 1140) 41 = .ok (.getfield 55, 3) := by decide +kernel
theorem d1140_44 : decode (mb 1140) 44 = .ok (.iload_n 2, 1) := by decide +kernel
theorem d1140_45 : decode (mb 1140) 45 = .ok (.iaload, 1) := by decide +kernel
theorem d1140_46 : decode (mb 1140) 46 = .ok (.invokevirtual 211, 3) := by decide +kernel
theorem d1140_49 : decode (mb 1140) 49 = .ok (.goto 48, 3) := by decide +kernel
theorem d1140_52 : decode (mb 1140) 52 = .ok (.aload_n 0, 1) := by decide +kernel
theorem d1140_53 : decode (mb 1140) 53 = .ok (.iconst 1, 1) := by decide +kernel
theorem d1140_54 : decode (mb 1140) 54 = .ok (.aload_n 0, 1) := by decide +kernel
theorem d1140_55 : decode (mb 1140) 55 = .ok (.getfield 201, 3) := by decide +kernel
theorem d1140_58 : decode (mb 1140) 58 = .ok (.ifCond .ne 12, 3) := by decide +kernel
theorem d1140_61 : decode (mb 1140) 61 = .ok (.aload_n 0, 1) := by decide +kernel
theorem d1140_62 : decode (mb 1140) 62 = .ok (.getfield 49, 3) := by decide +kernel
theorem d1140_65 : decode (mb 1140) 65 = .ok (.iload_n 2, 1) := by decide +kernel
theorem d1140_66 : decode (mb 1140) 66 = .ok (.iaload, 1) := by decide +kernel
theorem d1140_67 : decode (mb 1140) 67 = .ok (.goto 27, 3) := by decide +kernel
theorem d1140_70 : decode (mb 1140) 70 = .ok (.aload_n 0, 1) := by decide +kernel
theorem d1140_71 : decode (mb 1140) 71 = .ok (.getfield 201, 3) := by decide +kernel
theorem d1140_74 : decode (mb 1140) 74 = .ok (.iconst 3, 1) := by decide +kernel
theorem d1140_75 : decode (mb 1140) 75 = .ok (.if_icmp .ne 18, 3) := by decide +kernel
theorem d1140_78 : decode (mb 1140) 78 = .ok (.aload_n 0, 1) := by decide +kernel
theorem d1140_79 : decode (mb 1140) 79 = .ok (.getfield 46, 3) := by decide +kernel
theorem d1140_82 : decode (mb 1140) 82 = .ok (.iload_n 2, 1) := by decide +kernel
theorem d1140_83 : decode (mb 1140) 83 = .ok (.iaload, 1) := by decide +kernel
theorem d1140_84 : decode (mb 1140) 84 = .ok (.iconst 1, 1) := by decide +kernel
theorem d1140_85 : decode (mb 1140) 85 = .ok (.if_icmp .le 8, 3) := by decide +kernel
theorem d1140_88 : decode (mb 1140) 88 = .ok (.bipush 7, 2) := by decide +kernel
theorem d1140_90 : decode (mb 1140) 90 = .ok (.goto 4, 3) := by decide +kernel
theorem d1140_93 : decode (mb 1140) 93 = .ok (.iconst 1, 1) := by decide +kernel
theorem d1140_94 : decode (mb 1140) 94 = .ok (.invokevirtual 211, 3) := by decide +kernel
theorem d1140_97 : decode (mb 1140) 97 = .ok (.iconst 0, 1) := by decide +kernel
theorem d1140_98 : decode (mb 1140) 98 = .ok (.ireturn, 1) := by decide +kernel
theorem x1140_0 {S : List Value} {h : HP} {l1 l2 : Value} {a0 : Nat} : pX 1140 0 [.ref a0, l1, l2] S h = pX 1140 1 [.ref a0, l1, l2] (.ref a0 :: S) h := pX_stp d1140_0 rfl rfl rfl
theorem x1140_1 {S : List Value} {h : HP} {l1 l2 : Value} {a0 : Nat} : pX 1140 1 [.ref a0, l1, l2] S h = pX 1140 2 [.ref a0, l1, l2] (.ref a0 :: S) h := pX_stp d1140_1 rfl rfl rfl
theorem x1140_2 {L S : List Value} {h : HP} {a : Nat} (hk : hp_k h a = 12) : pX 1140 2 L (.ref a :: S) h = pX 1140 5 L (.int (hp_i h a 47) :: S) h := pX_get d1140_2 rfl rfl hk
theorem x1140_5 {L S : List Value} {h : HP} : pX 1140 5 L S h = pX 1140 6 L (.int 2 :: S) h := pX_iconst d1140_5 (by decide)
theorem x1140_6 {L : List Value} {h : HP} {x0 : Int32} {x1 : Int32} {a0 : Nat} (hk : hp_k h a0 = 12) : pX 1140 6 L [.int x0, .int x1, .ref a0] h = (pX 1130 0 [.ref a0, .int x1, .int x0] [] h).bind (fun q => pX 1140 9 L (q.1.toList ++ []) q.2) := pX_inv (a := a0) (t := 12) 1130 [.ref a0, .int x1, .int x0] [] d1140_6 rfl rfl rfl hk
theorem x1140_9 {S : List Value} {h : HP} {l0 l1 l2 : Value} {x0 : Int32} : pX 1140 9 [l0, l1, l2] (.int x0 :: S) h = pX 1140 10 [l0, .int x0, l2] S h := pX_stp d1140_9 rfl rfl rfl
theorem x1140_10 {S : List Value} {h : HP} {l0 l2 : Value} {x0 : Int32} : pX 1140 10 [l0, .int x0, l2] S h = pX 1140 11 [l0, .int x0, l2] (.int x0 :: S) h := pX_stp d1140_10 rfl rfl rfl
theorem x1140_11 {L S : List Value} {h : HP} {x : Int32} : pX 1140 11 L (.int x :: S) h = if x ≤ 0 then pX 1140 16 L S h else pX 1140 14 L S h := pX_if_le d1140_11 (by decide)
theorem x1140_14 {S : List Value} {h : HP} {l0 l2 : Value} {x0 : Int32} : pX 1140 14 [l0, .int x0, l2] S h = pX 1140 15 [l0, .int x0, l2] (.int x0 :: S) h := pX_stp d1140_14 rfl rfl rfl
theorem x1140_15 {L : List Value} {h : HP} {x : Int32} : pX 1140 15 L [.int x] h = some (some (.int x), h) := pX_ret d1140_15 rfl
theorem x1140_16 {S : List Value} {h : HP} {l1 l2 : Value} {a0 : Nat} : pX 1140 16 [.ref a0, l1, l2] S h = pX 1140 17 [.ref a0, l1, l2] (.ref a0 :: S) h := pX_stp d1140_16 rfl rfl rfl
theorem x1140_17 {S : List Value} {h : HP} {l1 l2 : Value} {a0 : Nat} : pX 1140 17 [.ref a0, l1, l2] S h = pX 1140 18 [.ref a0, l1, l2] (.ref a0 :: S) h := pX_stp d1140_17 rfl rfl rfl
theorem x1140_18 {L S : List Value} {h : HP} {a : Nat} (hk : hp_k h a = 12) : pX 1140 18 L (.ref a :: S) h = pX 1140 21 L (.int (hp_i h a 47) :: S) h := pX_get d1140_18 rfl rfl hk
theorem x1140_21 {L : List Value} {h : HP} {x0 : Int32} {a0 : Nat} (hk : hp_k h a0 = 12) : pX 1140 21 L [.int x0, .ref a0] h = (pX 1131 0 [.ref a0, .int x0] [] h).bind (fun q => pX 1140 24 L (q.1.toList ++ []) q.2) := pX_inv (a := a0) (t := 12) 1131 [.ref a0, .int x0] [] d1140_21 rfl rfl rfl hk
theorem x1140_24 {S : List Value} {h : HP} {l0 l1 l2 : Value} {x0 : Int32} : pX 1140 24 [l0, l1, l2] (.int x0 :: S) h = pX 1140 25 [l0, l1, .int x0] S h := pX_stp d1140_24 rfl rfl rfl
theorem x1140_25 {S : List Value} {h : HP} {l1 l2 : Value} {a0 : Nat} : pX 1140 25 [.ref a0, l1, l2] S h = pX 1140 26 [.ref a0, l1, l2] (.ref a0 :: S) h := pX_stp d1140_25 rfl rfl rfl
theorem x1140_26 {L S : List Value} {h : HP} {a : Nat} (hk : hp_k h a = 12) : pX 1140 26 L (.ref a :: S) h = pX 1140 29 L (.int (hp_i h a 48) :: S) h := pX_get d1140_26 rfl rfl hk
theorem x1140_29 {L S : List Value} {h : HP} : pX 1140 29 L S h = pX 1140 30 L (.int 1 :: S) h := pX_iconst d1140_29 (by decide)
theorem x1140_30 {L S : List Value} {h : HP} {x y : Int32} : pX 1140 30 L (.int y :: .int x :: S) h = if x = y then pX 1140 33 L S h else pX 1140 52 L S h := pX_icmp_ne d1140_30 (by decide)
theorem x1140_33 {S : List Value} {h : HP} {l1 l2 : Value} {a0 : Nat} : pX 1140 33 [.ref a0, l1, l2] S h = pX 1140 34 [.ref a0, l1, l2] (.ref a0 :: S) h := pX_stp d1140_33 rfl rfl rfl
theorem x1140_34 {S : List Value} {h : HP} {l1 l2 : Value} {a0 : Nat} : pX 1140 34 [.ref a0, l1, l2] S h = pX 1140 35 [.ref a0, l1, l2] (.ref a0 :: S) h := pX_stp d1140_34 rfl rfl rfl
theorem x1140_35 {L S : List Value} {h : HP} {a : Nat} (hk : hp_k h a = 12) : pX 1140 35 L (.ref a :: S) h = pX 1140 38 L (.ref (hp_a h a 20) :: S) h := pX_get d1140_35 rfl rfl hk
theorem x1140_38 {S : List Value} {h : HP} {l0 l1 : Value} {x0 : Int32} : pX 1140 38 [l0, l1, .int x0] S h = pX 1140 39 [l0, l1, .int x0] (.int x0 :: S) h := pX_stp d1140_38 rfl rfl rfl
theorem x1140_39 {L S : List Value} {h : HP} {a : Nat} {j : Int32} (hk : hp_k h a = 100) (hj : inb j (hp_l h a) = true) : pX 1140 39 L (.int j :: .ref a :: S) h = pX 1140 40 L (.int (hp_i h a (ix j)) :: S) h := pX_ild d1140_39 hk hj
theorem x1140_40 {S : List Value} {h : HP} {l1 l2 : Value} {a0 : Nat} : pX 1140 40 [.ref a0, l1, l2] S h = pX 1140 41 [.ref a0, l1, l2] (.ref a0 :: S) h := pX_stp d1140_40 rfl rfl rfl
theorem x1140_41 {L S : List Value} {h : HP} {a : Nat} (hk : hp_k h a = 12) : pX 1140 41 L (.ref a :: S) h = pX 1140 44 L (.ref (hp_a h a 21) :: S) h := pX_get d1140_41 rfl rfl hk
theorem x1140_44 {S : List Value} {h : HP} {l0 l1 : Value} {x0 : Int32} : pX 1140 44 [l0, l1, .int x0] S h = pX 1140 45 [l0, l1, .int x0] (.int x0 :: S) h := pX_stp d1140_44 rfl rfl rfl
theorem x1140_45 {L S : List Value} {h : HP} {a : Nat} {j : Int32} (hk : hp_k h a = 100) (hj : inb j (hp_l h a) = true) : pX 1140 45 L (.int j :: .ref a :: S) h = pX 1140 46 L (.int (hp_i h a (ix j)) :: S) h := pX_ild d1140_45 hk hj
theorem x1140_46 {L : List Value} {h : HP} {x0 : Int32} {x1 : Int32} {a0 : Nat} (hk : hp_k h a0 = 12) : pX 1140 46 L [.int x0, .int x1, .ref a0] h = (pX 1129 0 [.ref a0, .int x1, .int x0] [] h).bind (fun q => pX 1140 49 L (q.1.toList ++ []) q.2) := pX_inv (a := a0) (t := 12) 1129 [.ref a0, .int x1, .int x0] [] d1140_46 rfl rfl rfl hk
theorem x1140_49 {L S : List Value} {h : HP} : pX 1140 49 L S h = pX 1140 97 L S h := pX_goto d1140_49 (by decide)
theorem x1140_52 {S : List Value} {h : HP} {l1 l2 : Value} {a0 : Nat} : pX 1140 52 [.ref a0, l1, l2] S h = pX 1140 53 [.ref a0, l1, l2] (.ref a0 :: S) h := pX_stp d1140_52 rfl rfl rfl
theorem x1140_53 {L S : List Value} {h : HP} : pX 1140 53 L S h = pX 1140 54 L (.int 1 :: S) h := pX_iconst d1140_53 (by decide)
theorem x1140_54 {S : List Value} {h : HP} {l1 l2 : Value} {a0 : Nat} : pX 1140 54 [.ref a0, l1, l2] S h = pX 1140 55 [.ref a0, l1, l2] (.ref a0 :: S) h := pX_stp d1140_54 rfl rfl rfl
theorem x1140_55 {L S : List Value} {h : HP} {a : Nat} (hk : hp_k h a = 12) : pX 1140 55 L (.ref a :: S) h = pX 1140 58 L (.int (hp_i h a 48) :: S) h := pX_get d1140_55 rfl rfl hk
theorem x1140_58 {L S : List Value} {h : HP} {x : Int32} : pX 1140 58 L (.int x :: S) h = if x = 0 then pX 1140 61 L S h else pX 1140 70 L S h := pX_if_ne d1140_58 (by decide)
theorem x1140_61 {S : List Value} {h : HP} {l1 l2 : Value} {a0 : Nat} : pX 1140 61 [.ref a0, l1, l2] S h = pX 1140 62 [.ref a0, l1, l2] (.ref a0 :: S) h := pX_stp d1140_61 rfl rfl rfl
theorem x1140_62 {L S : List Value} {h : HP} {a : Nat} (hk : hp_k h a = 12) : pX 1140 62 L (.ref a :: S) h = pX 1140 65 L (.ref (hp_a h a 19) :: S) h := pX_get d1140_62 rfl rfl hk
theorem x1140_65 {S : List Value} {h : HP} {l0 l1 : Value} {x0 : Int32} : pX 1140 65 [l0, l1, .int x0] S h = pX 1140 66 [l0, l1, .int x0] (.int x0 :: S) h := pX_stp d1140_65 rfl rfl rfl
theorem x1140_66 {L S : List Value} {h : HP} {a : Nat} {j : Int32} (hk : hp_k h a = 100) (hj : inb j (hp_l h a) = true) : pX 1140 66 L (.int j :: .ref a :: S) h = pX 1140 67 L (.int (hp_i h a (ix j)) :: S) h := pX_ild d1140_66 hk hj
theorem x1140_67 {L S : List Value} {h : HP} : pX 1140 67 L S h = pX 1140 94 L S h := pX_goto d1140_67 (by decide)
theorem x1140_70 {S : List Value} {h : HP} {l1 l2 : Value} {a0 : Nat} : pX 1140 70 [.ref a0, l1, l2] S h = pX 1140 71 [.ref a0, l1, l2] (.ref a0 :: S) h := pX_stp d1140_70 rfl rfl rfl
theorem x1140_71 {L S : List Value} {h : HP} {a : Nat} (hk : hp_k h a = 12) : pX 1140 71 L (.ref a :: S) h = pX 1140 74 L (.int (hp_i h a 48) :: S) h := pX_get d1140_71 rfl rfl hk
theorem x1140_74 {L S : List Value} {h : HP} : pX 1140 74 L S h = pX 1140 75 L (.int 3 :: S) h := pX_iconst d1140_74 (by decide)
theorem x1140_75 {L S : List Value} {h : HP} {x y : Int32} : pX 1140 75 L (.int y :: .int x :: S) h = if x = y then pX 1140 78 L S h else pX 1140 93 L S h := pX_icmp_ne d1140_75 (by decide)
theorem x1140_78 {S : List Value} {h : HP} {l1 l2 : Value} {a0 : Nat} : pX 1140 78 [.ref a0, l1, l2] S h = pX 1140 79 [.ref a0, l1, l2] (.ref a0 :: S) h := pX_stp d1140_78 rfl rfl rfl
theorem x1140_79 {L S : List Value} {h : HP} {a : Nat} (hk : hp_k h a = 12) : pX 1140 79 L (.ref a :: S) h = pX 1140 82 L (.ref (hp_a h a 18) :: S) h := pX_get d1140_79 rfl rfl hk
theorem x1140_82 {S : List Value} {h : HP} {l0 l1 : Value} {x0 : Int32} : pX 1140 82 [l0, l1, .int x0] S h = pX 1140 83 [l0, l1, .int x0] (.int x0 :: S) h := pX_stp d1140_82 rfl rfl rfl
theorem x1140_83 {L S : List Value} {h : HP} {a : Nat} {j : Int32} (hk : hp_k h a = 100) (hj : inb j (hp_l h a) = true) : pX 1140 83 L (.int j :: .ref a :: S) h = pX 1140 84 L (.int (hp_i h a (ix j)) :: S) h := pX_ild d1140_83 hk hj
theorem x1140_84 {L S : List Value} {h : HP} : pX 1140 84 L S h = pX 1140 85 L (.int 1 :: S) h := pX_iconst d1140_84 (by decide)
theorem x1140_85 {L S : List Value} {h : HP} {x y : Int32} : pX 1140 85 L (.int y :: .int x :: S) h = if x ≤ y then pX 1140 93 L S h else pX 1140 88 L S h := pX_icmp_le d1140_85 (by decide)
theorem x1140_88 {L S : List Value} {h : HP} : pX 1140 88 L S h = pX 1140 90 L (.int 7 :: S) h := pX_bipush d1140_88 (by decide)
theorem x1140_90 {L S : List Value} {h : HP} : pX 1140 90 L S h = pX 1140 94 L S h := pX_goto d1140_90 (by decide)
theorem x1140_93 {L S : List Value} {h : HP} : pX 1140 93 L S h = pX 1140 94 L (.int 1 :: S) h := pX_iconst d1140_93 (by decide)
theorem x1140_94 {L : List Value} {h : HP} {x0 : Int32} {x1 : Int32} {a0 : Nat} (hk : hp_k h a0 = 12) : pX 1140 94 L [.int x0, .int x1, .ref a0] h = (pX 1129 0 [.ref a0, .int x1, .int x0] [] h).bind (fun q => pX 1140 97 L (q.1.toList ++ []) q.2) := pX_inv (a := a0) (t := 12) 1129 [.ref a0, .int x1, .int x0] [] d1140_94 rfl rfl rfl hk
theorem x1140_97 {L S : List Value} {h : HP} : pX 1140 97 L S h = pX 1140 98 L (.int 0 :: S) h := pX_iconst d1140_97 (by decide)
theorem x1140_98 {L : List Value} {h : HP} {x : Int32} : pX 1140 98 L [.int x] h = some (some (.int x), h) := pX_ret d1140_98 rfl
theorem d1141_0 : decode (mb 1141) 0 = .ok (.aload_n 0, 1) := by decide +kernel
theorem d1141_1 : decode (mb 1141) 1 = .ok (.aload_n 0, 1) := by decide +kernel
theorem d1141_2 : decode (mb 1141) 2 = .ok (.getfield 192, 3) := by decide +kernel
theorem d1141_5 : decode (mb 1141) 5 = .ok (.iconst 2, 1) := by decide +kernel
theorem d1141_6 : decode (mb 1141) 6 = .ok (.invokevirtual 198, 3) := by decide +kernel
theorem d1141_9 : decode (mb 1141) 9 = .ok (.istore_n 1, 1) := by decide +kernel
theorem d1141_10 : decode (mb 1141) 10 = .ok (.iload_n 1, 1) := by decide +kernel
theorem d1141_11 : decode (mb 1141) 11 = .ok (.ifCond .ne 22, 3) := by decide +kernel
theorem d1141_14 : decode (mb 1141) 14 = .ok (.aload_n 0, 1) := by decide +kernel
theorem d1141_15 : decode (mb 1141) 15 = .ok (.getfield 195, 3) := by decide +kernel
theorem d1141_18 : decode (mb 1141) 18 = .ok (.ifCond .ne 15, 3) := by decide +kernel
theorem d1141_21 : decode (mb 1141) 21 = .ok (.aload_n 0, 1) := by decide +kernel
theorem d1141_22 : decode (mb 1141) 22 = .ok (.aload_n 0, 1) := by decide +kernel
theorem d1141_23 : decode (mb 1141) 23 = .ok (.getfield 201, 3) := by decide +kernel
theorem d1141_26 : decode (mb 1141) 26 = .ok (.iconst 1, 1) := by decide +kernel
theorem d1141_27 : decode (mb 1141) 27 = .ok (.invokevirtual 198, 3) := by decide +kernel
theorem d1141_30 : decode (mb 1141) 30 = .ok (.goto 4, 3) := by decide +kernel
theorem d1141_33 : decode (mb 1141) 33 = .ok (.iload_n 1, 1) := by decide +kernel
theorem d1141_34 : decode (mb 1141) 34 = .ok (.istore_n 1, 1) := by decide +kernel
theorem d1141_35 : decode (mb 1141) 35 = .ok (.iload_n 1, 1) := by decide +kernel
theorem d1141_36 : decode (mb 1141) 36 = .ok (.ifCond .le 5, 3) := by decide +kernel
theorem d1141_39 : decode (mb 1141) 39 = .ok (.iload_n 1, 1) := by decide +kernel
theorem d1141_40 : decode (mb 1141) 40 = .ok (.ireturn, 1) := by decide +kernel
theorem d1141_41 : decode (mb 1141) 41 = .ok (.aload_n 0, 1) := by decide +kernel
theorem d1141_42 : decode (mb 1141) 42 = .ok (.aload_n 0, 1) := by decide +kernel
theorem d1141_43 : decode (mb 1141) 43 = .ok (.getfield 192, 3) := by decide +kernel
theorem d1141_46 : decode (mb 1141) 46 = .ok (.invokevirtual 208, 3) := by decide +kernel
theorem d1141_49 : decode (mb 1141) 49 = .ok (.istore_n 2, 1) := by decide +kernel
theorem d1141_50 : decode (mb 1141) 50 = .ok (.aload_n 0, 1) := by decide +kernel
theorem d1141_51 : decode (mb 1141) 51 = .ok (.getfield 195, 3) := by decide +kernel
theorem d1141_54 : decode (mb 1141) 54 = .ok (.ifCond .ne 20, 3) := by decide +kernel
theorem d1141_57 : decode (mb 1141) 57 = .ok (.aload_n 0, 1) := by decide +kernel
theorem d1141_58 : decode (mb 1141) 58 = .ok (.getfield 49, 3) := by decide +kernel
theorem d1141_61 : decode (mb 1141) 61 = .ok (.iload_n 2, 1) := by decide +kernel
theorem d1141_62 : decode (mb 1141) 62 = .ok (.aload_n 0, 1) := by decide +kernel
theorem d1141_63 : decode (mb 1141) 63 = .ok (.aload_n 0, 1) := by decide +kernel
theorem d1141_64 : decode (mb 1141) 64 = .ok (.getfield 201, 3) := by decide +kernel
theorem d1141_67 : decode (mb 1141) 67 = .ok (.invokevirtual 208, 3) := by decide +kernel
theorem d1141_70 : decode (mb 1141) 70 = .ok (.iastore, 1) := by decide +kernel
theorem d1141_71 : decode (mb 1141) 71 = .ok (.goto 43, 3) := by decide +kernel
theorem d1141_74 : decode (mb 1141) 74 = .ok (.aload_n 0, 1) := by decide +kernel
theorem d1141_75 : decode (mb 1141) 75 = .ok (.getfield 52, 3) := by decide +kernel
theorem d1141_78 : decode (mb 1141) 78 = .ok (.iload_n 2, 1) := by decide +kernel
theorem d1141_79 : decode (mb 1141) 79 = .ok (.aload_n 0, 1) := by decide +kernel
theorem d1141_80 : decode (mb 1141) 80 = .ok (.getfield 82, 3) := by decide +kernel
theorem d1141_83 : decode (mb 1141) 83 = .ok (.aload_n 0, 1) := by decide +kernel
theorem d1141_84 : decode (mb 1141) 84 = .ok (.getfield 189, 3) := by decide +kernel
theorem d1141_87 : decode (mb 1141) 87 = .ok (.aload_n 0, 1) := by decide +kernel
theorem d1141_88 : decode (mb 1141) 88 = .ok (.getfield 201, 3) := by decide +kernel
theorem d1141_91 : decode (mb 1141) 91 = .ok (.iadd, 1) := by decide +kernel
theorem d1141_92 : decode (mb 1141) 92 = .ok (.iaload, 1) := by decide +kernel
theorem d1141_93 : decode (mb 1141) 93 = .ok (.iastore, 1) := by decide +kernel
theorem d1141_94 : decode (mb 1141) 94 = .ok (.aload_n 0, 1) := by decide +kernel
theorem d1141_95 : decode (mb 1141) 95 = .ok (.getfield 55, 3) := by decide +kernel
theorem d1141_98 : decode (mb 1141) 98 = .ok (.iload_n 2, 1) := by decide +kernel
theorem d1141_99 : decode (mb 1141) 99 = .ok (.aload_n 0, 1) := by decide +kernel
theorem d1141_100 : decode (mb 1141) 100 = .ok (.getfield 85, 3) := by decide +kernel
theorem d1141_103 : decode (mb 1141) 103 = .ok (.aload_n 0, 1) := by decide +kernel
theorem d1141_104 : decode (mb 1141) 104 = .ok (.getfield 189, 3) := by decide +kernel
theorem d1141_107 : decode (mb 1141) 107 = .ok (.aload_n 0, 1) := by decide +kernel
theorem d1141_108 : decode (mb 1141) 108 = .ok (.getfield 201, 3) := by decide +kernel
theorem d1141_111 : decode (mb 1141) 111 = .ok (.iadd, 1) := by decide +kernel
theorem d1141_112 : decode (mb 1141) 112 = .ok (.iaload, 1) := by decide +kernel
theorem d1141_113 : decode (mb 1141) 113 = .ok (.iastore, 1) := by decide +kernel
theorem d1141_114 : decode (mb 1141) 114 = .ok (.iconst 0, 1) := by decide +kernel
theorem d1141_115 : decode (mb 1141) 115 = .ok (.ireturn, 1) := by decide +kernel
theorem x1141_0 {S : List Value} {h : HP} {l1 l2 : Value} {a0 : Nat} : pX 1141 0 [.ref a0, l1, l2] S h = pX 1141 1 [.ref a0, l1, l2] (.ref a0 :: S) h := pX_stp d1141_0 rfl rfl rfl
theorem x1141_1 {S : List Value} {h : HP} {l1 l2 : Value} {a0 : Nat} : pX 1141 1 [.ref a0, l1, l2] S h = pX 1141 2 [.ref a0, l1, l2] (.ref a0 :: S) h := pX_stp d1141_1 rfl rfl rfl
theorem x1141_2 {L S : List Value} {h : HP} {a : Nat} (hk : hp_k h a = 12) : pX 1141 2 L (.ref a :: S) h = pX 1141 5 L (.int (hp_i h a 46) :: S) h := pX_get d1141_2 rfl rfl hk
theorem x1141_5 {L S : List Value} {h : HP} : pX 1141 5 L S h = pX 1141 6 L (.int 2 :: S) h := pX_iconst d1141_5 (by decide)
theorem x1141_6 {L : List Value} {h : HP} {x0 : Int32} {x1 : Int32} {a0 : Nat} (hk : hp_k h a0 = 12) : pX 1141 6 L [.int x0, .int x1, .ref a0] h = (pX 1130 0 [.ref a0, .int x1, .int x0] [] h).bind (fun q => pX 1141 9 L (q.1.toList ++ []) q.2) := pX_inv (a := a0) (t := 12) 1130 [.ref a0, .int x1, .int x0] [] d1141_6 rfl rfl rfl hk
theorem x1141_9 {S : List Value} {h : HP} {l0 l1 l2 : Value} {x0 : Int32} : pX 1141 9 [l0, l1, l2] (.int x0 :: S) h = pX 1141 10 [l0, .int x0, l2] S h := pX_stp d1141_9 rfl rfl rfl
theorem x1141_10 {S : List Value} {h : HP} {l0 l2 : Value} {x0 : Int32} : pX 1141 10 [l0, .int x0, l2] S h = pX 1141 11 [l0, .int x0, l2] (.int x0 :: S) h := pX_stp d1141_10 rfl rfl rfl
theorem x1141_11 {L S : List Value} {h : HP} {x : Int32} : pX 1141 11 L (.int x :: S) h = if x = 0 then pX 1141 14 L S h else pX 1141 33 L S h := pX_if_ne d1141_11 (by decide)
theorem x1141_14 {S : List Value} {h : HP} {l1 l2 : Value} {a0 : Nat} : pX 1141 14 [.ref a0, l1, l2] S h = pX 1141 15 [.ref a0, l1, l2] (.ref a0 :: S) h := pX_stp d1141_14 rfl rfl rfl
theorem x1141_15 {L S : List Value} {h : HP} {a : Nat} (hk : hp_k h a = 12) : pX 1141 15 L (.ref a :: S) h = pX 1141 18 L (.int (hp_i h a 47) :: S) h := pX_get d1141_15 rfl rfl hk
theorem x1141_18 {L S : List Value} {h : HP} {x : Int32} : pX 1141 18 L (.int x :: S) h = if x = 0 then pX 1141 21 L S h else pX 1141 33 L S h := pX_if_ne d1141_18 (by decide)
theorem x1141_21 {S : List Value} {h : HP} {l1 l2 : Value} {a0 : Nat} : pX 1141 21 [.ref a0, l1, l2] S h = pX 1141 22 [.ref a0, l1, l2] (.ref a0 :: S) h := pX_stp d1141_21 rfl rfl rfl
theorem x1141_22 {S : List Value} {h : HP} {l1 l2 : Value} {a0 : Nat} : pX 1141 22 [.ref a0, l1, l2] S h = pX 1141 23 [.ref a0, l1, l2] (.ref a0 :: S) h := pX_stp d1141_22 rfl rfl rfl
theorem x1141_23 {L S : List Value} {h : HP} {a : Nat} (hk : hp_k h a = 12) : pX 1141 23 L (.ref a :: S) h = pX 1141 26 L (.int (hp_i h a 48) :: S) h := pX_get d1141_23 rfl rfl hk
theorem x1141_26 {L S : List Value} {h : HP} : pX 1141 26 L S h = pX 1141 27 L (.int 1 :: S) h := pX_iconst d1141_26 (by decide)
theorem x1141_27 {L : List Value} {h : HP} {x0 : Int32} {x1 : Int32} {a0 : Nat} (hk : hp_k h a0 = 12) : pX 1141 27 L [.int x0, .int x1, .ref a0] h = (pX 1130 0 [.ref a0, .int x1, .int x0] [] h).bind (fun q => pX 1141 30 L (q.1.toList ++ []) q.2) := pX_inv (a := a0) (t := 12) 1130 [.ref a0, .int x1, .int x0] [] d1141_27 rfl rfl rfl hk
theorem x1141_30 {L S : List Value} {h : HP} : pX 1141 30 L S h = pX 1141 34 L S h := pX_goto d1141_30 (by decide)
theorem x1141_33 {S : List Value} {h : HP} {l0 l2 : Value} {x0 : Int32} : pX 1141 33 [l0, .int x0, l2] S h = pX 1141 34 [l0, .int x0, l2] (.int x0 :: S) h := pX_stp d1141_33 rfl rfl rfl
theorem x1141_34 {S : List Value} {h : HP} {l0 l1 l2 : Value} {x0 : Int32} : pX 1141 34 [l0, l1, l2] (.int x0 :: S) h = pX 1141 35 [l0, .int x0, l2] S h := pX_stp d1141_34 rfl rfl rfl
theorem x1141_35 {S : List Value} {h : HP} {l0 l2 : Value} {x0 : Int32} : pX 1141 35 [l0, .int x0, l2] S h = pX 1141 36 [l0, .int x0, l2] (.int x0 :: S) h := pX_stp d1141_35 rfl rfl rfl
theorem x1141_36 {L S : List Value} {h : HP} {x : Int32} : pX 1141 36 L (.int x :: S) h = if x ≤ 0 then pX 1141 41 L S h else pX 1141 39 L S h := pX_if_le d1141_36 (by decide)
theorem x1141_39 {S : List Value} {h : HP} {l0 l2 : Value} {x0 : Int32} : pX 1141 39 [l0, .int x0, l2] S h = pX 1141 40 [l0, .int x0, l2] (.int x0 :: S) h := pX_stp d1141_39 rfl rfl rfl
theorem x1141_40 {L : List Value} {h : HP} {x : Int32} : pX 1141 40 L [.int x] h = some (some (.int x), h) := pX_ret d1141_40 rfl
theorem x1141_41 {S : List Value} {h : HP} {l1 l2 : Value} {a0 : Nat} : pX 1141 41 [.ref a0, l1, l2] S h = pX 1141 42 [.ref a0, l1, l2] (.ref a0 :: S) h := pX_stp d1141_41 rfl rfl rfl
theorem x1141_42 {S : List Value} {h : HP} {l1 l2 : Value} {a0 : Nat} : pX 1141 42 [.ref a0, l1, l2] S h = pX 1141 43 [.ref a0, l1, l2] (.ref a0 :: S) h := pX_stp d1141_42 rfl rfl rfl
theorem x1141_43 {L S : List Value} {h : HP} {a : Nat} (hk : hp_k h a = 12) : pX 1141 43 L (.ref a :: S) h = pX 1141 46 L (.int (hp_i h a 46) :: S) h := pX_get d1141_43 rfl rfl hk
theorem x1141_46 {L : List Value} {h : HP} {x0 : Int32} {a0 : Nat} (hk : hp_k h a0 = 12) : pX 1141 46 L [.int x0, .ref a0] h = (pX 1131 0 [.ref a0, .int x0] [] h).bind (fun q => pX 1141 49 L (q.1.toList ++ []) q.2) := pX_inv (a := a0) (t := 12) 1131 [.ref a0, .int x0] [] d1141_46 rfl rfl rfl hk
theorem x1141_49 {S : List Value} {h : HP} {l0 l1 l2 : Value} {x0 : Int32} : pX 1141 49 [l0, l1, l2] (.int x0 :: S) h = pX 1141 50 [l0, l1, .int x0] S h := pX_stp d1141_49 rfl rfl rfl
theorem x1141_50 {S : List Value} {h : HP} {l1 l2 : Value} {a0 : Nat} : pX 1141 50 [.ref a0, l1, l2] S h = pX 1141 51 [.ref a0, l1, l2] (.ref a0 :: S) h := pX_stp d1141_50 rfl rfl rfl
theorem x1141_51 {L S : List Value} {h : HP} {a : Nat} (hk : hp_k h a = 12) : pX 1141 51 L (.ref a :: S) h = pX 1141 54 L (.int (hp_i h a 47) :: S) h := pX_get d1141_51 rfl rfl hk
theorem x1141_54 {L S : List Value} {h : HP} {x : Int32} : pX 1141 54 L (.int x :: S) h = if x = 0 then pX 1141 57 L S h else pX 1141 74 L S h := pX_if_ne d1141_54 (by decide)
theorem x1141_57 {S : List Value} {h : HP} {l1 l2 : Value} {a0 : Nat} : pX 1141 57 [.ref a0, l1, l2] S h = pX 1141 58 [.ref a0, l1, l2] (.ref a0 :: S) h := pX_stp d1141_57 rfl rfl rfl
theorem x1141_58 {L S : List Value} {h : HP} {a : Nat} (hk : hp_k h a = 12) : pX 1141 58 L (.ref a :: S) h = pX 1141 61 L (.ref (hp_a h a 19) :: S) h := pX_get d1141_58 rfl rfl hk
theorem x1141_61 {S : List Value} {h : HP} {l0 l1 : Value} {x0 : Int32} : pX 1141 61 [l0, l1, .int x0] S h = pX 1141 62 [l0, l1, .int x0] (.int x0 :: S) h := pX_stp d1141_61 rfl rfl rfl
theorem x1141_62 {S : List Value} {h : HP} {l1 l2 : Value} {a0 : Nat} : pX 1141 62 [.ref a0, l1, l2] S h = pX 1141 63 [.ref a0, l1, l2] (.ref a0 :: S) h := pX_stp d1141_62 rfl rfl rfl
theorem x1141_63 {S : List Value} {h : HP} {l1 l2 : Value} {a0 : Nat} : pX 1141 63 [.ref a0, l1, l2] S h = pX 1141 64 [.ref a0, l1, l2] (.ref a0 :: S) h := pX_stp d1141_63 rfl rfl rfl
theorem x1141_64 {L S : List Value} {h : HP} {a : Nat} (hk : hp_k h a = 12) : pX 1141 64 L (.ref a :: S) h = pX 1141 67 L (.int (hp_i h a 48) :: S) h := pX_get d1141_64 rfl rfl hk
theorem x1141_67 {L : List Value} {h : HP} {x0 : Int32} {a0 : Nat} {x1 : Int32} {a1 : Nat} (hk : hp_k h a0 = 12) : pX 1141 67 L [.int x0, .ref a0, .int x1, .ref a1] h = (pX 1131 0 [.ref a0, .int x0] [] h).bind (fun q => pX 1141 70 L (q.1.toList ++ [.int x1, .ref a1]) q.2) := pX_inv (a := a0) (t := 12) 1131 [.ref a0, .int x0] [.int x1, .ref a1] d1141_67 rfl rfl rfl hk
theorem x1141_70 {L S : List Value} {h : HP} {a : Nat} {j x : Int32} (hk : hp_k h a = 100) (hj : inb j (hp_l h a) = true) : pX 1141 70 L (.int x :: .int j :: .ref a :: S) h = pX 1141 71 L S (hp_wi h a (ix j) x) := pX_ist d1141_70 hk hj
theorem x1141_71 {L S : List Value} {h : HP} : pX 1141 71 L S h = pX 1141 114 L S h := pX_goto d1141_71 (by decide)
theorem x1141_74 {S : List Value} {h : HP} {l1 l2 : Value} {a0 : Nat} : pX 1141 74 [.ref a0, l1, l2] S h = pX 1141 75 [.ref a0, l1, l2] (.ref a0 :: S) h := pX_stp d1141_74 rfl rfl rfl
theorem x1141_75 {L S : List Value} {h : HP} {a : Nat} (hk : hp_k h a = 12) : pX 1141 75 L (.ref a :: S) h = pX 1141 78 L (.ref (hp_a h a 20) :: S) h := pX_get d1141_75 rfl rfl hk
theorem x1141_78 {S : List Value} {h : HP} {l0 l1 : Value} {x0 : Int32} : pX 1141 78 [l0, l1, .int x0] S h = pX 1141 79 [l0, l1, .int x0] (.int x0 :: S) h := pX_stp d1141_78 rfl rfl rfl
theorem x1141_79 {S : List Value} {h : HP} {l1 l2 : Value} {a0 : Nat} : pX 1141 79 [.ref a0, l1, l2] S h = pX 1141 80 [.ref a0, l1, l2] (.ref a0 :: S) h := pX_stp d1141_79 rfl rfl rfl
theorem x1141_80 {L S : List Value} {h : HP} {a : Nat} (hk : hp_k h a = 12) : pX 1141 80 L (.ref a :: S) h = pX 1141 83 L (.ref (hp_a h a 33) :: S) h := pX_get d1141_80 rfl rfl hk
theorem x1141_83 {S : List Value} {h : HP} {l1 l2 : Value} {a0 : Nat} : pX 1141 83 [.ref a0, l1, l2] S h = pX 1141 84 [.ref a0, l1, l2] (.ref a0 :: S) h := pX_stp d1141_83 rfl rfl rfl
theorem x1141_84 {L S : List Value} {h : HP} {a : Nat} (hk : hp_k h a = 12) : pX 1141 84 L (.ref a :: S) h = pX 1141 87 L (.int (hp_i h a 45) :: S) h := pX_get d1141_84 rfl rfl hk
theorem x1141_87 {S : List Value} {h : HP} {l1 l2 : Value} {a0 : Nat} : pX 1141 87 [.ref a0, l1, l2] S h = pX 1141 88 [.ref a0, l1, l2] (.ref a0 :: S) h := pX_stp d1141_87 rfl rfl rfl
theorem x1141_88 {L S : List Value} {h : HP} {a : Nat} (hk : hp_k h a = 12) : pX 1141 88 L (.ref a :: S) h = pX 1141 91 L (.int (hp_i h a 48) :: S) h := pX_get d1141_88 rfl rfl hk
theorem x1141_91 {L S : List Value} {h : HP} {x y : Int32} : pX 1141 91 L (.int y :: .int x :: S) h = pX 1141 92 L (.int (x + y) :: S) h := pX_stp d1141_91 rfl rfl rfl
theorem x1141_92 {L S : List Value} {h : HP} {a : Nat} {j : Int32} (hk : hp_k h a = 100) (hj : inb j (hp_l h a) = true) : pX 1141 92 L (.int j :: .ref a :: S) h = pX 1141 93 L (.int (hp_i h a (ix j)) :: S) h := pX_ild d1141_92 hk hj
theorem x1141_93 {L S : List Value} {h : HP} {a : Nat} {j x : Int32} (hk : hp_k h a = 100) (hj : inb j (hp_l h a) = true) : pX 1141 93 L (.int x :: .int j :: .ref a :: S) h = pX 1141 94 L S (hp_wi h a (ix j) x) := pX_ist d1141_93 hk hj
theorem x1141_94 {S : List Value} {h : HP} {l1 l2 : Value} {a0 : Nat} : pX 1141 94 [.ref a0, l1, l2] S h = pX 1141 95 [.ref a0, l1, l2] (.ref a0 :: S) h := pX_stp d1141_94 rfl rfl rfl
theorem x1141_95 {L S : List Value} {h : HP} {a : Nat} (hk : hp_k h a = 12) : pX 1141 95 L (.ref a :: S) h = pX 1141 98 L (.ref (hp_a h a 21) :: S) h := pX_get d1141_95 rfl rfl hk
theorem x1141_98 {S : List Value} {h : HP} {l0 l1 : Value} {x0 : Int32} : pX 1141 98 [l0, l1, .int x0] S h = pX 1141 99 [l0, l1, .int x0] (.int x0 :: S) h := pX_stp d1141_98 rfl rfl rfl
theorem x1141_99 {S : List Value} {h : HP} {l1 l2 : Value} {a0 : Nat} : pX 1141 99 [.ref a0, l1, l2] S h = pX 1141 100 [.ref a0, l1, l2] (.ref a0 :: S) h := pX_stp d1141_99 rfl rfl rfl
theorem x1141_100 {L S : List Value} {h : HP} {a : Nat} (hk : hp_k h a = 12) : pX 1141 100 L (.ref a :: S) h = pX 1141 103 L (.ref (hp_a h a 34) :: S) h := pX_get d1141_100 rfl rfl hk
theorem x1141_103 {S : List Value} {h : HP} {l1 l2 : Value} {a0 : Nat} : pX 1141 103 [.ref a0, l1, l2] S h = pX 1141 104 [.ref a0, l1, l2] (.ref a0 :: S) h := pX_stp d1141_103 rfl rfl rfl
theorem x1141_104 {L S : List Value} {h : HP} {a : Nat} (hk : hp_k h a = 12) : pX 1141 104 L (.ref a :: S) h = pX 1141 107 L (.int (hp_i h a 45) :: S) h := pX_get d1141_104 rfl rfl hk
theorem x1141_107 {S : List Value} {h : HP} {l1 l2 : Value} {a0 : Nat} : pX 1141 107 [.ref a0, l1, l2] S h = pX 1141 108 [.ref a0, l1, l2] (.ref a0 :: S) h := pX_stp d1141_107 rfl rfl rfl
theorem x1141_108 {L S : List Value} {h : HP} {a : Nat} (hk : hp_k h a = 12) : pX 1141 108 L (.ref a :: S) h = pX 1141 111 L (.int (hp_i h a 48) :: S) h := pX_get d1141_108 rfl rfl hk
theorem x1141_111 {L S : List Value} {h : HP} {x y : Int32} : pX 1141 111 L (.int y :: .int x :: S) h = pX 1141 112 L (.int (x + y) :: S) h := pX_stp d1141_111 rfl rfl rfl
theorem x1141_112 {L S : List Value} {h : HP} {a : Nat} {j : Int32} (hk : hp_k h a = 100) (hj : inb j (hp_l h a) = true) : pX 1141 112 L (.int j :: .ref a :: S) h = pX 1141 113 L (.int (hp_i h a (ix j)) :: S) h := pX_ild d1141_112 hk hj
theorem x1141_113 {L S : List Value} {h : HP} {a : Nat} {j x : Int32} (hk : hp_k h a = 100) (hj : inb j (hp_l h a) = true) : pX 1141 113 L (.int x :: .int j :: .ref a :: S) h = pX 1141 114 L S (hp_wi h a (ix j) x) := pX_ist d1141_113 hk hj
theorem x1141_114 {L S : List Value} {h : HP} : pX 1141 114 L S h = pX 1141 115 L (.int 0 :: S) h := pX_iconst d1141_114 (by decide)
theorem x1141_115 {L : List Value} {h : HP} {x : Int32} : pX 1141 115 L [.int x] h = some (some (.int x), h) := pX_ret d1141_115 rfl
theorem d1142_0 : decode (mb 1142) 0 = .ok (.aload_n 0, 1) := by decide +kernel
theorem d1142_1 : decode (mb 1142) 1 = .ok (.aload_n 0, 1) := by decide +kernel
theorem d1142_2 : decode (mb 1142) 2 = .ok (.getfield 192, 3) := by decide +kernel
theorem d1142_5 : decode (mb 1142) 5 = .ok (.iconst 2, 1) := by decide +kernel
theorem d1142_6 : decode (mb 1142) 6 = .ok (.invokevirtual 198, 3) := by decide +kernel
theorem d1142_9 : decode (mb 1142) 9 = .ok (.istore_n 2, 1) := by decide +kernel
theorem d1142_10 : decode (mb 1142) 10 = .ok (.iload_n 2, 1) := by decide +kernel
theorem d1142_11 : decode (mb 1142) 11 = .ok (.ifCond .le 5, 3) := by decide +kernel
theorem d1142_14 : decode (mb 1142) 14 = .ok (.iload_n 2, 1) := by decide +kernel
theorem d1142_15 : decode (mb 1142) 15 = .ok (.ireturn, 1) := by decide +kernel
theorem d1142_16 : decode (mb 1142) 16 = .ok (.aload_n 0, 1) := by decide +kernel
theorem d1142_17 : decode (mb 1142) 17 = .ok (.aload_n 0, 1) := by decide +kernel
theorem d1142_18 : decode (mb 1142) 18 = .ok (.getfield 192, 3) := by decide +kernel
theorem d1142_21 : decode (mb 1142) 21 = .ok (.invokevirtual 208, 3) := by decide +kernel
theorem d1142_24 : decode (mb 1142) 24 = .ok (.istore_n 3, 1) := by decide +kernel
theorem d1142_25 : decode (mb 1142) 25 = .ok (.aload_n 0, 1) := by decide +kernel
theorem d1142_26 : decode (mb 1142) 26 = .ok (.getfield 174, 3) := by decide +kernel
theorem d1142_29 : decode (mb 1142) 29 = .ok (.iconst 1, 1) := by decide +kernel
theorem d1142_30 : decode (mb 1142) 30 = .ok (.isub, 1) := by decide +kernel
theorem d1142_31 : decode (mb 1142) 31 = .ok (.istore 4, 2) := by decide +kernel
theorem d1142_33 : decode (mb 1142) 33 = .ok (.iload_n 1, 1) := by decide +kernel
theorem d1142_34 : decode (mb 1142) 34 = .ok (.ifCond .ne 22, 3) := by decide +kernel
theorem d1142_37 : decode (mb 1142) 37 = .ok (.aload_n 0, 1) := by decide +kernel
theorem d1142_38 : decode (mb 1142) 38 = .ok (.getfield 92, 3) := by decide +kernel
theorem d1142_41 : decode (mb 1142) 41 = .ok (.sipush 6000, 3) := by decide +kernel
theorem d1142_44 : decode (mb 1142) 44 = .ok (.iload 4, 2) := by decide +kernel
theorem d1142_46 : decode (mb 1142) 46 = .ok (.imul, 1) := by decide +kernel
theorem d1142_47 : decode (mb 1142) 47 = .ok (.iload_n 3, 1) := by decide +kernel
theorem d1142_48 : decode (mb 1142) 48 = .ok (.iadd, 1) := by decide +kernel
theorem d1142_49 : decode (mb 1142) 49 = .ok (.iaload, 1) := by decide +kernel
theorem d1142_50 : decode (mb 1142) 50 = .ok (.ifCond .ne 6, 3) := by decide +kernel
theorem d1142_53 : decode (mb 1142) 53 = .ok (.bipush 6, 2) := by decide +kernel
theorem d1142_55 : decode (mb 1142) 55 = .ok (.ireturn, 1) := by decide +kernel
theorem d1142_56 : decode (mb 1142) 56 = .ok (.iload_n 1, 1) := by decide +kernel
theorem d1142_57 : decode (mb 1142) 57 = .ok (.ifCond .eq 7, 3) := by decide +kernel
theorem d1142_60 : decode (mb 1142) 60 = .ok (.iconst 1, 1) := by decide +kernel
theorem d1142_61 : decode (mb 1142) 61 = .ok (.goto 4, 3) := by decide +kernel
theorem d1142_64 : decode (mb 1142) 64 = .ok (.iconst (-1), 1) := by decide +kernel
theorem d1142_65 : decode (mb 1142) 65 = .ok (.istore 5, 2) := by decide +kernel
theorem d1142_67 : decode (mb 1142) 67 = .ok (.aload_n 0, 1) := by decide +kernel
theorem d1142_68 : decode (mb 1142) 68 = .ok (.getfield 92, 3) := by decide +kernel
theorem d1142_71 : decode (mb 1142) 71 = .ok (.sipush 6000, 3) := by decide +kernel
theorem d1142_74 : decode (mb 1142) 74 = .ok (.iload 4, 2) := by decide +kernel
theorem d1142_76 : decode (mb 1142) 76 = .ok (.imul, 1) := by decide +kernel
theorem d1142_77 : decode (mb 1142) 77 = .ok (.iload_n 3, 1) := by decide +kernel
theorem d1142_78 : decode (mb 1142) 78 = .ok (.iadd, 1) := by decide +kernel
theorem d1142_79 : decode (mb 1142) 79 = .ok (.dup2, 1) := by decide +kernel
theorem d1142_80 : decode (mb 1142) 80 = .ok (.iaload, 1) := by decide +kernel
theorem d1142_81 : decode (mb 1142) 81 = .ok (.iload 5, 2) := by decide +kernel
theorem d1142_83 : decode (mb 1142) 83 = .ok (.iadd, 1) := by decide +kernel
theorem d1142_84 : decode (mb 1142) 84 = .ok (.iastore, 1) := by decide +kernel
theorem d1142_85 : decode (mb 1142) 85 = .ok (.aload_n 0, 1) := by decide +kernel
theorem d1142_86 : decode (mb 1142) 86 = .ok (.getfield 88, 3) := by decide +kernel
theorem d1142_89 : decode (mb 1142) 89 = .ok (.iload 4, 2) := by decide +kernel
theorem d1142_91 : decode (mb 1142) 91 = .ok (.dup2, 1) := by decide +kernel
theorem d1142_92 : decode (mb 1142) 92 = .ok (.iaload, 1) := by decide +kernel
theorem d1142_93 : decode (mb 1142) 93 = .ok (.iload 5, 2) := by decide +kernel
theorem d1142_95 : decode (mb 1142) 95 = .ok (.iadd, 1) := by decide +kernel
theorem d1142_96 : decode (mb 1142) 96 = .ok (.iastore, 1) := by decide +kernel
theorem d1142_97 : decode (mb 1142) 97 = .ok (.aload_n 0, 1) := by decide +kernel
theorem d1142_98 : decode (mb 1142) 98 = .ok (.getfield 58, 3) := by decide +kernel
theorem d1142_101 : decode (mb 1142) 101 = .ok (.iload_n 3, 1) := by decide +kernel
theorem d1142_102 : decode (mb 1142) 102 = .ok (.dup2, 1) := by decide +kernel
theorem d1142_103 : decode (mb 1142) 103 = .ok (.iaload, 1) := by decide +kernel
theorem d1142_104 : decode (mb 1142) 104 = .ok (.iload 5, 2) := by decide +kernel
theorem d1142_106 : decode (mb 1142) 106 = .ok (.iadd, 1) := by decide +kernel
theorem d1142_107 : decode (mb 1142) 107 = .ok (.iastore, 1) := by decide +kernel
theorem d1142_108 : decode (mb 1142) 108 = .ok (.aload_n 0, 1) := by decide +kernel
theorem d1142_109 : decode (mb 1142) 109 = .ok (.getfield 95, 3) := by decide +kernel
theorem d1142_112 : decode (mb 1142) 112 = .ok (.bipush 7, 2) := by decide +kernel
theorem d1142_114 : decode (mb 1142) 114 = .ok (.dup2, 1) := by decide +kernel
theorem d1142_115 : decode (mb 1142) 115 = .ok (.iaload, 1) := by decide +kernel
theorem d1142_116 : decode (mb 1142) 116 = .ok (.iload_n 1, 1) := by decide +kernel
theorem d1142_117 : decode (mb 1142) 117 = .ok (.ifCond .eq 7, 3) := by decide +kernel
theorem d1142_120 : decode (mb 1142) 120 = .ok (.iconst 1, 1) := by decide +kernel
theorem d1142_121 : decode (mb 1142) 121 = .ok (.goto 4, 3) := by decide +kernel
theorem d1142_124 : decode (mb 1142) 124 = .ok (.iconst 0, 1) := by decide +kernel
theorem d1142_125 : decode (mb 1142) 125 = .ok (.iadd, 1) := by decide +kernel
theorem d1142_126 : decode (mb 1142) 126 = .ok (.iastore, 1) := by decide +kernel
theorem d1142_127 : decode (mb 1142) 127 = .ok (.iconst 0, 1) := by decide +kernel
theorem d1142_128 : decode (mb 1142) 128 = .ok (.ireturn, 1) := by decide +kernel
theorem x1142_0 {S : List Value} {h : HP} {l1 l2 l3 l4 l5 : Value} {a0 : Nat} : pX 1142 0 [.ref a0, l1, l2, l3, l4, l5] S h = pX 1142 1 [.ref a0, l1, l2, l3, l4, l5] (.ref a0 :: S) h := pX_stp d1142_0 rfl rfl rfl
theorem x1142_1 {S : List Value} {h : HP} {l1 l2 l3 l4 l5 : Value} {a0 : Nat} : pX 1142 1 [.ref a0, l1, l2, l3, l4, l5] S h = pX 1142 2 [.ref a0, l1, l2, l3, l4, l5] (.ref a0 :: S) h := pX_stp d1142_1 rfl rfl rfl
theorem x1142_2 {L S : List Value} {h : HP} {a : Nat} (hk : hp_k h a = 12) : pX 1142 2 L (.ref a :: S) h = pX 1142 5 L (.int (hp_i h a 46) :: S) h := pX_get d1142_2 rfl rfl hk
theorem x1142_5 {L S : List Value} {h : HP} : pX 1142 5 L S h = pX 1142 6 L (.int 2 :: S) h := pX_iconst d1142_5 (by decide)
theorem x1142_6 {L : List Value} {h : HP} {x0 : Int32} {x1 : Int32} {a0 : Nat} (hk : hp_k h a0 = 12) : pX 1142 6 L [.int x0, .int x1, .ref a0] h = (pX 1130 0 [.ref a0, .int x1, .int x0] [] h).bind (fun q => pX 1142 9 L (q.1.toList ++ []) q.2) := pX_inv (a := a0) (t := 12) 1130 [.ref a0, .int x1, .int x0] [] d1142_6 rfl rfl rfl hk
theorem x1142_9 {S : List Value} {h : HP} {l0 l1 l2 l3 l4 l5 : Value} {x0 : Int32} : pX 1142 9 [l0, l1, l2, l3, l4, l5] (.int x0 :: S) h = pX 1142 10 [l0, l1, .int x0, l3, l4, l5] S h := pX_stp d1142_9 rfl rfl rfl
theorem x1142_10 {S : List Value} {h : HP} {l0 l1 l3 l4 l5 : Value} {x0 : Int32} : pX 1142 10 [l0, l1, .int x0, l3, l4, l5] S h = pX 1142 11 [l0, l1, .int x0, l3, l4, l5] (.int x0 :: S) h := pX_stp d1142_10 rfl rfl rfl
theorem x1142_11 {L S : List Value} {h : HP} {x : Int32} : pX 1142 11 L (.int x :: S) h = if x ≤ 0 then pX 1142 16 L S h else pX 1142 14 L S h := pX_if_le d1142_11 (by decide)
theorem x1142_14 {S : List Value} {h : HP} {l0 l1 l3 l4 l5 : Value} {x0 : Int32} : pX 1142 14 [l0, l1, .int x0, l3, l4, l5] S h = pX 1142 15 [l0, l1, .int x0, l3, l4, l5] (.int x0 :: S) h := pX_stp d1142_14 rfl rfl rfl
theorem x1142_15 {L : List Value} {h : HP} {x : Int32} : pX 1142 15 L [.int x] h = some (some (.int x), h) := pX_ret d1142_15 rfl
theorem x1142_16 {S : List Value} {h : HP} {l1 l2 l3 l4 l5 : Value} {a0 : Nat} : pX 1142 16 [.ref a0, l1, l2, l3, l4, l5] S h = pX 1142 17 [.ref a0, l1, l2, l3, l4, l5] (.ref a0 :: S) h := pX_stp d1142_16 rfl rfl rfl
theorem x1142_17 {S : List Value} {h : HP} {l1 l2 l3 l4 l5 : Value} {a0 : Nat} : pX 1142 17 [.ref a0, l1, l2, l3, l4, l5] S h = pX 1142 18 [.ref a0, l1, l2, l3, l4, l5] (.ref a0 :: S) h := pX_stp d1142_17 rfl rfl rfl
theorem x1142_18 {L S : List Value} {h : HP} {a : Nat} (hk : hp_k h a = 12) : pX 1142 18 L (.ref a :: S) h = pX 1142 21 L (.int (hp_i h a 46) :: S) h := pX_get d1142_18 rfl rfl hk
theorem x1142_21 {L : List Value} {h : HP} {x0 : Int32} {a0 : Nat} (hk : hp_k h a0 = 12) : pX 1142 21 L [.int x0, .ref a0] h = (pX 1131 0 [.ref a0, .int x0] [] h).bind (fun q => pX 1142 24 L (q.1.toList ++ []) q.2) := pX_inv (a := a0) (t := 12) 1131 [.ref a0, .int x0] [] d1142_21 rfl rfl rfl hk
theorem x1142_24 {S : List Value} {h : HP} {l0 l1 l2 l3 l4 l5 : Value} {x0 : Int32} : pX 1142 24 [l0, l1, l2, l3, l4, l5] (.int x0 :: S) h = pX 1142 25 [l0, l1, l2, .int x0, l4, l5] S h := pX_stp d1142_24 rfl rfl rfl
theorem x1142_25 {S : List Value} {h : HP} {l1 l2 l3 l4 l5 : Value} {a0 : Nat} : pX 1142 25 [.ref a0, l1, l2, l3, l4, l5] S h = pX 1142 26 [.ref a0, l1, l2, l3, l4, l5] (.ref a0 :: S) h := pX_stp d1142_25 rfl rfl rfl
theorem x1142_26 {L S : List Value} {h : HP} {a : Nat} (hk : hp_k h a = 12) : pX 1142 26 L (.ref a :: S) h = pX 1142 29 L (.int (hp_i h a 29) :: S) h := pX_get d1142_26 rfl rfl hk
theorem x1142_29 {L S : List Value} {h : HP} : pX 1142 29 L S h = pX 1142 30 L (.int 1 :: S) h := pX_iconst d1142_29 (by decide)
theorem x1142_30 {L S : List Value} {h : HP} {x y : Int32} : pX 1142 30 L (.int y :: .int x :: S) h = pX 1142 31 L (.int (x - y) :: S) h := pX_stp d1142_30 rfl rfl rfl
theorem x1142_31 {S : List Value} {h : HP} {l0 l1 l2 l3 l4 l5 : Value} {x0 : Int32} : pX 1142 31 [l0, l1, l2, l3, l4, l5] (.int x0 :: S) h = pX 1142 33 [l0, l1, l2, l3, .int x0, l5] S h := pX_stp d1142_31 rfl rfl rfl
theorem x1142_33 {S : List Value} {h : HP} {l0 l2 l3 l4 l5 : Value} {x0 : Int32} : pX 1142 33 [l0, .int x0, l2, l3, l4, l5] S h = pX 1142 34 [l0, .int x0, l2, l3, l4, l5] (.int x0 :: S) h := pX_stp d1142_33 rfl rfl rfl
theorem x1142_34 {L S : List Value} {h : HP} {x : Int32} : pX 1142 34 L (.int x :: S) h = if x = 0 then pX 1142 37 L S h else pX 1142 56 L S h := pX_if_ne d1142_34 (by decide)
theorem x1142_37 {S : List Value} {h : HP} {l1 l2 l3 l4 l5 : Value} {a0 : Nat} : pX 1142 37 [.ref a0, l1, l2, l3, l4, l5] S h = pX 1142 38 [.ref a0, l1, l2, l3, l4, l5] (.ref a0 :: S) h := pX_stp d1142_37 rfl rfl rfl
theorem x1142_38 {L S : List Value} {h : HP} {a : Nat} (hk : hp_k h a = 12) : pX 1142 38 L (.ref a :: S) h = pX 1142 41 L (.ref (hp_a h a 36) :: S) h := pX_get d1142_38 rfl rfl hk
theorem x1142_41 {L S : List Value} {h : HP} : pX 1142 41 L S h = pX 1142 44 L (.int 6000 :: S) h := pX_sipush d1142_41 (by decide)
theorem x1142_44 {S : List Value} {h : HP} {l0 l1 l2 l3 l5 : Value} {x0 : Int32} : pX 1142 44 [l0, l1, l2, l3, .int x0, l5] S h = pX 1142 46 [l0, l1, l2, l3, .int x0, l5] (.int x0 :: S) h := pX_stp d1142_44 rfl rfl rfl
theorem x1142_46 {L S : List Value} {h : HP} {x y : Int32} : pX 1142 46 L (.int y :: .int x :: S) h = pX 1142 47 L (.int (x * y) :: S) h := pX_stp d1142_46 rfl rfl rfl
theorem x1142_47 {S : List Value} {h : HP} {l0 l1 l2 l4 l5 : Value} {x0 : Int32} : pX 1142 47 [l0, l1, l2, .int x0, l4, l5] S h = pX 1142 48 [l0, l1, l2, .int x0, l4, l5] (.int x0 :: S) h := pX_stp d1142_47 rfl rfl rfl
theorem x1142_48 {L S : List Value} {h : HP} {x y : Int32} : pX 1142 48 L (.int y :: .int x :: S) h = pX 1142 49 L (.int (x + y) :: S) h := pX_stp d1142_48 rfl rfl rfl
theorem x1142_49 {L S : List Value} {h : HP} {a : Nat} {j : Int32} (hk : hp_k h a = 100) (hj : inb j (hp_l h a) = true) : pX 1142 49 L (.int j :: .ref a :: S) h = pX 1142 50 L (.int (hp_i h a (ix j)) :: S) h := pX_ild d1142_49 hk hj
theorem x1142_50 {L S : List Value} {h : HP} {x : Int32} : pX 1142 50 L (.int x :: S) h = if x = 0 then pX 1142 53 L S h else pX 1142 56 L S h := pX_if_ne d1142_50 (by decide)
theorem x1142_53 {L S : List Value} {h : HP} : pX 1142 53 L S h = pX 1142 55 L (.int 6 :: S) h := pX_bipush d1142_53 (by decide)
theorem x1142_55 {L : List Value} {h : HP} {x : Int32} : pX 1142 55 L [.int x] h = some (some (.int x), h) := pX_ret d1142_55 rfl
theorem x1142_56 {S : List Value} {h : HP} {l0 l2 l3 l4 l5 : Value} {x0 : Int32} : pX 1142 56 [l0, .int x0, l2, l3, l4, l5] S h = pX 1142 57 [l0, .int x0, l2, l3, l4, l5] (.int x0 :: S) h := pX_stp d1142_56 rfl rfl rfl
theorem x1142_57 {L S : List Value} {h : HP} {x : Int32} : pX 1142 57 L (.int x :: S) h = if x = 0 then pX 1142 64 L S h else pX 1142 60 L S h := pX_if_eq d1142_57 (by decide)
theorem x1142_60 {L S : List Value} {h : HP} : pX 1142 60 L S h = pX 1142 61 L (.int 1 :: S) h := pX_iconst d1142_60 (by decide)
theorem x1142_61 {L S : List Value} {h : HP} : pX 1142 61 L S h = pX 1142 65 L S h := pX_goto d1142_61 (by decide)
theorem x1142_64 {L S : List Value} {h : HP} : pX 1142 64 L S h = pX 1142 65 L (.int (-1) :: S) h := pX_iconst d1142_64 (by decide)
theorem x1142_65 {S : List Value} {h : HP} {l0 l1 l2 l3 l4 l5 : Value} {x0 : Int32} : pX 1142 65 [l0, l1, l2, l3, l4, l5] (.int x0 :: S) h = pX 1142 67 [l0, l1, l2, l3, l4, .int x0] S h := pX_stp d1142_65 rfl rfl rfl
theorem x1142_67 {S : List Value} {h : HP} {l1 l2 l3 l4 l5 : Value} {a0 : Nat} : pX 1142 67 [.ref a0, l1, l2, l3, l4, l5] S h = pX 1142 68 [.ref a0, l1, l2, l3, l4, l5] (.ref a0 :: S) h := pX_stp d1142_67 rfl rfl rfl
theorem x1142_68 {L S : List Value} {h : HP} {a : Nat} (hk : hp_k h a = 12) : pX 1142 68 L (.ref a :: S) h = pX 1142 71 L (.ref (hp_a h a 36) :: S) h := pX_get d1142_68 rfl rfl hk
theorem x1142_71 {L S : List Value} {h : HP} : pX 1142 71 L S h = pX 1142 74 L (.int 6000 :: S) h := pX_sipush d1142_71 (by decide)
theorem x1142_74 {S : List Value} {h : HP} {l0 l1 l2 l3 l5 : Value} {x0 : Int32} : pX 1142 74 [l0, l1, l2, l3, .int x0, l5] S h = pX 1142 76 [l0, l1, l2, l3, .int x0, l5] (.int x0 :: S) h := pX_stp d1142_74 rfl rfl rfl
theorem x1142_76 {L S : List Value} {h : HP} {x y : Int32} : pX 1142 76 L (.int y :: .int x :: S) h = pX 1142 77 L (.int (x * y) :: S) h := pX_stp d1142_76 rfl rfl rfl
theorem x1142_77 {S : List Value} {h : HP} {l0 l1 l2 l4 l5 : Value} {x0 : Int32} : pX 1142 77 [l0, l1, l2, .int x0, l4, l5] S h = pX 1142 78 [l0, l1, l2, .int x0, l4, l5] (.int x0 :: S) h := pX_stp d1142_77 rfl rfl rfl
theorem x1142_78 {L S : List Value} {h : HP} {x y : Int32} : pX 1142 78 L (.int y :: .int x :: S) h = pX 1142 79 L (.int (x + y) :: S) h := pX_stp d1142_78 rfl rfl rfl
theorem x1142_79 {L S : List Value} {h : HP} {x0 : Int32} {a0 : Nat} : pX 1142 79 L (.int x0 :: .ref a0 :: S) h = pX 1142 80 L (.int x0 :: .ref a0 :: .int x0 :: .ref a0 :: S) h := pX_stp d1142_79 rfl rfl rfl
theorem x1142_80 {L S : List Value} {h : HP} {a : Nat} {j : Int32} (hk : hp_k h a = 100) (hj : inb j (hp_l h a) = true) : pX 1142 80 L (.int j :: .ref a :: S) h = pX 1142 81 L (.int (hp_i h a (ix j)) :: S) h := pX_ild d1142_80 hk hj
theorem x1142_81 {S : List Value} {h : HP} {l0 l1 l2 l3 l4 : Value} {x0 : Int32} : pX 1142 81 [l0, l1, l2, l3, l4, .int x0] S h = pX 1142 83 [l0, l1, l2, l3, l4, .int x0] (.int x0 :: S) h := pX_stp d1142_81 rfl rfl rfl
theorem x1142_83 {L S : List Value} {h : HP} {x y : Int32} : pX 1142 83 L (.int y :: .int x :: S) h = pX 1142 84 L (.int (x + y) :: S) h := pX_stp d1142_83 rfl rfl rfl
theorem x1142_84 {L S : List Value} {h : HP} {a : Nat} {j x : Int32} (hk : hp_k h a = 100) (hj : inb j (hp_l h a) = true) : pX 1142 84 L (.int x :: .int j :: .ref a :: S) h = pX 1142 85 L S (hp_wi h a (ix j) x) := pX_ist d1142_84 hk hj
theorem x1142_85 {S : List Value} {h : HP} {l1 l2 l3 l4 l5 : Value} {a0 : Nat} : pX 1142 85 [.ref a0, l1, l2, l3, l4, l5] S h = pX 1142 86 [.ref a0, l1, l2, l3, l4, l5] (.ref a0 :: S) h := pX_stp d1142_85 rfl rfl rfl
theorem x1142_86 {L S : List Value} {h : HP} {a : Nat} (hk : hp_k h a = 12) : pX 1142 86 L (.ref a :: S) h = pX 1142 89 L (.ref (hp_a h a 35) :: S) h := pX_get d1142_86 rfl rfl hk
theorem x1142_89 {S : List Value} {h : HP} {l0 l1 l2 l3 l5 : Value} {x0 : Int32} : pX 1142 89 [l0, l1, l2, l3, .int x0, l5] S h = pX 1142 91 [l0, l1, l2, l3, .int x0, l5] (.int x0 :: S) h := pX_stp d1142_89 rfl rfl rfl
theorem x1142_91 {L S : List Value} {h : HP} {x0 : Int32} {a0 : Nat} : pX 1142 91 L (.int x0 :: .ref a0 :: S) h = pX 1142 92 L (.int x0 :: .ref a0 :: .int x0 :: .ref a0 :: S) h := pX_stp d1142_91 rfl rfl rfl
theorem x1142_92 {L S : List Value} {h : HP} {a : Nat} {j : Int32} (hk : hp_k h a = 100) (hj : inb j (hp_l h a) = true) : pX 1142 92 L (.int j :: .ref a :: S) h = pX 1142 93 L (.int (hp_i h a (ix j)) :: S) h := pX_ild d1142_92 hk hj
theorem x1142_93 {S : List Value} {h : HP} {l0 l1 l2 l3 l4 : Value} {x0 : Int32} : pX 1142 93 [l0, l1, l2, l3, l4, .int x0] S h = pX 1142 95 [l0, l1, l2, l3, l4, .int x0] (.int x0 :: S) h := pX_stp d1142_93 rfl rfl rfl
theorem x1142_95 {L S : List Value} {h : HP} {x y : Int32} : pX 1142 95 L (.int y :: .int x :: S) h = pX 1142 96 L (.int (x + y) :: S) h := pX_stp d1142_95 rfl rfl rfl
theorem x1142_96 {L S : List Value} {h : HP} {a : Nat} {j x : Int32} (hk : hp_k h a = 100) (hj : inb j (hp_l h a) = true) : pX 1142 96 L (.int x :: .int j :: .ref a :: S) h = pX 1142 97 L S (hp_wi h a (ix j) x) := pX_ist d1142_96 hk hj
theorem x1142_97 {S : List Value} {h : HP} {l1 l2 l3 l4 l5 : Value} {a0 : Nat} : pX 1142 97 [.ref a0, l1, l2, l3, l4, l5] S h = pX 1142 98 [.ref a0, l1, l2, l3, l4, l5] (.ref a0 :: S) h := pX_stp d1142_97 rfl rfl rfl
theorem x1142_98 {L S : List Value} {h : HP} {a : Nat} (hk : hp_k h a = 12) : pX 1142 98 L (.ref a :: S) h = pX 1142 101 L (.ref (hp_a h a 22) :: S) h := pX_get d1142_98 rfl rfl hk
theorem x1142_101 {S : List Value} {h : HP} {l0 l1 l2 l4 l5 : Value} {x0 : Int32} : pX 1142 101 [l0, l1, l2, .int x0, l4, l5] S h = pX 1142 102 [l0, l1, l2, .int x0, l4, l5] (.int x0 :: S) h := pX_stp d1142_101 rfl rfl rfl
theorem x1142_102 {L S : List Value} {h : HP} {x0 : Int32} {a0 : Nat} : pX 1142 102 L (.int x0 :: .ref a0 :: S) h = pX 1142 103 L (.int x0 :: .ref a0 :: .int x0 :: .ref a0 :: S) h := pX_stp d1142_102 rfl rfl rfl
theorem x1142_103 {L S : List Value} {h : HP} {a : Nat} {j : Int32} (hk : hp_k h a = 100) (hj : inb j (hp_l h a) = true) : pX 1142 103 L (.int j :: .ref a :: S) h = pX 1142 104 L (.int (hp_i h a (ix j)) :: S) h := pX_ild d1142_103 hk hj
theorem x1142_104 {S : List Value} {h : HP} {l0 l1 l2 l3 l4 : Value} {x0 : Int32} : pX 1142 104 [l0, l1, l2, l3, l4, .int x0] S h = pX 1142 106 [l0, l1, l2, l3, l4, .int x0] (.int x0 :: S) h := pX_stp d1142_104 rfl rfl rfl
theorem x1142_106 {L S : List Value} {h : HP} {x y : Int32} : pX 1142 106 L (.int y :: .int x :: S) h = pX 1142 107 L (.int (x + y) :: S) h := pX_stp d1142_106 rfl rfl rfl
theorem x1142_107 {L S : List Value} {h : HP} {a : Nat} {j x : Int32} (hk : hp_k h a = 100) (hj : inb j (hp_l h a) = true) : pX 1142 107 L (.int x :: .int j :: .ref a :: S) h = pX 1142 108 L S (hp_wi h a (ix j) x) := pX_ist d1142_107 hk hj
theorem x1142_108 {S : List Value} {h : HP} {l1 l2 l3 l4 l5 : Value} {a0 : Nat} : pX 1142 108 [.ref a0, l1, l2, l3, l4, l5] S h = pX 1142 109 [.ref a0, l1, l2, l3, l4, l5] (.ref a0 :: S) h := pX_stp d1142_108 rfl rfl rfl
theorem x1142_109 {L S : List Value} {h : HP} {a : Nat} (hk : hp_k h a = 12) : pX 1142 109 L (.ref a :: S) h = pX 1142 112 L (.ref (hp_a h a 39) :: S) h := pX_get d1142_109 rfl rfl hk
theorem x1142_112 {L S : List Value} {h : HP} : pX 1142 112 L S h = pX 1142 114 L (.int 7 :: S) h := pX_bipush d1142_112 (by decide)
theorem x1142_114 {L S : List Value} {h : HP} {x0 : Int32} {a0 : Nat} : pX 1142 114 L (.int x0 :: .ref a0 :: S) h = pX 1142 115 L (.int x0 :: .ref a0 :: .int x0 :: .ref a0 :: S) h := pX_stp d1142_114 rfl rfl rfl
theorem x1142_115 {L S : List Value} {h : HP} {a : Nat} {j : Int32} (hk : hp_k h a = 100) (hj : inb j (hp_l h a) = true) : pX 1142 115 L (.int j :: .ref a :: S) h = pX 1142 116 L (.int (hp_i h a (ix j)) :: S) h := pX_ild d1142_115 hk hj
theorem x1142_116 {S : List Value} {h : HP} {l0 l2 l3 l4 l5 : Value} {x0 : Int32} : pX 1142 116 [l0, .int x0, l2, l3, l4, l5] S h = pX 1142 117 [l0, .int x0, l2, l3, l4, l5] (.int x0 :: S) h := pX_stp d1142_116 rfl rfl rfl
theorem x1142_117 {L S : List Value} {h : HP} {x : Int32} : pX 1142 117 L (.int x :: S) h = if x = 0 then pX 1142 124 L S h else pX 1142 120 L S h := pX_if_eq d1142_117 (by decide)
theorem x1142_120 {L S : List Value} {h : HP} : pX 1142 120 L S h = pX 1142 121 L (.int 1 :: S) h := pX_iconst d1142_120 (by decide)
theorem x1142_121 {L S : List Value} {h : HP} : pX 1142 121 L S h = pX 1142 125 L S h := pX_goto d1142_121 (by decide)
theorem x1142_124 {L S : List Value} {h : HP} : pX 1142 124 L S h = pX 1142 125 L (.int 0 :: S) h := pX_iconst d1142_124 (by decide)
theorem x1142_125 {L S : List Value} {h : HP} {x y : Int32} : pX 1142 125 L (.int y :: .int x :: S) h = pX 1142 126 L (.int (x + y) :: S) h := pX_stp d1142_125 rfl rfl rfl
theorem x1142_126 {L S : List Value} {h : HP} {a : Nat} {j x : Int32} (hk : hp_k h a = 100) (hj : inb j (hp_l h a) = true) : pX 1142 126 L (.int x :: .int j :: .ref a :: S) h = pX 1142 127 L S (hp_wi h a (ix j) x) := pX_ist d1142_126 hk hj
theorem x1142_127 {L S : List Value} {h : HP} : pX 1142 127 L S h = pX 1142 128 L (.int 0 :: S) h := pX_iconst d1142_127 (by decide)
theorem x1142_128 {L : List Value} {h : HP} {x : Int32} : pX 1142 128 L [.int x] h = some (some (.int x), h) := pX_ret d1142_128 rfl
theorem d1143_0 : decode (mb 1143) 0 = .ok (.aload_n 0, 1) := by decide +kernel
theorem d1143_1 : decode (mb 1143) 1 = .ok (.aload_n 0, 1) := by decide +kernel
theorem d1143_2 : decode (mb 1143) 2 = .ok (.getfield 195, 3) := by decide +kernel
theorem d1143_5 : decode (mb 1143) 5 = .ok (.invokevirtual 123, 3) := by decide +kernel
theorem d1143_8 : decode (mb 1143) 8 = .ok (.ifCond .ne 6, 3) := by decide +kernel
theorem d1143_11 : decode (mb 1143) 11 = .ok (.bipush 8, 2) := by decide +kernel
theorem d1143_13 : decode (mb 1143) 13 = .ok (.ireturn, 1) := by decide +kernel
theorem d1143_14 : decode (mb 1143) 14 = .ok (.aload_n 0, 1) := by decide +kernel
theorem d1143_15 : decode (mb 1143) 15 = .ok (.getfield 174, 3) := by decide +kernel
theorem d1143_18 : decode (mb 1143) 18 = .ok (.bipush 12, 2) := by decide +kernel
theorem d1143_20 : decode (mb 1143) 20 = .ok (.if_icmp .ne 6, 3) := by decide +kernel
theorem d1143_23 : decode (mb 1143) 23 = .ok (.bipush 7, 2) := by decide +kernel
theorem d1143_25 : decode (mb 1143) 25 = .ok (.ireturn, 1) := by decide +kernel
theorem d1143_26 : decode (mb 1143) 26 = .ok (.bipush 8, 2) := by decide +kernel
theorem d1143_28 : decode (mb 1143) 28 = .ok (.aload_n 0, 1) := by decide +kernel
theorem d1143_29 : decode (mb 1143) 29 = .ok (.getfield 174, 3) := by decide +kernel
theorem d1143_32 : decode (mb 1143) 32 = .ok (.imul, 1) := by decide +kernel
theorem d1143_33 : decode (mb 1143) 33 = .ok (.istore_n 1, 1) := by decide +kernel
theorem d1143_34 : decode (mb 1143) 34 = .ok (.iconst 0, 1) := by decide +kernel
theorem d1143_35 : decode (mb 1143) 35 = .ok (.istore_n 2, 1) := by decide +kernel
theorem d1143_36 : decode (mb 1143) 36 = .ok (.iload_n 2, 1) := by decide +kernel
theorem d1143_37 : decode (mb 1143) 37 = .ok (.bipush 8, 2) := by decide +kernel
theorem d1143_39 : decode (mb 1143) 39 = .ok (.if_icmp .ge 103, 3) := by decide +kernel
theorem d1143_42 : decode (mb 1143) 42 = .ok (.iload_n 2, 1) := by decide +kernel
theorem d1143_43 : decode (mb 1143) 43 = .ok (.aload_n 0, 1) := by decide +kernel
theorem d1143_44 : decode (mb 1143) 44 = .ok (.getfield 7, 3) := by decide +kernel
theorem d1143_47 : decode (mb 1143) 47 = .ok (.aload_n 0, 1) := by decide +kernel
theorem d1143_48 : decode (mb 1143) 48 = .ok (.getfield 195, 3) := by decide +kernel
theorem d1143_51 : decode (mb 1143) 51 = .ok (.iaload, 1) := by decide +kernel
theorem d1143_52 : decode (mb 1143) 52 = .ok (.if_icmp .ge 18, 3) := by decide +kernel
theorem d1143_55 : decode (mb 1143) 55 = .ok (.aload_n 0, 1) := by decide +kernel
theorem d1143_56 : decode (mb 1143) 56 = .ok (.getfield 201, 3) := by decide +kernel
theorem d1143_59 : decode (mb 1143) 59 = .ok (.iload_n 2, 1) := by decide +kernel
theorem d1143_60 : decode (mb 1143) 60 = .ok (.iadd, 1) := by decide +kernel
theorem d1143_61 : decode (mb 1143) 61 = .ok (.bipush 8, 2) := by decide +kernel
theorem d1143_63 : decode (mb 1143) 63 = .ok (.if_icmp .ge 7, 3) := by decide +kernel
theorem d1143_66 : decode (mb 1143) 66 = .ok (.iconst 1, 1) := by decide +kernel
theorem d1143_67 : decode (mb 1143) 67 = .ok (.goto 4, 3) := by decide +kernel
theorem d1143_70 : decode (mb 1143) 70 = .ok (.iconst 0, 1) := by decide +kernel
theorem d1143_71 : decode (mb 1143) 71 = .ok (.istore_n 3, 1) := by decide +kernel
theorem d1143_72 : decode (mb 1143) 72 = .ok (.aload_n 0, 1) := by decide +kernel
theorem d1143_73 : decode (mb 1143) 73 = .ok (.getfield 82, 3) := by decide +kernel
theorem d1143_76 : decode (mb 1143) 76 = .ok (.iload_n 1, 1) := by decide +kernel
theorem d1143_77 : decode (mb 1143) 77 = .ok (.iload_n 2, 1) := by decide +kernel
theorem d1143_78 : decode (mb 1143) 78 = .ok (.iadd, 1) := by decide +kernel
theorem d1143_79 : decode (mb 1143) 79 = .ok (.iload_n 3, 1) := by decide +kernel
theorem d1143_80 : decode (mb 1143) 80 = .ok (.ifCond .eq 22, 3) := by decide +kernel
theorem d1143_83 : decode (mb 1143) 83 = .ok (.aload_n 0, 1) := by decide +kernel
theorem d1143_84 : decode (mb 1143) 84 = .ok (.getfield 82, 3) := by decide +kernel
theorem d1143_87 : decode (mb 1143) 87 = .ok (.aload_n 0, 1) := by decide +kernel
theorem d1143_88 : decode (mb 1143) 88 = .ok (.getfield 189, 3) := by decide +kernel
theorem d1143_91 : decode (mb 1143) 91 = .ok (.aload_n 0, 1) := by decide +kernel
theorem d1143_92 : decode (mb 1143) 92 = .ok (.getfield 201, 3) := by decide +kernel
theorem d1143_95 : decode (mb 1143) 95 = .ok (.iadd, 1) := by decide +kernel
theorem d1143_96 : decode (mb 1143) 96 = .ok (.iload_n 2, 1) := by decide +kernel
theorem d1143_97 : decode (mb 1143) 97 = .ok (.iadd, 1) := by decide +kernel
theorem d1143_98 : decode (mb 1143) 98 = .ok (.iaload, 1) := by decide +kernel
theorem d1143_99 : decode (mb 1143) 99 = .ok (.goto 4, 3) := by decide +kernel
theorem d1143_102 : decode (mb 1143) 102 = .ok (.iconst 0, 1) := by decide +kernel
theorem d1143_103 : decode (mb 1143) 103 = .ok (.iastore, 1) := by decide +kernel
theorem d1143_104 : decode (mb 1143) 104 = .ok (.aload_n 0, 1) := by decide +kernel
theorem d1143_105 : decode (mb 1143) 105 = .ok (.getfield 85, 3) := by decide +kernel
theorem d1143_108 : decode (mb 1143) 108 = .ok (.iload_n 1, 1) := by decide +kernel
theorem d1143_109 : decode (mb 1143) 109 = .ok (.iload_n 2, 1) := by decide +kernel
theorem d1143_110 : decode (mb 1143) 110 = .ok (.iadd, 1) := by decide +kernel
theorem d1143_111 : decode (mb 1143) 111 = .ok (.iload_n 3, 1) := by decide +kernel
theorem d1143_112 : decode (mb 1143) 112 = .ok (.ifCond .eq 22, 3) := by decide +kernel
theorem d1143_115 : decode (mb 1143) 115 = .ok (.aload_n 0, 1) := by decide +kernel
theorem d1143_116 : decode (mb 1143) 116 = .ok (.getfield 85, 3) := by decide +kernel
theorem d1143_119 : decode (mb 1143) 119 = .ok (.aload_n 0, 1) := by decide +kernel
theorem d1143_120 : decode (mb 1143) 120 = .ok (.getfield 189, 3) := by decide +kernel
theorem d1143_123 : decode (mb 1143) 123 = .ok (.aload_n 0, 1) := by decide +kernel
theorem d1143_124 : decode (mb 1143) 124 = .ok (.getfield 201, 3) := by decide +kernel
theorem d1143_127 : decode (mb 1143) 127 = .ok (.iadd, 1) := by decide +kernel
theorem d1143_128 : decode (mb 1143) 128 = .ok (.iload_n 2, 1) := by decide +kernel
theorem d1143_129 : decode (mb 1143) 129 = .ok (.iadd, 1) := by decide +kernel
theorem d1143_130 : decode (mb 1143) 130 = .ok (.iaload, 1) := by decide +kernel
theorem d1143_131 : decode (mb 1143) 131 = .ok (.goto 4, 3) := by decide +kernel
theorem d1143_134 : decode (mb 1143) 134 = .ok (.iconst 0, 1) := by decide +kernel
theorem d1143_135 : decode (mb 1143) 135 = .ok (.iastore, 1) := by decide +kernel
theorem d1143_136 : decode (mb 1143) 136 = .ok (.iinc 2 1, 3) := by decide +kernel
theorem d1143_139 : decode (mb 1143) 139 = .ok (.goto (-103), 3) := by decide +kernel
theorem d1143_142 : decode (mb 1143) 142 = .ok (.aload_n 0, 1) := by decide +kernel
theorem d1143_143 : decode (mb 1143) 143 = .ok (.aload_n 0, 1) := by decide +kernel
theorem d1143_144 : decode (mb 1143) 144 = .ok (.getfield 195, 3) := by decide +kernel
theorem d1143_147 : decode (mb 1143) 147 = .ok (.aload_n 0, 1) := by decide +kernel
theorem d1143_148 : decode (mb 1143) 148 = .ok (.getfield 192, 3) := by decide +kernel
theorem d1143_151 : decode (mb 1143) 151 = .ok (.invokevirtual 223, 3) := by decide +kernel
theorem d1143_154 : decode (mb 1143) 154 = .ok (.ifCond .eq 7, 3) := by decide +kernel
theorem d1143_157 : decode (mb 1143) 157 = .ok (.iconst 0, 1) := by decide +kernel
theorem d1143_158 : decode (mb 1143) 158 = .ok (.goto 5, 3) := by decide +kernel
theorem d1143_161 : decode (mb 1143) 161 = .ok (.bipush 10, 2) := by decide +kernel
theorem d1143_163 : decode (mb 1143) 163 = .ok (.ireturn, 1) := by decide +kernel
theorem x1143_0 {S : List Value} {h : HP} {l1 l2 l3 : Value} {a0 : Nat} : pX 1143 0 [.ref a0, l1, l2, l3] S h = pX 1143 1 [.ref a0, l1, l2, l3] (.ref a0 :: S) h := pX_stp d1143_0 rfl rfl rfl
theorem x1143_1 {S : List Value} {h : HP} {l1 l2 l3 : Value} {a0 : Nat} : pX 1143 1 [.ref a0, l1, l2, l3] S h = pX 1143 2 [.ref a0, l1, l2, l3] (.ref a0 :: S) h := pX_stp d1143_1 rfl rfl rfl
theorem x1143_2 {L S : List Value} {h : HP} {a : Nat} (hk : hp_k h a = 12) : pX 1143 2 L (.ref a :: S) h = pX 1143 5 L (.int (hp_i h a 47) :: S) h := pX_get d1143_2 rfl rfl hk
theorem x1143_5 {L : List Value} {h : HP} {x0 : Int32} {a0 : Nat} (hk : hp_k h a0 = 12) : pX 1143 5 L [.int x0, .ref a0] h = (pX 1102 0 [.ref a0, .int x0] [] h).bind (fun q => pX 1143 8 L (q.1.toList ++ []) q.2) := pX_inv (a := a0) (t := 12) 1102 [.ref a0, .int x0] [] d1143_5 rfl rfl rfl hk
theorem x1143_8 {L S : List Value} {h : HP} {x : Int32} : pX 1143 8 L (.int x :: S) h = if x = 0 then pX 1143 11 L S h else pX 1143 14 L S h := pX_if_ne d1143_8 (by decide)
theorem x1143_11 {L S : List Value} {h : HP} : pX 1143 11 L S h = pX 1143 13 L (.int 8 :: S) h := pX_bipush d1143_11 (by decide)
theorem x1143_13 {L : List Value} {h : HP} {x : Int32} : pX 1143 13 L [.int x] h = some (some (.int x), h) := pX_ret d1143_13 rfl
theorem x1143_14 {S : List Value} {h : HP} {l1 l2 l3 : Value} {a0 : Nat} : pX 1143 14 [.ref a0, l1, l2, l3] S h = pX 1143 15 [.ref a0, l1, l2, l3] (.ref a0 :: S) h := pX_stp d1143_14 rfl rfl rfl
theorem x1143_15 {L S : List Value} {h : HP} {a : Nat} (hk : hp_k h a = 12) : pX 1143 15 L (.ref a :: S) h = pX 1143 18 L (.int (hp_i h a 29) :: S) h := pX_get d1143_15 rfl rfl hk
theorem x1143_18 {L S : List Value} {h : HP} : pX 1143 18 L S h = pX 1143 20 L (.int 12 :: S) h := pX_bipush d1143_18 (by decide)
theorem x1143_20 {L S : List Value} {h : HP} {x y : Int32} : pX 1143 20 L (.int y :: .int x :: S) h = if x = y then pX 1143 23 L S h else pX 1143 26 L S h := pX_icmp_ne d1143_20 (by decide)
theorem x1143_23 {L S : List Value} {h : HP} : pX 1143 23 L S h = pX 1143 25 L (.int 7 :: S) h := pX_bipush d1143_23 (by decide)
theorem x1143_25 {L : List Value} {h : HP} {x : Int32} : pX 1143 25 L [.int x] h = some (some (.int x), h) := pX_ret d1143_25 rfl
theorem x1143_26 {L S : List Value} {h : HP} : pX 1143 26 L S h = pX 1143 28 L (.int 8 :: S) h := pX_bipush d1143_26 (by decide)
theorem x1143_28 {S : List Value} {h : HP} {l1 l2 l3 : Value} {a0 : Nat} : pX 1143 28 [.ref a0, l1, l2, l3] S h = pX 1143 29 [.ref a0, l1, l2, l3] (.ref a0 :: S) h := pX_stp d1143_28 rfl rfl rfl
theorem x1143_29 {L S : List Value} {h : HP} {a : Nat} (hk : hp_k h a = 12) : pX 1143 29 L (.ref a :: S) h = pX 1143 32 L (.int (hp_i h a 29) :: S) h := pX_get d1143_29 rfl rfl hk
theorem x1143_32 {L S : List Value} {h : HP} {x y : Int32} : pX 1143 32 L (.int y :: .int x :: S) h = pX 1143 33 L (.int (x * y) :: S) h := pX_stp d1143_32 rfl rfl rfl
theorem x1143_33 {S : List Value} {h : HP} {l0 l1 l2 l3 : Value} {x0 : Int32} : pX 1143 33 [l0, l1, l2, l3] (.int x0 :: S) h = pX 1143 34 [l0, .int x0, l2, l3] S h := pX_stp d1143_33 rfl rfl rfl
theorem x1143_34 {L S : List Value} {h : HP} : pX 1143 34 L S h = pX 1143 35 L (.int 0 :: S) h := pX_iconst d1143_34 (by decide)
theorem x1143_35 {S : List Value} {h : HP} {l0 l1 l2 l3 : Value} {x0 : Int32} : pX 1143 35 [l0, l1, l2, l3] (.int x0 :: S) h = pX 1143 36 [l0, l1, .int x0, l3] S h := pX_stp d1143_35 rfl rfl rfl
theorem x1143_36 {S : List Value} {h : HP} {l0 l1 l3 : Value} {x0 : Int32} : pX 1143 36 [l0, l1, .int x0, l3] S h = pX 1143 37 [l0, l1, .int x0, l3] (.int x0 :: S) h := pX_stp d1143_36 rfl rfl rfl
theorem x1143_37 {L S : List Value} {h : HP} : pX 1143 37 L S h = pX 1143 39 L (.int 8 :: S) h := pX_bipush d1143_37 (by decide)
theorem x1143_39 {L S : List Value} {h : HP} {x y : Int32} : pX 1143 39 L (.int y :: .int x :: S) h = if y ≤ x then pX 1143 142 L S h else pX 1143 42 L S h := pX_icmp_ge d1143_39 (by decide)
theorem x1143_42 {S : List Value} {h : HP} {l0 l1 l3 : Value} {x0 : Int32} : pX 1143 42 [l0, l1, .int x0, l3] S h = pX 1143 43 [l0, l1, .int x0, l3] (.int x0 :: S) h := pX_stp d1143_42 rfl rfl rfl
theorem x1143_43 {S : List Value} {h : HP} {l1 l2 l3 : Value} {a0 : Nat} : pX 1143 43 [.ref a0, l1, l2, l3] S h = pX 1143 44 [.ref a0, l1, l2, l3] (.ref a0 :: S) h := pX_stp d1143_43 rfl rfl rfl
theorem x1143_44 {L S : List Value} {h : HP} {a : Nat} (hk : hp_k h a = 12) : pX 1143 44 L (.ref a :: S) h = pX 1143 47 L (.ref (hp_a h a 1) :: S) h := pX_get d1143_44 rfl rfl hk
theorem x1143_47 {S : List Value} {h : HP} {l1 l2 l3 : Value} {a0 : Nat} : pX 1143 47 [.ref a0, l1, l2, l3] S h = pX 1143 48 [.ref a0, l1, l2, l3] (.ref a0 :: S) h := pX_stp d1143_47 rfl rfl rfl
theorem x1143_48 {L S : List Value} {h : HP} {a : Nat} (hk : hp_k h a = 12) : pX 1143 48 L (.ref a :: S) h = pX 1143 51 L (.int (hp_i h a 47) :: S) h := pX_get d1143_48 rfl rfl hk
theorem x1143_51 {L S : List Value} {h : HP} {a : Nat} {j : Int32} (hk : hp_k h a = 100) (hj : inb j (hp_l h a) = true) : pX 1143 51 L (.int j :: .ref a :: S) h = pX 1143 52 L (.int (hp_i h a (ix j)) :: S) h := pX_ild d1143_51 hk hj
theorem x1143_52 {L S : List Value} {h : HP} {x y : Int32} : pX 1143 52 L (.int y :: .int x :: S) h = if y ≤ x then pX 1143 70 L S h else pX 1143 55 L S h := pX_icmp_ge d1143_52 (by decide)
theorem x1143_55 {S : List Value} {h : HP} {l1 l2 l3 : Value} {a0 : Nat} : pX 1143 55 [.ref a0, l1, l2, l3] S h = pX 1143 56 [.ref a0, l1, l2, l3] (.ref a0 :: S) h := pX_stp d1143_55 rfl rfl rfl
theorem x1143_56 {L S : List Value} {h : HP} {a : Nat} (hk : hp_k h a = 12) : pX 1143 56 L (.ref a :: S) h = pX 1143 59 L (.int (hp_i h a 48) :: S) h := pX_get d1143_56 rfl rfl hk
theorem x1143_59 {S : List Value} {h : HP} {l0 l1 l3 : Value} {x0 : Int32} : pX 1143 59 [l0, l1, .int x0, l3] S h = pX 1143 60 [l0, l1, .int x0, l3] (.int x0 :: S) h := pX_stp d1143_59 rfl rfl rfl
theorem x1143_60 {L S : List Value} {h : HP} {x y : Int32} : pX 1143 60 L (.int y :: .int x :: S) h = pX 1143 61 L (.int (x + y) :: S) h := pX_stp d1143_60 rfl rfl rfl
theorem x1143_61 {L S : List Value} {h : HP} : pX 1143 61 L S h = pX 1143 63 L (.int 8 :: S) h := pX_bipush d1143_61 (by decide)
theorem x1143_63 {L S : List Value} {h : HP} {x y : Int32} : pX 1143 63 L (.int y :: .int x :: S) h = if y ≤ x then pX 1143 70 L S h else pX 1143 66 L S h := pX_icmp_ge d1143_63 (by decide)
theorem x1143_66 {L S : List Value} {h : HP} : pX 1143 66 L S h = pX 1143 67 L (.int 1 :: S) h := pX_iconst d1143_66 (by decide)
theorem x1143_67 {L S : List Value} {h : HP} : pX 1143 67 L S h = pX 1143 71 L S h := pX_goto d1143_67 (by decide)
theorem x1143_70 {L S : List Value} {h : HP} : pX 1143 70 L S h = pX 1143 71 L (.int 0 :: S) h := pX_iconst d1143_70 (by decide)
theorem x1143_71 {S : List Value} {h : HP} {l0 l1 l2 l3 : Value} {x0 : Int32} : pX 1143 71 [l0, l1, l2, l3] (.int x0 :: S) h = pX 1143 72 [l0, l1, l2, .int x0] S h := pX_stp d1143_71 rfl rfl rfl
theorem x1143_72 {S : List Value} {h : HP} {l1 l2 l3 : Value} {a0 : Nat} : pX 1143 72 [.ref a0, l1, l2, l3] S h = pX 1143 73 [.ref a0, l1, l2, l3] (.ref a0 :: S) h := pX_stp d1143_72 rfl rfl rfl
theorem x1143_73 {L S : List Value} {h : HP} {a : Nat} (hk : hp_k h a = 12) : pX 1143 73 L (.ref a :: S) h = pX 1143 76 L (.ref (hp_a h a 33) :: S) h := pX_get d1143_73 rfl rfl hk
theorem x1143_76 {S : List Value} {h : HP} {l0 l2 l3 : Value} {x0 : Int32} : pX 1143 76 [l0, .int x0, l2, l3] S h = pX 1143 77 [l0, .int x0, l2, l3] (.int x0 :: S) h := pX_stp d1143_76 rfl rfl rfl
theorem x1143_77 {S : List Value} {h : HP} {l0 l1 l3 : Value} {x0 : Int32} : pX 1143 77 [l0, l1, .int x0, l3] S h = pX 1143 78 [l0, l1, .int x0, l3] (.int x0 :: S) h := pX_stp d1143_77 rfl rfl rfl
theorem x1143_78 {L S : List Value} {h : HP} {x y : Int32} : pX 1143 78 L (.int y :: .int x :: S) h = pX 1143 79 L (.int (x + y) :: S) h := pX_stp d1143_78 rfl rfl rfl
theorem x1143_79 {S : List Value} {h : HP} {l0 l1 l2 : Value} {x0 : Int32} : pX 1143 79 [l0, l1, l2, .int x0] S h = pX 1143 80 [l0, l1, l2, .int x0] (.int x0 :: S) h := pX_stp d1143_79 rfl rfl rfl
theorem x1143_80 {L S : List Value} {h : HP} {x : Int32} : pX 1143 80 L (.int x :: S) h = if x = 0 then pX 1143 102 L S h else pX 1143 83 L S h := pX_if_eq d1143_80 (by decide)
theorem x1143_83 {S : List Value} {h : HP} {l1 l2 l3 : Value} {a0 : Nat} : pX 1143 83 [.ref a0, l1, l2, l3] S h = pX 1143 84 [.ref a0, l1, l2, l3] (.ref a0 :: S) h := pX_stp d1143_83 rfl rfl rfl
theorem x1143_84 {L S : List Value} {h : HP} {a : Nat} (hk : hp_k h a = 12) : pX 1143 84 L (.ref a :: S) h = pX 1143 87 L (.ref (hp_a h a 33) :: S) h := pX_get d1143_84 rfl rfl hk
theorem x1143_87 {S : List Value} {h : HP} {l1 l2 l3 : Value} {a0 : Nat} : pX 1143 87 [.ref a0, l1, l2, l3] S h = pX 1143 88 [.ref a0, l1, l2, l3] (.ref a0 :: S) h := pX_stp d1143_87 rfl rfl rfl
theorem x1143_88 {L S : List Value} {h : HP} {a : Nat} (hk : hp_k h a = 12) : pX 1143 88 L (.ref a :: S) h = pX 1143 91 L (.int (hp_i h a 45) :: S) h := pX_get d1143_88 rfl rfl hk
theorem x1143_91 {S : List Value} {h : HP} {l1 l2 l3 : Value} {a0 : Nat} : pX 1143 91 [.ref a0, l1, l2, l3] S h = pX 1143 92 [.ref a0, l1, l2, l3] (.ref a0 :: S) h := pX_stp d1143_91 rfl rfl rfl
theorem x1143_92 {L S : List Value} {h : HP} {a : Nat} (hk : hp_k h a = 12) : pX 1143 92 L (.ref a :: S) h = pX 1143 95 L (.int (hp_i h a 48) :: S) h := pX_get d1143_92 rfl rfl hk
theorem x1143_95 {L S : List Value} {h : HP} {x y : Int32} : pX 1143 95 L (.int y :: .int x :: S) h = pX 1143 96 L (.int (x + y) :: S) h := pX_stp d1143_95 rfl rfl rfl
theorem x1143_96 {S : List Value} {h : HP} {l0 l1 l3 : Value} {x0 : Int32} : pX 1143 96 [l0, l1, .int x0, l3] S h = pX 1143 97 [l0, l1, .int x0, l3] (.int x0 :: S) h := pX_stp d1143_96 rfl rfl rfl
theorem x1143_97 {L S : List Value} {h : HP} {x y : Int32} : pX 1143 97 L (.int y :: .int x :: S) h = pX 1143 98 L (.int (x + y) :: S) h := pX_stp d1143_97 rfl rfl rfl
theorem x1143_98 {L S : List Value} {h : HP} {a : Nat} {j : Int32} (hk : hp_k h a = 100) (hj : inb j (hp_l h a) = true) : pX 1143 98 L (.int j :: .ref a :: S) h = pX 1143 99 L (.int (hp_i h a (ix j)) :: S) h := pX_ild d1143_98 hk hj
theorem x1143_99 {L S : List Value} {h : HP} : pX 1143 99 L S h = pX 1143 103 L S h := pX_goto d1143_99 (by decide)
theorem x1143_102 {L S : List Value} {h : HP} : pX 1143 102 L S h = pX 1143 103 L (.int 0 :: S) h := pX_iconst d1143_102 (by decide)
theorem x1143_103 {L S : List Value} {h : HP} {a : Nat} {j x : Int32} (hk : hp_k h a = 100) (hj : inb j (hp_l h a) = true) : pX 1143 103 L (.int x :: .int j :: .ref a :: S) h = pX 1143 104 L S (hp_wi h a (ix j) x) := pX_ist d1143_103 hk hj
theorem x1143_104 {S : List Value} {h : HP} {l1 l2 l3 : Value} {a0 : Nat} : pX 1143 104 [.ref a0, l1, l2, l3] S h = pX 1143 105 [.ref a0, l1, l2, l3] (.ref a0 :: S) h := pX_stp d1143_104 rfl rfl rfl
theorem x1143_105 {L S : List Value} {h : HP} {a : Nat} (hk : hp_k h a = 12) : pX 1143 105 L (.ref a :: S) h = pX 1143 108 L (.ref (hp_a h a 34) :: S) h := pX_get d1143_105 rfl rfl hk
theorem x1143_108 {S : List Value} {h : HP} {l0 l2 l3 : Value} {x0 : Int32} : pX 1143 108 [l0, .int x0, l2, l3] S h = pX 1143 109 [l0, .int x0, l2, l3] (.int x0 :: S) h := pX_stp d1143_108 rfl rfl rfl
theorem x1143_109 {S : List Value} {h : HP} {l0 l1 l3 : Value} {x0 : Int32} : pX 1143 109 [l0, l1, .int x0, l3] S h = pX 1143 110 [l0, l1, .int x0, l3] (.int x0 :: S) h := pX_stp d1143_109 rfl rfl rfl
theorem x1143_110 {L S : List Value} {h : HP} {x y : Int32} : pX 1143 110 L (.int y :: .int x :: S) h = pX 1143 111 L (.int (x + y) :: S) h := pX_stp d1143_110 rfl rfl rfl
theorem x1143_111 {S : List Value} {h : HP} {l0 l1 l2 : Value} {x0 : Int32} : pX 1143 111 [l0, l1, l2, .int x0] S h = pX 1143 112 [l0, l1, l2, .int x0] (.int x0 :: S) h := pX_stp d1143_111 rfl rfl rfl
theorem x1143_112 {L S : List Value} {h : HP} {x : Int32} : pX 1143 112 L (.int x :: S) h = if x = 0 then pX 1143 134 L S h else pX 1143 115 L S h := pX_if_eq d1143_112 (by decide)
theorem x1143_115 {S : List Value} {h : HP} {l1 l2 l3 : Value} {a0 : Nat} : pX 1143 115 [.ref a0, l1, l2, l3] S h = pX 1143 116 [.ref a0, l1, l2, l3] (.ref a0 :: S) h := pX_stp d1143_115 rfl rfl rfl
theorem x1143_116 {L S : List Value} {h : HP} {a : Nat} (hk : hp_k h a = 12) : pX 1143 116 L (.ref a :: S) h = pX 1143 119 L (.ref (hp_a h a 34) :: S) h := pX_get d1143_116 rfl rfl hk
theorem x1143_119 {S : List Value} {h : HP} {l1 l2 l3 : Value} {a0 : Nat} : pX 1143 119 [.ref a0, l1, l2, l3] S h = pX 1143 120 [.ref a0, l1, l2, l3] (.ref a0 :: S) h := pX_stp d1143_119 rfl rfl rfl
theorem x1143_120 {L S : List Value} {h : HP} {a : Nat} (hk : hp_k h a = 12) : pX 1143 120 L (.ref a :: S) h = pX 1143 123 L (.int (hp_i h a 45) :: S) h := pX_get d1143_120 rfl rfl hk
theorem x1143_123 {S : List Value} {h : HP} {l1 l2 l3 : Value} {a0 : Nat} : pX 1143 123 [.ref a0, l1, l2, l3] S h = pX 1143 124 [.ref a0, l1, l2, l3] (.ref a0 :: S) h := pX_stp d1143_123 rfl rfl rfl
theorem x1143_124 {L S : List Value} {h : HP} {a : Nat} (hk : hp_k h a = 12) : pX 1143 124 L (.ref a :: S) h = pX 1143 127 L (.int (hp_i h a 48) :: S) h := pX_get d1143_124 rfl rfl hk
theorem x1143_127 {L S : List Value} {h : HP} {x y : Int32} : pX 1143 127 L (.int y :: .int x :: S) h = pX 1143 128 L (.int (x + y) :: S) h := pX_stp d1143_127 rfl rfl rfl
theorem x1143_128 {S : List Value} {h : HP} {l0 l1 l3 : Value} {x0 : Int32} : pX 1143 128 [l0, l1, .int x0, l3] S h = pX 1143 129 [l0, l1, .int x0, l3] (.int x0 :: S) h := pX_stp d1143_128 rfl rfl rfl
theorem x1143_129 {L S : List Value} {h : HP} {x y : Int32} : pX 1143 129 L (.int y :: .int x :: S) h = pX 1143 130 L (.int (x + y) :: S) h := pX_stp d1143_129 rfl rfl rfl
theorem x1143_130 {L S : List Value} {h : HP} {a : Nat} {j : Int32} (hk : hp_k h a = 100) (hj : inb j (hp_l h a) = true) : pX 1143 130 L (.int j :: .ref a :: S) h = pX 1143 131 L (.int (hp_i h a (ix j)) :: S) h := pX_ild d1143_130 hk hj
theorem x1143_131 {L S : List Value} {h : HP} : pX 1143 131 L S h = pX 1143 135 L S h := pX_goto d1143_131 (by decide)
theorem x1143_134 {L S : List Value} {h : HP} : pX 1143 134 L S h = pX 1143 135 L (.int 0 :: S) h := pX_iconst d1143_134 (by decide)
theorem x1143_135 {L S : List Value} {h : HP} {a : Nat} {j x : Int32} (hk : hp_k h a = 100) (hj : inb j (hp_l h a) = true) : pX 1143 135 L (.int x :: .int j :: .ref a :: S) h = pX 1143 136 L S (hp_wi h a (ix j) x) := pX_ist d1143_135 hk hj
theorem x1143_136 {S : List Value} {h : HP} {x0 : Int32} {l0 l1 l3 : Value} : pX 1143 136 [l0, l1, .int x0, l3] S h = pX 1143 139 [l0, l1, .int (x0 + 1), l3] S h := pX_iinc (x := x0) d1143_136 (by decide) rfl (Nat.le_of_ble_eq_true rfl) rfl rfl
theorem x1143_139 {L S : List Value} {h : HP} : pX 1143 139 L S h = pX 1143 36 L S h := pX_goto d1143_139 (by decide)
theorem x1143_142 {S : List Value} {h : HP} {l1 l2 l3 : Value} {a0 : Nat} : pX 1143 142 [.ref a0, l1, l2, l3] S h = pX 1143 143 [.ref a0, l1, l2, l3] (.ref a0 :: S) h := pX_stp d1143_142 rfl rfl rfl
theorem x1143_143 {S : List Value} {h : HP} {l1 l2 l3 : Value} {a0 : Nat} : pX 1143 143 [.ref a0, l1, l2, l3] S h = pX 1143 144 [.ref a0, l1, l2, l3] (.ref a0 :: S) h := pX_stp d1143_143 rfl rfl rfl
theorem x1143_144 {L S : List Value} {h : HP} {a : Nat} (hk : hp_k h a = 12) : pX 1143 144 L (.ref a :: S) h = pX 1143 147 L (.int (hp_i h a 47) :: S) h := pX_get d1143_144 rfl rfl hk
theorem x1143_147 {S : List Value} {h : HP} {l1 l2 l3 : Value} {a0 : Nat} : pX 1143 147 [.ref a0, l1, l2, l3] S h = pX 1143 148 [.ref a0, l1, l2, l3] (.ref a0 :: S) h := pX_stp d1143_147 rfl rfl rfl
theorem x1143_148 {L S : List Value} {h : HP} {a : Nat} (hk : hp_k h a = 12) : pX 1143 148 L (.ref a :: S) h = pX 1143 151 L (.int (hp_i h a 46) :: S) h := pX_get d1143_148 rfl rfl hk
theorem x1143_151 {L : List Value} {h : HP} {x0 : Int32} {x1 : Int32} {a0 : Nat} (hk : hp_k h a0 = 12) : pX 1143 151 L [.int x0, .int x1, .ref a0] h = (pX 1125 0 [.ref a0, .int x1, .int x0] [] h).bind (fun q => pX 1143 154 L (q.1.toList ++ []) q.2) := pX_inv (a := a0) (t := 12) 1125 [.ref a0, .int x1, .int x0] [] d1143_151 rfl rfl rfl hk
theorem x1143_154 {L S : List Value} {h : HP} {x : Int32} : pX 1143 154 L (.int x :: S) h = if x = 0 then pX 1143 161 L S h else pX 1143 157 L S h := pX_if_eq d1143_154 (by decide)
theorem x1143_157 {L S : List Value} {h : HP} : pX 1143 157 L S h = pX 1143 158 L (.int 0 :: S) h := pX_iconst d1143_157 (by decide)
theorem x1143_158 {L S : List Value} {h : HP} : pX 1143 158 L S h = pX 1143 163 L S h := pX_goto d1143_158 (by decide)
theorem x1143_161 {L S : List Value} {h : HP} : pX 1143 161 L S h = pX 1143 163 L (.int 10 :: S) h := pX_bipush d1143_161 (by decide)
theorem x1143_163 {L : List Value} {h : HP} {x : Int32} : pX 1143 163 L [.int x] h = some (some (.int x), h) := pX_ret d1143_163 rfl
theorem d1144_0 : decode (mb 1144) 0 = .ok (.aload_n 0, 1) := by decide +kernel
theorem d1144_1 : decode (mb 1144) 1 = .ok (.aload_n 0, 1) := by decide +kernel
theorem d1144_2 : decode (mb 1144) 2 = .ok (.getfield 192, 3) := by decide +kernel
theorem d1144_5 : decode (mb 1144) 5 = .ok (.iconst 1, 1) := by decide +kernel
theorem d1144_6 : decode (mb 1144) 6 = .ok (.invokevirtual 198, 3) := by decide +kernel
theorem d1144_9 : decode (mb 1144) 9 = .ok (.istore_n 1, 1) := by decide +kernel
theorem d1144_10 : decode (mb 1144) 10 = .ok (.iload_n 1, 1) := by decide +kernel
theorem d1144_11 : decode (mb 1144) 11 = .ok (.ifCond .le 7, 3) := by decide +kernel
theorem d1144_14 : decode (mb 1144) 14 = .ok (.iload_n 1, 1) := by decide +kernel
theorem d1144_15 : decode (mb 1144) 15 = .ok (.goto 12, 3) := by decide +kernel
theorem d1144_18 : decode (mb 1144) 18 = .ok (.aload_n 0, 1) := by decide +kernel
theorem d1144_19 : decode (mb 1144) 19 = .ok (.aload_n 0, 1) := by decide +kernel
theorem d1144_20 : decode (mb 1144) 20 = .ok (.getfield 195, 3) := by decide +kernel
theorem d1144_23 : decode (mb 1144) 23 = .ok (.iconst 1, 1) := by decide +kernel
theorem d1144_24 : decode (mb 1144) 24 = .ok (.invokevirtual 198, 3) := by decide +kernel
theorem d1144_27 : decode (mb 1144) 27 = .ok (.istore_n 1, 1) := by decide +kernel
theorem d1144_28 : decode (mb 1144) 28 = .ok (.iload_n 1, 1) := by decide +kernel
theorem d1144_29 : decode (mb 1144) 29 = .ok (.ifCond .le 5, 3) := by decide +kernel
theorem d1144_32 : decode (mb 1144) 32 = .ok (.iload_n 1, 1) := by decide +kernel
theorem d1144_33 : decode (mb 1144) 33 = .ok (.ireturn, 1) := by decide +kernel
theorem d1144_34 : decode (mb 1144) 34 = .ok (.aload_n 0, 1) := by decide +kernel
theorem d1144_35 : decode (mb 1144) 35 = .ok (.aload_n 0, 1) := by decide +kernel
theorem d1144_36 : decode (mb 1144) 36 = .ok (.getfield 195, 3) := by decide +kernel
theorem d1144_39 : decode (mb 1144) 39 = .ok (.invokevirtual 208, 3) := by decide +kernel
theorem d1144_42 : decode (mb 1144) 42 = .ok (.iconst 0, 1) := by decide +kernel
theorem d1144_43 : decode (mb 1144) 43 = .ok (.bipush 11, 2) := by decide +kernel
theorem d1144_45 : decode (mb 1144) 45 = .ok (.invokestatic 111, 3) := by decide +kernel
theorem d1144_48 : decode (mb 1144) 48 = .ok (.ifCond .ne 5, 3) := by decide +kernel
theorem d1144_51 : decode (mb 1144) 51 = .ok (.iconst 2, 1) := by decide +kernel
theorem d1144_52 : decode (mb 1144) 52 = .ok (.ireturn, 1) := by decide +kernel
theorem d1144_53 : decode (mb 1144) 53 = .ok (.aload_n 0, 1) := by decide +kernel
theorem d1144_54 : decode (mb 1144) 54 = .ok (.getfield 34, 3) := by decide +kernel
theorem d1144_57 : decode (mb 1144) 57 = .ok (.aload_n 0, 1) := by decide +kernel
theorem d1144_58 : decode (mb 1144) 58 = .ok (.aload_n 0, 1) := by decide +kernel
theorem d1144_59 : decode (mb 1144) 59 = .ok (.getfield 195, 3) := by decide +kernel
theorem d1144_62 : decode (mb 1144) 62 = .ok (.invokevirtual 208, 3) := by decide +kernel
theorem d1144_65 : decode (mb 1144) 65 = .ok (.aload_n 0, 1) := by decide +kernel
theorem d1144_66 : decode (mb 1144) 66 = .ok (.aload_n 0, 1) := by decide +kernel
theorem d1144_67 : decode (mb 1144) 67 = .ok (.getfield 192, 3) := by decide +kernel
theorem d1144_70 : decode (mb 1144) 70 = .ok (.invokevirtual 208, 3) := by decide +kernel
theorem d1144_73 : decode (mb 1144) 73 = .ok (.iastore, 1) := by decide +kernel
theorem d1144_74 : decode (mb 1144) 74 = .ok (.iconst 0, 1) := by decide +kernel
theorem d1144_75 : decode (mb 1144) 75 = .ok (.ireturn, 1) := by decide +kernel
theorem x1144_0 {S : List Value} {h : HP} {l1 : Value} {a0 : Nat} : pX 1144 0 [.ref a0, l1] S h = pX 1144 1 [.ref a0, l1] (.ref a0 :: S) h := pX_stp d1144_0 rfl rfl rfl
theorem x1144_1 {S : List Value} {h : HP} {l1 : Value} {a0 : Nat} : pX 1144 1 [.ref a0, l1] S h = pX 1144 2 [.ref a0, l1] (.ref a0 :: S) h := pX_stp d1144_1 rfl rfl rfl
theorem x1144_2 {L S : List Value} {h : HP} {a : Nat} (hk : hp_k h a = 12) : pX 1144 2 L (.ref a :: S) h = pX 1144 5 L (.int (hp_i h a 46) :: S) h := pX_get d1144_2 rfl rfl hk
theorem x1144_5 {L S : List Value} {h : HP} : pX 1144 5 L S h = pX 1144 6 L (.int 1 :: S) h := pX_iconst d1144_5 (by decide)
theorem x1144_6 {L : List Value} {h : HP} {x0 : Int32} {x1 : Int32} {a0 : Nat} (hk : hp_k h a0 = 12) : pX 1144 6 L [.int x0, .int x1, .ref a0] h = (pX 1130 0 [.ref a0, .int x1, .int x0] [] h).bind (fun q => pX 1144 9 L (q.1.toList ++ []) q.2) := pX_inv (a := a0) (t := 12) 1130 [.ref a0, .int x1, .int x0] [] d1144_6 rfl rfl rfl hk
theorem x1144_9 {S : List Value} {h : HP} {l0 l1 : Value} {x0 : Int32} : pX 1144 9 [l0, l1] (.int x0 :: S) h = pX 1144 10 [l0, .int x0] S h := pX_stp d1144_9 rfl rfl rfl
theorem x1144_10 {S : List Value} {h : HP} {l0 : Value} {x0 : Int32} : pX 1144 10 [l0, .int x0] S h = pX 1144 11 [l0, .int x0] (.int x0 :: S) h := pX_stp d1144_10 rfl rfl rfl
theorem x1144_11 {L S : List Value} {h : HP} {x : Int32} : pX 1144 11 L (.int x :: S) h = if x ≤ 0 then pX 1144 18 L S h else pX 1144 14 L S h := pX_if_le d1144_11 (by decide)
theorem x1144_14 {S : List Value} {h : HP} {l0 : Value} {x0 : Int32} : pX 1144 14 [l0, .int x0] S h = pX 1144 15 [l0, .int x0] (.int x0 :: S) h := pX_stp d1144_14 rfl rfl rfl
theorem x1144_15 {L S : List Value} {h : HP} : pX 1144 15 L S h = pX 1144 27 L S h := pX_goto d1144_15 (by decide)
theorem x1144_18 {S : List Value} {h : HP} {l1 : Value} {a0 : Nat} : pX 1144 18 [.ref a0, l1] S h = pX 1144 19 [.ref a0, l1] (.ref a0 :: S) h := pX_stp d1144_18 rfl rfl rfl
theorem x1144_19 {S : List Value} {h : HP} {l1 : Value} {a0 : Nat} : pX 1144 19 [.ref a0, l1] S h = pX 1144 20 [.ref a0, l1] (.ref a0 :: S) h := pX_stp d1144_19 rfl rfl rfl
theorem x1144_20 {L S : List Value} {h : HP} {a : Nat} (hk : hp_k h a = 12) : pX 1144 20 L (.ref a :: S) h = pX 1144 23 L (.int (hp_i h a 47) :: S) h := pX_get d1144_20 rfl rfl hk
theorem x1144_23 {L S : List Value} {h : HP} : pX 1144 23 L S h = pX 1144 24 L (.int 1 :: S) h := pX_iconst d1144_23 (by decide)
theorem x1144_24 {L : List Value} {h : HP} {x0 : Int32} {x1 : Int32} {a0 : Nat} (hk : hp_k h a0 = 12) : pX 1144 24 L [.int x0, .int x1, .ref a0] h = (pX 1130 0 [.ref a0, .int x1, .int x0] [] h).bind (fun q => pX 1144 27 L (q.1.toList ++ []) q.2) := pX_inv (a := a0) (t := 12) 1130 [.ref a0, .int x1, .int x0] [] d1144_24 rfl rfl rfl hk
theorem x1144_27 {S : List Value} {h : HP} {l0 l1 : Value} {x0 : Int32} : pX 1144 27 [l0, l1] (.int x0 :: S) h = pX 1144 28 [l0, .int x0] S h := pX_stp d1144_27 rfl rfl rfl
theorem x1144_28 {S : List Value} {h : HP} {l0 : Value} {x0 : Int32} : pX 1144 28 [l0, .int x0] S h = pX 1144 29 [l0, .int x0] (.int x0 :: S) h := pX_stp d1144_28 rfl rfl rfl
theorem x1144_29 {L S : List Value} {h : HP} {x : Int32} : pX 1144 29 L (.int x :: S) h = if x ≤ 0 then pX 1144 34 L S h else pX 1144 32 L S h := pX_if_le d1144_29 (by decide)
theorem x1144_32 {S : List Value} {h : HP} {l0 : Value} {x0 : Int32} : pX 1144 32 [l0, .int x0] S h = pX 1144 33 [l0, .int x0] (.int x0 :: S) h := pX_stp d1144_32 rfl rfl rfl
theorem x1144_33 {L : List Value} {h : HP} {x : Int32} : pX 1144 33 L [.int x] h = some (some (.int x), h) := pX_ret d1144_33 rfl
theorem x1144_34 {S : List Value} {h : HP} {l1 : Value} {a0 : Nat} : pX 1144 34 [.ref a0, l1] S h = pX 1144 35 [.ref a0, l1] (.ref a0 :: S) h := pX_stp d1144_34 rfl rfl rfl
theorem x1144_35 {S : List Value} {h : HP} {l1 : Value} {a0 : Nat} : pX 1144 35 [.ref a0, l1] S h = pX 1144 36 [.ref a0, l1] (.ref a0 :: S) h := pX_stp d1144_35 rfl rfl rfl
theorem x1144_36 {L S : List Value} {h : HP} {a : Nat} (hk : hp_k h a = 12) : pX 1144 36 L (.ref a :: S) h = pX 1144 39 L (.int (hp_i h a 47) :: S) h := pX_get d1144_36 rfl rfl hk
theorem x1144_39 {L : List Value} {h : HP} {x0 : Int32} {a0 : Nat} (hk : hp_k h a0 = 12) : pX 1144 39 L [.int x0, .ref a0] h = (pX 1131 0 [.ref a0, .int x0] [] h).bind (fun q => pX 1144 42 L (q.1.toList ++ []) q.2) := pX_inv (a := a0) (t := 12) 1131 [.ref a0, .int x0] [] d1144_39 rfl rfl rfl hk
theorem x1144_42 {L S : List Value} {h : HP} : pX 1144 42 L S h = pX 1144 43 L (.int 0 :: S) h := pX_iconst d1144_42 (by decide)
theorem x1144_43 {L S : List Value} {h : HP} : pX 1144 43 L S h = pX 1144 45 L (.int 11 :: S) h := pX_bipush d1144_43 (by decide)
theorem x1144_45 {L : List Value} {h : HP} {x0 : Int32} {x1 : Int32} {x2 : Int32} : pX 1144 45 L [.int x0, .int x1, .int x2] h = (pX 1101 0 [.int x2, .int x1, .int x0] [] h).bind (fun q => pX 1144 48 L (q.1.toList ++ []) q.2) := pX_ins 1101 [.int x2, .int x1, .int x0] [] d1144_45 rfl rfl rfl
theorem x1144_48 {L S : List Value} {h : HP} {x : Int32} : pX 1144 48 L (.int x :: S) h = if x = 0 then pX 1144 51 L S h else pX 1144 53 L S h := pX_if_ne d1144_48 (by decide)
theorem x1144_51 {L S : List Value} {h : HP} : pX 1144 51 L S h = pX 1144 52 L (.int 2 :: S) h := pX_iconst d1144_51 (by decide)
theorem x1144_52 {L : List Value} {h : HP} {x : Int32} : pX 1144 52 L [.int x] h = some (some (.int x), h) := pX_ret d1144_52 rfl
theorem x1144_53 {S : List Value} {h : HP} {l1 : Value} {a0 : Nat} : pX 1144 53 [.ref a0, l1] S h = pX 1144 54 [.ref a0, l1] (.ref a0 :: S) h := pX_stp d1144_53 rfl rfl rfl
theorem x1144_54 {L S : List Value} {h : HP} {a : Nat} (hk : hp_k h a = 12) : pX 1144 54 L (.ref a :: S) h = pX 1144 57 L (.ref (hp_a h a 11) :: S) h := pX_get d1144_54 rfl rfl hk
theorem x1144_57 {S : List Value} {h : HP} {l1 : Value} {a0 : Nat} : pX 1144 57 [.ref a0, l1] S h = pX 1144 58 [.ref a0, l1] (.ref a0 :: S) h := pX_stp d1144_57 rfl rfl rfl
theorem x1144_58 {S : List Value} {h : HP} {l1 : Value} {a0 : Nat} : pX 1144 58 [.ref a0, l1] S h = pX 1144 59 [.ref a0, l1] (.ref a0 :: S) h := pX_stp d1144_58 rfl rfl rfl
theorem x1144_59 {L S : List Value} {h : HP} {a : Nat} (hk : hp_k h a = 12) : pX 1144 59 L (.ref a :: S) h = pX 1144 62 L (.int (hp_i h a 47) :: S) h := pX_get d1144_59 rfl rfl hk
theorem x1144_62 {L : List Value} {h : HP} {x0 : Int32} {a0 : Nat} {a1 : Nat} (hk : hp_k h a0 = 12) : pX 1144 62 L [.int x0, .ref a0, .ref a1] h = (pX 1131 0 [.ref a0, .int x0] [] h).bind (fun q => pX 1144 65 L (q.1.toList ++ [.ref a1]) q.2) := pX_inv (a := a0) (t := 12) 1131 [.ref a0, .int x0] [.ref a1] d1144_62 rfl rfl rfl hk
theorem x1144_65 {S : List Value} {h : HP} {l1 : Value} {a0 : Nat} : pX 1144 65 [.ref a0, l1] S h = pX 1144 66 [.ref a0, l1] (.ref a0 :: S) h := pX_stp d1144_65 rfl rfl rfl
theorem x1144_66 {S : List Value} {h : HP} {l1 : Value} {a0 : Nat} : pX 1144 66 [.ref a0, l1] S h = pX 1144 67 [.ref a0, l1] (.ref a0 :: S) h := pX_stp d1144_66 rfl rfl rfl
theorem x1144_67 {L S : List Value} {h : HP} {a : Nat} (hk : hp_k h a = 12) : pX 1144 67 L (.ref a :: S) h = pX 1144 70 L (.int (hp_i h a 46) :: S) h := pX_get d1144_67 rfl rfl hk
theorem x1144_70 {L : List Value} {h : HP} {x0 : Int32} {a0 : Nat} {x1 : Int32} {a1 : Nat} (hk : hp_k h a0 = 12) : pX 1144 70 L [.int x0, .ref a0, .int x1, .ref a1] h = (pX 1131 0 [.ref a0, .int x0] [] h).bind (fun q => pX 1144 73 L (q.1.toList ++ [.int x1, .ref a1]) q.2) := pX_inv (a := a0) (t := 12) 1131 [.ref a0, .int x0] [.int x1, .ref a1] d1144_70 rfl rfl rfl hk
theorem x1144_73 {L S : List Value} {h : HP} {a : Nat} {j x : Int32} (hk : hp_k h a = 100) (hj : inb j (hp_l h a) = true) : pX 1144 73 L (.int x :: .int j :: .ref a :: S) h = pX 1144 74 L S (hp_wi h a (ix j) x) := pX_ist d1144_73 hk hj
theorem x1144_74 {L S : List Value} {h : HP} : pX 1144 74 L S h = pX 1144 75 L (.int 0 :: S) h := pX_iconst d1144_74 (by decide)
theorem x1144_75 {L : List Value} {h : HP} {x : Int32} : pX 1144 75 L [.int x] h = some (some (.int x), h) := pX_ret d1144_75 rfl
theorem d1145_0 : decode (mb 1145) 0 = .ok (.aload_n 0, 1) := by decide +kernel
theorem d1145_1 : decode (mb 1145) 1 = .ok (.aload_n 0, 1) := by decide +kernel
theorem d1145_2 : decode (mb 1145) 2 = .ok (.getfield 195, 3) := by decide +kernel
theorem d1145_5 : decode (mb 1145) 5 = .ok (.iconst 1, 1) := by decide +kernel
theorem d1145_6 : decode (mb 1145) 6 = .ok (.invokevirtual 198, 3) := by decide +kernel
theorem d1145_9 : decode (mb 1145) 9 = .ok (.istore_n 1, 1) := by decide +kernel
theorem d1145_10 : decode (mb 1145) 10 = .ok (.iload_n 1, 1) := by decide +kernel
theorem d1145_11 : decode (mb 1145) 11 = .ok (.ifCond .le 5, 3) := by decide +kernel
theorem d1145_14 : decode (mb 1145) 14 = .ok (.iload_n 1, 1) := by decide +kernel
theorem d1145_15 : decode (mb 1145) 15 = .ok (.ireturn, 1) := by decide +kernel
theorem d1145_16 : decode (mb 1145) 16 = .ok (.aload_n 0, 1) := by decide +kernel
theorem d1145_17 : decode (mb 1145) 17 = .ok (.aload_n 0, 1) := by decide +kernel
theorem d1145_18 : decode (mb 1145) 18 = .ok (.getfield 195, 3) := by decide +kernel
theorem d1145_21 : decode (mb 1145) 21 = .ok (.invokevirtual 208, 3) := by decide +kernel
theorem d1145_24 : decode (mb 1145) 24 = .ok (.iconst 0, 1) := by decide +kernel
theorem d1145_25 : decode (mb 1145) 25 = .ok (.bipush 11, 2) := by decide +kernel
theorem d1145_27 : decode (mb 1145) 27 = .ok (.invokestatic 111, 3) := by decide +kernel
theorem d1145_30 : decode (mb 1145) 30 = .ok (.ifCond .ne 5, 3) := by decide +kernel
theorem d1145_33 : decode (mb 1145) 33 = .ok (.iconst 2, 1) := by decide +kernel
theorem d1145_34 : decode (mb 1145) 34 = .ok (.ireturn, 1) := by decide +kernel
theorem d1145_35 : decode (mb 1145) 35 = .ok (.aload_n 0, 1) := by decide +kernel
theorem d1145_36 : decode (mb 1145) 36 = .ok (.iconst 1, 1) := by decide +kernel
theorem d1145_37 : decode (mb 1145) 37 = .ok (.aload_n 0, 1) := by decide +kernel
theorem d1145_38 : decode (mb 1145) 38 = .ok (.getfield 34, 3) := by decide +kernel
theorem d1145_41 : decode (mb 1145) 41 = .ok (.aload_n 0, 1) := by decide +kernel
theorem d1145_42 : decode (mb 1145) 42 = .ok (.aload_n 0, 1) := by decide +kernel
theorem d1145_43 : decode (mb 1145) 43 = .ok (.getfield 195, 3) := by decide +kernel
theorem d1145_46 : decode (mb 1145) 46 = .ok (.invokevirtual 208, 3) := by decide +kernel
theorem d1145_49 : decode (mb 1145) 49 = .ok (.iaload, 1) := by decide +kernel
theorem d1145_50 : decode (mb 1145) 50 = .ok (.invokevirtual 211, 3) := by decide +kernel
theorem d1145_53 : decode (mb 1145) 53 = .ok (.iconst 0, 1) := by decide +kernel
theorem d1145_54 : decode (mb 1145) 54 = .ok (.ireturn, 1) := by decide +kernel
theorem x1145_0 {S : List Value} {h : HP} {l1 : Value} {a0 : Nat} : pX 1145 0 [.ref a0, l1] S h = pX 1145 1 [.ref a0, l1] (.ref a0 :: S) h := pX_stp d1145_0 rfl rfl rfl
theorem x1145_1 {S : List Value} {h : HP} {l1 : Value} {a0 : Nat} : pX 1145 1 [.ref a0, l1] S h = pX 1145 2 [.ref a0, l1] (.ref a0 :: S) h := pX_stp d1145_1 rfl rfl rfl
theorem x1145_2 {L S : List Value} {h : HP} {a : Nat} (hk : hp_k h a = 12) : pX 1145 2 L (.ref a :: S) h = pX 1145 5 L (.int (hp_i h a 47) :: S) h := pX_get d1145_2 rfl rfl hk
theorem x1145_5 {L S : List Value} {h : HP} : pX 1145 5 L S h = pX 1145 6 L (.int 1 :: S) h := pX_iconst d1145_5 (by decide)
theorem x1145_6 {L : List Value} {h : HP} {x0 : Int32} {x1 : Int32} {a0 : Nat} (hk : hp_k h a0 = 12) : pX 1145 6 L [.int x0, .int x1, .ref a0] h = (pX 1130 0 [.ref a0, .int x1, .int x0] [] h).bind (fun q => pX 1145 9 L (q.1.toList ++ []) q.2) := pX_inv (a := a0) (t := 12) 1130 [.ref a0, .int x1, .int x0] [] d1145_6 rfl rfl rfl hk
theorem x1145_9 {S : List Value} {h : HP} {l0 l1 : Value} {x0 : Int32} : pX 1145 9 [l0, l1] (.int x0 :: S) h = pX 1145 10 [l0, .int x0] S h := pX_stp d1145_9 rfl rfl rfl
theorem x1145_10 {S : List Value} {h : HP} {l0 : Value} {x0 : Int32} : pX 1145 10 [l0, .int x0] S h = pX 1145 11 [l0, .int x0] (.int x0 :: S) h := pX_stp d1145_10 rfl rfl rfl
theorem x1145_11 {L S : List Value} {h : HP} {x : Int32} : pX 1145 11 L (.int x :: S) h = if x ≤ 0 then pX 1145 16 L S h else pX 1145 14 L S h := pX_if_le d1145_11 (by decide)
theorem x1145_14 {S : List Value} {h : HP} {l0 : Value} {x0 : Int32} : pX 1145 14 [l0, .int x0] S h = pX 1145 15 [l0, .int x0] (.int x0 :: S) h := pX_stp d1145_14 rfl rfl rfl
theorem x1145_15 {L : List Value} {h : HP} {x : Int32} : pX 1145 15 L [.int x] h = some (some (.int x), h) := pX_ret d1145_15 rfl
theorem x1145_16 {S : List Value} {h : HP} {l1 : Value} {a0 : Nat} : pX 1145 16 [.ref a0, l1] S h = pX 1145 17 [.ref a0, l1] (.ref a0 :: S) h := pX_stp d1145_16 rfl rfl rfl
theorem x1145_17 {S : List Value} {h : HP} {l1 : Value} {a0 : Nat} : pX 1145 17 [.ref a0, l1] S h = pX 1145 18 [.ref a0, l1] (.ref a0 :: S) h := pX_stp d1145_17 rfl rfl rfl
theorem x1145_18 {L S : List Value} {h : HP} {a : Nat} (hk : hp_k h a = 12) : pX 1145 18 L (.ref a :: S) h = pX 1145 21 L (.int (hp_i h a 47) :: S) h := pX_get d1145_18 rfl rfl hk
theorem x1145_21 {L : List Value} {h : HP} {x0 : Int32} {a0 : Nat} (hk : hp_k h a0 = 12) : pX 1145 21 L [.int x0, .ref a0] h = (pX 1131 0 [.ref a0, .int x0] [] h).bind (fun q => pX 1145 24 L (q.1.toList ++ []) q.2) := pX_inv (a := a0) (t := 12) 1131 [.ref a0, .int x0] [] d1145_21 rfl rfl rfl hk
theorem x1145_24 {L S : List Value} {h : HP} : pX 1145 24 L S h = pX 1145 25 L (.int 0 :: S) h := pX_iconst d1145_24 (by decide)
theorem x1145_25 {L S : List Value} {h : HP} : pX 1145 25 L S h = pX 1145 27 L (.int 11 :: S) h := pX_bipush d1145_25 (by decide)
theorem x1145_27 {L : List Value} {h : HP} {x0 : Int32} {x1 : Int32} {x2 : Int32} : pX 1145 27 L [.int x0, .int x1, .int x2] h = (pX 1101 0 [.int x2, .int x1, .int x0] [] h).bind (fun q => pX 1145 30 L (q.1.toList ++ []) q.2) := pX_ins 1101 [.int x2, .int x1, .int x0] [] d1145_27 rfl rfl rfl
theorem x1145_30 {L S : List Value} {h : HP} {x : Int32} : pX 1145 30 L (.int x :: S) h = if x = 0 then pX 1145 33 L S h else pX 1145 35 L S h := pX_if_ne d1145_30 (by decide)
theorem x1145_33 {L S : List Value} {h : HP} : pX 1145 33 L S h = pX 1145 34 L (.int 2 :: S) h := pX_iconst d1145_33 (by decide)
theorem x1145_34 {L : List Value} {h : HP} {x : Int32} : pX 1145 34 L [.int x] h = some (some (.int x), h) := pX_ret d1145_34 rfl
theorem x1145_35 {S : List Value} {h : HP} {l1 : Value} {a0 : Nat} : pX 1145 35 [.ref a0, l1] S h = pX 1145 36 [.ref a0, l1] (.ref a0 :: S) h := pX_stp d1145_35 rfl rfl rfl
theorem x1145_36 {L S : List Value} {h : HP} : pX 1145 36 L S h = pX 1145 37 L (.int 1 :: S) h := pX_iconst d1145_36 (by decide)
theorem x1145_37 {S : List Value} {h : HP} {l1 : Value} {a0 : Nat} : pX 1145 37 [.ref a0, l1] S h = pX 1145 38 [.ref a0, l1] (.ref a0 :: S) h := pX_stp d1145_37 rfl rfl rfl
theorem x1145_38 {L S : List Value} {h : HP} {a : Nat} (hk : hp_k h a = 12) : pX 1145 38 L (.ref a :: S) h = pX 1145 41 L (.ref (hp_a h a 11) :: S) h := pX_get d1145_38 rfl rfl hk
theorem x1145_41 {S : List Value} {h : HP} {l1 : Value} {a0 : Nat} : pX 1145 41 [.ref a0, l1] S h = pX 1145 42 [.ref a0, l1] (.ref a0 :: S) h := pX_stp d1145_41 rfl rfl rfl
theorem x1145_42 {S : List Value} {h : HP} {l1 : Value} {a0 : Nat} : pX 1145 42 [.ref a0, l1] S h = pX 1145 43 [.ref a0, l1] (.ref a0 :: S) h := pX_stp d1145_42 rfl rfl rfl
theorem x1145_43 {L S : List Value} {h : HP} {a : Nat} (hk : hp_k h a = 12) : pX 1145 43 L (.ref a :: S) h = pX 1145 46 L (.int (hp_i h a 47) :: S) h := pX_get d1145_43 rfl rfl hk
theorem x1145_46 {L : List Value} {h : HP} {x0 : Int32} {a0 : Nat} {a1 : Nat} {x1 : Int32} {a2 : Nat} (hk : hp_k h a0 = 12) : pX 1145 46 L [.int x0, .ref a0, .ref a1, .int x1, .ref a2] h = (pX 1131 0 [.ref a0, .int x0] [] h).bind (fun q => pX 1145 49 L (q.1.toList ++ [.ref a1, .int x1, .ref a2]) q.2) := pX_inv (a := a0) (t := 12) 1131 [.ref a0, .int x0] [.ref a1, .int x1, .ref a2] d1145_46 rfl rfl rfl hk
theorem x1145_49 {L S : List Value} {h : HP} {a : Nat} {j : Int32} (hk : hp_k h a = 100) (hj : inb j (hp_l h a) = true) : pX 1145 49 L (.int j :: .ref a :: S) h = pX 1145 50 L (.int (hp_i h a (ix j)) :: S) h := pX_ild d1145_49 hk hj
theorem x1145_50 {L : List Value} {h : HP} {x0 : Int32} {x1 : Int32} {a0 : Nat} (hk : hp_k h a0 = 12) : pX 1145 50 L [.int x0, .int x1, .ref a0] h = (pX 1129 0 [.ref a0, .int x1, .int x0] [] h).bind (fun q => pX 1145 53 L (q.1.toList ++ []) q.2) := pX_inv (a := a0) (t := 12) 1129 [.ref a0, .int x1, .int x0] [] d1145_50 rfl rfl rfl hk
theorem x1145_53 {L S : List Value} {h : HP} : pX 1145 53 L S h = pX 1145 54 L (.int 0 :: S) h := pX_iconst d1145_53 (by decide)
theorem x1145_54 {L : List Value} {h : HP} {x : Int32} : pX 1145 54 L [.int x] h = some (some (.int x), h) := pX_ret d1145_54 rfl
theorem d1146_0 : decode (mb 1146) 0 = .ok (.aload_n 0, 1) := by decide +kernel
theorem d1146_1 : decode (mb 1146) 1 = .ok (.aload_n 0, 1) := by decide +kernel
theorem d1146_2 : decode (mb 1146) 2 = .ok (.getfield 195, 3) := by decide +kernel
theorem d1146_5 : decode (mb 1146) 5 = .ok (.iconst 2, 1) := by decide +kernel
theorem d1146_6 : decode (mb 1146) 6 = .ok (.invokevirtual 198, 3) := by decide +kernel
theorem d1146_9 : decode (mb 1146) 9 = .ok (.istore_n 1, 1) := by decide +kernel
theorem d1146_10 : decode (mb 1146) 10 = .ok (.iload_n 1, 1) := by decide +kernel
theorem d1146_11 : decode (mb 1146) 11 = .ok (.ifCond .le 5, 3) := by decide +kernel
theorem d1146_14 : decode (mb 1146) 14 = .ok (.iload_n 1, 1) := by decide +kernel
theorem d1146_15 : decode (mb 1146) 15 = .ok (.ireturn, 1) := by decide +kernel
theorem d1146_16 : decode (mb 1146) 16 = .ok (.aload_n 0, 1) := by decide +kernel
theorem d1146_17 : decode (mb 1146) 17 = .ok (.aload_n 0, 1) := by decide +kernel
theorem d1146_18 : decode (mb 1146) 18 = .ok (.getfield 195, 3) := by decide +kernel
theorem d1146_21 : decode (mb 1146) 21 = .ok (.invokevirtual 208, 3) := by decide +kernel
theorem d1146_24 : decode (mb 1146) 24 = .ok (.istore_n 2, 1) := by decide +kernel
theorem d1146_25 : decode (mb 1146) 25 = .ok (.aload_n 0, 1) := by decide +kernel
theorem d1146_26 : decode (mb 1146) 26 = .ok (.getfield 46, 3) := by decide +kernel
theorem d1146_29 : decode (mb 1146) 29 = .ok (.iload_n 2, 1) := by decide +kernel
theorem d1146_30 : decode (mb 1146) 30 = .ok (.iaload, 1) := by decide +kernel
theorem d1146_31 : decode (mb 1146) 31 = .ok (.ifCond .ne 7, 3) := by decide +kernel
theorem d1146_34 : decode (mb 1146) 34 = .ok (.iconst 1, 1) := by decide +kernel
theorem d1146_35 : decode (mb 1146) 35 = .ok (.goto 18, 3) := by decide +kernel
theorem d1146_38 : decode (mb 1146) 38 = .ok (.aload_n 0, 1) := by decide +kernel
theorem d1146_39 : decode (mb 1146) 39 = .ok (.getfield 46, 3) := by decide +kernel
theorem d1146_42 : decode (mb 1146) 42 = .ok (.iload_n 2, 1) := by decide +kernel
theorem d1146_43 : decode (mb 1146) 43 = .ok (.iaload, 1) := by decide +kernel
theorem d1146_44 : decode (mb 1146) 44 = .ok (.iconst 3, 1) := by decide +kernel
theorem d1146_45 : decode (mb 1146) 45 = .ok (.if_icmp .ne 7, 3) := by decide +kernel
theorem d1146_48 : decode (mb 1146) 48 = .ok (.iconst 3, 1) := by decide +kernel
theorem d1146_49 : decode (mb 1146) 49 = .ok (.goto 4, 3) := by decide +kernel
theorem d1146_52 : decode (mb 1146) 52 = .ok (.iconst 2, 1) := by decide +kernel
theorem d1146_53 : decode (mb 1146) 53 = .ok (.istore_n 3, 1) := by decide +kernel
theorem d1146_54 : decode (mb 1146) 54 = .ok (.iconst 0, 1) := by decide +kernel
theorem d1146_55 : decode (mb 1146) 55 = .ok (.istore 4, 2) := by decide +kernel
theorem d1146_57 : decode (mb 1146) 57 = .ok (.iload 4, 2) := by decide +kernel
theorem d1146_59 : decode (mb 1146) 59 = .ok (.iload_n 3, 1) := by decide +kernel
theorem d1146_60 : decode (mb 1146) 60 = .ok (.if_icmp .ge 36, 3) := by decide +kernel
theorem d1146_63 : decode (mb 1146) 63 = .ok (.aload_n 0, 1) := by decide +kernel
theorem d1146_64 : decode (mb 1146) 64 = .ok (.aload_n 0, 1) := by decide +kernel
theorem d1146_65 : decode (mb 1146) 65 = .ok (.getfield 28, 3) := by decide +kernel
theorem d1146_68 : decode (mb 1146) 68 = .ok (.iconst 0, 1) := by decide +kernel
theorem d1146_69 : decode (mb 1146) 69 = .ok (.iaload, 1) := by decide +kernel
theorem d1146_70 : decode (mb 1146) 70 = .ok (.i2l, 1) := by decide +kernel
theorem d1146_71 : decode (mb 1146) 71 = .ok (.invokevirtual 166, 3) := by decide +kernel
theorem d1146_74 : decode (mb 1146) 74 = .ok (.ifCond .ne 6, 3) := by decide +kernel
theorem d1146_77 : decode (mb 1146) 77 = .ok (.bipush 10, 2) := by decide +kernel
theorem d1146_79 : decode (mb 1146) 79 = .ok (.ireturn, 1) := by decide +kernel
theorem d1146_80 : decode (mb 1146) 80 = .ok (.aload_n 0, 1) := by decide +kernel
theorem d1146_81 : decode (mb 1146) 81 = .ok (.getfield 95, 3) := by decide +kernel
theorem d1146_84 : decode (mb 1146) 84 = .ok (.iconst 1, 1) := by decide +kernel
theorem d1146_85 : decode (mb 1146) 85 = .ok (.dup2, 1) := by decide +kernel
theorem d1146_86 : decode (mb 1146) 86 = .ok (.iaload, 1) := by decide +kernel
theorem d1146_87 : decode (mb 1146) 87 = .ok (.iconst 1, 1) := by decide +kernel
theorem d1146_88 : decode (mb 1146) 88 = .ok (.iadd, 1) := by decide +kernel
theorem d1146_89 : decode (mb 1146) 89 = .ok (.iastore, 1) := by decide +kernel
theorem d1146_90 : decode (mb 1146) 90 = .ok (.iinc 4 1, 3) := by decide +kernel
theorem d1146_93 : decode (mb 1146) 93 = .ok (.goto (-36), 3) := by decide +kernel
theorem d1146_96 : decode (mb 1146) 96 = .ok (.aload_n 0, 1) := by decide +kernel
theorem d1146_97 : decode (mb 1146) 97 = .ok (.getfield 49, 3) := by decide +kernel
theorem d1146_100 : decode (mb 1146) 100 = .ok (.iload_n 2, 1) := by decide +kernel
theorem d1146_101 : decode (mb 1146) 101 = .ok (.iaload, 1) := by decide +kernel
theorem d1146_102 : decode (mb 1146) 102 = .ok (.iconst 1, 1) := by decide +kernel
theorem d1146_103 : decode (mb 1146) 103 = .ok (.iadd, 1) := by decide +kernel
theorem d1146_104 : decode (mb 1146) 104 = .ok (.istore 4, 2) := by decide +kernel
theorem d1146_106 : decode (mb 1146) 106 = .ok (.aload_n 0, 1) := by decide +kernel
theorem d1146_107 : decode (mb 1146) 107 = .ok (.iconst 1, 1) := by decide +kernel
theorem d1146_108 : decode (mb 1146) 108 = .ok (.aload_n 0, 1) := by decide +kernel
theorem d1146_109 : decode (mb 1146) 109 = .ok (.getfield 46, 3) := by decide +kernel
theorem d1146_112 : decode (mb 1146) 112 = .ok (.iload_n 2, 1) := by decide +kernel
theorem d1146_113 : decode (mb 1146) 113 = .ok (.iaload, 1) := by decide +kernel
theorem d1146_114 : decode (mb 1146) 114 = .ok (.ifCond .ne 8, 3) := by decide +kernel
theorem d1146_117 : decode (mb 1146) 117 = .ok (.iload 4, 2) := by decide +kernel
theorem d1146_119 : decode (mb 1146) 119 = .ok (.goto 27, 3) := by decide +kernel
theorem d1146_122 : decode (mb 1146) 122 = .ok (.aload_n 0, 1) := by decide +kernel
theorem d1146_123 : decode (mb 1146) 123 = .ok (.getfield 46, 3) := by decide +kernel
theorem d1146_126 : decode (mb 1146) 126 = .ok (.iload_n 2, 1) := by decide +kernel
theorem d1146_127 : decode (mb 1146) 127 = .ok (.iaload, 1) := by decide +kernel
theorem d1146_128 : decode (mb 1146) 128 = .ok (.iconst 3, 1) := by decide +kernel
theorem d1146_129 : decode (mb 1146) 129 = .ok (.if_icmp .ne 13, 3) := by decide +kernel
theorem d1146_132 : decode (mb 1146) 132 = .ok (.iconst 2, 1) := by decide +kernel
theorem d1146_133 : decode (mb 1146) 133 = .ok (.iload 4, 2) := by decide +kernel
theorem d1146_135 : decode (mb 1146) 135 = .ok (.imul, 1) := by decide +kernel
theorem d1146_136 : decode (mb 1146) 136 = .ok (.bipush 7, 2) := by decide +kernel
theorem d1146_138 : decode (mb 1146) 138 = .ok (.iadd, 1) := by decide +kernel
theorem d1146_139 : decode (mb 1146) 139 = .ok (.goto 7, 3) := by decide +kernel
theorem d1146_142 : decode (mb 1146) 142 = .ok (.iconst 2, 1) := by decide +kernel
theorem d1146_143 : decode (mb 1146) 143 = .ok (.iload 4, 2) := by decide +kernel
theorem d1146_145 : decode (mb 1146) 145 = .ok (.imul, 1) := by decide +kernel
theorem d1146_146 : decode (mb 1146) 146 = .ok (.invokevirtual 211, 3) := by decide +kernel
theorem d1146_149 : decode (mb 1146) 149 = .ok (.iconst 0, 1) := by decide +kernel
theorem d1146_150 : decode (mb 1146) 150 = .ok (.ireturn, 1) := by decide +kernel
theorem x1146_0 {S : List Value} {h : HP} {l1 l2 l3 l4 : Value} {a0 : Nat} : pX 1146 0 [.ref a0, l1, l2, l3, l4] S h = pX 1146 1 [.ref a0, l1, l2, l3, l4] (.ref a0 :: S) h := pX_stp d1146_0 rfl rfl rfl
theorem x1146_1 {S : List Value} {h : HP} {l1 l2 l3 l4 : Value} {a0 : Nat} : pX 1146 1 [.ref a0, l1, l2, l3, l4] S h = pX 1146 2 [.ref a0, l1, l2, l3, l4] (.ref a0 :: S) h := pX_stp d1146_1 rfl rfl rfl
theorem x1146_2 {L S : List Value} {h : HP} {a : Nat} (hk : hp_k h a = 12) : pX 1146 2 L (.ref a :: S) h = pX 1146 5 L (.int (hp_i h a 47) :: S) h := pX_get d1146_2 rfl rfl hk
theorem x1146_5 {L S : List Value} {h : HP} : pX 1146 5 L S h = pX 1146 6 L (.int 2 :: S) h := pX_iconst d1146_5 (by decide)
theorem x1146_6 {L : List Value} {h : HP} {x0 : Int32} {x1 : Int32} {a0 : Nat} (hk : hp_k h a0 = 12) : pX 1146 6 L [.int x0, .int x1, .ref a0] h = (pX 1130 0 [.ref a0, .int x1, .int x0] [] h).bind (fun q => pX 1146 9 L (q.1.toList ++ []) q.2) := pX_inv (a := a0) (t := 12) 1130 [.ref a0, .int x1, .int x0] [] d1146_6 rfl rfl rfl hk
theorem x1146_9 {S : List Value} {h : HP} {l0 l1 l2 l3 l4 : Value} {x0 : Int32} : pX 1146 9 [l0, l1, l2, l3, l4] (.int x0 :: S) h = pX 1146 10 [l0, .int x0, l2, l3, l4] S h := pX_stp d1146_9 rfl rfl rfl
theorem x1146_10 {S : List Value} {h : HP} {l0 l2 l3 l4 : Value} {x0 : Int32} : pX 1146 10 [l0, .int x0, l2, l3, l4] S h = pX 1146 11 [l0, .int x0, l2, l3, l4] (.int x0 :: S) h := pX_stp d1146_10 rfl rfl rfl
theorem x1146_11 {L S : List Value} {h : HP} {x : Int32} : pX 1146 11 L (.int x :: S) h = if x ≤ 0 then pX 1146 16 L S h else pX 1146 14 L S h := pX_if_le d1146_11 (by decide)
theorem x1146_14 {S : List Value} {h : HP} {l0 l2 l3 l4 : Value} {x0 : Int32} : pX 1146 14 [l0, .int x0, l2, l3, l4] S h = pX 1146 15 [l0, .int x0, l2, l3, l4] (.int x0 :: S) h := pX_stp d1146_14 rfl rfl rfl
theorem x1146_15 {L : List Value} {h : HP} {x : Int32} : pX 1146 15 L [.int x] h = some (some (.int x), h) := pX_ret d1146_15 rfl
theorem x1146_16 {S : List Value} {h : HP} {l1 l2 l3 l4 : Value} {a0 : Nat} : pX 1146 16 [.ref a0, l1, l2, l3, l4] S h = pX 1146 17 [.ref a0, l1, l2, l3, l4] (.ref a0 :: S) h := pX_stp d1146_16 rfl rfl rfl
theorem x1146_17 {S : List Value} {h : HP} {l1 l2 l3 l4 : Value} {a0 : Nat} : pX 1146 17 [.ref a0, l1, l2, l3, l4] S h = pX 1146 18 [.ref a0, l1, l2, l3, l4] (.ref a0 :: S) h := pX_stp d1146_17 rfl rfl rfl
theorem x1146_18 {L S : List Value} {h : HP} {a : Nat} (hk : hp_k h a = 12) : pX 1146 18 L (.ref a :: S) h = pX 1146 21 L (.int (hp_i h a 47) :: S) h := pX_get d1146_18 rfl rfl hk
theorem x1146_21 {L : List Value} {h : HP} {x0 : Int32} {a0 : Nat} (hk : hp_k h a0 = 12) : pX 1146 21 L [.int x0, .ref a0] h = (pX 1131 0 [.ref a0, .int x0] [] h).bind (fun q => pX 1146 24 L (q.1.toList ++ []) q.2) := pX_inv (a := a0) (t := 12) 1131 [.ref a0, .int x0] [] d1146_21 rfl rfl rfl hk
theorem x1146_24 {S : List Value} {h : HP} {l0 l1 l2 l3 l4 : Value} {x0 : Int32} : pX 1146 24 [l0, l1, l2, l3, l4] (.int x0 :: S) h = pX 1146 25 [l0, l1, .int x0, l3, l4] S h := pX_stp d1146_24 rfl rfl rfl
theorem x1146_25 {S : List Value} {h : HP} {l1 l2 l3 l4 : Value} {a0 : Nat} : pX 1146 25 [.ref a0, l1, l2, l3, l4] S h = pX 1146 26 [.ref a0, l1, l2, l3, l4] (.ref a0 :: S) h := pX_stp d1146_25 rfl rfl rfl
theorem x1146_26 {L S : List Value} {h : HP} {a : Nat} (hk : hp_k h a = 12) : pX 1146 26 L (.ref a :: S) h = pX 1146 29 L (.ref (hp_a h a 18) :: S) h := pX_get d1146_26 rfl rfl hk
theorem x1146_29 {S : List Value} {h : HP} {l0 l1 l3 l4 : Value} {x0 : Int32} : pX 1146 29 [l0, l1, .int x0, l3, l4] S h = pX 1146 30 [l0, l1, .int x0, l3, l4] (.int x0 :: S) h := pX_stp d1146_29 rfl rfl rfl
theorem x1146_30 {L S : List Value} {h : HP} {a : Nat} {j : Int32} (hk : hp_k h a = 100) (hj : inb j (hp_l h a) = true) : pX 1146 30 L (.int j :: .ref a :: S) h = pX 1146 31 L (.int (hp_i h a (ix j)) :: S) h := pX_ild d1146_30 hk hj
theorem x1146_31 {L S : List Value} {h : HP} {x : Int32} : pX 1146 31 L (.int x :: S) h = if x = 0 then pX 1146 34 L S h else pX 1146 38 L S h := pX_if_ne d1146_31 (by decide)
theorem x1146_34 {L S : List Value} {h : HP} : pX 1146 34 L S h = pX 1146 35 L (.int 1 :: S) h := pX_iconst d1146_34 (by decide)
theorem x1146_35 {L S : List Value} {h : HP} : pX 1146 35 L S h = pX 1146 53 L S h := pX_goto d1146_35 (by decide)
theorem x1146_38 {S : List Value} {h : HP} {l1 l2 l3 l4 : Value} {a0 : Nat} : pX 1146 38 [.ref a0, l1, l2, l3, l4] S h = pX 1146 39 [.ref a0, l1, l2, l3, l4] (.ref a0 :: S) h := pX_stp d1146_38 rfl rfl rfl
theorem x1146_39 {L S : List Value} {h : HP} {a : Nat} (hk : hp_k h a = 12) : pX 1146 39 L (.ref a :: S) h = pX 1146 42 L (.ref (hp_a h a 18) :: S) h := pX_get d1146_39 rfl rfl hk
theorem x1146_42 {S : List Value} {h : HP} {l0 l1 l3 l4 : Value} {x0 : Int32} : pX 1146 42 [l0, l1, .int x0, l3, l4] S h = pX 1146 43 [l0, l1, .int x0, l3, l4] (.int x0 :: S) h := pX_stp d1146_42 rfl rfl rfl
theorem x1146_43 {L S : List Value} {h : HP} {a : Nat} {j : Int32} (hk : hp_k h a = 100) (hj : inb j (hp_l h a) = true) : pX 1146 43 L (.int j :: .ref a :: S) h = pX 1146 44 L (.int (hp_i h a (ix j)) :: S) h := pX_ild d1146_43 hk hj
theorem x1146_44 {L S : List Value} {h : HP} : pX 1146 44 L S h = pX 1146 45 L (.int 3 :: S) h := pX_iconst d1146_44 (by decide)
theorem x1146_45 {L S : List Value} {h : HP} {x y : Int32} : pX 1146 45 L (.int y :: .int x :: S) h = if x = y then pX 1146 48 L S h else pX 1146 52 L S h := pX_icmp_ne d1146_45 (by decide)
theorem x1146_48 {L S : List Value} {h : HP} : pX 1146 48 L S h = pX 1146 49 L (.int 3 :: S) h := pX_iconst d1146_48 (by decide)
theorem x1146_49 {L S : List Value} {h : HP} : pX 1146 49 L S h = pX 1146 53 L S h := pX_goto d1146_49 (by decide)
theorem x1146_52 {L S : List Value} {h : HP} : pX 1146 52 L S h = pX 1146 53 L (.int 2 :: S) h := pX_iconst d1146_52 (by decide)
theorem x1146_53 {S : List Value} {h : HP} {l0 l1 l2 l3 l4 : Value} {x0 : Int32} : pX 1146 53 [l0, l1, l2, l3, l4] (.int x0 :: S) h = pX 1146 54 [l0, l1, l2, .int x0, l4] S h := pX_stp d1146_53 rfl rfl rfl
theorem x1146_54 {L S : List Value} {h : HP} : pX 1146 54 L S h = pX 1146 55 L (.int 0 :: S) h := pX_iconst d1146_54 (by decide)
theorem x1146_55 {S : List Value} {h : HP} {l0 l1 l2 l3 l4 : Value} {x0 : Int32} : pX 1146 55 [l0, l1, l2, l3, l4] (.int x0 :: S) h = pX 1146 57 [l0, l1, l2, l3, .int x0] S h := pX_stp d1146_55 rfl rfl rfl
theorem x1146_57 {S : List Value} {h : HP} {l0 l1 l2 l3 : Value} {x0 : Int32} : pX 1146 57 [l0, l1, l2, l3, .int x0] S h = pX 1146 59 [l0, l1, l2, l3, .int x0] (.int x0 :: S) h := pX_stp d1146_57 rfl rfl rfl
theorem x1146_59 {S : List Value} {h : HP} {l0 l1 l2 l4 : Value} {x0 : Int32} : pX 1146 59 [l0, l1, l2, .int x0, l4] S h = pX 1146 60 [l0, l1, l2, .int x0, l4] (.int x0 :: S) h := pX_stp d1146_59 rfl rfl rfl
theorem x1146_60 {L S : List Value} {h : HP} {x y : Int32} : pX 1146 60 L (.int y :: .int x :: S) h = if y ≤ x then pX 1146 96 L S h else pX 1146 63 L S h := pX_icmp_ge d1146_60 (by decide)
theorem x1146_63 {S : List Value} {h : HP} {l1 l2 l3 l4 : Value} {a0 : Nat} : pX 1146 63 [.ref a0, l1, l2, l3, l4] S h = pX 1146 64 [.ref a0, l1, l2, l3, l4] (.ref a0 :: S) h := pX_stp d1146_63 rfl rfl rfl
theorem x1146_64 {S : List Value} {h : HP} {l1 l2 l3 l4 : Value} {a0 : Nat} : pX 1146 64 [.ref a0, l1, l2, l3, l4] S h = pX 1146 65 [.ref a0, l1, l2, l3, l4] (.ref a0 :: S) h := pX_stp d1146_64 rfl rfl rfl
theorem x1146_65 {L S : List Value} {h : HP} {a : Nat} (hk : hp_k h a = 12) : pX 1146 65 L (.ref a :: S) h = pX 1146 68 L (.ref (hp_a h a 7) :: S) h := pX_get d1146_65 rfl rfl hk
theorem x1146_68 {L S : List Value} {h : HP} : pX 1146 68 L S h = pX 1146 69 L (.int 0 :: S) h := pX_iconst d1146_68 (by decide)
theorem x1146_69 {L S : List Value} {h : HP} {a : Nat} {j : Int32} (hk : hp_k h a = 100) (hj : inb j (hp_l h a) = true) : pX 1146 69 L (.int j :: .ref a :: S) h = pX 1146 70 L (.int (hp_i h a (ix j)) :: S) h := pX_ild d1146_69 hk hj
theorem x1146_70 {L S : List Value} {h : HP} {x : Int32} : pX 1146 70 L (.int x :: S) h = pX 1146 71 L (.long x.toInt64 :: S) h := pX_stp d1146_70 rfl rfl rfl
theorem x1146_71 {L : List Value} {h : HP} {z0 : Int64} {a0 : Nat} (hk : hp_k h a0 = 12) : pX 1146 71 L [.long z0, .ref a0] h = (pX 1122 0 [.ref a0, .long z0, .retAddr 0] [] h).bind (fun q => pX 1146 74 L (q.1.toList ++ []) q.2) := pX_inv (a := a0) (t := 12) 1122 [.ref a0, .long z0] [] d1146_71 rfl rfl rfl hk
theorem x1146_74 {L S : List Value} {h : HP} {x : Int32} : pX 1146 74 L (.int x :: S) h = if x = 0 then pX 1146 77 L S h else pX 1146 80 L S h := pX_if_ne d1146_74 (by decide)
theorem x1146_77 {L S : List Value} {h : HP} : pX 1146 77 L S h = pX 1146 79 L (.int 10 :: S) h := pX_bipush d1146_77 (by decide)
theorem x1146_79 {L : List Value} {h : HP} {x : Int32} : pX 1146 79 L [.int x] h = some (some (.int x), h) := pX_ret d1146_79 rfl
theorem x1146_80 {S : List Value} {h : HP} {l1 l2 l3 l4 : Value} {a0 : Nat} : pX 1146 80 [.ref a0, l1, l2, l3, l4] S h = pX 1146 81 [.ref a0, l1, l2, l3, l4] (.ref a0 :: S) h := pX_stp d1146_80 rfl rfl rfl
theorem x1146_81 {L S : List Value} {h : HP} {a : Nat} (hk : hp_k h a = 12) : pX 1146 81 L (.ref a :: S) h = pX 1146 84 L (.ref (hp_a h a 39) :: S) h := pX_get d1146_81 rfl rfl hk
theorem x1146_84 {L S : List Value} {h : HP} : pX 1146 84 L S h = pX 1146 85 L (.int 1 :: S) h := pX_iconst d1146_84 (by decide)
theorem x1146_85 {L S : List Value} {h : HP} {x0 : Int32} {a0 : Nat} : pX 1146 85 L (.int x0 :: .ref a0 :: S) h = pX 1146 86 L (.int x0 :: .ref a0 :: .int x0 :: .ref a0 :: S) h := pX_stp d1146_85 rfl rfl rfl
theorem x1146_86 {L S : List Value} {h : HP} {a : Nat} {j : Int32} (hk : hp_k h a = 100) (hj : inb j (hp_l h a) = true) : pX 1146 86 L (.int j :: .ref a :: S) h = pX 1146 87 L (.int (hp_i h a (ix j)) :: S) h := pX_ild d1146_86 hk hj
theorem x1146_87 {L S : List Value} {h : HP} : pX 1146 87 L S h = pX 1146 88 L (.int 1 :: S) h := pX_iconst d1146_87 (by decide)
theorem x1146_88 {L S : List Value} {h : HP} {x y : Int32} : pX 1146 88 L (.int y :: .int x :: S) h = pX 1146 89 L (.int (x + y) :: S) h := pX_stp d1146_88 rfl rfl rfl
theorem x1146_89 {L S : List Value} {h : HP} {a : Nat} {j x : Int32} (hk : hp_k h a = 100) (hj : inb j (hp_l h a) = true) : pX 1146 89 L (.int x :: .int j :: .ref a :: S) h = pX 1146 90 L S (hp_wi h a (ix j) x) := pX_ist d1146_89 hk hj
theorem x1146_90 {S : List Value} {h : HP} {x0 : Int32} {l0 l1 l2 l3 : Value} : pX 1146 90 [l0, l1, l2, l3, .int x0] S h = pX 1146 93 [l0, l1, l2, l3, .int (x0 + 1)] S h := pX_iinc (x := x0) d1146_90 (by decide) rfl (Nat.le_of_ble_eq_true rfl) rfl rfl
theorem x1146_93 {L S : List Value} {h : HP} : pX 1146 93 L S h = pX 1146 57 L S h := pX_goto d1146_93 (by decide)
theorem x1146_96 {S : List Value} {h : HP} {l1 l2 l3 l4 : Value} {a0 : Nat} : pX 1146 96 [.ref a0, l1, l2, l3, l4] S h = pX 1146 97 [.ref a0, l1, l2, l3, l4] (.ref a0 :: S) h := pX_stp d1146_96 rfl rfl rfl
theorem x1146_97 {L S : List Value} {h : HP} {a : Nat} (hk : hp_k h a = 12) : pX 1146 97 L (.ref a :: S) h = pX 1146 100 L (.ref (hp_a h a 19) :: S) h := pX_get d1146_97 rfl rfl hk
theorem x1146_100 {S : List Value} {h : HP} {l0 l1 l3 l4 : Value} {x0 : Int32} : pX 1146 100 [l0, l1, .int x0, l3, l4] S h = pX 1146 101 [l0, l1, .int x0, l3, l4] (.int x0 :: S) h := pX_stp d1146_100 rfl rfl rfl
theorem x1146_101 {L S : List Value} {h : HP} {a : Nat} {j : Int32} (hk : hp_k h a = 100) (hj : inb j (hp_l h a) = true) : pX 1146 101 L (.int j :: .ref a :: S) h = pX 1146 102 L (.int (hp_i h a (ix j)) :: S) h := pX_ild d1146_101 hk hj
theorem x1146_102 {L S : List Value} {h : HP} : pX 1146 102 L S h = pX 1146 103 L (.int 1 :: S) h := pX_iconst d1146_102 (by decide)
theorem x1146_103 {L S : List Value} {h : HP} {x y : Int32} : pX 1146 103 L (.int y :: .int x :: S) h = pX 1146 104 L (.int (x + y) :: S) h := pX_stp d1146_103 rfl rfl rfl
theorem x1146_104 {S : List Value} {h : HP} {l0 l1 l2 l3 l4 : Value} {x0 : Int32} : pX 1146 104 [l0, l1, l2, l3, l4] (.int x0 :: S) h = pX 1146 106 [l0, l1, l2, l3, .int x0] S h := pX_stp d1146_104 rfl rfl rfl
theorem x1146_106 {S : List Value} {h : HP} {l1 l2 l3 l4 : Value} {a0 : Nat} : pX 1146 106 [.ref a0, l1, l2, l3, l4] S h = pX 1146 107 [.ref a0, l1, l2, l3, l4] (.ref a0 :: S) h := pX_stp d1146_106 rfl rfl rfl
theorem x1146_107 {L S : List Value} {h : HP} : pX 1146 107 L S h = pX 1146 108 L (.int 1 :: S) h := pX_iconst d1146_107 (by decide)
theorem x1146_108 {S : List Value} {h : HP} {l1 l2 l3 l4 : Value} {a0 : Nat} : pX 1146 108 [.ref a0, l1, l2, l3, l4] S h = pX 1146 109 [.ref a0, l1, l2, l3, l4] (.ref a0 :: S) h := pX_stp d1146_108 rfl rfl rfl
theorem x1146_109 {L S : List Value} {h : HP} {a : Nat} (hk : hp_k h a = 12) : pX 1146 109 L (.ref a :: S) h = pX 1146 112 L (.ref (hp_a h a 18) :: S) h := pX_get d1146_109 rfl rfl hk
theorem x1146_112 {S : List Value} {h : HP} {l0 l1 l3 l4 : Value} {x0 : Int32} : pX 1146 112 [l0, l1, .int x0, l3, l4] S h = pX 1146 113 [l0, l1, .int x0, l3, l4] (.int x0 :: S) h := pX_stp d1146_112 rfl rfl rfl
theorem x1146_113 {L S : List Value} {h : HP} {a : Nat} {j : Int32} (hk : hp_k h a = 100) (hj : inb j (hp_l h a) = true) : pX 1146 113 L (.int j :: .ref a :: S) h = pX 1146 114 L (.int (hp_i h a (ix j)) :: S) h := pX_ild d1146_113 hk hj
theorem x1146_114 {L S : List Value} {h : HP} {x : Int32} : pX 1146 114 L (.int x :: S) h = if x = 0 then pX 1146 117 L S h else pX 1146 122 L S h := pX_if_ne d1146_114 (by decide)
theorem x1146_117 {S : List Value} {h : HP} {l0 l1 l2 l3 : Value} {x0 : Int32} : pX 1146 117 [l0, l1, l2, l3, .int x0] S h = pX 1146 119 [l0, l1, l2, l3, .int x0] (.int x0 :: S) h := pX_stp d1146_117 rfl rfl rfl
theorem x1146_119 {L S : List Value} {h : HP} : pX 1146 119 L S h = pX 1146 146 L S h := pX_goto d1146_119 (by decide)
theorem x1146_122 {S : List Value} {h : HP} {l1 l2 l3 l4 : Value} {a0 : Nat} : pX 1146 122 [.ref a0, l1, l2, l3, l4] S h = pX 1146 123 [.ref a0, l1, l2, l3, l4] (.ref a0 :: S) h := pX_stp d1146_122 rfl rfl rfl
theorem x1146_123 {L S : List Value} {h : HP} {a : Nat} (hk : hp_k h a = 12) : pX 1146 123 L (.ref a :: S) h = pX 1146 126 L (.ref (hp_a h a 18) :: S) h := pX_get d1146_123 rfl rfl hk
theorem x1146_126 {S : List Value} {h : HP} {l0 l1 l3 l4 : Value} {x0 : Int32} : pX 1146 126 [l0, l1, .int x0, l3, l4] S h = pX 1146 127 [l0, l1, .int x0, l3, l4] (.int x0 :: S) h := pX_stp d1146_126 rfl rfl rfl
theorem x1146_127 {L S : List Value} {h : HP} {a : Nat} {j : Int32} (hk : hp_k h a = 100) (hj : inb j (hp_l h a) = true) : pX 1146 127 L (.int j :: .ref a :: S) h = pX 1146 128 L (.int (hp_i h a (ix j)) :: S) h := pX_ild d1146_127 hk hj
theorem x1146_128 {L S : List Value} {h : HP} : pX 1146 128 L S h = pX 1146 129 L (.int 3 :: S) h := pX_iconst d1146_128 (by decide)
theorem x1146_129 {L S : List Value} {h : HP} {x y : Int32} : pX 1146 129 L (.int y :: .int x :: S) h = if x = y then pX 1146 132 L S h else pX 1146 142 L S h := pX_icmp_ne d1146_129 (by decide)
theorem x1146_132 {L S : List Value} {h : HP} : pX 1146 132 L S h = pX 1146 133 L (.int 2 :: S) h := pX_iconst d1146_132 (by decide)
theorem x1146_133 {S : List Value} {h : HP} {l0 l1 l2 l3 : Value} {x0 : Int32} : pX 1146 133 [l0, l1, l2, l3, .int x0] S h = pX 1146 135 [l0, l1, l2, l3, .int x0] (.int x0 :: S) h := pX_stp d1146_133 rfl rfl rfl
theorem x1146_135 {L S : List Value} {h : HP} {x y : Int32} : pX 1146 135 L (.int y :: .int x :: S) h = pX 1146 136 L (.int (x * y) :: S) h := pX_stp d1146_135 rfl rfl rfl
theorem x1146_136 {L S : List Value} {h : HP} : pX 1146 136 L S h = pX 1146 138 L (.int 7 :: S) h := pX_bipush d1146_136 (by decide)
theorem x1146_138 {L S : List Value} {h : HP} {x y : Int32} : pX 1146 138 L (.int y :: .int x :: S) h = pX 1146 139 L (.int (x + y) :: S) h := pX_stp d1146_138 rfl rfl rfl
theorem x1146_139 {L S : List Value} {h : HP} : pX 1146 139 L S h = pX 1146 146 L S h := pX_goto d1146_139 (by decide)
theorem x1146_142 {L S : List Value} {h : HP} : pX 1146 142 L S h = pX 1146 143 L (.int 2 :: S) h := pX_iconst d1146_142 (by decide)
theorem x1146_143 {S : List Value} {h : HP} {l0 l1 l2 l3 : Value} {x0 : Int32} : pX 1146 143 [l0, l1, l2, l3, .int x0] S h = pX 1146 145 [l0, l1, l2, l3, .int x0] (.int x0 :: S) h := pX_stp d1146_143 rfl rfl rfl
theorem x1146_145 {L S : List Value} {h : HP} {x y : Int32} : pX 1146 145 L (.int y :: .int x :: S) h = pX 1146 146 L (.int (x * y) :: S) h := pX_stp d1146_145 rfl rfl rfl
theorem x1146_146 {L : List Value} {h : HP} {x0 : Int32} {x1 : Int32} {a0 : Nat} (hk : hp_k h a0 = 12) : pX 1146 146 L [.int x0, .int x1, .ref a0] h = (pX 1129 0 [.ref a0, .int x1, .int x0] [] h).bind (fun q => pX 1146 149 L (q.1.toList ++ []) q.2) := pX_inv (a := a0) (t := 12) 1129 [.ref a0, .int x1, .int x0] [] d1146_146 rfl rfl rfl hk
theorem x1146_149 {L S : List Value} {h : HP} : pX 1146 149 L S h = pX 1146 150 L (.int 0 :: S) h := pX_iconst d1146_149 (by decide)
theorem x1146_150 {L : List Value} {h : HP} {x : Int32} : pX 1146 150 L [.int x] h = some (some (.int x), h) := pX_ret d1146_150 rfl
