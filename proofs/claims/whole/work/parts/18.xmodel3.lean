theorem d1147_0 : decode (mb 1147) 0 = .ok (.aload_n 0, 1) := by decide +kernel
theorem d1147_1 : decode (mb 1147) 1 = .ok (.getfield 82, 3) := by decide +kernel
theorem d1147_4 : decode (mb 1147) 4 = .ok (.aload_n 0, 1) := by decide +kernel
theorem d1147_5 : decode (mb 1147) 5 = .ok (.getfield 189, 3) := by decide +kernel
theorem d1147_8 : decode (mb 1147) 8 = .ok (.aload_n 0, 1) := by decide +kernel
theorem d1147_9 : decode (mb 1147) 9 = .ok (.getfield 195, 3) := by decide +kernel
theorem d1147_12 : decode (mb 1147) 12 = .ok (.iadd, 1) := by decide +kernel
theorem d1147_13 : decode (mb 1147) 13 = .ok (.iaload, 1) := by decide +kernel
theorem d1147_14 : decode (mb 1147) 14 = .ok (.aload_n 0, 1) := by decide +kernel
theorem d1147_15 : decode (mb 1147) 15 = .ok (.getfield 82, 3) := by decide +kernel
theorem d1147_18 : decode (mb 1147) 18 = .ok (.aload_n 0, 1) := by decide +kernel
theorem d1147_19 : decode (mb 1147) 19 = .ok (.getfield 189, 3) := by decide +kernel
theorem d1147_22 : decode (mb 1147) 22 = .ok (.aload_n 0, 1) := by decide +kernel
theorem d1147_23 : decode (mb 1147) 23 = .ok (.getfield 201, 3) := by decide +kernel
theorem d1147_26 : decode (mb 1147) 26 = .ok (.iadd, 1) := by decide +kernel
theorem d1147_27 : decode (mb 1147) 27 = .ok (.iaload, 1) := by decide +kernel
theorem d1147_28 : decode (mb 1147) 28 = .ok (.if_icmp .ne 43, 3) := by decide +kernel
theorem d1147_31 : decode (mb 1147) 31 = .ok (.aload_n 0, 1) := by decide +kernel
theorem d1147_32 : decode (mb 1147) 32 = .ok (.getfield 82, 3) := by decide +kernel
theorem d1147_35 : decode (mb 1147) 35 = .ok (.aload_n 0, 1) := by decide +kernel
theorem d1147_36 : decode (mb 1147) 36 = .ok (.getfield 189, 3) := by decide +kernel
theorem d1147_39 : decode (mb 1147) 39 = .ok (.aload_n 0, 1) := by decide +kernel
theorem d1147_40 : decode (mb 1147) 40 = .ok (.getfield 195, 3) := by decide +kernel
theorem d1147_43 : decode (mb 1147) 43 = .ok (.iadd, 1) := by decide +kernel
theorem d1147_44 : decode (mb 1147) 44 = .ok (.iaload, 1) := by decide +kernel
theorem d1147_45 : decode (mb 1147) 45 = .ok (.ifCond .eq 22, 3) := by decide +kernel
theorem d1147_48 : decode (mb 1147) 48 = .ok (.aload_n 0, 1) := by decide +kernel
theorem d1147_49 : decode (mb 1147) 49 = .ok (.aload_n 0, 1) := by decide +kernel
theorem d1147_50 : decode (mb 1147) 50 = .ok (.getfield 195, 3) := by decide +kernel
theorem d1147_53 : decode (mb 1147) 53 = .ok (.invokevirtual 208, 3) := by decide +kernel
theorem d1147_56 : decode (mb 1147) 56 = .ok (.aload_n 0, 1) := by decide +kernel
theorem d1147_57 : decode (mb 1147) 57 = .ok (.aload_n 0, 1) := by decide +kernel
theorem d1147_58 : decode (mb 1147) 58 = .ok (.getfield 201, 3) := by decide +kernel
theorem d1147_61 : decode (mb 1147) 61 = .ok (.invokevirtual 208, 3) := by decide +kernel
theorem d1147_64 : decode (mb 1147) 64 = .ok (.if_icmp .ne 7, 3) := by decide +kernel
theorem d1147_67 : decode (mb 1147) 67 = .ok (.iconst 1, 1) := by decide +kernel
theorem d1147_68 : decode (mb 1147) 68 = .ok (.goto 4, 3) := by decide +kernel
theorem d1147_71 : decode (mb 1147) 71 = .ok (.iconst 0, 1) := by decide +kernel
theorem d1147_72 : decode (mb 1147) 72 = .ok (.istore_n 1, 1) := by decide +kernel
theorem d1147_73 : decode (mb 1147) 73 = .ok (.aload_n 0, 1) := by decide +kernel
theorem d1147_74 : decode (mb 1147) 74 = .ok (.iconst 1, 1) := by decide +kernel
theorem d1147_75 : decode (mb 1147) 75 = .ok (.iload_n 1, 1) := by decide +kernel
theorem d1147_76 : decode (mb 1147) 76 = .ok (.ifCond .eq 7, 3) := by decide +kernel
theorem d1147_79 : decode (mb 1147) 79 = .ok (.iconst 1, 1) := by decide +kernel
theorem d1147_80 : decode (mb 1147) 80 = .ok (.goto 4, 3) := by decide +kernel
theorem d1147_83 : decode (mb 1147) 83 = .ok (.iconst 0, 1) := by decide +kernel
theorem d1147_84 : decode (mb 1147) 84 = .ok (.invokevirtual 211, 3) := by decide +kernel
theorem d1147_87 : decode (mb 1147) 87 = .ok (.iconst 0, 1) := by decide +kernel
theorem d1147_88 : decode (mb 1147) 88 = .ok (.ireturn, 1) := by decide +kernel
theorem x1147_0 {S : List Value} {h : HP} {l1 : Value} {a0 : Nat} : pX 1147 0 [.ref a0, l1] S h = pX 1147 1 [.ref a0, l1] (.ref a0 :: S) h := pX_stp d1147_0 rfl rfl rfl
theorem x1147_1 {L S : List Value} {h : HP} {a : Nat} (hk : hp_k h a = 12) : pX 1147 1 L (.ref a :: S) h = pX 1147 4 L (.ref (hp_a h a 33) :: S) h := pX_get d1147_1 rfl rfl hk
theorem x1147_4 {S : List Value} {h : HP} {l1 : Value} {a0 : Nat} : pX 1147 4 [.ref a0, l1] S h = pX 1147 5 [.ref a0, l1] (.ref a0 :: S) h := pX_stp d1147_4 rfl rfl rfl
theorem x1147_5 {L S : List Value} {h : HP} {a : Nat} (hk : hp_k h a = 12) : pX 1147 5 L (.ref a :: S) h = pX 1147 8 L (.int (hp_i h a 45) :: S) h := pX_get d1147_5 rfl rfl hk
theorem x1147_8 {S : List Value} {h : HP} {l1 : Value} {a0 : Nat} : pX 1147 8 [.ref a0, l1] S h = pX 1147 9 [.ref a0, l1] (.ref a0 :: S) h := pX_stp d1147_8 rfl rfl rfl
theorem x1147_9 {L S : List Value} {h : HP} {a : Nat} (hk : hp_k h a = 12) : pX 1147 9 L (.ref a :: S) h = pX 1147 12 L (.int (hp_i h a 47) :: S) h := pX_get d1147_9 rfl rfl hk
theorem x1147_12 {L S : List Value} {h : HP} {x y : Int32} : pX 1147 12 L (.int y :: .int x :: S) h = pX 1147 13 L (.int (x + y) :: S) h := pX_stp d1147_12 rfl rfl rfl
theorem x1147_13 {L S : List Value} {h : HP} {a : Nat} {j : Int32} (hk : hp_k h a = 100) (hj : inb j (hp_l h a) = true) : pX 1147 13 L (.int j :: .ref a :: S) h = pX 1147 14 L (.int (hp_i h a (ix j)) :: S) h := pX_ild d1147_13 hk hj
theorem x1147_14 {S : List Value} {h : HP} {l1 : Value} {a0 : Nat} : pX 1147 14 [.ref a0, l1] S h = pX 1147 15 [.ref a0, l1] (.ref a0 :: S) h := pX_stp d1147_14 rfl rfl rfl
theorem x1147_15 {L S : List Value} {h : HP} {a : Nat} (hk : hp_k h a = 12) : pX 1147 15 L (.ref a :: S) h = pX 1147 18 L (.ref (hp_a h a 33) :: S) h := pX_get d1147_15 rfl rfl hk
theorem x1147_18 {S : List Value} {h : HP} {l1 : Value} {a0 : Nat} : pX 1147 18 [.ref a0, l1] S h = pX 1147 19 [.ref a0, l1] (.ref a0 :: S) h := pX_stp d1147_18 rfl rfl rfl
theorem x1147_19 {L S : List Value} {h : HP} {a : Nat} (hk : hp_k h a = 12) : pX 1147 19 L (.ref a :: S) h = pX 1147 22 L (.int (hp_i h a 45) :: S) h := pX_get d1147_19 rfl rfl hk
theorem x1147_22 {S : List Value} {h : HP} {l1 : Value} {a0 : Nat} : pX 1147 22 [.ref a0, l1] S h = pX 1147 23 [.ref a0, l1] (.ref a0 :: S) h := pX_stp d1147_22 rfl rfl rfl
theorem x1147_23 {L S : List Value} {h : HP} {a : Nat} (hk : hp_k h a = 12) : pX 1147 23 L (.ref a :: S) h = pX 1147 26 L (.int (hp_i h a 48) :: S) h := pX_get d1147_23 rfl rfl hk
theorem x1147_26 {L S : List Value} {h : HP} {x y : Int32} : pX 1147 26 L (.int y :: .int x :: S) h = pX 1147 27 L (.int (x + y) :: S) h := pX_stp d1147_26 rfl rfl rfl
theorem x1147_27 {L S : List Value} {h : HP} {a : Nat} {j : Int32} (hk : hp_k h a = 100) (hj : inb j (hp_l h a) = true) : pX 1147 27 L (.int j :: .ref a :: S) h = pX 1147 28 L (.int (hp_i h a (ix j)) :: S) h := pX_ild d1147_27 hk hj
theorem x1147_28 {L S : List Value} {h : HP} {x y : Int32} : pX 1147 28 L (.int y :: .int x :: S) h = if x = y then pX 1147 31 L S h else pX 1147 71 L S h := pX_icmp_ne d1147_28 (by decide)
theorem x1147_31 {S : List Value} {h : HP} {l1 : Value} {a0 : Nat} : pX 1147 31 [.ref a0, l1] S h = pX 1147 32 [.ref a0, l1] (.ref a0 :: S) h := pX_stp d1147_31 rfl rfl rfl
theorem x1147_32 {L S : List Value} {h : HP} {a : Nat} (hk : hp_k h a = 12) : pX 1147 32 L (.ref a :: S) h = pX 1147 35 L (.ref (hp_a h a 33) :: S) h := pX_get d1147_32 rfl rfl hk
theorem x1147_35 {S : List Value} {h : HP} {l1 : Value} {a0 : Nat} : pX 1147 35 [.ref a0, l1] S h = pX 1147 36 [.ref a0, l1] (.ref a0 :: S) h := pX_stp d1147_35 rfl rfl rfl
theorem x1147_36 {L S : List Value} {h : HP} {a : Nat} (hk : hp_k h a = 12) : pX 1147 36 L (.ref a :: S) h = pX 1147 39 L (.int (hp_i h a 45) :: S) h := pX_get d1147_36 rfl rfl hk
theorem x1147_39 {S : List Value} {h : HP} {l1 : Value} {a0 : Nat} : pX 1147 39 [.ref a0, l1] S h = pX 1147 40 [.ref a0, l1] (.ref a0 :: S) h := pX_stp d1147_39 rfl rfl rfl
theorem x1147_40 {L S : List Value} {h : HP} {a : Nat} (hk : hp_k h a = 12) : pX 1147 40 L (.ref a :: S) h = pX 1147 43 L (.int (hp_i h a 47) :: S) h := pX_get d1147_40 rfl rfl hk
theorem x1147_43 {L S : List Value} {h : HP} {x y : Int32} : pX 1147 43 L (.int y :: .int x :: S) h = pX 1147 44 L (.int (x + y) :: S) h := pX_stp d1147_43 rfl rfl rfl
theorem x1147_44 {L S : List Value} {h : HP} {a : Nat} {j : Int32} (hk : hp_k h a = 100) (hj : inb j (hp_l h a) = true) : pX 1147 44 L (.int j :: .ref a :: S) h = pX 1147 45 L (.int (hp_i h a (ix j)) :: S) h := pX_ild d1147_44 hk hj
theorem x1147_45 {L S : List Value} {h : HP} {x : Int32} : pX 1147 45 L (.int x :: S) h = if x = 0 then pX 1147 67 L S h else pX 1147 48 L S h := pX_if_eq d1147_45 (by decide)
theorem x1147_48 {S : List Value} {h : HP} {l1 : Value} {a0 : Nat} : pX 1147 48 [.ref a0, l1] S h = pX 1147 49 [.ref a0, l1] (.ref a0 :: S) h := pX_stp d1147_48 rfl rfl rfl
theorem x1147_49 {S : List Value} {h : HP} {l1 : Value} {a0 : Nat} : pX 1147 49 [.ref a0, l1] S h = pX 1147 50 [.ref a0, l1] (.ref a0 :: S) h := pX_stp d1147_49 rfl rfl rfl
theorem x1147_50 {L S : List Value} {h : HP} {a : Nat} (hk : hp_k h a = 12) : pX 1147 50 L (.ref a :: S) h = pX 1147 53 L (.int (hp_i h a 47) :: S) h := pX_get d1147_50 rfl rfl hk
theorem x1147_53 {L : List Value} {h : HP} {x0 : Int32} {a0 : Nat} (hk : hp_k h a0 = 12) : pX 1147 53 L [.int x0, .ref a0] h = (pX 1131 0 [.ref a0, .int x0] [] h).bind (fun q => pX 1147 56 L (q.1.toList ++ []) q.2) := pX_inv (a := a0) (t := 12) 1131 [.ref a0, .int x0] [] d1147_53 rfl rfl rfl hk
theorem x1147_56 {S : List Value} {h : HP} {l1 : Value} {a0 : Nat} : pX 1147 56 [.ref a0, l1] S h = pX 1147 57 [.ref a0, l1] (.ref a0 :: S) h := pX_stp d1147_56 rfl rfl rfl
theorem x1147_57 {S : List Value} {h : HP} {l1 : Value} {a0 : Nat} : pX 1147 57 [.ref a0, l1] S h = pX 1147 58 [.ref a0, l1] (.ref a0 :: S) h := pX_stp d1147_57 rfl rfl rfl
theorem x1147_58 {L S : List Value} {h : HP} {a : Nat} (hk : hp_k h a = 12) : pX 1147 58 L (.ref a :: S) h = pX 1147 61 L (.int (hp_i h a 48) :: S) h := pX_get d1147_58 rfl rfl hk
theorem x1147_61 {L : List Value} {h : HP} {x0 : Int32} {a0 : Nat} {x1 : Int32} (hk : hp_k h a0 = 12) : pX 1147 61 L [.int x0, .ref a0, .int x1] h = (pX 1131 0 [.ref a0, .int x0] [] h).bind (fun q => pX 1147 64 L (q.1.toList ++ [.int x1]) q.2) := pX_inv (a := a0) (t := 12) 1131 [.ref a0, .int x0] [.int x1] d1147_61 rfl rfl rfl hk
theorem x1147_64 {L S : List Value} {h : HP} {x y : Int32} : pX 1147 64 L (.int y :: .int x :: S) h = if x = y then pX 1147 67 L S h else pX 1147 71 L S h := pX_icmp_ne d1147_64 (by decide)
theorem x1147_67 {L S : List Value} {h : HP} : pX 1147 67 L S h = pX 1147 68 L (.int 1 :: S) h := pX_iconst d1147_67 (by decide)
theorem x1147_68 {L S : List Value} {h : HP} : pX 1147 68 L S h = pX 1147 72 L S h := pX_goto d1147_68 (by decide)
theorem x1147_71 {L S : List Value} {h : HP} : pX 1147 71 L S h = pX 1147 72 L (.int 0 :: S) h := pX_iconst d1147_71 (by decide)
theorem x1147_72 {S : List Value} {h : HP} {l0 l1 : Value} {x0 : Int32} : pX 1147 72 [l0, l1] (.int x0 :: S) h = pX 1147 73 [l0, .int x0] S h := pX_stp d1147_72 rfl rfl rfl
theorem x1147_73 {S : List Value} {h : HP} {l1 : Value} {a0 : Nat} : pX 1147 73 [.ref a0, l1] S h = pX 1147 74 [.ref a0, l1] (.ref a0 :: S) h := pX_stp d1147_73 rfl rfl rfl
theorem x1147_74 {L S : List Value} {h : HP} : pX 1147 74 L S h = pX 1147 75 L (.int 1 :: S) h := pX_iconst d1147_74 (by decide)
theorem x1147_75 {S : List Value} {h : HP} {l0 : Value} {x0 : Int32} : pX 1147 75 [l0, .int x0] S h = pX 1147 76 [l0, .int x0] (.int x0 :: S) h := pX_stp d1147_75 rfl rfl rfl
theorem x1147_76 {L S : List Value} {h : HP} {x : Int32} : pX 1147 76 L (.int x :: S) h = if x = 0 then pX 1147 83 L S h else pX 1147 79 L S h := pX_if_eq d1147_76 (by decide)
theorem x1147_79 {L S : List Value} {h : HP} : pX 1147 79 L S h = pX 1147 80 L (.int 1 :: S) h := pX_iconst d1147_79 (by decide)
theorem x1147_80 {L S : List Value} {h : HP} : pX 1147 80 L S h = pX 1147 84 L S h := pX_goto d1147_80 (by decide)
theorem x1147_83 {L S : List Value} {h : HP} : pX 1147 83 L S h = pX 1147 84 L (.int 0 :: S) h := pX_iconst d1147_83 (by decide)
theorem x1147_84 {L : List Value} {h : HP} {x0 : Int32} {x1 : Int32} {a0 : Nat} (hk : hp_k h a0 = 12) : pX 1147 84 L [.int x0, .int x1, .ref a0] h = (pX 1129 0 [.ref a0, .int x1, .int x0] [] h).bind (fun q => pX 1147 87 L (q.1.toList ++ []) q.2) := pX_inv (a := a0) (t := 12) 1129 [.ref a0, .int x1, .int x0] [] d1147_84 rfl rfl rfl hk
theorem x1147_87 {L S : List Value} {h : HP} : pX 1147 87 L S h = pX 1147 88 L (.int 0 :: S) h := pX_iconst d1147_87 (by decide)
theorem x1147_88 {L : List Value} {h : HP} {x : Int32} : pX 1147 88 L [.int x] h = some (some (.int x), h) := pX_ret d1147_88 rfl
theorem d1148_0 : decode (mb 1148) 0 = .ok (.aload_n 0, 1) := by decide +kernel
theorem d1148_1 : decode (mb 1148) 1 = .ok (.aload_n 0, 1) := by decide +kernel
theorem d1148_2 : decode (mb 1148) 2 = .ok (.getfield 192, 3) := by decide +kernel
theorem d1148_5 : decode (mb 1148) 5 = .ok (.iconst 1, 1) := by decide +kernel
theorem d1148_6 : decode (mb 1148) 6 = .ok (.invokevirtual 198, 3) := by decide +kernel
theorem d1148_9 : decode (mb 1148) 9 = .ok (.istore_n 1, 1) := by decide +kernel
theorem d1148_10 : decode (mb 1148) 10 = .ok (.iload_n 1, 1) := by decide +kernel
theorem d1148_11 : decode (mb 1148) 11 = .ok (.ifCond .le 7, 3) := by decide +kernel
theorem d1148_14 : decode (mb 1148) 14 = .ok (.iload_n 1, 1) := by decide +kernel
theorem d1148_15 : decode (mb 1148) 15 = .ok (.goto 26, 3) := by decide +kernel
theorem d1148_18 : decode (mb 1148) 18 = .ok (.aload_n 0, 1) := by decide +kernel
theorem d1148_19 : decode (mb 1148) 19 = .ok (.aload_n 0, 1) := by decide +kernel
theorem d1148_20 : decode (mb 1148) 20 = .ok (.getfield 192, 3) := by decide +kernel
theorem d1148_23 : decode (mb 1148) 23 = .ok (.invokevirtual 208, 3) := by decide +kernel
theorem d1148_26 : decode (mb 1148) 26 = .ok (.ifCond .eq 14, 3) := by decide +kernel
theorem d1148_29 : decode (mb 1148) 29 = .ok (.aload_n 0, 1) := by decide +kernel
theorem d1148_30 : decode (mb 1148) 30 = .ok (.aload_n 0, 1) := by decide +kernel
theorem d1148_31 : decode (mb 1148) 31 = .ok (.getfield 195, 3) := by decide +kernel
theorem d1148_34 : decode (mb 1148) 34 = .ok (.invokevirtual 226, 3) := by decide +kernel
theorem d1148_37 : decode (mb 1148) 37 = .ok (.goto 4, 3) := by decide +kernel
theorem d1148_40 : decode (mb 1148) 40 = .ok (.iconst 0, 1) := by decide +kernel
theorem d1148_41 : decode (mb 1148) 41 = .ok (.ireturn, 1) := by decide +kernel
theorem x1148_0 {S : List Value} {h : HP} {l1 : Value} {a0 : Nat} : pX 1148 0 [.ref a0, l1] S h = pX 1148 1 [.ref a0, l1] (.ref a0 :: S) h := pX_stp d1148_0 rfl rfl rfl
theorem x1148_1 {S : List Value} {h : HP} {l1 : Value} {a0 : Nat} : pX 1148 1 [.ref a0, l1] S h = pX 1148 2 [.ref a0, l1] (.ref a0 :: S) h := pX_stp d1148_1 rfl rfl rfl
theorem x1148_2 {L S : List Value} {h : HP} {a : Nat} (hk : hp_k h a = 12) : pX 1148 2 L (.ref a :: S) h = pX 1148 5 L (.int (hp_i h a 46) :: S) h := pX_get d1148_2 rfl rfl hk
theorem x1148_5 {L S : List Value} {h : HP} : pX 1148 5 L S h = pX 1148 6 L (.int 1 :: S) h := pX_iconst d1148_5 (by decide)
theorem x1148_6 {L : List Value} {h : HP} {x0 : Int32} {x1 : Int32} {a0 : Nat} (hk : hp_k h a0 = 12) : pX 1148 6 L [.int x0, .int x1, .ref a0] h = (pX 1130 0 [.ref a0, .int x1, .int x0] [] h).bind (fun q => pX 1148 9 L (q.1.toList ++ []) q.2) := pX_inv (a := a0) (t := 12) 1130 [.ref a0, .int x1, .int x0] [] d1148_6 rfl rfl rfl hk
theorem x1148_9 {S : List Value} {h : HP} {l0 l1 : Value} {x0 : Int32} : pX 1148 9 [l0, l1] (.int x0 :: S) h = pX 1148 10 [l0, .int x0] S h := pX_stp d1148_9 rfl rfl rfl
theorem x1148_10 {S : List Value} {h : HP} {l0 : Value} {x0 : Int32} : pX 1148 10 [l0, .int x0] S h = pX 1148 11 [l0, .int x0] (.int x0 :: S) h := pX_stp d1148_10 rfl rfl rfl
theorem x1148_11 {L S : List Value} {h : HP} {x : Int32} : pX 1148 11 L (.int x :: S) h = if x ≤ 0 then pX 1148 18 L S h else pX 1148 14 L S h := pX_if_le d1148_11 (by decide)
theorem x1148_14 {S : List Value} {h : HP} {l0 : Value} {x0 : Int32} : pX 1148 14 [l0, .int x0] S h = pX 1148 15 [l0, .int x0] (.int x0 :: S) h := pX_stp d1148_14 rfl rfl rfl
theorem x1148_15 {L S : List Value} {h : HP} : pX 1148 15 L S h = pX 1148 41 L S h := pX_goto d1148_15 (by decide)
theorem x1148_18 {S : List Value} {h : HP} {l1 : Value} {a0 : Nat} : pX 1148 18 [.ref a0, l1] S h = pX 1148 19 [.ref a0, l1] (.ref a0 :: S) h := pX_stp d1148_18 rfl rfl rfl
theorem x1148_19 {S : List Value} {h : HP} {l1 : Value} {a0 : Nat} : pX 1148 19 [.ref a0, l1] S h = pX 1148 20 [.ref a0, l1] (.ref a0 :: S) h := pX_stp d1148_19 rfl rfl rfl
theorem x1148_20 {L S : List Value} {h : HP} {a : Nat} (hk : hp_k h a = 12) : pX 1148 20 L (.ref a :: S) h = pX 1148 23 L (.int (hp_i h a 46) :: S) h := pX_get d1148_20 rfl rfl hk
theorem x1148_23 {L : List Value} {h : HP} {x0 : Int32} {a0 : Nat} (hk : hp_k h a0 = 12) : pX 1148 23 L [.int x0, .ref a0] h = (pX 1131 0 [.ref a0, .int x0] [] h).bind (fun q => pX 1148 26 L (q.1.toList ++ []) q.2) := pX_inv (a := a0) (t := 12) 1131 [.ref a0, .int x0] [] d1148_23 rfl rfl rfl hk
theorem x1148_26 {L S : List Value} {h : HP} {x : Int32} : pX 1148 26 L (.int x :: S) h = if x = 0 then pX 1148 40 L S h else pX 1148 29 L S h := pX_if_eq d1148_26 (by decide)
theorem x1148_29 {S : List Value} {h : HP} {l1 : Value} {a0 : Nat} : pX 1148 29 [.ref a0, l1] S h = pX 1148 30 [.ref a0, l1] (.ref a0 :: S) h := pX_stp d1148_29 rfl rfl rfl
theorem x1148_30 {S : List Value} {h : HP} {l1 : Value} {a0 : Nat} : pX 1148 30 [.ref a0, l1] S h = pX 1148 31 [.ref a0, l1] (.ref a0 :: S) h := pX_stp d1148_30 rfl rfl rfl
theorem x1148_31 {L S : List Value} {h : HP} {a : Nat} (hk : hp_k h a = 12) : pX 1148 31 L (.ref a :: S) h = pX 1148 34 L (.int (hp_i h a 47) :: S) h := pX_get d1148_31 rfl rfl hk
theorem x1148_34 {L : List Value} {h : HP} {x0 : Int32} {a0 : Nat} (hk : hp_k h a0 = 12) : pX 1148 34 L [.int x0, .ref a0] h = (pX 1134 0 [.ref a0, .int x0, .retAddr 0] [] h).bind (fun q => pX 1148 37 L (q.1.toList ++ []) q.2) := pX_inv (a := a0) (t := 12) 1134 [.ref a0, .int x0] [] d1148_34 rfl rfl rfl hk
theorem x1148_37 {L S : List Value} {h : HP} : pX 1148 37 L S h = pX 1148 41 L S h := pX_goto d1148_37 (by decide)
theorem x1148_40 {L S : List Value} {h : HP} : pX 1148 40 L S h = pX 1148 41 L (.int 0 :: S) h := pX_iconst d1148_40 (by decide)
theorem x1148_41 {L : List Value} {h : HP} {x : Int32} : pX 1148 41 L [.int x] h = some (some (.int x), h) := pX_ret d1148_41 rfl
theorem d1149_0 : decode (mb 1149) 0 = .ok (.aload_n 0, 1) := by decide +kernel
theorem d1149_1 : decode (mb 1149) 1 = .ok (.aload_n 0, 1) := by decide +kernel
theorem d1149_2 : decode (mb 1149) 2 = .ok (.getfield 195, 3) := by decide +kernel
theorem d1149_5 : decode (mb 1149) 5 = .ok (.iconst 3, 1) := by decide +kernel
theorem d1149_6 : decode (mb 1149) 6 = .ok (.invokevirtual 198, 3) := by decide +kernel
theorem d1149_9 : decode (mb 1149) 9 = .ok (.istore_n 1, 1) := by decide +kernel
theorem d1149_10 : decode (mb 1149) 10 = .ok (.iload_n 1, 1) := by decide +kernel
theorem d1149_11 : decode (mb 1149) 11 = .ok (.ifCond .ne 21, 3) := by decide +kernel
theorem d1149_14 : decode (mb 1149) 14 = .ok (.aload_n 0, 1) := by decide +kernel
theorem d1149_15 : decode (mb 1149) 15 = .ok (.iconst 1, 1) := by decide +kernel
theorem d1149_16 : decode (mb 1149) 16 = .ok (.aload_n 0, 1) := by decide +kernel
theorem d1149_17 : decode (mb 1149) 17 = .ok (.getfield 67, 3) := by decide +kernel
theorem d1149_20 : decode (mb 1149) 20 = .ok (.aload_n 0, 1) := by decide +kernel
theorem d1149_21 : decode (mb 1149) 21 = .ok (.aload_n 0, 1) := by decide +kernel
theorem d1149_22 : decode (mb 1149) 22 = .ok (.getfield 195, 3) := by decide +kernel
theorem d1149_25 : decode (mb 1149) 25 = .ok (.invokevirtual 208, 3) := by decide +kernel
theorem d1149_28 : decode (mb 1149) 28 = .ok (.iaload, 1) := by decide +kernel
theorem d1149_29 : decode (mb 1149) 29 = .ok (.invokevirtual 211, 3) := by decide +kernel
theorem d1149_32 : decode (mb 1149) 32 = .ok (.iload_n 1, 1) := by decide +kernel
theorem d1149_33 : decode (mb 1149) 33 = .ok (.ireturn, 1) := by decide +kernel
theorem x1149_0 {S : List Value} {h : HP} {l1 : Value} {a0 : Nat} : pX 1149 0 [.ref a0, l1] S h = pX 1149 1 [.ref a0, l1] (.ref a0 :: S) h := pX_stp d1149_0 rfl rfl rfl
theorem x1149_1 {S : List Value} {h : HP} {l1 : Value} {a0 : Nat} : pX 1149 1 [.ref a0, l1] S h = pX 1149 2 [.ref a0, l1] (.ref a0 :: S) h := pX_stp d1149_1 rfl rfl rfl
theorem x1149_2 {L S : List Value} {h : HP} {a : Nat} (hk : hp_k h a = 12) : pX 1149 2 L (.ref a :: S) h = pX 1149 5 L (.int (hp_i h a 47) :: S) h := pX_get d1149_2 rfl rfl hk
theorem x1149_5 {L S : List Value} {h : HP} : pX 1149 5 L S h = pX 1149 6 L (.int 3 :: S) h := pX_iconst d1149_5 (by decide)
theorem x1149_6 {L : List Value} {h : HP} {x0 : Int32} {x1 : Int32} {a0 : Nat} (hk : hp_k h a0 = 12) : pX 1149 6 L [.int x0, .int x1, .ref a0] h = (pX 1130 0 [.ref a0, .int x1, .int x0] [] h).bind (fun q => pX 1149 9 L (q.1.toList ++ []) q.2) := pX_inv (a := a0) (t := 12) 1130 [.ref a0, .int x1, .int x0] [] d1149_6 rfl rfl rfl hk
theorem x1149_9 {S : List Value} {h : HP} {l0 l1 : Value} {x0 : Int32} : pX 1149 9 [l0, l1] (.int x0 :: S) h = pX 1149 10 [l0, .int x0] S h := pX_stp d1149_9 rfl rfl rfl
theorem x1149_10 {S : List Value} {h : HP} {l0 : Value} {x0 : Int32} : pX 1149 10 [l0, .int x0] S h = pX 1149 11 [l0, .int x0] (.int x0 :: S) h := pX_stp d1149_10 rfl rfl rfl
theorem x1149_11 {L S : List Value} {h : HP} {x : Int32} : pX 1149 11 L (.int x :: S) h = if x = 0 then pX 1149 14 L S h else pX 1149 32 L S h := pX_if_ne d1149_11 (by decide)
theorem x1149_14 {S : List Value} {h : HP} {l1 : Value} {a0 : Nat} : pX 1149 14 [.ref a0, l1] S h = pX 1149 15 [.ref a0, l1] (.ref a0 :: S) h := pX_stp d1149_14 rfl rfl rfl
theorem x1149_15 {L S : List Value} {h : HP} : pX 1149 15 L S h = pX 1149 16 L (.int 1 :: S) h := pX_iconst d1149_15 (by decide)
theorem x1149_16 {S : List Value} {h : HP} {l1 : Value} {a0 : Nat} : pX 1149 16 [.ref a0, l1] S h = pX 1149 17 [.ref a0, l1] (.ref a0 :: S) h := pX_stp d1149_16 rfl rfl rfl
theorem x1149_17 {L S : List Value} {h : HP} {a : Nat} (hk : hp_k h a = 12) : pX 1149 17 L (.ref a :: S) h = pX 1149 20 L (.ref (hp_a h a 26) :: S) h := pX_get d1149_17 rfl rfl hk
theorem x1149_20 {S : List Value} {h : HP} {l1 : Value} {a0 : Nat} : pX 1149 20 [.ref a0, l1] S h = pX 1149 21 [.ref a0, l1] (.ref a0 :: S) h := pX_stp d1149_20 rfl rfl rfl
theorem x1149_21 {S : List Value} {h : HP} {l1 : Value} {a0 : Nat} : pX 1149 21 [.ref a0, l1] S h = pX 1149 22 [.ref a0, l1] (.ref a0 :: S) h := pX_stp d1149_21 rfl rfl rfl
theorem x1149_22 {L S : List Value} {h : HP} {a : Nat} (hk : hp_k h a = 12) : pX 1149 22 L (.ref a :: S) h = pX 1149 25 L (.int (hp_i h a 47) :: S) h := pX_get d1149_22 rfl rfl hk
theorem x1149_25 {L : List Value} {h : HP} {x0 : Int32} {a0 : Nat} {a1 : Nat} {x1 : Int32} {a2 : Nat} (hk : hp_k h a0 = 12) : pX 1149 25 L [.int x0, .ref a0, .ref a1, .int x1, .ref a2] h = (pX 1131 0 [.ref a0, .int x0] [] h).bind (fun q => pX 1149 28 L (q.1.toList ++ [.ref a1, .int x1, .ref a2]) q.2) := pX_inv (a := a0) (t := 12) 1131 [.ref a0, .int x0] [.ref a1, .int x1, .ref a2] d1149_25 rfl rfl rfl hk
theorem x1149_28 {L S : List Value} {h : HP} {a : Nat} {j : Int32} (hk : hp_k h a = 100) (hj : inb j (hp_l h a) = true) : pX 1149 28 L (.int j :: .ref a :: S) h = pX 1149 29 L (.int (hp_i h a (ix j)) :: S) h := pX_ild d1149_28 hk hj
theorem x1149_29 {L : List Value} {h : HP} {x0 : Int32} {x1 : Int32} {a0 : Nat} (hk : hp_k h a0 = 12) : pX 1149 29 L [.int x0, .int x1, .ref a0] h = (pX 1129 0 [.ref a0, .int x1, .int x0] [] h).bind (fun q => pX 1149 32 L (q.1.toList ++ []) q.2) := pX_inv (a := a0) (t := 12) 1129 [.ref a0, .int x1, .int x0] [] d1149_29 rfl rfl rfl hk
theorem x1149_32 {S : List Value} {h : HP} {l0 : Value} {x0 : Int32} : pX 1149 32 [l0, .int x0] S h = pX 1149 33 [l0, .int x0] (.int x0 :: S) h := pX_stp d1149_32 rfl rfl rfl
theorem x1149_33 {L : List Value} {h : HP} {x : Int32} : pX 1149 33 L [.int x] h = some (some (.int x), h) := pX_ret d1149_33 rfl
theorem d1150_0 : decode (mb 1150) 0 = .ok (.iload_n 1, 1) := by decide +kernel
theorem d1150_1 : decode (mb 1150) 1 = .ok (.tableswitch 410 0 27 #[127, 138, 410, 410, 410, 410, 410, 410, 172, 177, 186, 191, 196, 201, 206, 211, 216, 221, 226, 277, 339, 345, 351, 390, 410, 395, 400, 405], 127) := by decide +kernel
theorem d1150_128 : decode (mb 1150) 128 = .ok (.aload_n 0, 1) := by decide +kernel
theorem d1150_129 : decode (mb 1150) 129 = .ok (.iconst 1, 1) := by decide +kernel
theorem d1150_130 : decode (mb 1150) 130 = .ok (.aload_n 0, 1) := by decide +kernel
theorem d1150_131 : decode (mb 1150) 131 = .ok (.getfield 195, 3) := by decide +kernel
theorem d1150_134 : decode (mb 1150) 134 = .ok (.invokevirtual 211, 3) := by decide +kernel
theorem d1150_137 : decode (mb 1150) 137 = .ok (.iconst 0, 1) := by decide +kernel
theorem d1150_138 : decode (mb 1150) 138 = .ok (.ireturn, 1) := by decide +kernel
theorem d1150_139 : decode (mb 1150) 139 = .ok (.aload_n 0, 1) := by decide +kernel
theorem d1150_140 : decode (mb 1150) 140 = .ok (.aload_n 0, 1) := by decide +kernel
theorem d1150_141 : decode (mb 1150) 141 = .ok (.getfield 82, 3) := by decide +kernel
theorem d1150_144 : decode (mb 1150) 144 = .ok (.aload_n 0, 1) := by decide +kernel
theorem d1150_145 : decode (mb 1150) 145 = .ok (.getfield 189, 3) := by decide +kernel
theorem d1150_148 : decode (mb 1150) 148 = .ok (.aload_n 0, 1) := by decide +kernel
theorem d1150_149 : decode (mb 1150) 149 = .ok (.getfield 195, 3) := by decide +kernel
theorem d1150_152 : decode (mb 1150) 152 = .ok (.iadd, 1) := by decide +kernel
theorem d1150_153 : decode (mb 1150) 153 = .ok (.iaload, 1) := by decide +kernel
theorem d1150_154 : decode (mb 1150) 154 = .ok (.aload_n 0, 1) := by decide +kernel
theorem d1150_155 : decode (mb 1150) 155 = .ok (.getfield 85, 3) := by decide +kernel
theorem d1150_158 : decode (mb 1150) 158 = .ok (.aload_n 0, 1) := by decide +kernel
theorem d1150_159 : decode (mb 1150) 159 = .ok (.getfield 189, 3) := by decide +kernel
theorem d1150_162 : decode (mb 1150) 162 = .ok (.aload_n 0, 1) := by decide +kernel
theorem d1150_163 : decode (mb 1150) 163 = .ok (.getfield 195, 3) := by decide +kernel
theorem d1150_166 : decode (mb 1150) 166 = .ok (.iadd, 1) := by decide +kernel
theorem d1150_167 : decode (mb 1150) 167 = .ok (.iaload, 1) := by decide +kernel
theorem d1150_168 : decode (mb 1150) 168 = .ok (.invokevirtual 211, 3) := by decide +kernel
theorem d1150_171 : decode (mb 1150) 171 = .ok (.iconst 0, 1) := by decide +kernel
theorem d1150_172 : decode (mb 1150) 172 = .ok (.ireturn, 1) := by decide +kernel
theorem d1150_173 : decode (mb 1150) 173 = .ok (.aload_n 0, 1) := by decide +kernel
theorem d1150_174 : decode (mb 1150) 174 = .ok (.invokevirtual 229, 3) := by decide +kernel
theorem d1150_177 : decode (mb 1150) 177 = .ok (.ireturn, 1) := by decide +kernel
theorem d1150_178 : decode (mb 1150) 178 = .ok (.aload_n 0, 1) := by decide +kernel
theorem d1150_179 : decode (mb 1150) 179 = .ok (.aload_n 0, 1) := by decide +kernel
theorem d1150_180 : decode (mb 1150) 180 = .ok (.getfield 192, 3) := by decide +kernel
theorem d1150_183 : decode (mb 1150) 183 = .ok (.invokevirtual 226, 3) := by decide +kernel
theorem d1150_186 : decode (mb 1150) 186 = .ok (.ireturn, 1) := by decide +kernel
theorem d1150_187 : decode (mb 1150) 187 = .ok (.aload_n 0, 1) := by decide +kernel
theorem d1150_188 : decode (mb 1150) 188 = .ok (.invokevirtual 232, 3) := by decide +kernel
theorem d1150_191 : decode (mb 1150) 191 = .ok (.ireturn, 1) := by decide +kernel
theorem d1150_192 : decode (mb 1150) 192 = .ok (.aload_n 0, 1) := by decide +kernel
theorem d1150_193 : decode (mb 1150) 193 = .ok (.invokevirtual 235, 3) := by decide +kernel
theorem d1150_196 : decode (mb 1150) 196 = .ok (.ireturn, 1) := by decide +kernel
theorem d1150_197 : decode (mb 1150) 197 = .ok (.aload_n 0, 1) := by decide +kernel
theorem d1150_198 : decode (mb 1150) 198 = .ok (.invokevirtual 238, 3) := by decide +kernel
theorem d1150_201 : decode (mb 1150) 201 = .ok (.ireturn, 1) := by decide +kernel
theorem d1150_202 : decode (mb 1150) 202 = .ok (.aload_n 0, 1) := by decide +kernel
theorem d1150_203 : decode (mb 1150) 203 = .ok (.invokevirtual 241, 3) := by decide +kernel
theorem d1150_206 : decode (mb 1150) 206 = .ok (.ireturn, 1) := by decide +kernel
theorem d1150_207 : decode (mb 1150) 207 = .ok (.aload_n 0, 1) := by decide +kernel
theorem d1150_208 : decode (mb 1150) 208 = .ok (.invokevirtual 244, 3) := by decide +kernel
theorem d1150_211 : decode (mb 1150) 211 = .ok (.ireturn, 1) := by decide +kernel
theorem d1150_212 : decode (mb 1150) 212 = .ok (.aload_n 0, 1) := by decide +kernel
theorem d1150_213 : decode (mb 1150) 213 = .ok (.invokevirtual 247, 3) := by decide +kernel
theorem d1150_216 : decode (mb 1150) 216 = .ok (.ireturn, 1) := by decide +kernel
theorem d1150_217 : decode (mb 1150) 217 = .ok (.aload_n 0, 1) := by decide +kernel
theorem d1150_218 : decode (mb 1150) 218 = .ok (.invokevirtual 250, 3) := by decide +kernel
theorem d1150_221 : decode (mb 1150) 221 = .ok (.ireturn, 1) := by decide +kernel
theorem d1150_222 : decode (mb 1150) 222 = .ok (.aload_n 0, 1) := by decide +kernel
theorem d1150_223 : decode (mb 1150) 223 = .ok (.invokevirtual 253, 3) := by decide +kernel
theorem d1150_226 : decode (mb 1150) 226 = .ok (.ireturn, 1) := by decide +kernel
theorem d1150_227 : decode (mb 1150) 227 = .ok (.aload_n 0, 1) := by decide +kernel
theorem d1150_228 : decode (mb 1150) 228 = .ok (.iconst 1, 1) := by decide +kernel
theorem d1150_229 : decode (mb 1150) 229 = .ok (.aload_n 0, 1) := by decide +kernel
theorem d1150_230 : decode (mb 1150) 230 = .ok (.aload_n 0, 1) := by decide +kernel
theorem d1150_231 : decode (mb 1150) 231 = .ok (.getfield 82, 3) := by decide +kernel
theorem d1150_234 : decode (mb 1150) 234 = .ok (.aload_n 0, 1) := by decide +kernel
theorem d1150_235 : decode (mb 1150) 235 = .ok (.getfield 189, 3) := by decide +kernel
theorem d1150_238 : decode (mb 1150) 238 = .ok (.aload_n 0, 1) := by decide +kernel
theorem d1150_239 : decode (mb 1150) 239 = .ok (.getfield 195, 3) := by decide +kernel
theorem d1150_242 : decode (mb 1150) 242 = .ok (.iadd, 1) := by decide +kernel
theorem d1150_243 : decode (mb 1150) 243 = .ok (.iaload, 1) := by decide +kernel
theorem d1150_244 : decode (mb 1150) 244 = .ok (.aload_n 0, 1) := by decide +kernel
theorem d1150_245 : decode (mb 1150) 245 = .ok (.getfield 85, 3) := by decide +kernel
theorem d1150_248 : decode (mb 1150) 248 = .ok (.aload_n 0, 1) := by decide +kernel
theorem d1150_249 : decode (mb 1150) 249 = .ok (.getfield 189, 3) := by decide +kernel
theorem d1150_252 : decode (mb 1150) 252 = .ok (.aload_n 0, 1) := by decide +kernel
theorem d1150_253 : decode (mb 1150) 253 = .ok (.getfield 195, 3) := by decide +kernel
theorem d1150_256 : decode (mb 1150) 256 = .ok (.iadd, 1) := by decide +kernel
theorem d1150_257 : decode (mb 1150) 257 = .ok (.iaload, 1) := by decide +kernel
theorem d1150_258 : decode (mb 1150) 258 = .ok (.aload_n 0, 1) := by decide +kernel
theorem d1150_259 : decode (mb 1150) 259 = .ok (.getfield 201, 3) := by decide +kernel
theorem d1150_262 : decode (mb 1150) 262 = .ok (.invokevirtual 256, 3) := by decide +kernel
theorem d1150_265 : decode (mb 1150) 265 = .ok (.ifCond .eq 7, 3) := by decide +kernel
theorem d1150_268 : decode (mb 1150) 268 = .ok (.iconst 1, 1) := by decide +kernel
theorem d1150_269 : decode (mb 1150) 269 = .ok (.goto 4, 3) := by decide +kernel
theorem d1150_272 : decode (mb 1150) 272 = .ok (.iconst 0, 1) := by decide +kernel
theorem d1150_273 : decode (mb 1150) 273 = .ok (.invokevirtual 211, 3) := by decide +kernel
theorem d1150_276 : decode (mb 1150) 276 = .ok (.iconst 0, 1) := by decide +kernel
theorem d1150_277 : decode (mb 1150) 277 = .ok (.ireturn, 1) := by decide +kernel
theorem d1150_278 : decode (mb 1150) 278 = .ok (.aload_n 0, 1) := by decide +kernel
theorem d1150_279 : decode (mb 1150) 279 = .ok (.getfield 82, 3) := by decide +kernel
theorem d1150_282 : decode (mb 1150) 282 = .ok (.aload_n 0, 1) := by decide +kernel
theorem d1150_283 : decode (mb 1150) 283 = .ok (.getfield 189, 3) := by decide +kernel
theorem d1150_286 : decode (mb 1150) 286 = .ok (.aload_n 0, 1) := by decide +kernel
theorem d1150_287 : decode (mb 1150) 287 = .ok (.getfield 192, 3) := by decide +kernel
theorem d1150_290 : decode (mb 1150) 290 = .ok (.iadd, 1) := by decide +kernel
theorem d1150_291 : decode (mb 1150) 291 = .ok (.iaload, 1) := by decide +kernel
theorem d1150_292 : decode (mb 1150) 292 = .ok (.ifCond .eq 42, 3) := by decide +kernel
theorem d1150_295 : decode (mb 1150) 295 = .ok (.aload_n 0, 1) := by decide +kernel
theorem d1150_296 : decode (mb 1150) 296 = .ok (.aload_n 0, 1) := by decide +kernel
theorem d1150_297 : decode (mb 1150) 297 = .ok (.getfield 82, 3) := by decide +kernel
theorem d1150_300 : decode (mb 1150) 300 = .ok (.aload_n 0, 1) := by decide +kernel
theorem d1150_301 : decode (mb 1150) 301 = .ok (.getfield 189, 3) := by decide +kernel
theorem d1150_304 : decode (mb 1150) 304 = .ok (.aload_n 0, 1) := by decide +kernel
theorem d1150_305 : decode (mb 1150) 305 = .ok (.getfield 192, 3) := by decide +kernel
theorem d1150_308 : decode (mb 1150) 308 = .ok (.iadd, 1) := by decide +kernel
theorem d1150_309 : decode (mb 1150) 309 = .ok (.iaload, 1) := by decide +kernel
theorem d1150_310 : decode (mb 1150) 310 = .ok (.aload_n 0, 1) := by decide +kernel
theorem d1150_311 : decode (mb 1150) 311 = .ok (.getfield 85, 3) := by decide +kernel
theorem d1150_314 : decode (mb 1150) 314 = .ok (.aload_n 0, 1) := by decide +kernel
theorem d1150_315 : decode (mb 1150) 315 = .ok (.getfield 189, 3) := by decide +kernel
theorem d1150_318 : decode (mb 1150) 318 = .ok (.aload_n 0, 1) := by decide +kernel
theorem d1150_319 : decode (mb 1150) 319 = .ok (.getfield 192, 3) := by decide +kernel
theorem d1150_322 : decode (mb 1150) 322 = .ok (.iadd, 1) := by decide +kernel
theorem d1150_323 : decode (mb 1150) 323 = .ok (.iaload, 1) := by decide +kernel
theorem d1150_324 : decode (mb 1150) 324 = .ok (.aload_n 0, 1) := by decide +kernel
theorem d1150_325 : decode (mb 1150) 325 = .ok (.getfield 195, 3) := by decide +kernel
theorem d1150_328 : decode (mb 1150) 328 = .ok (.invokevirtual 256, 3) := by decide +kernel
theorem d1150_331 : decode (mb 1150) 331 = .ok (.ifCond .eq 7, 3) := by decide +kernel
theorem d1150_334 : decode (mb 1150) 334 = .ok (.iconst 0, 1) := by decide +kernel
theorem d1150_335 : decode (mb 1150) 335 = .ok (.goto 4, 3) := by decide +kernel
theorem d1150_338 : decode (mb 1150) 338 = .ok (.iconst 3, 1) := by decide +kernel
theorem d1150_339 : decode (mb 1150) 339 = .ok (.ireturn, 1) := by decide +kernel
theorem d1150_340 : decode (mb 1150) 340 = .ok (.aload_n 0, 1) := by decide +kernel
theorem d1150_341 : decode (mb 1150) 341 = .ok (.iconst 1, 1) := by decide +kernel
theorem d1150_342 : decode (mb 1150) 342 = .ok (.invokevirtual 259, 3) := by decide +kernel
theorem d1150_345 : decode (mb 1150) 345 = .ok (.ireturn, 1) := by decide +kernel
theorem d1150_346 : decode (mb 1150) 346 = .ok (.aload_n 0, 1) := by decide +kernel
theorem d1150_347 : decode (mb 1150) 347 = .ok (.iconst 0, 1) := by decide +kernel
theorem d1150_348 : decode (mb 1150) 348 = .ok (.invokevirtual 259, 3) := by decide +kernel
theorem d1150_351 : decode (mb 1150) 351 = .ok (.ireturn, 1) := by decide +kernel
theorem d1150_352 : decode (mb 1150) 352 = .ok (.aload_n 0, 1) := by decide +kernel
theorem d1150_353 : decode (mb 1150) 353 = .ok (.aload_n 0, 1) := by decide +kernel
theorem d1150_354 : decode (mb 1150) 354 = .ok (.getfield 85, 3) := by decide +kernel
theorem d1150_357 : decode (mb 1150) 357 = .ok (.aload_n 0, 1) := by decide +kernel
theorem d1150_358 : decode (mb 1150) 358 = .ok (.getfield 189, 3) := by decide +kernel
theorem d1150_361 : decode (mb 1150) 361 = .ok (.aload_n 0, 1) := by decide +kernel
theorem d1150_362 : decode (mb 1150) 362 = .ok (.getfield 192, 3) := by decide +kernel
theorem d1150_365 : decode (mb 1150) 365 = .ok (.iadd, 1) := by decide +kernel
theorem d1150_366 : decode (mb 1150) 366 = .ok (.iaload, 1) := by decide +kernel
theorem d1150_367 : decode (mb 1150) 367 = .ok (.putfield 186, 3) := by decide +kernel
theorem d1150_370 : decode (mb 1150) 370 = .ok (.aload_n 0, 1) := by decide +kernel
theorem d1150_371 : decode (mb 1150) 371 = .ok (.aload_n 0, 1) := by decide +kernel
theorem d1150_372 : decode (mb 1150) 372 = .ok (.getfield 192, 3) := by decide +kernel
theorem d1150_375 : decode (mb 1150) 375 = .ok (.iconst 1, 1) := by decide +kernel
theorem d1150_376 : decode (mb 1150) 376 = .ok (.invokevirtual 198, 3) := by decide +kernel
theorem d1150_379 : decode (mb 1150) 379 = .ok (.istore_n 2, 1) := by decide +kernel
theorem d1150_380 : decode (mb 1150) 380 = .ok (.iload_n 2, 1) := by decide +kernel
theorem d1150_381 : decode (mb 1150) 381 = .ok (.ifCond .le 7, 3) := by decide +kernel
theorem d1150_384 : decode (mb 1150) 384 = .ok (.iload_n 2, 1) := by decide +kernel
theorem d1150_385 : decode (mb 1150) 385 = .ok (.goto 5, 3) := by decide +kernel
theorem d1150_388 : decode (mb 1150) 388 = .ok (.bipush 9, 2) := by decide +kernel
theorem d1150_390 : decode (mb 1150) 390 = .ok (.ireturn, 1) := by decide +kernel
theorem d1150_391 : decode (mb 1150) 391 = .ok (.aload_n 0, 1) := by decide +kernel
theorem d1150_392 : decode (mb 1150) 392 = .ok (.invokevirtual 263, 3) := by decide +kernel
theorem d1150_395 : decode (mb 1150) 395 = .ok (.ireturn, 1) := by decide +kernel
theorem d1150_396 : decode (mb 1150) 396 = .ok (.aload_n 0, 1) := by decide +kernel
theorem d1150_397 : decode (mb 1150) 397 = .ok (.invokevirtual 266, 3) := by decide +kernel
theorem d1150_400 : decode (mb 1150) 400 = .ok (.ireturn, 1) := by decide +kernel
theorem d1150_401 : decode (mb 1150) 401 = .ok (.aload_n 0, 1) := by decide +kernel
theorem d1150_402 : decode (mb 1150) 402 = .ok (.invokevirtual 269, 3) := by decide +kernel
theorem d1150_405 : decode (mb 1150) 405 = .ok (.ireturn, 1) := by decide +kernel
theorem d1150_406 : decode (mb 1150) 406 = .ok (.aload_n 0, 1) := by decide +kernel
theorem d1150_407 : decode (mb 1150) 407 = .ok (.invokevirtual 272, 3) := by decide +kernel
theorem d1150_410 : decode (mb 1150) 410 = .ok (.ireturn, 1) := by decide +kernel
theorem d1150_411 : decode (mb 1150) 411 = .ok (.aload_n 0, 1) := by decide +kernel
theorem d1150_412 : decode (mb 1150) 412 = .ok (.iload_n 1, 1) := by decide +kernel
theorem d1150_413 : decode (mb 1150) 413 = .ok (.invokevirtual 275, 3) := by decide +kernel
theorem d1150_416 : decode (mb 1150) 416 = .ok (.ireturn, 1) := by decide +kernel
theorem x1150_0 {S : List Value} {h : HP} {l0 l2 : Value} {x0 : Int32} : pX 1150 0 [l0, .int x0, l2] S h = pX 1150 1 [l0, .int x0, l2] (.int x0 :: S) h := pX_stp d1150_0 rfl rfl rfl
theorem x1150_1_0 {L S : List Value} {h : HP} : pX 1150 1 L (.int 0 :: S) h = pX 1150 128 L S h := pX_tabIn (off := 127) d1150_1 (by decide) (by decide) (by decide) (by decide)
theorem x1150_1_1 {L S : List Value} {h : HP} : pX 1150 1 L (.int 1 :: S) h = pX 1150 139 L S h := pX_tabIn (off := 138) d1150_1 (by decide) (by decide) (by decide) (by decide)
theorem x1150_1_2 {L S : List Value} {h : HP} : pX 1150 1 L (.int 2 :: S) h = pX 1150 411 L S h := pX_tabIn (off := 410) d1150_1 (by decide) (by decide) (by decide) (by decide)
theorem x1150_1_3 {L S : List Value} {h : HP} : pX 1150 1 L (.int 3 :: S) h = pX 1150 411 L S h := pX_tabIn (off := 410) d1150_1 (by decide) (by decide) (by decide) (by decide)
theorem x1150_1_4 {L S : List Value} {h : HP} : pX 1150 1 L (.int 4 :: S) h = pX 1150 411 L S h := pX_tabIn (off := 410) d1150_1 (by decide) (by decide) (by decide) (by decide)
theorem x1150_1_5 {L S : List Value} {h : HP} : pX 1150 1 L (.int 5 :: S) h = pX 1150 411 L S h := pX_tabIn (off := 410) d1150_1 (by decide) (by decide) (by decide) (by decide)
theorem x1150_1_6 {L S : List Value} {h : HP} : pX 1150 1 L (.int 6 :: S) h = pX 1150 411 L S h := pX_tabIn (off := 410) d1150_1 (by decide) (by decide) (by decide) (by decide)
theorem x1150_1_7 {L S : List Value} {h : HP} : pX 1150 1 L (.int 7 :: S) h = pX 1150 411 L S h := pX_tabIn (off := 410) d1150_1 (by decide) (by decide) (by decide) (by decide)
theorem x1150_1_8 {L S : List Value} {h : HP} : pX 1150 1 L (.int 8 :: S) h = pX 1150 173 L S h := pX_tabIn (off := 172) d1150_1 (by decide) (by decide) (by decide) (by decide)
theorem x1150_1_9 {L S : List Value} {h : HP} : pX 1150 1 L (.int 9 :: S) h = pX 1150 178 L S h := pX_tabIn (off := 177) d1150_1 (by decide) (by decide) (by decide) (by decide)
theorem x1150_1_10 {L S : List Value} {h : HP} : pX 1150 1 L (.int 10 :: S) h = pX 1150 187 L S h := pX_tabIn (off := 186) d1150_1 (by decide) (by decide) (by decide) (by decide)
theorem x1150_1_11 {L S : List Value} {h : HP} : pX 1150 1 L (.int 11 :: S) h = pX 1150 192 L S h := pX_tabIn (off := 191) d1150_1 (by decide) (by decide) (by decide) (by decide)
theorem x1150_1_12 {L S : List Value} {h : HP} : pX 1150 1 L (.int 12 :: S) h = pX 1150 197 L S h := pX_tabIn (off := 196) d1150_1 (by decide) (by decide) (by decide) (by decide)
theorem x1150_1_13 {L S : List Value} {h : HP} : pX 1150 1 L (.int 13 :: S) h = pX 1150 202 L S h := pX_tabIn (off := 201) d1150_1 (by decide) (by decide) (by decide) (by decide)
theorem x1150_1_14 {L S : List Value} {h : HP} : pX 1150 1 L (.int 14 :: S) h = pX 1150 207 L S h := pX_tabIn (off := 206) d1150_1 (by decide) (by decide) (by decide) (by decide)
theorem x1150_1_15 {L S : List Value} {h : HP} : pX 1150 1 L (.int 15 :: S) h = pX 1150 212 L S h := pX_tabIn (off := 211) d1150_1 (by decide) (by decide) (by decide) (by decide)
theorem x1150_1_16 {L S : List Value} {h : HP} : pX 1150 1 L (.int 16 :: S) h = pX 1150 217 L S h := pX_tabIn (off := 216) d1150_1 (by decide) (by decide) (by decide) (by decide)
theorem x1150_1_17 {L S : List Value} {h : HP} : pX 1150 1 L (.int 17 :: S) h = pX 1150 222 L S h := pX_tabIn (off := 221) d1150_1 (by decide) (by decide) (by decide) (by decide)
theorem x1150_1_18 {L S : List Value} {h : HP} : pX 1150 1 L (.int 18 :: S) h = pX 1150 227 L S h := pX_tabIn (off := 226) d1150_1 (by decide) (by decide) (by decide) (by decide)
theorem x1150_1_19 {L S : List Value} {h : HP} : pX 1150 1 L (.int 19 :: S) h = pX 1150 278 L S h := pX_tabIn (off := 277) d1150_1 (by decide) (by decide) (by decide) (by decide)
theorem x1150_1_20 {L S : List Value} {h : HP} : pX 1150 1 L (.int 20 :: S) h = pX 1150 340 L S h := pX_tabIn (off := 339) d1150_1 (by decide) (by decide) (by decide) (by decide)
theorem x1150_1_21 {L S : List Value} {h : HP} : pX 1150 1 L (.int 21 :: S) h = pX 1150 346 L S h := pX_tabIn (off := 345) d1150_1 (by decide) (by decide) (by decide) (by decide)
theorem x1150_1_22 {L S : List Value} {h : HP} : pX 1150 1 L (.int 22 :: S) h = pX 1150 352 L S h := pX_tabIn (off := 351) d1150_1 (by decide) (by decide) (by decide) (by decide)
theorem x1150_1_23 {L S : List Value} {h : HP} : pX 1150 1 L (.int 23 :: S) h = pX 1150 391 L S h := pX_tabIn (off := 390) d1150_1 (by decide) (by decide) (by decide) (by decide)
theorem x1150_1_24 {L S : List Value} {h : HP} : pX 1150 1 L (.int 24 :: S) h = pX 1150 411 L S h := pX_tabIn (off := 410) d1150_1 (by decide) (by decide) (by decide) (by decide)
theorem x1150_1_25 {L S : List Value} {h : HP} : pX 1150 1 L (.int 25 :: S) h = pX 1150 396 L S h := pX_tabIn (off := 395) d1150_1 (by decide) (by decide) (by decide) (by decide)
theorem x1150_1_26 {L S : List Value} {h : HP} : pX 1150 1 L (.int 26 :: S) h = pX 1150 401 L S h := pX_tabIn (off := 400) d1150_1 (by decide) (by decide) (by decide) (by decide)
theorem x1150_1_27 {L S : List Value} {h : HP} : pX 1150 1 L (.int 27 :: S) h = pX 1150 406 L S h := pX_tabIn (off := 405) d1150_1 (by decide) (by decide) (by decide) (by decide)
theorem x1150_1_d {L S : List Value} {h : HP} {x : Int32} (hx : x.toInt < 0 ∨ 27 < x.toInt) : pX 1150 1 L (.int x :: S) h = pX 1150 411 L S h := pX_tabOut d1150_1 hx (by decide)
theorem x1150_128 {S : List Value} {h : HP} {l1 l2 : Value} {a0 : Nat} : pX 1150 128 [.ref a0, l1, l2] S h = pX 1150 129 [.ref a0, l1, l2] (.ref a0 :: S) h := pX_stp d1150_128 rfl rfl rfl
theorem x1150_129 {L S : List Value} {h : HP} : pX 1150 129 L S h = pX 1150 130 L (.int 1 :: S) h := pX_iconst d1150_129 (by decide)
theorem x1150_130 {S : List Value} {h : HP} {l1 l2 : Value} {a0 : Nat} : pX 1150 130 [.ref a0, l1, l2] S h = pX 1150 131 [.ref a0, l1, l2] (.ref a0 :: S) h := pX_stp d1150_130 rfl rfl rfl
theorem x1150_131 {L S : List Value} {h : HP} {a : Nat} (hk : hp_k h a = 12) : pX 1150 131 L (.ref a :: S) h = pX 1150 134 L (.int (hp_i h a 47) :: S) h := pX_get d1150_131 rfl rfl hk
theorem x1150_134 {L : List Value} {h : HP} {x0 : Int32} {x1 : Int32} {a0 : Nat} (hk : hp_k h a0 = 12) : pX 1150 134 L [.int x0, .int x1, .ref a0] h = (pX 1129 0 [.ref a0, .int x1, .int x0] [] h).bind (fun q => pX 1150 137 L (q.1.toList ++ []) q.2) := pX_inv (a := a0) (t := 12) 1129 [.ref a0, .int x1, .int x0] [] d1150_134 rfl rfl rfl hk
theorem x1150_137 {L S : List Value} {h : HP} : pX 1150 137 L S h = pX 1150 138 L (.int 0 :: S) h := pX_iconst d1150_137 (by decide)
theorem x1150_138 {L : List Value} {h : HP} {x : Int32} : pX 1150 138 L [.int x] h = some (some (.int x), h) := pX_ret d1150_138 rfl
theorem x1150_139 {S : List Value} {h : HP} {l1 l2 : Value} {a0 : Nat} : pX 1150 139 [.ref a0, l1, l2] S h = pX 1150 140 [.ref a0, l1, l2] (.ref a0 :: S) h := pX_stp d1150_139 rfl rfl rfl
theorem x1150_140 {S : List Value} {h : HP} {l1 l2 : Value} {a0 : Nat} : pX 1150 140 [.ref a0, l1, l2] S h = pX 1150 141 [.ref a0, l1, l2] (.ref a0 :: S) h := pX_stp d1150_140 rfl rfl rfl
theorem x1150_141 {L S : List Value} {h : HP} {a : Nat} (hk : hp_k h a = 12) : pX 1150 141 L (.ref a :: S) h = pX 1150 144 L (.ref (hp_a h a 33) :: S) h := pX_get d1150_141 rfl rfl hk
theorem x1150_144 {S : List Value} {h : HP} {l1 l2 : Value} {a0 : Nat} : pX 1150 144 [.ref a0, l1, l2] S h = pX 1150 145 [.ref a0, l1, l2] (.ref a0 :: S) h := pX_stp d1150_144 rfl rfl rfl
theorem x1150_145 {L S : List Value} {h : HP} {a : Nat} (hk : hp_k h a = 12) : pX 1150 145 L (.ref a :: S) h = pX 1150 148 L (.int (hp_i h a 45) :: S) h := pX_get d1150_145 rfl rfl hk
theorem x1150_148 {S : List Value} {h : HP} {l1 l2 : Value} {a0 : Nat} : pX 1150 148 [.ref a0, l1, l2] S h = pX 1150 149 [.ref a0, l1, l2] (.ref a0 :: S) h := pX_stp d1150_148 rfl rfl rfl
theorem x1150_149 {L S : List Value} {h : HP} {a : Nat} (hk : hp_k h a = 12) : pX 1150 149 L (.ref a :: S) h = pX 1150 152 L (.int (hp_i h a 47) :: S) h := pX_get d1150_149 rfl rfl hk
theorem x1150_152 {L S : List Value} {h : HP} {x y : Int32} : pX 1150 152 L (.int y :: .int x :: S) h = pX 1150 153 L (.int (x + y) :: S) h := pX_stp d1150_152 rfl rfl rfl
theorem x1150_153 {L S : List Value} {h : HP} {a : Nat} {j : Int32} (hk : hp_k h a = 100) (hj : inb j (hp_l h a) = true) : pX 1150 153 L (.int j :: .ref a :: S) h = pX 1150 154 L (.int (hp_i h a (ix j)) :: S) h := pX_ild d1150_153 hk hj
theorem x1150_154 {S : List Value} {h : HP} {l1 l2 : Value} {a0 : Nat} : pX 1150 154 [.ref a0, l1, l2] S h = pX 1150 155 [.ref a0, l1, l2] (.ref a0 :: S) h := pX_stp d1150_154 rfl rfl rfl
theorem x1150_155 {L S : List Value} {h : HP} {a : Nat} (hk : hp_k h a = 12) : pX 1150 155 L (.ref a :: S) h = pX 1150 158 L (.ref (hp_a h a 34) :: S) h := pX_get d1150_155 rfl rfl hk
theorem x1150_158 {S : List Value} {h : HP} {l1 l2 : Value} {a0 : Nat} : pX 1150 158 [.ref a0, l1, l2] S h = pX 1150 159 [.ref a0, l1, l2] (.ref a0 :: S) h := pX_stp d1150_158 rfl rfl rfl
theorem x1150_159 {L S : List Value} {h : HP} {a : Nat} (hk : hp_k h a = 12) : pX 1150 159 L (.ref a :: S) h = pX 1150 162 L (.int (hp_i h a 45) :: S) h := pX_get d1150_159 rfl rfl hk
theorem x1150_162 {S : List Value} {h : HP} {l1 l2 : Value} {a0 : Nat} : pX 1150 162 [.ref a0, l1, l2] S h = pX 1150 163 [.ref a0, l1, l2] (.ref a0 :: S) h := pX_stp d1150_162 rfl rfl rfl
theorem x1150_163 {L S : List Value} {h : HP} {a : Nat} (hk : hp_k h a = 12) : pX 1150 163 L (.ref a :: S) h = pX 1150 166 L (.int (hp_i h a 47) :: S) h := pX_get d1150_163 rfl rfl hk
theorem x1150_166 {L S : List Value} {h : HP} {x y : Int32} : pX 1150 166 L (.int y :: .int x :: S) h = pX 1150 167 L (.int (x + y) :: S) h := pX_stp d1150_166 rfl rfl rfl
theorem x1150_167 {L S : List Value} {h : HP} {a : Nat} {j : Int32} (hk : hp_k h a = 100) (hj : inb j (hp_l h a) = true) : pX 1150 167 L (.int j :: .ref a :: S) h = pX 1150 168 L (.int (hp_i h a (ix j)) :: S) h := pX_ild d1150_167 hk hj
theorem x1150_168 {L : List Value} {h : HP} {x0 : Int32} {x1 : Int32} {a0 : Nat} (hk : hp_k h a0 = 12) : pX 1150 168 L [.int x0, .int x1, .ref a0] h = (pX 1129 0 [.ref a0, .int x1, .int x0] [] h).bind (fun q => pX 1150 171 L (q.1.toList ++ []) q.2) := pX_inv (a := a0) (t := 12) 1129 [.ref a0, .int x1, .int x0] [] d1150_168 rfl rfl rfl hk
theorem x1150_171 {L S : List Value} {h : HP} : pX 1150 171 L S h = pX 1150 172 L (.int 0 :: S) h := pX_iconst d1150_171 (by decide)
theorem x1150_172 {L : List Value} {h : HP} {x : Int32} : pX 1150 172 L [.int x] h = some (some (.int x), h) := pX_ret d1150_172 rfl
theorem x1150_173 {S : List Value} {h : HP} {l1 l2 : Value} {a0 : Nat} : pX 1150 173 [.ref a0, l1, l2] S h = pX 1150 174 [.ref a0, l1, l2] (.ref a0 :: S) h := pX_stp d1150_173 rfl rfl rfl
theorem x1150_174 {L : List Value} {h : HP} {a0 : Nat} (hk : hp_k h a0 = 12) : pX 1150 174 L [.ref a0] h = (pX 1147 0 [.ref a0, .retAddr 0] [] h).bind (fun q => pX 1150 177 L (q.1.toList ++ []) q.2) := pX_inv (a := a0) (t := 12) 1147 [.ref a0] [] d1150_174 rfl rfl rfl hk
theorem x1150_177 {L : List Value} {h : HP} {x : Int32} : pX 1150 177 L [.int x] h = some (some (.int x), h) := pX_ret d1150_177 rfl
theorem x1150_178 {S : List Value} {h : HP} {l1 l2 : Value} {a0 : Nat} : pX 1150 178 [.ref a0, l1, l2] S h = pX 1150 179 [.ref a0, l1, l2] (.ref a0 :: S) h := pX_stp d1150_178 rfl rfl rfl
theorem x1150_179 {S : List Value} {h : HP} {l1 l2 : Value} {a0 : Nat} : pX 1150 179 [.ref a0, l1, l2] S h = pX 1150 180 [.ref a0, l1, l2] (.ref a0 :: S) h := pX_stp d1150_179 rfl rfl rfl
theorem x1150_180 {L S : List Value} {h : HP} {a : Nat} (hk : hp_k h a = 12) : pX 1150 180 L (.ref a :: S) h = pX 1150 183 L (.int (hp_i h a 46) :: S) h := pX_get d1150_180 rfl rfl hk
theorem x1150_183 {L : List Value} {h : HP} {x0 : Int32} {a0 : Nat} (hk : hp_k h a0 = 12) : pX 1150 183 L [.int x0, .ref a0] h = (pX 1134 0 [.ref a0, .int x0, .retAddr 0] [] h).bind (fun q => pX 1150 186 L (q.1.toList ++ []) q.2) := pX_inv (a := a0) (t := 12) 1134 [.ref a0, .int x0] [] d1150_183 rfl rfl rfl hk
theorem x1150_186 {L : List Value} {h : HP} {x : Int32} : pX 1150 186 L [.int x] h = some (some (.int x), h) := pX_ret d1150_186 rfl
theorem x1150_187 {S : List Value} {h : HP} {l1 l2 : Value} {a0 : Nat} : pX 1150 187 [.ref a0, l1, l2] S h = pX 1150 188 [.ref a0, l1, l2] (.ref a0 :: S) h := pX_stp d1150_187 rfl rfl rfl
theorem x1150_188 {L : List Value} {h : HP} {a0 : Nat} (hk : hp_k h a0 = 12) : pX 1150 188 L [.ref a0] h = (pX 1148 0 [.ref a0, .retAddr 0] [] h).bind (fun q => pX 1150 191 L (q.1.toList ++ []) q.2) := pX_inv (a := a0) (t := 12) 1148 [.ref a0] [] d1150_188 rfl rfl rfl hk
theorem x1150_191 {L : List Value} {h : HP} {x : Int32} : pX 1150 191 L [.int x] h = some (some (.int x), h) := pX_ret d1150_191 rfl
theorem x1150_192 {S : List Value} {h : HP} {l1 l2 : Value} {a0 : Nat} : pX 1150 192 [.ref a0, l1, l2] S h = pX 1150 193 [.ref a0, l1, l2] (.ref a0 :: S) h := pX_stp d1150_192 rfl rfl rfl
theorem x1150_193 {L : List Value} {h : HP} {a0 : Nat} (hk : hp_k h a0 = 12) : pX 1150 193 L [.ref a0] h = (pX 1135 0 [.ref a0, .retAddr 0, .retAddr 0] [] h).bind (fun q => pX 1150 196 L (q.1.toList ++ []) q.2) := pX_inv (a := a0) (t := 12) 1135 [.ref a0] [] d1150_193 rfl rfl rfl hk
theorem x1150_196 {L : List Value} {h : HP} {x : Int32} : pX 1150 196 L [.int x] h = some (some (.int x), h) := pX_ret d1150_196 rfl
theorem x1150_197 {S : List Value} {h : HP} {l1 l2 : Value} {a0 : Nat} : pX 1150 197 [.ref a0, l1, l2] S h = pX 1150 198 [.ref a0, l1, l2] (.ref a0 :: S) h := pX_stp d1150_197 rfl rfl rfl
theorem x1150_198 {L : List Value} {h : HP} {a0 : Nat} (hk : hp_k h a0 = 12) : pX 1150 198 L [.ref a0] h = (pX 1136 0 [.ref a0] [] h).bind (fun q => pX 1150 201 L (q.1.toList ++ []) q.2) := pX_inv (a := a0) (t := 12) 1136 [.ref a0] [] d1150_198 rfl rfl rfl hk
theorem x1150_201 {L : List Value} {h : HP} {x : Int32} : pX 1150 201 L [.int x] h = some (some (.int x), h) := pX_ret d1150_201 rfl
theorem x1150_202 {S : List Value} {h : HP} {l1 l2 : Value} {a0 : Nat} : pX 1150 202 [.ref a0, l1, l2] S h = pX 1150 203 [.ref a0, l1, l2] (.ref a0 :: S) h := pX_stp d1150_202 rfl rfl rfl
theorem x1150_203 {L : List Value} {h : HP} {a0 : Nat} (hk : hp_k h a0 = 12) : pX 1150 203 L [.ref a0] h = (pX 1138 0 [.ref a0, .retAddr 0, .retAddr 0] [] h).bind (fun q => pX 1150 206 L (q.1.toList ++ []) q.2) := pX_inv (a := a0) (t := 12) 1138 [.ref a0] [] d1150_203 rfl rfl rfl hk
theorem x1150_206 {L : List Value} {h : HP} {x : Int32} : pX 1150 206 L [.int x] h = some (some (.int x), h) := pX_ret d1150_206 rfl
theorem x1150_207 {S : List Value} {h : HP} {l1 l2 : Value} {a0 : Nat} : pX 1150 207 [.ref a0, l1, l2] S h = pX 1150 208 [.ref a0, l1, l2] (.ref a0 :: S) h := pX_stp d1150_207 rfl rfl rfl
theorem x1150_208 {L : List Value} {h : HP} {a0 : Nat} (hk : hp_k h a0 = 12) : pX 1150 208 L [.ref a0] h = (pX 1139 0 [.ref a0, .retAddr 0, .retAddr 0, .retAddr 0] [] h).bind (fun q => pX 1150 211 L (q.1.toList ++ []) q.2) := pX_inv (a := a0) (t := 12) 1139 [.ref a0] [] d1150_208 rfl rfl rfl hk
theorem x1150_211 {L : List Value} {h : HP} {x : Int32} : pX 1150 211 L [.int x] h = some (some (.int x), h) := pX_ret d1150_211 rfl
theorem x1150_212 {S : List Value} {h : HP} {l1 l2 : Value} {a0 : Nat} : pX 1150 212 [.ref a0, l1, l2] S h = pX 1150 213 [.ref a0, l1, l2] (.ref a0 :: S) h := pX_stp d1150_212 rfl rfl rfl
theorem x1150_213 {L : List Value} {h : HP} {a0 : Nat} (hk : hp_k h a0 = 12) : pX 1150 213 L [.ref a0] h = (pX 1149 0 [.ref a0, .retAddr 0] [] h).bind (fun q => pX 1150 216 L (q.1.toList ++ []) q.2) := pX_inv (a := a0) (t := 12) 1149 [.ref a0] [] d1150_213 rfl rfl rfl hk
theorem x1150_216 {L : List Value} {h : HP} {x : Int32} : pX 1150 216 L [.int x] h = some (some (.int x), h) := pX_ret d1150_216 rfl
theorem x1150_217 {S : List Value} {h : HP} {l1 l2 : Value} {a0 : Nat} : pX 1150 217 [.ref a0, l1, l2] S h = pX 1150 218 [.ref a0, l1, l2] (.ref a0 :: S) h := pX_stp d1150_217 rfl rfl rfl
theorem x1150_218 {L : List Value} {h : HP} {a0 : Nat} (hk : hp_k h a0 = 12) : pX 1150 218 L [.ref a0] h = (pX 1140 0 [.ref a0, .retAddr 0, .retAddr 0] [] h).bind (fun q => pX 1150 221 L (q.1.toList ++ []) q.2) := pX_inv (a := a0) (t := 12) 1140 [.ref a0] [] d1150_218 rfl rfl rfl hk
theorem x1150_221 {L : List Value} {h : HP} {x : Int32} : pX 1150 221 L [.int x] h = some (some (.int x), h) := pX_ret d1150_221 rfl
theorem x1150_222 {S : List Value} {h : HP} {l1 l2 : Value} {a0 : Nat} : pX 1150 222 [.ref a0, l1, l2] S h = pX 1150 223 [.ref a0, l1, l2] (.ref a0 :: S) h := pX_stp d1150_222 rfl rfl rfl
theorem x1150_223 {L : List Value} {h : HP} {a0 : Nat} (hk : hp_k h a0 = 12) : pX 1150 223 L [.ref a0] h = (pX 1141 0 [.ref a0, .retAddr 0, .retAddr 0] [] h).bind (fun q => pX 1150 226 L (q.1.toList ++ []) q.2) := pX_inv (a := a0) (t := 12) 1141 [.ref a0] [] d1150_223 rfl rfl rfl hk
theorem x1150_226 {L : List Value} {h : HP} {x : Int32} : pX 1150 226 L [.int x] h = some (some (.int x), h) := pX_ret d1150_226 rfl
theorem x1150_227 {S : List Value} {h : HP} {l1 l2 : Value} {a0 : Nat} : pX 1150 227 [.ref a0, l1, l2] S h = pX 1150 228 [.ref a0, l1, l2] (.ref a0 :: S) h := pX_stp d1150_227 rfl rfl rfl
theorem x1150_228 {L S : List Value} {h : HP} : pX 1150 228 L S h = pX 1150 229 L (.int 1 :: S) h := pX_iconst d1150_228 (by decide)
theorem x1150_229 {S : List Value} {h : HP} {l1 l2 : Value} {a0 : Nat} : pX 1150 229 [.ref a0, l1, l2] S h = pX 1150 230 [.ref a0, l1, l2] (.ref a0 :: S) h := pX_stp d1150_229 rfl rfl rfl
theorem x1150_230 {S : List Value} {h : HP} {l1 l2 : Value} {a0 : Nat} : pX 1150 230 [.ref a0, l1, l2] S h = pX 1150 231 [.ref a0, l1, l2] (.ref a0 :: S) h := pX_stp d1150_230 rfl rfl rfl
theorem x1150_231 {L S : List Value} {h : HP} {a : Nat} (hk : hp_k h a = 12) : pX 1150 231 L (.ref a :: S) h = pX 1150 234 L (.ref (hp_a h a 33) :: S) h := pX_get d1150_231 rfl rfl hk
theorem x1150_234 {S : List Value} {h : HP} {l1 l2 : Value} {a0 : Nat} : pX 1150 234 [.ref a0, l1, l2] S h = pX 1150 235 [.ref a0, l1, l2] (.ref a0 :: S) h := pX_stp d1150_234 rfl rfl rfl
theorem x1150_235 {L S : List Value} {h : HP} {a : Nat} (hk : hp_k h a = 12) : pX 1150 235 L (.ref a :: S) h = pX 1150 238 L (.int (hp_i h a 45) :: S) h := pX_get d1150_235 rfl rfl hk
theorem x1150_238 {S : List Value} {h : HP} {l1 l2 : Value} {a0 : Nat} : pX 1150 238 [.ref a0, l1, l2] S h = pX 1150 239 [.ref a0, l1, l2] (.ref a0 :: S) h := pX_stp d1150_238 rfl rfl rfl
theorem x1150_239 {L S : List Value} {h : HP} {a : Nat} (hk : hp_k h a = 12) : pX 1150 239 L (.ref a :: S) h = pX 1150 242 L (.int (hp_i h a 47) :: S) h := pX_get d1150_239 rfl rfl hk
theorem x1150_242 {L S : List Value} {h : HP} {x y : Int32} : pX 1150 242 L (.int y :: .int x :: S) h = pX 1150 243 L (.int (x + y) :: S) h := pX_stp d1150_242 rfl rfl rfl
theorem x1150_243 {L S : List Value} {h : HP} {a : Nat} {j : Int32} (hk : hp_k h a = 100) (hj : inb j (hp_l h a) = true) : pX 1150 243 L (.int j :: .ref a :: S) h = pX 1150 244 L (.int (hp_i h a (ix j)) :: S) h := pX_ild d1150_243 hk hj
theorem x1150_244 {S : List Value} {h : HP} {l1 l2 : Value} {a0 : Nat} : pX 1150 244 [.ref a0, l1, l2] S h = pX 1150 245 [.ref a0, l1, l2] (.ref a0 :: S) h := pX_stp d1150_244 rfl rfl rfl
theorem x1150_245 {L S : List Value} {h : HP} {a : Nat} (hk : hp_k h a = 12) : pX 1150 245 L (.ref a :: S) h = pX 1150 248 L (.ref (hp_a h a 34) :: S) h := pX_get d1150_245 rfl rfl hk
theorem x1150_248 {S : List Value} {h : HP} {l1 l2 : Value} {a0 : Nat} : pX 1150 248 [.ref a0, l1, l2] S h = pX 1150 249 [.ref a0, l1, l2] (.ref a0 :: S) h := pX_stp d1150_248 rfl rfl rfl
theorem x1150_249 {L S : List Value} {h : HP} {a : Nat} (hk : hp_k h a = 12) : pX 1150 249 L (.ref a :: S) h = pX 1150 252 L (.int (hp_i h a 45) :: S) h := pX_get d1150_249 rfl rfl hk
theorem x1150_252 {S : List Value} {h : HP} {l1 l2 : Value} {a0 : Nat} : pX 1150 252 [.ref a0, l1, l2] S h = pX 1150 253 [.ref a0, l1, l2] (.ref a0 :: S) h := pX_stp d1150_252 rfl rfl rfl
theorem x1150_253 {L S : List Value} {h : HP} {a : Nat} (hk : hp_k h a = 12) : pX 1150 253 L (.ref a :: S) h = pX 1150 256 L (.int (hp_i h a 47) :: S) h := pX_get d1150_253 rfl rfl hk
theorem x1150_256 {L S : List Value} {h : HP} {x y : Int32} : pX 1150 256 L (.int y :: .int x :: S) h = pX 1150 257 L (.int (x + y) :: S) h := pX_stp d1150_256 rfl rfl rfl
theorem x1150_257 {L S : List Value} {h : HP} {a : Nat} {j : Int32} (hk : hp_k h a = 100) (hj : inb j (hp_l h a) = true) : pX 1150 257 L (.int j :: .ref a :: S) h = pX 1150 258 L (.int (hp_i h a (ix j)) :: S) h := pX_ild d1150_257 hk hj
theorem x1150_258 {S : List Value} {h : HP} {l1 l2 : Value} {a0 : Nat} : pX 1150 258 [.ref a0, l1, l2] S h = pX 1150 259 [.ref a0, l1, l2] (.ref a0 :: S) h := pX_stp d1150_258 rfl rfl rfl
theorem x1150_259 {L S : List Value} {h : HP} {a : Nat} (hk : hp_k h a = 12) : pX 1150 259 L (.ref a :: S) h = pX 1150 262 L (.int (hp_i h a 48) :: S) h := pX_get d1150_259 rfl rfl hk
theorem x1150_262 {L : List Value} {h : HP} {x0 : Int32} {x1 : Int32} {x2 : Int32} {a0 : Nat} {x3 : Int32} {a1 : Nat} (hk : hp_k h a0 = 12) : pX 1150 262 L [.int x0, .int x1, .int x2, .ref a0, .int x3, .ref a1] h = (pX 1121 0 [.ref a0, .int x2, .int x1, .int x0, .retAddr 0] [] h).bind (fun q => pX 1150 265 L (q.1.toList ++ [.int x3, .ref a1]) q.2) := pX_inv (a := a0) (t := 12) 1121 [.ref a0, .int x2, .int x1, .int x0] [.int x3, .ref a1] d1150_262 rfl rfl rfl hk
theorem x1150_265 {L S : List Value} {h : HP} {x : Int32} : pX 1150 265 L (.int x :: S) h = if x = 0 then pX 1150 272 L S h else pX 1150 268 L S h := pX_if_eq d1150_265 (by decide)
theorem x1150_268 {L S : List Value} {h : HP} : pX 1150 268 L S h = pX 1150 269 L (.int 1 :: S) h := pX_iconst d1150_268 (by decide)
theorem x1150_269 {L S : List Value} {h : HP} : pX 1150 269 L S h = pX 1150 273 L S h := pX_goto d1150_269 (by decide)
theorem x1150_272 {L S : List Value} {h : HP} : pX 1150 272 L S h = pX 1150 273 L (.int 0 :: S) h := pX_iconst d1150_272 (by decide)
theorem x1150_273 {L : List Value} {h : HP} {x0 : Int32} {x1 : Int32} {a0 : Nat} (hk : hp_k h a0 = 12) : pX 1150 273 L [.int x0, .int x1, .ref a0] h = (pX 1129 0 [.ref a0, .int x1, .int x0] [] h).bind (fun q => pX 1150 276 L (q.1.toList ++ []) q.2) := pX_inv (a := a0) (t := 12) 1129 [.ref a0, .int x1, .int x0] [] d1150_273 rfl rfl rfl hk
theorem x1150_276 {L S : List Value} {h : HP} : pX 1150 276 L S h = pX 1150 277 L (.int 0 :: S) h := pX_iconst d1150_276 (by decide)
theorem x1150_277 {L : List Value} {h : HP} {x : Int32} : pX 1150 277 L [.int x] h = some (some (.int x), h) := pX_ret d1150_277 rfl
theorem x1150_278 {S : List Value} {h : HP} {l1 l2 : Value} {a0 : Nat} : pX 1150 278 [.ref a0, l1, l2] S h = pX 1150 279 [.ref a0, l1, l2] (.ref a0 :: S) h := pX_stp d1150_278 rfl rfl rfl
theorem x1150_279 {L S : List Value} {h : HP} {a : Nat} (hk : hp_k h a = 12) : pX 1150 279 L (.ref a :: S) h = pX 1150 282 L (.ref (hp_a h a 33) :: S) h := pX_get d1150_279 rfl rfl hk
theorem x1150_282 {S : List Value} {h : HP} {l1 l2 : Value} {a0 : Nat} : pX 1150 282 [.ref a0, l1, l2] S h = pX 1150 283 [.ref a0, l1, l2] (.ref a0 :: S) h := pX_stp d1150_282 rfl rfl rfl
theorem x1150_283 {L S : List Value} {h : HP} {a : Nat} (hk : hp_k h a = 12) : pX 1150 283 L (.ref a :: S) h = pX 1150 286 L (.int (hp_i h a 45) :: S) h := pX_get d1150_283 rfl rfl hk
theorem x1150_286 {S : List Value} {h : HP} {l1 l2 : Value} {a0 : Nat} : pX 1150 286 [.ref a0, l1, l2] S h = pX 1150 287 [.ref a0, l1, l2] (.ref a0 :: S) h := pX_stp d1150_286 rfl rfl rfl
theorem x1150_287 {L S : List Value} {h : HP} {a : Nat} (hk : hp_k h a = 12) : pX 1150 287 L (.ref a :: S) h = pX 1150 290 L (.int (hp_i h a 46) :: S) h := pX_get d1150_287 rfl rfl hk
theorem x1150_290 {L S : List Value} {h : HP} {x y : Int32} : pX 1150 290 L (.int y :: .int x :: S) h = pX 1150 291 L (.int (x + y) :: S) h := pX_stp d1150_290 rfl rfl rfl
theorem x1150_291 {L S : List Value} {h : HP} {a : Nat} {j : Int32} (hk : hp_k h a = 100) (hj : inb j (hp_l h a) = true) : pX 1150 291 L (.int j :: .ref a :: S) h = pX 1150 292 L (.int (hp_i h a (ix j)) :: S) h := pX_ild d1150_291 hk hj
theorem x1150_292 {L S : List Value} {h : HP} {x : Int32} : pX 1150 292 L (.int x :: S) h = if x = 0 then pX 1150 334 L S h else pX 1150 295 L S h := pX_if_eq d1150_292 (by decide)
theorem x1150_295 {S : List Value} {h : HP} {l1 l2 : Value} {a0 : Nat} : pX 1150 295 [.ref a0, l1, l2] S h = pX 1150 296 [.ref a0, l1, l2] (.ref a0 :: S) h := pX_stp d1150_295 rfl rfl rfl
theorem x1150_296 {S : List Value} {h : HP} {l1 l2 : Value} {a0 : Nat} : pX 1150 296 [.ref a0, l1, l2] S h = pX 1150 297 [.ref a0, l1, l2] (.ref a0 :: S) h := pX_stp d1150_296 rfl rfl rfl
theorem x1150_297 {L S : List Value} {h : HP} {a : Nat} (hk : hp_k h a = 12) : pX 1150 297 L (.ref a :: S) h = pX 1150 300 L (.ref (hp_a h a 33) :: S) h := pX_get d1150_297 rfl rfl hk
theorem x1150_300 {S : List Value} {h : HP} {l1 l2 : Value} {a0 : Nat} : pX 1150 300 [.ref a0, l1, l2] S h = pX 1150 301 [.ref a0, l1, l2] (.ref a0 :: S) h := pX_stp d1150_300 rfl rfl rfl
theorem x1150_301 {L S : List Value} {h : HP} {a : Nat} (hk : hp_k h a = 12) : pX 1150 301 L (.ref a :: S) h = pX 1150 304 L (.int (hp_i h a 45) :: S) h := pX_get d1150_301 rfl rfl hk
theorem x1150_304 {S : List Value} {h : HP} {l1 l2 : Value} {a0 : Nat} : pX 1150 304 [.ref a0, l1, l2] S h = pX 1150 305 [.ref a0, l1, l2] (.ref a0 :: S) h := pX_stp d1150_304 rfl rfl rfl
theorem x1150_305 {L S : List Value} {h : HP} {a : Nat} (hk : hp_k h a = 12) : pX 1150 305 L (.ref a :: S) h = pX 1150 308 L (.int (hp_i h a 46) :: S) h := pX_get d1150_305 rfl rfl hk
theorem x1150_308 {L S : List Value} {h : HP} {x y : Int32} : pX 1150 308 L (.int y :: .int x :: S) h = pX 1150 309 L (.int (x + y) :: S) h := pX_stp d1150_308 rfl rfl rfl
theorem x1150_309 {L S : List Value} {h : HP} {a : Nat} {j : Int32} (hk : hp_k h a = 100) (hj : inb j (hp_l h a) = true) : pX 1150 309 L (.int j :: .ref a :: S) h = pX 1150 310 L (.int (hp_i h a (ix j)) :: S) h := pX_ild d1150_309 hk hj
theorem x1150_310 {S : List Value} {h : HP} {l1 l2 : Value} {a0 : Nat} : pX 1150 310 [.ref a0, l1, l2] S h = pX 1150 311 [.ref a0, l1, l2] (.ref a0 :: S) h := pX_stp d1150_310 rfl rfl rfl
theorem x1150_311 {L S : List Value} {h : HP} {a : Nat} (hk : hp_k h a = 12) : pX 1150 311 L (.ref a :: S) h = pX 1150 314 L (.ref (hp_a h a 34) :: S) h := pX_get d1150_311 rfl rfl hk
theorem x1150_314 {S : List Value} {h : HP} {l1 l2 : Value} {a0 : Nat} : pX 1150 314 [.ref a0, l1, l2] S h = pX 1150 315 [.ref a0, l1, l2] (.ref a0 :: S) h := pX_stp d1150_314 rfl rfl rfl
theorem x1150_315 {L S : List Value} {h : HP} {a : Nat} (hk : hp_k h a = 12) : pX 1150 315 L (.ref a :: S) h = pX 1150 318 L (.int (hp_i h a 45) :: S) h := pX_get d1150_315 rfl rfl hk
theorem x1150_318 {S : List Value} {h : HP} {l1 l2 : Value} {a0 : Nat} : pX 1150 318 [.ref a0, l1, l2] S h = pX 1150 319 [.ref a0, l1, l2] (.ref a0 :: S) h := pX_stp d1150_318 rfl rfl rfl
theorem x1150_319 {L S : List Value} {h : HP} {a : Nat} (hk : hp_k h a = 12) : pX 1150 319 L (.ref a :: S) h = pX 1150 322 L (.int (hp_i h a 46) :: S) h := pX_get d1150_319 rfl rfl hk
theorem x1150_322 {L S : List Value} {h : HP} {x y : Int32} : pX 1150 322 L (.int y :: .int x :: S) h = pX 1150 323 L (.int (x + y) :: S) h := pX_stp d1150_322 rfl rfl rfl
theorem x1150_323 {L S : List Value} {h : HP} {a : Nat} {j : Int32} (hk : hp_k h a = 100) (hj : inb j (hp_l h a) = true) : pX 1150 323 L (.int j :: .ref a :: S) h = pX 1150 324 L (.int (hp_i h a (ix j)) :: S) h := pX_ild d1150_323 hk hj
theorem x1150_324 {S : List Value} {h : HP} {l1 l2 : Value} {a0 : Nat} : pX 1150 324 [.ref a0, l1, l2] S h = pX 1150 325 [.ref a0, l1, l2] (.ref a0 :: S) h := pX_stp d1150_324 rfl rfl rfl
theorem x1150_325 {L S : List Value} {h : HP} {a : Nat} (hk : hp_k h a = 12) : pX 1150 325 L (.ref a :: S) h = pX 1150 328 L (.int (hp_i h a 47) :: S) h := pX_get d1150_325 rfl rfl hk
theorem x1150_328 {L : List Value} {h : HP} {x0 : Int32} {x1 : Int32} {x2 : Int32} {a0 : Nat} (hk : hp_k h a0 = 12) : pX 1150 328 L [.int x0, .int x1, .int x2, .ref a0] h = (pX 1121 0 [.ref a0, .int x2, .int x1, .int x0, .retAddr 0] [] h).bind (fun q => pX 1150 331 L (q.1.toList ++ []) q.2) := pX_inv (a := a0) (t := 12) 1121 [.ref a0, .int x2, .int x1, .int x0] [] d1150_328 rfl rfl rfl hk
theorem x1150_331 {L S : List Value} {h : HP} {x : Int32} : pX 1150 331 L (.int x :: S) h = if x = 0 then pX 1150 338 L S h else pX 1150 334 L S h := pX_if_eq d1150_331 (by decide)
theorem x1150_334 {L S : List Value} {h : HP} : pX 1150 334 L S h = pX 1150 335 L (.int 0 :: S) h := pX_iconst d1150_334 (by decide)
theorem x1150_335 {L S : List Value} {h : HP} : pX 1150 335 L S h = pX 1150 339 L S h := pX_goto d1150_335 (by decide)
theorem x1150_338 {L S : List Value} {h : HP} : pX 1150 338 L S h = pX 1150 339 L (.int 3 :: S) h := pX_iconst d1150_338 (by decide)
theorem x1150_339 {L : List Value} {h : HP} {x : Int32} : pX 1150 339 L [.int x] h = some (some (.int x), h) := pX_ret d1150_339 rfl
theorem x1150_340 {S : List Value} {h : HP} {l1 l2 : Value} {a0 : Nat} : pX 1150 340 [.ref a0, l1, l2] S h = pX 1150 341 [.ref a0, l1, l2] (.ref a0 :: S) h := pX_stp d1150_340 rfl rfl rfl
theorem x1150_341 {L S : List Value} {h : HP} : pX 1150 341 L S h = pX 1150 342 L (.int 1 :: S) h := pX_iconst d1150_341 (by decide)
theorem x1150_342 {L : List Value} {h : HP} {x0 : Int32} {a0 : Nat} (hk : hp_k h a0 = 12) : pX 1150 342 L [.int x0, .ref a0] h = (pX 1142 0 [.ref a0, .int x0, .retAddr 0, .retAddr 0, .retAddr 0, .retAddr 0] [] h).bind (fun q => pX 1150 345 L (q.1.toList ++ []) q.2) := pX_inv (a := a0) (t := 12) 1142 [.ref a0, .int x0] [] d1150_342 rfl rfl rfl hk
theorem x1150_345 {L : List Value} {h : HP} {x : Int32} : pX 1150 345 L [.int x] h = some (some (.int x), h) := pX_ret d1150_345 rfl
theorem x1150_346 {S : List Value} {h : HP} {l1 l2 : Value} {a0 : Nat} : pX 1150 346 [.ref a0, l1, l2] S h = pX 1150 347 [.ref a0, l1, l2] (.ref a0 :: S) h := pX_stp d1150_346 rfl rfl rfl
theorem x1150_347 {L S : List Value} {h : HP} : pX 1150 347 L S h = pX 1150 348 L (.int 0 :: S) h := pX_iconst d1150_347 (by decide)
theorem x1150_348 {L : List Value} {h : HP} {x0 : Int32} {a0 : Nat} (hk : hp_k h a0 = 12) : pX 1150 348 L [.int x0, .ref a0] h = (pX 1142 0 [.ref a0, .int x0, .retAddr 0, .retAddr 0, .retAddr 0, .retAddr 0] [] h).bind (fun q => pX 1150 351 L (q.1.toList ++ []) q.2) := pX_inv (a := a0) (t := 12) 1142 [.ref a0, .int x0] [] d1150_348 rfl rfl rfl hk
theorem x1150_351 {L : List Value} {h : HP} {x : Int32} : pX 1150 351 L [.int x] h = some (some (.int x), h) := pX_ret d1150_351 rfl
theorem x1150_352 {S : List Value} {h : HP} {l1 l2 : Value} {a0 : Nat} : pX 1150 352 [.ref a0, l1, l2] S h = pX 1150 353 [.ref a0, l1, l2] (.ref a0 :: S) h := pX_stp d1150_352 rfl rfl rfl
theorem x1150_353 {S : List Value} {h : HP} {l1 l2 : Value} {a0 : Nat} : pX 1150 353 [.ref a0, l1, l2] S h = pX 1150 354 [.ref a0, l1, l2] (.ref a0 :: S) h := pX_stp d1150_353 rfl rfl rfl
theorem x1150_354 {L S : List Value} {h : HP} {a : Nat} (hk : hp_k h a = 12) : pX 1150 354 L (.ref a :: S) h = pX 1150 357 L (.ref (hp_a h a 34) :: S) h := pX_get d1150_354 rfl rfl hk
theorem x1150_357 {S : List Value} {h : HP} {l1 l2 : Value} {a0 : Nat} : pX 1150 357 [.ref a0, l1, l2] S h = pX 1150 358 [.ref a0, l1, l2] (.ref a0 :: S) h := pX_stp d1150_357 rfl rfl rfl
theorem x1150_358 {L S : List Value} {h : HP} {a : Nat} (hk : hp_k h a = 12) : pX 1150 358 L (.ref a :: S) h = pX 1150 361 L (.int (hp_i h a 45) :: S) h := pX_get d1150_358 rfl rfl hk
theorem x1150_361 {S : List Value} {h : HP} {l1 l2 : Value} {a0 : Nat} : pX 1150 361 [.ref a0, l1, l2] S h = pX 1150 362 [.ref a0, l1, l2] (.ref a0 :: S) h := pX_stp d1150_361 rfl rfl rfl
theorem x1150_362 {L S : List Value} {h : HP} {a : Nat} (hk : hp_k h a = 12) : pX 1150 362 L (.ref a :: S) h = pX 1150 365 L (.int (hp_i h a 46) :: S) h := pX_get d1150_362 rfl rfl hk
theorem x1150_365 {L S : List Value} {h : HP} {x y : Int32} : pX 1150 365 L (.int y :: .int x :: S) h = pX 1150 366 L (.int (x + y) :: S) h := pX_stp d1150_365 rfl rfl rfl
theorem x1150_366 {L S : List Value} {h : HP} {a : Nat} {j : Int32} (hk : hp_k h a = 100) (hj : inb j (hp_l h a) = true) : pX 1150 366 L (.int j :: .ref a :: S) h = pX 1150 367 L (.int (hp_i h a (ix j)) :: S) h := pX_ild d1150_366 hk hj
theorem x1150_367 {L S : List Value} {h : HP} {a : Nat} {x : Int32} (hk : hp_k h a = 12) : pX 1150 367 L (.int x :: .ref a :: S) h = pX 1150 370 L S (hp_wi h a 42 x) := pX_put d1150_367 rfl rfl rfl hk
theorem x1150_370 {S : List Value} {h : HP} {l1 l2 : Value} {a0 : Nat} : pX 1150 370 [.ref a0, l1, l2] S h = pX 1150 371 [.ref a0, l1, l2] (.ref a0 :: S) h := pX_stp d1150_370 rfl rfl rfl
theorem x1150_371 {S : List Value} {h : HP} {l1 l2 : Value} {a0 : Nat} : pX 1150 371 [.ref a0, l1, l2] S h = pX 1150 372 [.ref a0, l1, l2] (.ref a0 :: S) h := pX_stp d1150_371 rfl rfl rfl
theorem x1150_372 {L S : List Value} {h : HP} {a : Nat} (hk : hp_k h a = 12) : pX 1150 372 L (.ref a :: S) h = pX 1150 375 L (.int (hp_i h a 46) :: S) h := pX_get d1150_372 rfl rfl hk
theorem x1150_375 {L S : List Value} {h : HP} : pX 1150 375 L S h = pX 1150 376 L (.int 1 :: S) h := pX_iconst d1150_375 (by decide)
theorem x1150_376 {L : List Value} {h : HP} {x0 : Int32} {x1 : Int32} {a0 : Nat} (hk : hp_k h a0 = 12) : pX 1150 376 L [.int x0, .int x1, .ref a0] h = (pX 1130 0 [.ref a0, .int x1, .int x0] [] h).bind (fun q => pX 1150 379 L (q.1.toList ++ []) q.2) := pX_inv (a := a0) (t := 12) 1130 [.ref a0, .int x1, .int x0] [] d1150_376 rfl rfl rfl hk
theorem x1150_379 {S : List Value} {h : HP} {l0 l1 l2 : Value} {x0 : Int32} : pX 1150 379 [l0, l1, l2] (.int x0 :: S) h = pX 1150 380 [l0, l1, .int x0] S h := pX_stp d1150_379 rfl rfl rfl
theorem x1150_380 {S : List Value} {h : HP} {l0 l1 : Value} {x0 : Int32} : pX 1150 380 [l0, l1, .int x0] S h = pX 1150 381 [l0, l1, .int x0] (.int x0 :: S) h := pX_stp d1150_380 rfl rfl rfl
theorem x1150_381 {L S : List Value} {h : HP} {x : Int32} : pX 1150 381 L (.int x :: S) h = if x ≤ 0 then pX 1150 388 L S h else pX 1150 384 L S h := pX_if_le d1150_381 (by decide)
theorem x1150_384 {S : List Value} {h : HP} {l0 l1 : Value} {x0 : Int32} : pX 1150 384 [l0, l1, .int x0] S h = pX 1150 385 [l0, l1, .int x0] (.int x0 :: S) h := pX_stp d1150_384 rfl rfl rfl
theorem x1150_385 {L S : List Value} {h : HP} : pX 1150 385 L S h = pX 1150 390 L S h := pX_goto d1150_385 (by decide)
theorem x1150_388 {L S : List Value} {h : HP} : pX 1150 388 L S h = pX 1150 390 L (.int 9 :: S) h := pX_bipush d1150_388 (by decide)
theorem x1150_390 {L : List Value} {h : HP} {x : Int32} : pX 1150 390 L [.int x] h = some (some (.int x), h) := pX_ret d1150_390 rfl
theorem x1150_391 {S : List Value} {h : HP} {l1 l2 : Value} {a0 : Nat} : pX 1150 391 [.ref a0, l1, l2] S h = pX 1150 392 [.ref a0, l1, l2] (.ref a0 :: S) h := pX_stp d1150_391 rfl rfl rfl
theorem x1150_392 {L : List Value} {h : HP} {a0 : Nat} (hk : hp_k h a0 = 12) : pX 1150 392 L [.ref a0] h = (pX 1143 0 [.ref a0, .retAddr 0, .retAddr 0, .retAddr 0] [] h).bind (fun q => pX 1150 395 L (q.1.toList ++ []) q.2) := pX_inv (a := a0) (t := 12) 1143 [.ref a0] [] d1150_392 rfl rfl rfl hk
theorem x1150_395 {L : List Value} {h : HP} {x : Int32} : pX 1150 395 L [.int x] h = some (some (.int x), h) := pX_ret d1150_395 rfl
theorem x1150_396 {S : List Value} {h : HP} {l1 l2 : Value} {a0 : Nat} : pX 1150 396 [.ref a0, l1, l2] S h = pX 1150 397 [.ref a0, l1, l2] (.ref a0 :: S) h := pX_stp d1150_396 rfl rfl rfl
theorem x1150_397 {L : List Value} {h : HP} {a0 : Nat} (hk : hp_k h a0 = 12) : pX 1150 397 L [.ref a0] h = (pX 1144 0 [.ref a0, .retAddr 0] [] h).bind (fun q => pX 1150 400 L (q.1.toList ++ []) q.2) := pX_inv (a := a0) (t := 12) 1144 [.ref a0] [] d1150_397 rfl rfl rfl hk
theorem x1150_400 {L : List Value} {h : HP} {x : Int32} : pX 1150 400 L [.int x] h = some (some (.int x), h) := pX_ret d1150_400 rfl
theorem x1150_401 {S : List Value} {h : HP} {l1 l2 : Value} {a0 : Nat} : pX 1150 401 [.ref a0, l1, l2] S h = pX 1150 402 [.ref a0, l1, l2] (.ref a0 :: S) h := pX_stp d1150_401 rfl rfl rfl
theorem x1150_402 {L : List Value} {h : HP} {a0 : Nat} (hk : hp_k h a0 = 12) : pX 1150 402 L [.ref a0] h = (pX 1145 0 [.ref a0, .retAddr 0] [] h).bind (fun q => pX 1150 405 L (q.1.toList ++ []) q.2) := pX_inv (a := a0) (t := 12) 1145 [.ref a0] [] d1150_402 rfl rfl rfl hk
theorem x1150_405 {L : List Value} {h : HP} {x : Int32} : pX 1150 405 L [.int x] h = some (some (.int x), h) := pX_ret d1150_405 rfl
theorem x1150_406 {S : List Value} {h : HP} {l1 l2 : Value} {a0 : Nat} : pX 1150 406 [.ref a0, l1, l2] S h = pX 1150 407 [.ref a0, l1, l2] (.ref a0 :: S) h := pX_stp d1150_406 rfl rfl rfl
theorem x1150_407 {L : List Value} {h : HP} {a0 : Nat} (hk : hp_k h a0 = 12) : pX 1150 407 L [.ref a0] h = (pX 1146 0 [.ref a0, .retAddr 0, .retAddr 0, .retAddr 0, .retAddr 0] [] h).bind (fun q => pX 1150 410 L (q.1.toList ++ []) q.2) := pX_inv (a := a0) (t := 12) 1146 [.ref a0] [] d1150_407 rfl rfl rfl hk
theorem x1150_410 {L : List Value} {h : HP} {x : Int32} : pX 1150 410 L [.int x] h = some (some (.int x), h) := pX_ret d1150_410 rfl
theorem x1150_411 {S : List Value} {h : HP} {l1 l2 : Value} {a0 : Nat} : pX 1150 411 [.ref a0, l1, l2] S h = pX 1150 412 [.ref a0, l1, l2] (.ref a0 :: S) h := pX_stp d1150_411 rfl rfl rfl
theorem x1150_412 {S : List Value} {h : HP} {l0 l2 : Value} {x0 : Int32} : pX 1150 412 [l0, .int x0, l2] S h = pX 1150 413 [l0, .int x0, l2] (.int x0 :: S) h := pX_stp d1150_412 rfl rfl rfl
theorem x1150_413 {L : List Value} {h : HP} {x0 : Int32} {a0 : Nat} (hk : hp_k h a0 = 12) : pX 1150 413 L [.int x0, .ref a0] h = (pX 1133 0 [.ref a0, .int x0, .retAddr 0, .retAddr 0, .retAddr 0] [] h).bind (fun q => pX 1150 416 L (q.1.toList ++ []) q.2) := pX_inv (a := a0) (t := 12) 1133 [.ref a0, .int x0] [] d1150_413 rfl rfl rfl hk
theorem x1150_416 {L : List Value} {h : HP} {x : Int32} : pX 1150 416 L [.int x] h = some (some (.int x), h) := pX_ret d1150_416 rfl
theorem d1151_0 : decode (mb 1151) 0 = .ok (.aload_n 0, 1) := by decide +kernel
theorem d1151_1 : decode (mb 1151) 1 = .ok (.getfield 174, 3) := by decide +kernel
theorem d1151_4 : decode (mb 1151) 4 = .ok (.ifCond .le 42, 3) := by decide +kernel
theorem d1151_7 : decode (mb 1151) 7 = .ok (.aload_n 0, 1) := by decide +kernel
theorem d1151_8 : decode (mb 1151) 8 = .ok (.getfield 76, 3) := by decide +kernel
theorem d1151_11 : decode (mb 1151) 11 = .ok (.aload_n 0, 1) := by decide +kernel
theorem d1151_12 : decode (mb 1151) 12 = .ok (.getfield 174, 3) := by decide +kernel
theorem d1151_15 : decode (mb 1151) 15 = .ok (.iconst 1, 1) := by decide +kernel
theorem d1151_16 : decode (mb 1151) 16 = .ok (.isub, 1) := by decide +kernel
theorem d1151_17 : decode (mb 1151) 17 = .ok (.iaload, 1) := by decide +kernel
theorem d1151_18 : decode (mb 1151) 18 = .ok (.aload_n 0, 1) := by decide +kernel
theorem d1151_19 : decode (mb 1151) 19 = .ok (.getfield 13, 3) := by decide +kernel
theorem d1151_22 : decode (mb 1151) 22 = .ok (.aload_n 0, 1) := by decide +kernel
theorem d1151_23 : decode (mb 1151) 23 = .ok (.getfield 73, 3) := by decide +kernel
theorem d1151_26 : decode (mb 1151) 26 = .ok (.aload_n 0, 1) := by decide +kernel
theorem d1151_27 : decode (mb 1151) 27 = .ok (.getfield 174, 3) := by decide +kernel
theorem d1151_30 : decode (mb 1151) 30 = .ok (.iconst 1, 1) := by decide +kernel
theorem d1151_31 : decode (mb 1151) 31 = .ok (.isub, 1) := by decide +kernel
theorem d1151_32 : decode (mb 1151) 32 = .ok (.iaload, 1) := by decide +kernel
theorem d1151_33 : decode (mb 1151) 33 = .ok (.iaload, 1) := by decide +kernel
theorem d1151_34 : decode (mb 1151) 34 = .ok (.if_icmp .lt 12, 3) := by decide +kernel
theorem d1151_37 : decode (mb 1151) 37 = .ok (.aload_n 0, 1) := by decide +kernel
theorem d1151_38 : decode (mb 1151) 38 = .ok (.iconst 0, 1) := by decide +kernel
theorem d1151_39 : decode (mb 1151) 39 = .ok (.iconst 0, 1) := by decide +kernel
theorem d1151_40 : decode (mb 1151) 40 = .ok (.invokevirtual 278, 3) := by decide +kernel
theorem d1151_43 : decode (mb 1151) 43 = .ok (.goto (-43), 3) := by decide +kernel
theorem d1151_46 : decode (mb 1151) 46 = .ok (.return_, 1) := by decide +kernel
theorem x1151_0 {S : List Value} {h : HP}  {a0 : Nat} : pX 1151 0 [.ref a0] S h = pX 1151 1 [.ref a0] (.ref a0 :: S) h := pX_stp d1151_0 rfl rfl rfl
theorem x1151_1 {L S : List Value} {h : HP} {a : Nat} (hk : hp_k h a = 12) : pX 1151 1 L (.ref a :: S) h = pX 1151 4 L (.int (hp_i h a 29) :: S) h := pX_get d1151_1 rfl rfl hk
theorem x1151_4 {L S : List Value} {h : HP} {x : Int32} : pX 1151 4 L (.int x :: S) h = if x ≤ 0 then pX 1151 46 L S h else pX 1151 7 L S h := pX_if_le d1151_4 (by decide)
theorem x1151_7 {S : List Value} {h : HP}  {a0 : Nat} : pX 1151 7 [.ref a0] S h = pX 1151 8 [.ref a0] (.ref a0 :: S) h := pX_stp d1151_7 rfl rfl rfl
theorem x1151_8 {L S : List Value} {h : HP} {a : Nat} (hk : hp_k h a = 12) : pX 1151 8 L (.ref a :: S) h = pX 1151 11 L (.ref (hp_a h a 31) :: S) h := pX_get d1151_8 rfl rfl hk
theorem x1151_11 {S : List Value} {h : HP}  {a0 : Nat} : pX 1151 11 [.ref a0] S h = pX 1151 12 [.ref a0] (.ref a0 :: S) h := pX_stp d1151_11 rfl rfl rfl
theorem x1151_12 {L S : List Value} {h : HP} {a : Nat} (hk : hp_k h a = 12) : pX 1151 12 L (.ref a :: S) h = pX 1151 15 L (.int (hp_i h a 29) :: S) h := pX_get d1151_12 rfl rfl hk
theorem x1151_15 {L S : List Value} {h : HP} : pX 1151 15 L S h = pX 1151 16 L (.int 1 :: S) h := pX_iconst d1151_15 (by decide)
theorem x1151_16 {L S : List Value} {h : HP} {x y : Int32} : pX 1151 16 L (.int y :: .int x :: S) h = pX 1151 17 L (.int (x - y) :: S) h := pX_stp d1151_16 rfl rfl rfl
theorem x1151_17 {L S : List Value} {h : HP} {a : Nat} {j : Int32} (hk : hp_k h a = 100) (hj : inb j (hp_l h a) = true) : pX 1151 17 L (.int j :: .ref a :: S) h = pX 1151 18 L (.int (hp_i h a (ix j)) :: S) h := pX_ild d1151_17 hk hj
theorem x1151_18 {S : List Value} {h : HP}  {a0 : Nat} : pX 1151 18 [.ref a0] S h = pX 1151 19 [.ref a0] (.ref a0 :: S) h := pX_stp d1151_18 rfl rfl rfl
theorem x1151_19 {L S : List Value} {h : HP} {a : Nat} (hk : hp_k h a = 12) : pX 1151 19 L (.ref a :: S) h = pX 1151 22 L (.ref (hp_a h a 2) :: S) h := pX_get d1151_19 rfl rfl hk
theorem x1151_22 {S : List Value} {h : HP}  {a0 : Nat} : pX 1151 22 [.ref a0] S h = pX 1151 23 [.ref a0] (.ref a0 :: S) h := pX_stp d1151_22 rfl rfl rfl
theorem x1151_23 {L S : List Value} {h : HP} {a : Nat} (hk : hp_k h a = 12) : pX 1151 23 L (.ref a :: S) h = pX 1151 26 L (.ref (hp_a h a 30) :: S) h := pX_get d1151_23 rfl rfl hk
theorem x1151_26 {S : List Value} {h : HP}  {a0 : Nat} : pX 1151 26 [.ref a0] S h = pX 1151 27 [.ref a0] (.ref a0 :: S) h := pX_stp d1151_26 rfl rfl rfl
theorem x1151_27 {L S : List Value} {h : HP} {a : Nat} (hk : hp_k h a = 12) : pX 1151 27 L (.ref a :: S) h = pX 1151 30 L (.int (hp_i h a 29) :: S) h := pX_get d1151_27 rfl rfl hk
theorem x1151_30 {L S : List Value} {h : HP} : pX 1151 30 L S h = pX 1151 31 L (.int 1 :: S) h := pX_iconst d1151_30 (by decide)
theorem x1151_31 {L S : List Value} {h : HP} {x y : Int32} : pX 1151 31 L (.int y :: .int x :: S) h = pX 1151 32 L (.int (x - y) :: S) h := pX_stp d1151_31 rfl rfl rfl
theorem x1151_32 {L S : List Value} {h : HP} {a : Nat} {j : Int32} (hk : hp_k h a = 100) (hj : inb j (hp_l h a) = true) : pX 1151 32 L (.int j :: .ref a :: S) h = pX 1151 33 L (.int (hp_i h a (ix j)) :: S) h := pX_ild d1151_32 hk hj
theorem x1151_33 {L S : List Value} {h : HP} {a : Nat} {j : Int32} (hk : hp_k h a = 100) (hj : inb j (hp_l h a) = true) : pX 1151 33 L (.int j :: .ref a :: S) h = pX 1151 34 L (.int (hp_i h a (ix j)) :: S) h := pX_ild d1151_33 hk hj
theorem x1151_34 {L S : List Value} {h : HP} {x y : Int32} : pX 1151 34 L (.int y :: .int x :: S) h = if x < y then pX 1151 46 L S h else pX 1151 37 L S h := pX_icmp_lt d1151_34 (by decide)
theorem x1151_37 {S : List Value} {h : HP}  {a0 : Nat} : pX 1151 37 [.ref a0] S h = pX 1151 38 [.ref a0] (.ref a0 :: S) h := pX_stp d1151_37 rfl rfl rfl
theorem x1151_38 {L S : List Value} {h : HP} : pX 1151 38 L S h = pX 1151 39 L (.int 0 :: S) h := pX_iconst d1151_38 (by decide)
theorem x1151_39 {L S : List Value} {h : HP} : pX 1151 39 L S h = pX 1151 40 L (.int 0 :: S) h := pX_iconst d1151_39 (by decide)
theorem x1151_40 {L : List Value} {h : HP} {x0 : Int32} {x1 : Int32} {a0 : Nat} (hk : hp_k h a0 = 12) : pX 1151 40 L [.int x0, .int x1, .ref a0] h = (pX 1127 0 [.ref a0, .int x1, .int x0, .retAddr 0] [] h).bind (fun q => pX 1151 43 L (q.1.toList ++ []) q.2) := pX_inv (a := a0) (t := 12) 1127 [.ref a0, .int x1, .int x0] [] d1151_40 rfl rfl rfl hk
theorem x1151_43 {L S : List Value} {h : HP} : pX 1151 43 L S h = pX 1151 0 L S h := pX_goto d1151_43 (by decide)
theorem x1151_46 {L : List Value} {h : HP} : pX 1151 46 L [] h = some (none, h) := pX_ret d1151_46 rfl
theorem d1152_0 : decode (mb 1152) 0 = .ok (.aload_n 0, 1) := by decide +kernel
theorem d1152_1 : decode (mb 1152) 1 = .ok (.getfield 174, 3) := by decide +kernel
theorem d1152_4 : decode (mb 1152) 4 = .ok (.iconst 1, 1) := by decide +kernel
theorem d1152_5 : decode (mb 1152) 5 = .ok (.isub, 1) := by decide +kernel
theorem d1152_6 : decode (mb 1152) 6 = .ok (.istore_n 1, 1) := by decide +kernel
theorem d1152_7 : decode (mb 1152) 7 = .ok (.sipush 160, 3) := by decide +kernel
theorem d1152_10 : decode (mb 1152) 10 = .ok (.aload_n 0, 1) := by decide +kernel
theorem d1152_11 : decode (mb 1152) 11 = .ok (.getfield 73, 3) := by decide +kernel
theorem d1152_14 : decode (mb 1152) 14 = .ok (.iload_n 1, 1) := by decide +kernel
theorem d1152_15 : decode (mb 1152) 15 = .ok (.iaload, 1) := by decide +kernel
theorem d1152_16 : decode (mb 1152) 16 = .ok (.imul, 1) := by decide +kernel
theorem d1152_17 : decode (mb 1152) 17 = .ok (.iconst 4, 1) := by decide +kernel
theorem d1152_18 : decode (mb 1152) 18 = .ok (.aload_n 0, 1) := by decide +kernel
theorem d1152_19 : decode (mb 1152) 19 = .ok (.getfield 76, 3) := by decide +kernel
theorem d1152_22 : decode (mb 1152) 22 = .ok (.iload_n 1, 1) := by decide +kernel
theorem d1152_23 : decode (mb 1152) 23 = .ok (.iaload, 1) := by decide +kernel
theorem d1152_24 : decode (mb 1152) 24 = .ok (.imul, 1) := by decide +kernel
theorem d1152_25 : decode (mb 1152) 25 = .ok (.iadd, 1) := by decide +kernel
theorem d1152_26 : decode (mb 1152) 26 = .ok (.istore_n 2, 1) := by decide +kernel
theorem d1152_27 : decode (mb 1152) 27 = .ok (.aload_n 0, 1) := by decide +kernel
theorem d1152_28 : decode (mb 1152) 28 = .ok (.bipush 8, 2) := by decide +kernel
theorem d1152_30 : decode (mb 1152) 30 = .ok (.iload_n 1, 1) := by decide +kernel
theorem d1152_31 : decode (mb 1152) 31 = .ok (.imul, 1) := by decide +kernel
theorem d1152_32 : decode (mb 1152) 32 = .ok (.putfield 189, 3) := by decide +kernel
theorem d1152_35 : decode (mb 1152) 35 = .ok (.aload_n 0, 1) := by decide +kernel
theorem d1152_36 : decode (mb 1152) 36 = .ok (.aload_n 0, 1) := by decide +kernel
theorem d1152_37 : decode (mb 1152) 37 = .ok (.getfield 16, 3) := by decide +kernel
theorem d1152_40 : decode (mb 1152) 40 = .ok (.iload_n 2, 1) := by decide +kernel
theorem d1152_41 : decode (mb 1152) 41 = .ok (.iconst 1, 1) := by decide +kernel
theorem d1152_42 : decode (mb 1152) 42 = .ok (.iadd, 1) := by decide +kernel
theorem d1152_43 : decode (mb 1152) 43 = .ok (.iaload, 1) := by decide +kernel
theorem d1152_44 : decode (mb 1152) 44 = .ok (.putfield 192, 3) := by decide +kernel
theorem d1152_47 : decode (mb 1152) 47 = .ok (.aload_n 0, 1) := by decide +kernel
theorem d1152_48 : decode (mb 1152) 48 = .ok (.aload_n 0, 1) := by decide +kernel
theorem d1152_49 : decode (mb 1152) 49 = .ok (.getfield 16, 3) := by decide +kernel
theorem d1152_52 : decode (mb 1152) 52 = .ok (.iload_n 2, 1) := by decide +kernel
theorem d1152_53 : decode (mb 1152) 53 = .ok (.iconst 2, 1) := by decide +kernel
theorem d1152_54 : decode (mb 1152) 54 = .ok (.iadd, 1) := by decide +kernel
theorem d1152_55 : decode (mb 1152) 55 = .ok (.iaload, 1) := by decide +kernel
theorem d1152_56 : decode (mb 1152) 56 = .ok (.putfield 195, 3) := by decide +kernel
theorem d1152_59 : decode (mb 1152) 59 = .ok (.aload_n 0, 1) := by decide +kernel
theorem d1152_60 : decode (mb 1152) 60 = .ok (.aload_n 0, 1) := by decide +kernel
theorem d1152_61 : decode (mb 1152) 61 = .ok (.getfield 16, 3) := by decide +kernel
theorem d1152_64 : decode (mb 1152) 64 = .ok (.iload_n 2, 1) := by decide +kernel
theorem d1152_65 : decode (mb 1152) 65 = .ok (.iconst 3, 1) := by decide +kernel
theorem d1152_66 : decode (mb 1152) 66 = .ok (.iadd, 1) := by decide +kernel
theorem d1152_67 : decode (mb 1152) 67 = .ok (.iaload, 1) := by decide +kernel
theorem d1152_68 : decode (mb 1152) 68 = .ok (.putfield 201, 3) := by decide +kernel
theorem d1152_71 : decode (mb 1152) 71 = .ok (.aload_n 0, 1) := by decide +kernel
theorem d1152_72 : decode (mb 1152) 72 = .ok (.getfield 16, 3) := by decide +kernel
theorem d1152_75 : decode (mb 1152) 75 = .ok (.iload_n 2, 1) := by decide +kernel
theorem d1152_76 : decode (mb 1152) 76 = .ok (.iaload, 1) := by decide +kernel
theorem d1152_77 : decode (mb 1152) 77 = .ok (.bipush 24, 2) := by decide +kernel
theorem d1152_79 : decode (mb 1152) 79 = .ok (.if_icmp .ne 38, 3) := by decide +kernel
theorem d1152_82 : decode (mb 1152) 82 = .ok (.aload_n 0, 1) := by decide +kernel
theorem d1152_83 : decode (mb 1152) 83 = .ok (.aload_n 0, 1) := by decide +kernel
theorem d1152_84 : decode (mb 1152) 84 = .ok (.getfield 82, 3) := by decide +kernel
theorem d1152_87 : decode (mb 1152) 87 = .ok (.aload_n 0, 1) := by decide +kernel
theorem d1152_88 : decode (mb 1152) 88 = .ok (.getfield 189, 3) := by decide +kernel
theorem d1152_91 : decode (mb 1152) 91 = .ok (.aload_n 0, 1) := by decide +kernel
theorem d1152_92 : decode (mb 1152) 92 = .ok (.getfield 192, 3) := by decide +kernel
theorem d1152_95 : decode (mb 1152) 95 = .ok (.iadd, 1) := by decide +kernel
theorem d1152_96 : decode (mb 1152) 96 = .ok (.iaload, 1) := by decide +kernel
theorem d1152_97 : decode (mb 1152) 97 = .ok (.aload_n 0, 1) := by decide +kernel
theorem d1152_98 : decode (mb 1152) 98 = .ok (.getfield 85, 3) := by decide +kernel
theorem d1152_101 : decode (mb 1152) 101 = .ok (.aload_n 0, 1) := by decide +kernel
theorem d1152_102 : decode (mb 1152) 102 = .ok (.getfield 189, 3) := by decide +kernel
theorem d1152_105 : decode (mb 1152) 105 = .ok (.aload_n 0, 1) := by decide +kernel
theorem d1152_106 : decode (mb 1152) 106 = .ok (.getfield 192, 3) := by decide +kernel
theorem d1152_109 : decode (mb 1152) 109 = .ok (.iadd, 1) := by decide +kernel
theorem d1152_110 : decode (mb 1152) 110 = .ok (.iaload, 1) := by decide +kernel
theorem d1152_111 : decode (mb 1152) 111 = .ok (.invokevirtual 278, 3) := by decide +kernel
theorem d1152_114 : decode (mb 1152) 114 = .ok (.goto 60, 3) := by decide +kernel
theorem d1152_117 : decode (mb 1152) 117 = .ok (.aload_n 0, 1) := by decide +kernel
theorem d1152_118 : decode (mb 1152) 118 = .ok (.aload_n 0, 1) := by decide +kernel
theorem d1152_119 : decode (mb 1152) 119 = .ok (.getfield 16, 3) := by decide +kernel
theorem d1152_122 : decode (mb 1152) 122 = .ok (.iload_n 2, 1) := by decide +kernel
theorem d1152_123 : decode (mb 1152) 123 = .ok (.iaload, 1) := by decide +kernel
theorem d1152_124 : decode (mb 1152) 124 = .ok (.invokevirtual 281, 3) := by decide +kernel
theorem d1152_127 : decode (mb 1152) 127 = .ok (.istore_n 3, 1) := by decide +kernel
theorem d1152_128 : decode (mb 1152) 128 = .ok (.iload_n 3, 1) := by decide +kernel
theorem d1152_129 : decode (mb 1152) 129 = .ok (.bipush 10, 2) := by decide +kernel
theorem d1152_131 : decode (mb 1152) 131 = .ok (.if_icmp .ne 10, 3) := by decide +kernel
theorem d1152_134 : decode (mb 1152) 134 = .ok (.aload_n 0, 1) := by decide +kernel
theorem d1152_135 : decode (mb 1152) 135 = .ok (.invokevirtual 183, 3) := by decide +kernel
theorem d1152_138 : decode (mb 1152) 138 = .ok (.goto 36, 3) := by decide +kernel
theorem d1152_141 : decode (mb 1152) 141 = .ok (.iload_n 3, 1) := by decide +kernel
theorem d1152_142 : decode (mb 1152) 142 = .ok (.ifCond .le 11, 3) := by decide +kernel
theorem d1152_145 : decode (mb 1152) 145 = .ok (.aload_n 0, 1) := by decide +kernel
theorem d1152_146 : decode (mb 1152) 146 = .ok (.iload_n 3, 1) := by decide +kernel
theorem d1152_147 : decode (mb 1152) 147 = .ok (.invokevirtual 284, 3) := by decide +kernel
theorem d1152_150 : decode (mb 1152) 150 = .ok (.goto 24, 3) := by decide +kernel
theorem d1152_153 : decode (mb 1152) 153 = .ok (.aload_n 0, 1) := by decide +kernel
theorem d1152_154 : decode (mb 1152) 154 = .ok (.getfield 16, 3) := by decide +kernel
theorem d1152_157 : decode (mb 1152) 157 = .ok (.iload_n 2, 1) := by decide +kernel
theorem d1152_158 : decode (mb 1152) 158 = .ok (.iaload, 1) := by decide +kernel
theorem d1152_159 : decode (mb 1152) 159 = .ok (.bipush 23, 2) := by decide +kernel
theorem d1152_161 : decode (mb 1152) 161 = .ok (.if_icmp .eq 13, 3) := by decide +kernel
theorem d1152_164 : decode (mb 1152) 164 = .ok (.aload_n 0, 1) := by decide +kernel
theorem d1152_165 : decode (mb 1152) 165 = .ok (.getfield 76, 3) := by decide +kernel
theorem d1152_168 : decode (mb 1152) 168 = .ok (.iload_n 1, 1) := by decide +kernel
theorem d1152_169 : decode (mb 1152) 169 = .ok (.dup2, 1) := by decide +kernel
theorem d1152_170 : decode (mb 1152) 170 = .ok (.iaload, 1) := by decide +kernel
theorem d1152_171 : decode (mb 1152) 171 = .ok (.iconst 1, 1) := by decide +kernel
theorem d1152_172 : decode (mb 1152) 172 = .ok (.iadd, 1) := by decide +kernel
theorem d1152_173 : decode (mb 1152) 173 = .ok (.iastore, 1) := by decide +kernel
theorem d1152_174 : decode (mb 1152) 174 = .ok (.aload_n 0, 1) := by decide +kernel
theorem d1152_175 : decode (mb 1152) 175 = .ok (.invokevirtual 287, 3) := by decide +kernel
theorem d1152_178 : decode (mb 1152) 178 = .ok (.return_, 1) := by decide +kernel
theorem x1152_0 {S : List Value} {h : HP} {l1 l2 l3 : Value} {a0 : Nat} : pX 1152 0 [.ref a0, l1, l2, l3] S h = pX 1152 1 [.ref a0, l1, l2, l3] (.ref a0 :: S) h := pX_stp d1152_0 rfl rfl rfl
theorem x1152_1 {L S : List Value} {h : HP} {a : Nat} (hk : hp_k h a = 12) : pX 1152 1 L (.ref a :: S) h = pX 1152 4 L (.int (hp_i h a 29) :: S) h := pX_get d1152_1 rfl rfl hk
theorem x1152_4 {L S : List Value} {h : HP} : pX 1152 4 L S h = pX 1152 5 L (.int 1 :: S) h := pX_iconst d1152_4 (by decide)
theorem x1152_5 {L S : List Value} {h : HP} {x y : Int32} : pX 1152 5 L (.int y :: .int x :: S) h = pX 1152 6 L (.int (x - y) :: S) h := pX_stp d1152_5 rfl rfl rfl
theorem x1152_6 {S : List Value} {h : HP} {l0 l1 l2 l3 : Value} {x0 : Int32} : pX 1152 6 [l0, l1, l2, l3] (.int x0 :: S) h = pX 1152 7 [l0, .int x0, l2, l3] S h := pX_stp d1152_6 rfl rfl rfl
theorem x1152_7 {L S : List Value} {h : HP} : pX 1152 7 L S h = pX 1152 10 L (.int 160 :: S) h := pX_sipush d1152_7 (by decide)
theorem x1152_10 {S : List Value} {h : HP} {l1 l2 l3 : Value} {a0 : Nat} : pX 1152 10 [.ref a0, l1, l2, l3] S h = pX 1152 11 [.ref a0, l1, l2, l3] (.ref a0 :: S) h := pX_stp d1152_10 rfl rfl rfl
theorem x1152_11 {L S : List Value} {h : HP} {a : Nat} (hk : hp_k h a = 12) : pX 1152 11 L (.ref a :: S) h = pX 1152 14 L (.ref (hp_a h a 30) :: S) h := pX_get d1152_11 rfl rfl hk
theorem x1152_14 {S : List Value} {h : HP} {l0 l2 l3 : Value} {x0 : Int32} : pX 1152 14 [l0, .int x0, l2, l3] S h = pX 1152 15 [l0, .int x0, l2, l3] (.int x0 :: S) h := pX_stp d1152_14 rfl rfl rfl
theorem x1152_15 {L S : List Value} {h : HP} {a : Nat} {j : Int32} (hk : hp_k h a = 100) (hj : inb j (hp_l h a) = true) : pX 1152 15 L (.int j :: .ref a :: S) h = pX 1152 16 L (.int (hp_i h a (ix j)) :: S) h := pX_ild d1152_15 hk hj
theorem x1152_16 {L S : List Value} {h : HP} {x y : Int32} : pX 1152 16 L (.int y :: .int x :: S) h = pX 1152 17 L (.int (x * y) :: S) h := pX_stp d1152_16 rfl rfl rfl
theorem x1152_17 {L S : List Value} {h : HP} : pX 1152 17 L S h = pX 1152 18 L (.int 4 :: S) h := pX_iconst d1152_17 (by decide)
theorem x1152_18 {S : List Value} {h : HP} {l1 l2 l3 : Value} {a0 : Nat} : pX 1152 18 [.ref a0, l1, l2, l3] S h = pX 1152 19 [.ref a0, l1, l2, l3] (.ref a0 :: S) h := pX_stp d1152_18 rfl rfl rfl
theorem x1152_19 {L S : List Value} {h : HP} {a : Nat} (hk : hp_k h a = 12) : pX 1152 19 L (.ref a :: S) h = pX 1152 22 L (.ref (hp_a h a 31) :: S) h := pX_get d1152_19 rfl rfl hk
theorem x1152_22 {S : List Value} {h : HP} {l0 l2 l3 : Value} {x0 : Int32} : pX 1152 22 [l0, .int x0, l2, l3] S h = pX 1152 23 [l0, .int x0, l2, l3] (.int x0 :: S) h := pX_stp d1152_22 rfl rfl rfl
theorem x1152_23 {L S : List Value} {h : HP} {a : Nat} {j : Int32} (hk : hp_k h a = 100) (hj : inb j (hp_l h a) = true) : pX 1152 23 L (.int j :: .ref a :: S) h = pX 1152 24 L (.int (hp_i h a (ix j)) :: S) h := pX_ild d1152_23 hk hj
theorem x1152_24 {L S : List Value} {h : HP} {x y : Int32} : pX 1152 24 L (.int y :: .int x :: S) h = pX 1152 25 L (.int (x * y) :: S) h := pX_stp d1152_24 rfl rfl rfl
theorem x1152_25 {L S : List Value} {h : HP} {x y : Int32} : pX 1152 25 L (.int y :: .int x :: S) h = pX 1152 26 L (.int (x + y) :: S) h := pX_stp d1152_25 rfl rfl rfl
theorem x1152_26 {S : List Value} {h : HP} {l0 l1 l2 l3 : Value} {x0 : Int32} : pX 1152 26 [l0, l1, l2, l3] (.int x0 :: S) h = pX 1152 27 [l0, l1, .int x0, l3] S h := pX_stp d1152_26 rfl rfl rfl
theorem x1152_27 {S : List Value} {h : HP} {l1 l2 l3 : Value} {a0 : Nat} : pX 1152 27 [.ref a0, l1, l2, l3] S h = pX 1152 28 [.ref a0, l1, l2, l3] (.ref a0 :: S) h := pX_stp d1152_27 rfl rfl rfl
theorem x1152_28 {L S : List Value} {h : HP} : pX 1152 28 L S h = pX 1152 30 L (.int 8 :: S) h := pX_bipush d1152_28 (by decide)
theorem x1152_30 {S : List Value} {h : HP} {l0 l2 l3 : Value} {x0 : Int32} : pX 1152 30 [l0, .int x0, l2, l3] S h = pX 1152 31 [l0, .int x0, l2, l3] (.int x0 :: S) h := pX_stp d1152_30 rfl rfl rfl
theorem x1152_31 {L S : List Value} {h : HP} {x y : Int32} : pX 1152 31 L (.int y :: .int x :: S) h = pX 1152 32 L (.int (x * y) :: S) h := pX_stp d1152_31 rfl rfl rfl
theorem x1152_32 {L S : List Value} {h : HP} {a : Nat} {x : Int32} (hk : hp_k h a = 12) : pX 1152 32 L (.int x :: .ref a :: S) h = pX 1152 35 L S (hp_wi h a 45 x) := pX_put d1152_32 rfl rfl rfl hk
theorem x1152_35 {S : List Value} {h : HP} {l1 l2 l3 : Value} {a0 : Nat} : pX 1152 35 [.ref a0, l1, l2, l3] S h = pX 1152 36 [.ref a0, l1, l2, l3] (.ref a0 :: S) h := pX_stp d1152_35 rfl rfl rfl
theorem x1152_36 {S : List Value} {h : HP} {l1 l2 l3 : Value} {a0 : Nat} : pX 1152 36 [.ref a0, l1, l2, l3] S h = pX 1152 37 [.ref a0, l1, l2, l3] (.ref a0 :: S) h := pX_stp d1152_36 rfl rfl rfl
theorem x1152_37 {L S : List Value} {h : HP} {a : Nat} (hk : hp_k h a = 12) : pX 1152 37 L (.ref a :: S) h = pX 1152 40 L (.ref (hp_a h a 3) :: S) h := pX_get d1152_37 rfl rfl hk
theorem x1152_40 {S : List Value} {h : HP} {l0 l1 l3 : Value} {x0 : Int32} : pX 1152 40 [l0, l1, .int x0, l3] S h = pX 1152 41 [l0, l1, .int x0, l3] (.int x0 :: S) h := pX_stp d1152_40 rfl rfl rfl
theorem x1152_41 {L S : List Value} {h : HP} : pX 1152 41 L S h = pX 1152 42 L (.int 1 :: S) h := pX_iconst d1152_41 (by decide)
theorem x1152_42 {L S : List Value} {h : HP} {x y : Int32} : pX 1152 42 L (.int y :: .int x :: S) h = pX 1152 43 L (.int (x + y) :: S) h := pX_stp d1152_42 rfl rfl rfl
theorem x1152_43 {L S : List Value} {h : HP} {a : Nat} {j : Int32} (hk : hp_k h a = 100) (hj : inb j (hp_l h a) = true) : pX 1152 43 L (.int j :: .ref a :: S) h = pX 1152 44 L (.int (hp_i h a (ix j)) :: S) h := pX_ild d1152_43 hk hj
theorem x1152_44 {L S : List Value} {h : HP} {a : Nat} {x : Int32} (hk : hp_k h a = 12) : pX 1152 44 L (.int x :: .ref a :: S) h = pX 1152 47 L S (hp_wi h a 46 x) := pX_put d1152_44 rfl rfl rfl hk
theorem x1152_47 {S : List Value} {h : HP} {l1 l2 l3 : Value} {a0 : Nat} : pX 1152 47 [.ref a0, l1, l2, l3] S h = pX 1152 48 [.ref a0, l1, l2, l3] (.ref a0 :: S) h := pX_stp d1152_47 rfl rfl rfl
theorem x1152_48 {S : List Value} {h : HP} {l1 l2 l3 : Value} {a0 : Nat} : pX 1152 48 [.ref a0, l1, l2, l3] S h = pX 1152 49 [.ref a0, l1, l2, l3] (.ref a0 :: S) h := pX_stp d1152_48 rfl rfl rfl
theorem x1152_49 {L S : List Value} {h : HP} {a : Nat} (hk : hp_k h a = 12) : pX 1152 49 L (.ref a :: S) h = pX 1152 52 L (.ref (hp_a h a 3) :: S) h := pX_get d1152_49 rfl rfl hk
theorem x1152_52 {S : List Value} {h : HP} {l0 l1 l3 : Value} {x0 : Int32} : pX 1152 52 [l0, l1, .int x0, l3] S h = pX 1152 53 [l0, l1, .int x0, l3] (.int x0 :: S) h := pX_stp d1152_52 rfl rfl rfl
theorem x1152_53 {L S : List Value} {h : HP} : pX 1152 53 L S h = pX 1152 54 L (.int 2 :: S) h := pX_iconst d1152_53 (by decide)
theorem x1152_54 {L S : List Value} {h : HP} {x y : Int32} : pX 1152 54 L (.int y :: .int x :: S) h = pX 1152 55 L (.int (x + y) :: S) h := pX_stp d1152_54 rfl rfl rfl
theorem x1152_55 {L S : List Value} {h : HP} {a : Nat} {j : Int32} (hk : hp_k h a = 100) (hj : inb j (hp_l h a) = true) : pX 1152 55 L (.int j :: .ref a :: S) h = pX 1152 56 L (.int (hp_i h a (ix j)) :: S) h := pX_ild d1152_55 hk hj
theorem x1152_56 {L S : List Value} {h : HP} {a : Nat} {x : Int32} (hk : hp_k h a = 12) : pX 1152 56 L (.int x :: .ref a :: S) h = pX 1152 59 L S (hp_wi h a 47 x) := pX_put d1152_56 rfl rfl rfl hk
theorem x1152_59 {S : List Value} {h : HP} {l1 l2 l3 : Value} {a0 : Nat} : pX 1152 59 [.ref a0, l1, l2, l3] S h = pX 1152 60 [.ref a0, l1, l2, l3] (.ref a0 :: S) h := pX_stp d1152_59 rfl rfl rfl
theorem x1152_60 {S : List Value} {h : HP} {l1 l2 l3 : Value} {a0 : Nat} : pX 1152 60 [.ref a0, l1, l2, l3] S h = pX 1152 61 [.ref a0, l1, l2, l3] (.ref a0 :: S) h := pX_stp d1152_60 rfl rfl rfl
theorem x1152_61 {L S : List Value} {h : HP} {a : Nat} (hk : hp_k h a = 12) : pX 1152 61 L (.ref a :: S) h = pX 1152 64 L (.ref (hp_a h a 3) :: S) h := pX_get d1152_61 rfl rfl hk
theorem x1152_64 {S : List Value} {h : HP} {l0 l1 l3 : Value} {x0 : Int32} : pX 1152 64 [l0, l1, .int x0, l3] S h = pX 1152 65 [l0, l1, .int x0, l3] (.int x0 :: S) h := pX_stp d1152_64 rfl rfl rfl
theorem x1152_65 {L S : List Value} {h : HP} : pX 1152 65 L S h = pX 1152 66 L (.int 3 :: S) h := pX_iconst d1152_65 (by decide)
theorem x1152_66 {L S : List Value} {h : HP} {x y : Int32} : pX 1152 66 L (.int y :: .int x :: S) h = pX 1152 67 L (.int (x + y) :: S) h := pX_stp d1152_66 rfl rfl rfl
theorem x1152_67 {L S : List Value} {h : HP} {a : Nat} {j : Int32} (hk : hp_k h a = 100) (hj : inb j (hp_l h a) = true) : pX 1152 67 L (.int j :: .ref a :: S) h = pX 1152 68 L (.int (hp_i h a (ix j)) :: S) h := pX_ild d1152_67 hk hj
theorem x1152_68 {L S : List Value} {h : HP} {a : Nat} {x : Int32} (hk : hp_k h a = 12) : pX 1152 68 L (.int x :: .ref a :: S) h = pX 1152 71 L S (hp_wi h a 48 x) := pX_put d1152_68 rfl rfl rfl hk
theorem x1152_71 {S : List Value} {h : HP} {l1 l2 l3 : Value} {a0 : Nat} : pX 1152 71 [.ref a0, l1, l2, l3] S h = pX 1152 72 [.ref a0, l1, l2, l3] (.ref a0 :: S) h := pX_stp d1152_71 rfl rfl rfl
theorem x1152_72 {L S : List Value} {h : HP} {a : Nat} (hk : hp_k h a = 12) : pX 1152 72 L (.ref a :: S) h = pX 1152 75 L (.ref (hp_a h a 3) :: S) h := pX_get d1152_72 rfl rfl hk
theorem x1152_75 {S : List Value} {h : HP} {l0 l1 l3 : Value} {x0 : Int32} : pX 1152 75 [l0, l1, .int x0, l3] S h = pX 1152 76 [l0, l1, .int x0, l3] (.int x0 :: S) h := pX_stp d1152_75 rfl rfl rfl
theorem x1152_76 {L S : List Value} {h : HP} {a : Nat} {j : Int32} (hk : hp_k h a = 100) (hj : inb j (hp_l h a) = true) : pX 1152 76 L (.int j :: .ref a :: S) h = pX 1152 77 L (.int (hp_i h a (ix j)) :: S) h := pX_ild d1152_76 hk hj
theorem x1152_77 {L S : List Value} {h : HP} : pX 1152 77 L S h = pX 1152 79 L (.int 24 :: S) h := pX_bipush d1152_77 (by decide)
theorem x1152_79 {L S : List Value} {h : HP} {x y : Int32} : pX 1152 79 L (.int y :: .int x :: S) h = if x = y then pX 1152 82 L S h else pX 1152 117 L S h := pX_icmp_ne d1152_79 (by decide)
theorem x1152_82 {S : List Value} {h : HP} {l1 l2 l3 : Value} {a0 : Nat} : pX 1152 82 [.ref a0, l1, l2, l3] S h = pX 1152 83 [.ref a0, l1, l2, l3] (.ref a0 :: S) h := pX_stp d1152_82 rfl rfl rfl
theorem x1152_83 {S : List Value} {h : HP} {l1 l2 l3 : Value} {a0 : Nat} : pX 1152 83 [.ref a0, l1, l2, l3] S h = pX 1152 84 [.ref a0, l1, l2, l3] (.ref a0 :: S) h := pX_stp d1152_83 rfl rfl rfl
theorem x1152_84 {L S : List Value} {h : HP} {a : Nat} (hk : hp_k h a = 12) : pX 1152 84 L (.ref a :: S) h = pX 1152 87 L (.ref (hp_a h a 33) :: S) h := pX_get d1152_84 rfl rfl hk
theorem x1152_87 {S : List Value} {h : HP} {l1 l2 l3 : Value} {a0 : Nat} : pX 1152 87 [.ref a0, l1, l2, l3] S h = pX 1152 88 [.ref a0, l1, l2, l3] (.ref a0 :: S) h := pX_stp d1152_87 rfl rfl rfl
theorem x1152_88 {L S : List Value} {h : HP} {a : Nat} (hk : hp_k h a = 12) : pX 1152 88 L (.ref a :: S) h = pX 1152 91 L (.int (hp_i h a 45) :: S) h := pX_get d1152_88 rfl rfl hk
theorem x1152_91 {S : List Value} {h : HP} {l1 l2 l3 : Value} {a0 : Nat} : pX 1152 91 [.ref a0, l1, l2, l3] S h = pX 1152 92 [.ref a0, l1, l2, l3] (.ref a0 :: S) h := pX_stp d1152_91 rfl rfl rfl
theorem x1152_92 {L S : List Value} {h : HP} {a : Nat} (hk : hp_k h a = 12) : pX 1152 92 L (.ref a :: S) h = pX 1152 95 L (.int (hp_i h a 46) :: S) h := pX_get d1152_92 rfl rfl hk
theorem x1152_95 {L S : List Value} {h : HP} {x y : Int32} : pX 1152 95 L (.int y :: .int x :: S) h = pX 1152 96 L (.int (x + y) :: S) h := pX_stp d1152_95 rfl rfl rfl
theorem x1152_96 {L S : List Value} {h : HP} {a : Nat} {j : Int32} (hk : hp_k h a = 100) (hj : inb j (hp_l h a) = true) : pX 1152 96 L (.int j :: .ref a :: S) h = pX 1152 97 L (.int (hp_i h a (ix j)) :: S) h := pX_ild d1152_96 hk hj
theorem x1152_97 {S : List Value} {h : HP} {l1 l2 l3 : Value} {a0 : Nat} : pX 1152 97 [.ref a0, l1, l2, l3] S h = pX 1152 98 [.ref a0, l1, l2, l3] (.ref a0 :: S) h := pX_stp d1152_97 rfl rfl rfl
theorem x1152_98 {L S : List Value} {h : HP} {a : Nat} (hk : hp_k h a = 12) : pX 1152 98 L (.ref a :: S) h = pX 1152 101 L (.ref (hp_a h a 34) :: S) h := pX_get d1152_98 rfl rfl hk
theorem x1152_101 {S : List Value} {h : HP} {l1 l2 l3 : Value} {a0 : Nat} : pX 1152 101 [.ref a0, l1, l2, l3] S h = pX 1152 102 [.ref a0, l1, l2, l3] (.ref a0 :: S) h := pX_stp d1152_101 rfl rfl rfl
theorem x1152_102 {L S : List Value} {h : HP} {a : Nat} (hk : hp_k h a = 12) : pX 1152 102 L (.ref a :: S) h = pX 1152 105 L (.int (hp_i h a 45) :: S) h := pX_get d1152_102 rfl rfl hk
theorem x1152_105 {S : List Value} {h : HP} {l1 l2 l3 : Value} {a0 : Nat} : pX 1152 105 [.ref a0, l1, l2, l3] S h = pX 1152 106 [.ref a0, l1, l2, l3] (.ref a0 :: S) h := pX_stp d1152_105 rfl rfl rfl
theorem x1152_106 {L S : List Value} {h : HP} {a : Nat} (hk : hp_k h a = 12) : pX 1152 106 L (.ref a :: S) h = pX 1152 109 L (.int (hp_i h a 46) :: S) h := pX_get d1152_106 rfl rfl hk
theorem x1152_109 {L S : List Value} {h : HP} {x y : Int32} : pX 1152 109 L (.int y :: .int x :: S) h = pX 1152 110 L (.int (x + y) :: S) h := pX_stp d1152_109 rfl rfl rfl
theorem x1152_110 {L S : List Value} {h : HP} {a : Nat} {j : Int32} (hk : hp_k h a = 100) (hj : inb j (hp_l h a) = true) : pX 1152 110 L (.int j :: .ref a :: S) h = pX 1152 111 L (.int (hp_i h a (ix j)) :: S) h := pX_ild d1152_110 hk hj
theorem x1152_111 {L : List Value} {h : HP} {x0 : Int32} {x1 : Int32} {a0 : Nat} (hk : hp_k h a0 = 12) : pX 1152 111 L [.int x0, .int x1, .ref a0] h = (pX 1127 0 [.ref a0, .int x1, .int x0, .retAddr 0] [] h).bind (fun q => pX 1152 114 L (q.1.toList ++ []) q.2) := pX_inv (a := a0) (t := 12) 1127 [.ref a0, .int x1, .int x0] [] d1152_111 rfl rfl rfl hk
theorem x1152_114 {L S : List Value} {h : HP} : pX 1152 114 L S h = pX 1152 174 L S h := pX_goto d1152_114 (by decide)
theorem x1152_117 {S : List Value} {h : HP} {l1 l2 l3 : Value} {a0 : Nat} : pX 1152 117 [.ref a0, l1, l2, l3] S h = pX 1152 118 [.ref a0, l1, l2, l3] (.ref a0 :: S) h := pX_stp d1152_117 rfl rfl rfl
theorem x1152_118 {S : List Value} {h : HP} {l1 l2 l3 : Value} {a0 : Nat} : pX 1152 118 [.ref a0, l1, l2, l3] S h = pX 1152 119 [.ref a0, l1, l2, l3] (.ref a0 :: S) h := pX_stp d1152_118 rfl rfl rfl
theorem x1152_119 {L S : List Value} {h : HP} {a : Nat} (hk : hp_k h a = 12) : pX 1152 119 L (.ref a :: S) h = pX 1152 122 L (.ref (hp_a h a 3) :: S) h := pX_get d1152_119 rfl rfl hk
theorem x1152_122 {S : List Value} {h : HP} {l0 l1 l3 : Value} {x0 : Int32} : pX 1152 122 [l0, l1, .int x0, l3] S h = pX 1152 123 [l0, l1, .int x0, l3] (.int x0 :: S) h := pX_stp d1152_122 rfl rfl rfl
theorem x1152_123 {L S : List Value} {h : HP} {a : Nat} {j : Int32} (hk : hp_k h a = 100) (hj : inb j (hp_l h a) = true) : pX 1152 123 L (.int j :: .ref a :: S) h = pX 1152 124 L (.int (hp_i h a (ix j)) :: S) h := pX_ild d1152_123 hk hj
theorem x1152_124 {L : List Value} {h : HP} {x0 : Int32} {a0 : Nat} (hk : hp_k h a0 = 12) : pX 1152 124 L [.int x0, .ref a0] h = (pX 1150 0 [.ref a0, .int x0, .retAddr 0] [] h).bind (fun q => pX 1152 127 L (q.1.toList ++ []) q.2) := pX_inv (a := a0) (t := 12) 1150 [.ref a0, .int x0] [] d1152_124 rfl rfl rfl hk
theorem x1152_127 {S : List Value} {h : HP} {l0 l1 l2 l3 : Value} {x0 : Int32} : pX 1152 127 [l0, l1, l2, l3] (.int x0 :: S) h = pX 1152 128 [l0, l1, l2, .int x0] S h := pX_stp d1152_127 rfl rfl rfl
theorem x1152_128 {S : List Value} {h : HP} {l0 l1 l2 : Value} {x0 : Int32} : pX 1152 128 [l0, l1, l2, .int x0] S h = pX 1152 129 [l0, l1, l2, .int x0] (.int x0 :: S) h := pX_stp d1152_128 rfl rfl rfl
theorem x1152_129 {L S : List Value} {h : HP} : pX 1152 129 L S h = pX 1152 131 L (.int 10 :: S) h := pX_bipush d1152_129 (by decide)
theorem x1152_131 {L S : List Value} {h : HP} {x y : Int32} : pX 1152 131 L (.int y :: .int x :: S) h = if x = y then pX 1152 134 L S h else pX 1152 141 L S h := pX_icmp_ne d1152_131 (by decide)
theorem x1152_134 {S : List Value} {h : HP} {l1 l2 l3 : Value} {a0 : Nat} : pX 1152 134 [.ref a0, l1, l2, l3] S h = pX 1152 135 [.ref a0, l1, l2, l3] (.ref a0 :: S) h := pX_stp d1152_134 rfl rfl rfl
theorem x1152_135 {L : List Value} {h : HP} {a0 : Nat} (hk : hp_k h a0 = 12) : pX 1152 135 L [.ref a0] h = (pX 1126 0 [.ref a0, .retAddr 0] [] h).bind (fun q => pX 1152 138 L (q.1.toList ++ []) q.2) := pX_inv (a := a0) (t := 12) 1126 [.ref a0] [] d1152_135 rfl rfl rfl hk
theorem x1152_138 {L S : List Value} {h : HP} : pX 1152 138 L S h = pX 1152 174 L S h := pX_goto d1152_138 (by decide)
theorem x1152_141 {S : List Value} {h : HP} {l0 l1 l2 : Value} {x0 : Int32} : pX 1152 141 [l0, l1, l2, .int x0] S h = pX 1152 142 [l0, l1, l2, .int x0] (.int x0 :: S) h := pX_stp d1152_141 rfl rfl rfl
theorem x1152_142 {L S : List Value} {h : HP} {x : Int32} : pX 1152 142 L (.int x :: S) h = if x ≤ 0 then pX 1152 153 L S h else pX 1152 145 L S h := pX_if_le d1152_142 (by decide)
theorem x1152_145 {S : List Value} {h : HP} {l1 l2 l3 : Value} {a0 : Nat} : pX 1152 145 [.ref a0, l1, l2, l3] S h = pX 1152 146 [.ref a0, l1, l2, l3] (.ref a0 :: S) h := pX_stp d1152_145 rfl rfl rfl
theorem x1152_146 {S : List Value} {h : HP} {l0 l1 l2 : Value} {x0 : Int32} : pX 1152 146 [l0, l1, l2, .int x0] S h = pX 1152 147 [l0, l1, l2, .int x0] (.int x0 :: S) h := pX_stp d1152_146 rfl rfl rfl
theorem x1152_147 {L : List Value} {h : HP} {x0 : Int32} {a0 : Nat} (hk : hp_k h a0 = 12) : pX 1152 147 L [.int x0, .ref a0] h = (pX 1128 0 [.ref a0, .int x0, .retAddr 0, .retAddr 0, .retAddr 0] [] h).bind (fun q => pX 1152 150 L (q.1.toList ++ []) q.2) := pX_inv (a := a0) (t := 12) 1128 [.ref a0, .int x0] [] d1152_147 rfl rfl rfl hk
theorem x1152_150 {L S : List Value} {h : HP} : pX 1152 150 L S h = pX 1152 174 L S h := pX_goto d1152_150 (by decide)
theorem x1152_153 {S : List Value} {h : HP} {l1 l2 l3 : Value} {a0 : Nat} : pX 1152 153 [.ref a0, l1, l2, l3] S h = pX 1152 154 [.ref a0, l1, l2, l3] (.ref a0 :: S) h := pX_stp d1152_153 rfl rfl rfl
theorem x1152_154 {L S : List Value} {h : HP} {a : Nat} (hk : hp_k h a = 12) : pX 1152 154 L (.ref a :: S) h = pX 1152 157 L (.ref (hp_a h a 3) :: S) h := pX_get d1152_154 rfl rfl hk
theorem x1152_157 {S : List Value} {h : HP} {l0 l1 l3 : Value} {x0 : Int32} : pX 1152 157 [l0, l1, .int x0, l3] S h = pX 1152 158 [l0, l1, .int x0, l3] (.int x0 :: S) h := pX_stp d1152_157 rfl rfl rfl
theorem x1152_158 {L S : List Value} {h : HP} {a : Nat} {j : Int32} (hk : hp_k h a = 100) (hj : inb j (hp_l h a) = true) : pX 1152 158 L (.int j :: .ref a :: S) h = pX 1152 159 L (.int (hp_i h a (ix j)) :: S) h := pX_ild d1152_158 hk hj
theorem x1152_159 {L S : List Value} {h : HP} : pX 1152 159 L S h = pX 1152 161 L (.int 23 :: S) h := pX_bipush d1152_159 (by decide)
theorem x1152_161 {L S : List Value} {h : HP} {x y : Int32} : pX 1152 161 L (.int y :: .int x :: S) h = if x = y then pX 1152 174 L S h else pX 1152 164 L S h := pX_icmp_eq d1152_161 (by decide)
theorem x1152_164 {S : List Value} {h : HP} {l1 l2 l3 : Value} {a0 : Nat} : pX 1152 164 [.ref a0, l1, l2, l3] S h = pX 1152 165 [.ref a0, l1, l2, l3] (.ref a0 :: S) h := pX_stp d1152_164 rfl rfl rfl
theorem x1152_165 {L S : List Value} {h : HP} {a : Nat} (hk : hp_k h a = 12) : pX 1152 165 L (.ref a :: S) h = pX 1152 168 L (.ref (hp_a h a 31) :: S) h := pX_get d1152_165 rfl rfl hk
theorem x1152_168 {S : List Value} {h : HP} {l0 l2 l3 : Value} {x0 : Int32} : pX 1152 168 [l0, .int x0, l2, l3] S h = pX 1152 169 [l0, .int x0, l2, l3] (.int x0 :: S) h := pX_stp d1152_168 rfl rfl rfl
theorem x1152_169 {L S : List Value} {h : HP} {x0 : Int32} {a0 : Nat} : pX 1152 169 L (.int x0 :: .ref a0 :: S) h = pX 1152 170 L (.int x0 :: .ref a0 :: .int x0 :: .ref a0 :: S) h := pX_stp d1152_169 rfl rfl rfl
theorem x1152_170 {L S : List Value} {h : HP} {a : Nat} {j : Int32} (hk : hp_k h a = 100) (hj : inb j (hp_l h a) = true) : pX 1152 170 L (.int j :: .ref a :: S) h = pX 1152 171 L (.int (hp_i h a (ix j)) :: S) h := pX_ild d1152_170 hk hj
theorem x1152_171 {L S : List Value} {h : HP} : pX 1152 171 L S h = pX 1152 172 L (.int 1 :: S) h := pX_iconst d1152_171 (by decide)
theorem x1152_172 {L S : List Value} {h : HP} {x y : Int32} : pX 1152 172 L (.int y :: .int x :: S) h = pX 1152 173 L (.int (x + y) :: S) h := pX_stp d1152_172 rfl rfl rfl
theorem x1152_173 {L S : List Value} {h : HP} {a : Nat} {j x : Int32} (hk : hp_k h a = 100) (hj : inb j (hp_l h a) = true) : pX 1152 173 L (.int x :: .int j :: .ref a :: S) h = pX 1152 174 L S (hp_wi h a (ix j) x) := pX_ist d1152_173 hk hj
theorem x1152_174 {S : List Value} {h : HP} {l1 l2 l3 : Value} {a0 : Nat} : pX 1152 174 [.ref a0, l1, l2, l3] S h = pX 1152 175 [.ref a0, l1, l2, l3] (.ref a0 :: S) h := pX_stp d1152_174 rfl rfl rfl
theorem x1152_175 {L : List Value} {h : HP} {a0 : Nat} (hk : hp_k h a0 = 12) : pX 1152 175 L [.ref a0] h = (pX 1151 0 [.ref a0] [] h).bind (fun q => pX 1152 178 L (q.1.toList ++ []) q.2) := pX_inv (a := a0) (t := 12) 1151 [.ref a0] [] d1152_175 rfl rfl rfl hk
theorem x1152_178 {L : List Value} {h : HP} : pX 1152 178 L [] h = some (none, h) := pX_ret d1152_178 rfl
theorem d1153_0 : decode (mb 1153) 0 = .ok (.aload_n 0, 1) := by decide +kernel
theorem d1153_1 : decode (mb 1153) 1 = .ok (.iload_n 2, 1) := by decide +kernel
theorem d1153_2 : decode (mb 1153) 2 = .ok (.putfield 157, 3) := by decide +kernel
theorem d1153_5 : decode (mb 1153) 5 = .ok (.aload_n 0, 1) := by decide +kernel
theorem d1153_6 : decode (mb 1153) 6 = .ok (.iconst 0, 1) := by decide +kernel
theorem d1153_7 : decode (mb 1153) 7 = .ok (.putfield 147, 3) := by decide +kernel
theorem d1153_10 : decode (mb 1153) 10 = .ok (.aload_n 0, 1) := by decide +kernel
theorem d1153_11 : decode (mb 1153) 11 = .ok (.iconst 0, 1) := by decide +kernel
theorem d1153_12 : decode (mb 1153) 12 = .ok (.putfield 150, 3) := by decide +kernel
theorem d1153_15 : decode (mb 1153) 15 = .ok (.aload_n 0, 1) := by decide +kernel
theorem d1153_16 : decode (mb 1153) 16 = .ok (.getfield 101, 3) := by decide +kernel
theorem d1153_19 : decode (mb 1153) 19 = .ok (.iconst 1, 1) := by decide +kernel
theorem d1153_20 : decode (mb 1153) 20 = .ok (.dup2, 1) := by decide +kernel
theorem d1153_21 : decode (mb 1153) 21 = .ok (.iaload, 1) := by decide +kernel
theorem d1153_22 : decode (mb 1153) 22 = .ok (.iconst 1, 1) := by decide +kernel
theorem d1153_23 : decode (mb 1153) 23 = .ok (.iadd, 1) := by decide +kernel
theorem d1153_24 : decode (mb 1153) 24 = .ok (.iastore, 1) := by decide +kernel
theorem d1153_25 : decode (mb 1153) 25 = .ok (.aload_n 0, 1) := by decide +kernel
theorem d1153_26 : decode (mb 1153) 26 = .ok (.iconst 0, 1) := by decide +kernel
theorem d1153_27 : decode (mb 1153) 27 = .ok (.putfield 160, 3) := by decide +kernel
theorem d1153_30 : decode (mb 1153) 30 = .ok (.aload_n 0, 1) := by decide +kernel
theorem d1153_31 : decode (mb 1153) 31 = .ok (.iconst 0, 1) := by decide +kernel
theorem d1153_32 : decode (mb 1153) 32 = .ok (.putfield 174, 3) := by decide +kernel
theorem d1153_35 : decode (mb 1153) 35 = .ok (.iconst 0, 1) := by decide +kernel
theorem d1153_36 : decode (mb 1153) 36 = .ok (.istore_n 3, 1) := by decide +kernel
theorem d1153_37 : decode (mb 1153) 37 = .ok (.iload_n 3, 1) := by decide +kernel
theorem d1153_38 : decode (mb 1153) 38 = .ok (.bipush 9, 2) := by decide +kernel
theorem d1153_40 : decode (mb 1153) 40 = .ok (.if_icmp .ge 16, 3) := by decide +kernel
theorem d1153_43 : decode (mb 1153) 43 = .ok (.aload_n 0, 1) := by decide +kernel
theorem d1153_44 : decode (mb 1153) 44 = .ok (.getfield 95, 3) := by decide +kernel
theorem d1153_47 : decode (mb 1153) 47 = .ok (.iload_n 3, 1) := by decide +kernel
theorem d1153_48 : decode (mb 1153) 48 = .ok (.iconst 0, 1) := by decide +kernel
theorem d1153_49 : decode (mb 1153) 49 = .ok (.iastore, 1) := by decide +kernel
theorem d1153_50 : decode (mb 1153) 50 = .ok (.iinc 3 1, 3) := by decide +kernel
theorem d1153_53 : decode (mb 1153) 53 = .ok (.goto (-16), 3) := by decide +kernel
theorem d1153_56 : decode (mb 1153) 56 = .ok (.iconst 0, 1) := by decide +kernel
theorem d1153_57 : decode (mb 1153) 57 = .ok (.istore_n 3, 1) := by decide +kernel
theorem d1153_58 : decode (mb 1153) 58 = .ok (.iload_n 3, 1) := by decide +kernel
theorem d1153_59 : decode (mb 1153) 59 = .ok (.bipush 12, 2) := by decide +kernel
theorem d1153_61 : decode (mb 1153) 61 = .ok (.if_icmp .ge 21, 3) := by decide +kernel
theorem d1153_64 : decode (mb 1153) 64 = .ok (.aload_n 0, 1) := by decide +kernel
theorem d1153_65 : decode (mb 1153) 65 = .ok (.getfield 37, 3) := by decide +kernel
theorem d1153_68 : decode (mb 1153) 68 = .ok (.iload_n 3, 1) := by decide +kernel
theorem d1153_69 : decode (mb 1153) 69 = .ok (.aload_n 0, 1) := by decide +kernel
theorem d1153_70 : decode (mb 1153) 70 = .ok (.getfield 34, 3) := by decide +kernel
theorem d1153_73 : decode (mb 1153) 73 = .ok (.iload_n 3, 1) := by decide +kernel
theorem d1153_74 : decode (mb 1153) 74 = .ok (.iaload, 1) := by decide +kernel
theorem d1153_75 : decode (mb 1153) 75 = .ok (.iastore, 1) := by decide +kernel
theorem d1153_76 : decode (mb 1153) 76 = .ok (.iinc 3 1, 3) := by decide +kernel
theorem d1153_79 : decode (mb 1153) 79 = .ok (.goto (-21), 3) := by decide +kernel
theorem d1153_82 : decode (mb 1153) 82 = .ok (.iconst 0, 1) := by decide +kernel
theorem d1153_83 : decode (mb 1153) 83 = .ok (.istore_n 3, 1) := by decide +kernel
theorem d1153_84 : decode (mb 1153) 84 = .ok (.iload_n 3, 1) := by decide +kernel
theorem d1153_85 : decode (mb 1153) 85 = .ok (.bipush 8, 2) := by decide +kernel
theorem d1153_87 : decode (mb 1153) 87 = .ok (.if_icmp .ge 61, 3) := by decide +kernel
theorem d1153_90 : decode (mb 1153) 90 = .ok (.aload_n 0, 1) := by decide +kernel
theorem d1153_91 : decode (mb 1153) 91 = .ok (.getfield 82, 3) := by decide +kernel
theorem d1153_94 : decode (mb 1153) 94 = .ok (.iload_n 3, 1) := by decide +kernel
theorem d1153_95 : decode (mb 1153) 95 = .ok (.iload_n 3, 1) := by decide +kernel
theorem d1153_96 : decode (mb 1153) 96 = .ok (.aload_n 0, 1) := by decide +kernel
theorem d1153_97 : decode (mb 1153) 97 = .ok (.getfield 7, 3) := by decide +kernel
theorem d1153_100 : decode (mb 1153) 100 = .ok (.iload_n 1, 1) := by decide +kernel
theorem d1153_101 : decode (mb 1153) 101 = .ok (.iaload, 1) := by decide +kernel
theorem d1153_102 : decode (mb 1153) 102 = .ok (.if_icmp .ge 12, 3) := by decide +kernel
theorem d1153_105 : decode (mb 1153) 105 = .ok (.aload_n 0, 1) := by decide +kernel
theorem d1153_106 : decode (mb 1153) 106 = .ok (.getfield 40, 3) := by decide +kernel
theorem d1153_109 : decode (mb 1153) 109 = .ok (.iload_n 3, 1) := by decide +kernel
theorem d1153_110 : decode (mb 1153) 110 = .ok (.iaload, 1) := by decide +kernel
theorem d1153_111 : decode (mb 1153) 111 = .ok (.goto 4, 3) := by decide +kernel
theorem d1153_114 : decode (mb 1153) 114 = .ok (.iconst 0, 1) := by decide +kernel
theorem d1153_115 : decode (mb 1153) 115 = .ok (.iastore, 1) := by decide +kernel
theorem d1153_116 : decode (mb 1153) 116 = .ok (.aload_n 0, 1) := by decide +kernel
theorem d1153_117 : decode (mb 1153) 117 = .ok (.getfield 85, 3) := by decide +kernel
theorem d1153_120 : decode (mb 1153) 120 = .ok (.iload_n 3, 1) := by decide +kernel
theorem d1153_121 : decode (mb 1153) 121 = .ok (.iload_n 3, 1) := by decide +kernel
theorem d1153_122 : decode (mb 1153) 122 = .ok (.aload_n 0, 1) := by decide +kernel
theorem d1153_123 : decode (mb 1153) 123 = .ok (.getfield 7, 3) := by decide +kernel
theorem d1153_126 : decode (mb 1153) 126 = .ok (.iload_n 1, 1) := by decide +kernel
theorem d1153_127 : decode (mb 1153) 127 = .ok (.iaload, 1) := by decide +kernel
theorem d1153_128 : decode (mb 1153) 128 = .ok (.if_icmp .ge 12, 3) := by decide +kernel
theorem d1153_131 : decode (mb 1153) 131 = .ok (.aload_n 0, 1) := by decide +kernel
theorem d1153_132 : decode (mb 1153) 132 = .ok (.getfield 43, 3) := by decide +kernel
theorem d1153_135 : decode (mb 1153) 135 = .ok (.iload_n 3, 1) := by decide +kernel
theorem d1153_136 : decode (mb 1153) 136 = .ok (.iaload, 1) := by decide +kernel
theorem d1153_137 : decode (mb 1153) 137 = .ok (.goto 4, 3) := by decide +kernel
theorem d1153_140 : decode (mb 1153) 140 = .ok (.iconst 0, 1) := by decide +kernel
theorem d1153_141 : decode (mb 1153) 141 = .ok (.iastore, 1) := by decide +kernel
theorem d1153_142 : decode (mb 1153) 142 = .ok (.iinc 3 1, 3) := by decide +kernel
theorem d1153_145 : decode (mb 1153) 145 = .ok (.goto (-61), 3) := by decide +kernel
theorem d1153_148 : decode (mb 1153) 148 = .ok (.aload_n 0, 1) := by decide +kernel
theorem d1153_149 : decode (mb 1153) 149 = .ok (.iload_n 1, 1) := by decide +kernel
theorem d1153_150 : decode (mb 1153) 150 = .ok (.iconst 0, 1) := by decide +kernel
theorem d1153_151 : decode (mb 1153) 151 = .ok (.invokevirtual 223, 3) := by decide +kernel
theorem d1153_154 : decode (mb 1153) 154 = .ok (.ifCond .ne 7, 3) := by decide +kernel
theorem d1153_157 : decode (mb 1153) 157 = .ok (.aload_n 0, 1) := by decide +kernel
theorem d1153_158 : decode (mb 1153) 158 = .ok (.invokevirtual 183, 3) := by decide +kernel
theorem d1153_161 : decode (mb 1153) 161 = .ok (.aload_n 0, 1) := by decide +kernel
theorem d1153_162 : decode (mb 1153) 162 = .ok (.invokevirtual 287, 3) := by decide +kernel
theorem d1153_165 : decode (mb 1153) 165 = .ok (.return_, 1) := by decide +kernel
theorem x1153_0 {S : List Value} {h : HP} {l1 l2 l3 : Value} {a0 : Nat} : pX 1153 0 [.ref a0, l1, l2, l3] S h = pX 1153 1 [.ref a0, l1, l2, l3] (.ref a0 :: S) h := pX_stp d1153_0 rfl rfl rfl
theorem x1153_1 {S : List Value} {h : HP} {l0 l1 l3 : Value} {x0 : Int32} : pX 1153 1 [l0, l1, .int x0, l3] S h = pX 1153 2 [l0, l1, .int x0, l3] (.int x0 :: S) h := pX_stp d1153_1 rfl rfl rfl
theorem x1153_2 {L S : List Value} {h : HP} {a : Nat} {x : Int32} (hk : hp_k h a = 12) : pX 1153 2 L (.int x :: .ref a :: S) h = pX 1153 5 L S (hp_wi h a 37 x) := pX_put d1153_2 rfl rfl rfl hk
theorem x1153_5 {S : List Value} {h : HP} {l1 l2 l3 : Value} {a0 : Nat} : pX 1153 5 [.ref a0, l1, l2, l3] S h = pX 1153 6 [.ref a0, l1, l2, l3] (.ref a0 :: S) h := pX_stp d1153_5 rfl rfl rfl
theorem x1153_6 {L S : List Value} {h : HP} : pX 1153 6 L S h = pX 1153 7 L (.int 0 :: S) h := pX_iconst d1153_6 (by decide)
theorem x1153_7 {L S : List Value} {h : HP} {a : Nat} {x : Int32} (hk : hp_k h a = 12) : pX 1153 7 L (.int x :: .ref a :: S) h = pX 1153 10 L S (hp_wi h a 15 x) := pX_put d1153_7 rfl rfl rfl hk
theorem x1153_10 {S : List Value} {h : HP} {l1 l2 l3 : Value} {a0 : Nat} : pX 1153 10 [.ref a0, l1, l2, l3] S h = pX 1153 11 [.ref a0, l1, l2, l3] (.ref a0 :: S) h := pX_stp d1153_10 rfl rfl rfl
theorem x1153_11 {L S : List Value} {h : HP} : pX 1153 11 L S h = pX 1153 12 L (.int 0 :: S) h := pX_iconst d1153_11 (by decide)
theorem x1153_12 {L S : List Value} {h : HP} {a : Nat} {x : Int32} (hk : hp_k h a = 12) : pX 1153 12 L (.int x :: .ref a :: S) h = pX 1153 15 L S (hp_wi h a 16 x) := pX_put d1153_12 rfl rfl rfl hk
theorem x1153_15 {S : List Value} {h : HP} {l1 l2 l3 : Value} {a0 : Nat} : pX 1153 15 [.ref a0, l1, l2, l3] S h = pX 1153 16 [.ref a0, l1, l2, l3] (.ref a0 :: S) h := pX_stp d1153_15 rfl rfl rfl
theorem x1153_16 {L S : List Value} {h : HP} {a : Nat} (hk : hp_k h a = 12) : pX 1153 16 L (.ref a :: S) h = pX 1153 19 L (.ref (hp_a h a 43) :: S) h := pX_get d1153_16 rfl rfl hk
theorem x1153_19 {L S : List Value} {h : HP} : pX 1153 19 L S h = pX 1153 20 L (.int 1 :: S) h := pX_iconst d1153_19 (by decide)
theorem x1153_20 {L S : List Value} {h : HP} {x0 : Int32} {a0 : Nat} : pX 1153 20 L (.int x0 :: .ref a0 :: S) h = pX 1153 21 L (.int x0 :: .ref a0 :: .int x0 :: .ref a0 :: S) h := pX_stp d1153_20 rfl rfl rfl
theorem x1153_21 {L S : List Value} {h : HP} {a : Nat} {j : Int32} (hk : hp_k h a = 100) (hj : inb j (hp_l h a) = true) : pX 1153 21 L (.int j :: .ref a :: S) h = pX 1153 22 L (.int (hp_i h a (ix j)) :: S) h := pX_ild d1153_21 hk hj
theorem x1153_22 {L S : List Value} {h : HP} : pX 1153 22 L S h = pX 1153 23 L (.int 1 :: S) h := pX_iconst d1153_22 (by decide)
theorem x1153_23 {L S : List Value} {h : HP} {x y : Int32} : pX 1153 23 L (.int y :: .int x :: S) h = pX 1153 24 L (.int (x + y) :: S) h := pX_stp d1153_23 rfl rfl rfl
theorem x1153_24 {L S : List Value} {h : HP} {a : Nat} {j x : Int32} (hk : hp_k h a = 100) (hj : inb j (hp_l h a) = true) : pX 1153 24 L (.int x :: .int j :: .ref a :: S) h = pX 1153 25 L S (hp_wi h a (ix j) x) := pX_ist d1153_24 hk hj
theorem x1153_25 {S : List Value} {h : HP} {l1 l2 l3 : Value} {a0 : Nat} : pX 1153 25 [.ref a0, l1, l2, l3] S h = pX 1153 26 [.ref a0, l1, l2, l3] (.ref a0 :: S) h := pX_stp d1153_25 rfl rfl rfl
theorem x1153_26 {L S : List Value} {h : HP} : pX 1153 26 L S h = pX 1153 27 L (.int 0 :: S) h := pX_iconst d1153_26 (by decide)
theorem x1153_27 {L S : List Value} {h : HP} {a : Nat} {x : Int32} (hk : hp_k h a = 12) : pX 1153 27 L (.int x :: .ref a :: S) h = pX 1153 30 L S (hp_wi h a 41 x) := pX_put d1153_27 rfl rfl rfl hk
theorem x1153_30 {S : List Value} {h : HP} {l1 l2 l3 : Value} {a0 : Nat} : pX 1153 30 [.ref a0, l1, l2, l3] S h = pX 1153 31 [.ref a0, l1, l2, l3] (.ref a0 :: S) h := pX_stp d1153_30 rfl rfl rfl
theorem x1153_31 {L S : List Value} {h : HP} : pX 1153 31 L S h = pX 1153 32 L (.int 0 :: S) h := pX_iconst d1153_31 (by decide)
theorem x1153_32 {L S : List Value} {h : HP} {a : Nat} {x : Int32} (hk : hp_k h a = 12) : pX 1153 32 L (.int x :: .ref a :: S) h = pX 1153 35 L S (hp_wi h a 29 x) := pX_put d1153_32 rfl rfl rfl hk
theorem x1153_35 {L S : List Value} {h : HP} : pX 1153 35 L S h = pX 1153 36 L (.int 0 :: S) h := pX_iconst d1153_35 (by decide)
theorem x1153_36 {S : List Value} {h : HP} {l0 l1 l2 l3 : Value} {x0 : Int32} : pX 1153 36 [l0, l1, l2, l3] (.int x0 :: S) h = pX 1153 37 [l0, l1, l2, .int x0] S h := pX_stp d1153_36 rfl rfl rfl
theorem x1153_37 {S : List Value} {h : HP} {l0 l1 l2 : Value} {x0 : Int32} : pX 1153 37 [l0, l1, l2, .int x0] S h = pX 1153 38 [l0, l1, l2, .int x0] (.int x0 :: S) h := pX_stp d1153_37 rfl rfl rfl
theorem x1153_38 {L S : List Value} {h : HP} : pX 1153 38 L S h = pX 1153 40 L (.int 9 :: S) h := pX_bipush d1153_38 (by decide)
theorem x1153_40 {L S : List Value} {h : HP} {x y : Int32} : pX 1153 40 L (.int y :: .int x :: S) h = if y ≤ x then pX 1153 56 L S h else pX 1153 43 L S h := pX_icmp_ge d1153_40 (by decide)
theorem x1153_43 {S : List Value} {h : HP} {l1 l2 l3 : Value} {a0 : Nat} : pX 1153 43 [.ref a0, l1, l2, l3] S h = pX 1153 44 [.ref a0, l1, l2, l3] (.ref a0 :: S) h := pX_stp d1153_43 rfl rfl rfl
theorem x1153_44 {L S : List Value} {h : HP} {a : Nat} (hk : hp_k h a = 12) : pX 1153 44 L (.ref a :: S) h = pX 1153 47 L (.ref (hp_a h a 39) :: S) h := pX_get d1153_44 rfl rfl hk
theorem x1153_47 {S : List Value} {h : HP} {l0 l1 l2 : Value} {x0 : Int32} : pX 1153 47 [l0, l1, l2, .int x0] S h = pX 1153 48 [l0, l1, l2, .int x0] (.int x0 :: S) h := pX_stp d1153_47 rfl rfl rfl
theorem x1153_48 {L S : List Value} {h : HP} : pX 1153 48 L S h = pX 1153 49 L (.int 0 :: S) h := pX_iconst d1153_48 (by decide)
theorem x1153_49 {L S : List Value} {h : HP} {a : Nat} {j x : Int32} (hk : hp_k h a = 100) (hj : inb j (hp_l h a) = true) : pX 1153 49 L (.int x :: .int j :: .ref a :: S) h = pX 1153 50 L S (hp_wi h a (ix j) x) := pX_ist d1153_49 hk hj
theorem x1153_50 {S : List Value} {h : HP} {x0 : Int32} {l0 l1 l2 : Value} : pX 1153 50 [l0, l1, l2, .int x0] S h = pX 1153 53 [l0, l1, l2, .int (x0 + 1)] S h := pX_iinc (x := x0) d1153_50 (by decide) rfl (Nat.le_of_ble_eq_true rfl) rfl rfl
theorem x1153_53 {L S : List Value} {h : HP} : pX 1153 53 L S h = pX 1153 37 L S h := pX_goto d1153_53 (by decide)
theorem x1153_56 {L S : List Value} {h : HP} : pX 1153 56 L S h = pX 1153 57 L (.int 0 :: S) h := pX_iconst d1153_56 (by decide)
theorem x1153_57 {S : List Value} {h : HP} {l0 l1 l2 l3 : Value} {x0 : Int32} : pX 1153 57 [l0, l1, l2, l3] (.int x0 :: S) h = pX 1153 58 [l0, l1, l2, .int x0] S h := pX_stp d1153_57 rfl rfl rfl
theorem x1153_58 {S : List Value} {h : HP} {l0 l1 l2 : Value} {x0 : Int32} : pX 1153 58 [l0, l1, l2, .int x0] S h = pX 1153 59 [l0, l1, l2, .int x0] (.int x0 :: S) h := pX_stp d1153_58 rfl rfl rfl
theorem x1153_59 {L S : List Value} {h : HP} : pX 1153 59 L S h = pX 1153 61 L (.int 12 :: S) h := pX_bipush d1153_59 (by decide)
theorem x1153_61 {L S : List Value} {h : HP} {x y : Int32} : pX 1153 61 L (.int y :: .int x :: S) h = if y ≤ x then pX 1153 82 L S h else pX 1153 64 L S h := pX_icmp_ge d1153_61 (by decide)
theorem x1153_64 {S : List Value} {h : HP} {l1 l2 l3 : Value} {a0 : Nat} : pX 1153 64 [.ref a0, l1, l2, l3] S h = pX 1153 65 [.ref a0, l1, l2, l3] (.ref a0 :: S) h := pX_stp d1153_64 rfl rfl rfl
theorem x1153_65 {L S : List Value} {h : HP} {a : Nat} (hk : hp_k h a = 12) : pX 1153 65 L (.ref a :: S) h = pX 1153 68 L (.ref (hp_a h a 12) :: S) h := pX_get d1153_65 rfl rfl hk
theorem x1153_68 {S : List Value} {h : HP} {l0 l1 l2 : Value} {x0 : Int32} : pX 1153 68 [l0, l1, l2, .int x0] S h = pX 1153 69 [l0, l1, l2, .int x0] (.int x0 :: S) h := pX_stp d1153_68 rfl rfl rfl
theorem x1153_69 {S : List Value} {h : HP} {l1 l2 l3 : Value} {a0 : Nat} : pX 1153 69 [.ref a0, l1, l2, l3] S h = pX 1153 70 [.ref a0, l1, l2, l3] (.ref a0 :: S) h := pX_stp d1153_69 rfl rfl rfl
theorem x1153_70 {L S : List Value} {h : HP} {a : Nat} (hk : hp_k h a = 12) : pX 1153 70 L (.ref a :: S) h = pX 1153 73 L (.ref (hp_a h a 11) :: S) h := pX_get d1153_70 rfl rfl hk
theorem x1153_73 {S : List Value} {h : HP} {l0 l1 l2 : Value} {x0 : Int32} : pX 1153 73 [l0, l1, l2, .int x0] S h = pX 1153 74 [l0, l1, l2, .int x0] (.int x0 :: S) h := pX_stp d1153_73 rfl rfl rfl
theorem x1153_74 {L S : List Value} {h : HP} {a : Nat} {j : Int32} (hk : hp_k h a = 100) (hj : inb j (hp_l h a) = true) : pX 1153 74 L (.int j :: .ref a :: S) h = pX 1153 75 L (.int (hp_i h a (ix j)) :: S) h := pX_ild d1153_74 hk hj
theorem x1153_75 {L S : List Value} {h : HP} {a : Nat} {j x : Int32} (hk : hp_k h a = 100) (hj : inb j (hp_l h a) = true) : pX 1153 75 L (.int x :: .int j :: .ref a :: S) h = pX 1153 76 L S (hp_wi h a (ix j) x) := pX_ist d1153_75 hk hj
theorem x1153_76 {S : List Value} {h : HP} {x0 : Int32} {l0 l1 l2 : Value} : pX 1153 76 [l0, l1, l2, .int x0] S h = pX 1153 79 [l0, l1, l2, .int (x0 + 1)] S h := pX_iinc (x := x0) d1153_76 (by decide) rfl (Nat.le_of_ble_eq_true rfl) rfl rfl
theorem x1153_79 {L S : List Value} {h : HP} : pX 1153 79 L S h = pX 1153 58 L S h := pX_goto d1153_79 (by decide)
theorem x1153_82 {L S : List Value} {h : HP} : pX 1153 82 L S h = pX 1153 83 L (.int 0 :: S) h := pX_iconst d1153_82 (by decide)
theorem x1153_83 {S : List Value} {h : HP} {l0 l1 l2 l3 : Value} {x0 : Int32} : pX 1153 83 [l0, l1, l2, l3] (.int x0 :: S) h = pX 1153 84 [l0, l1, l2, .int x0] S h := pX_stp d1153_83 rfl rfl rfl
theorem x1153_84 {S : List Value} {h : HP} {l0 l1 l2 : Value} {x0 : Int32} : pX 1153 84 [l0, l1, l2, .int x0] S h = pX 1153 85 [l0, l1, l2, .int x0] (.int x0 :: S) h := pX_stp d1153_84 rfl rfl rfl
theorem x1153_85 {L S : List Value} {h : HP} : pX 1153 85 L S h = pX 1153 87 L (.int 8 :: S) h := pX_bipush d1153_85 (by decide)
theorem x1153_87 {L S : List Value} {h : HP} {x y : Int32} : pX 1153 87 L (.int y :: .int x :: S) h = if y ≤ x then pX 1153 148 L S h else pX 1153 90 L S h := pX_icmp_ge d1153_87 (by decide)
theorem x1153_90 {S : List Value} {h : HP} {l1 l2 l3 : Value} {a0 : Nat} : pX 1153 90 [.ref a0, l1, l2, l3] S h = pX 1153 91 [.ref a0, l1, l2, l3] (.ref a0 :: S) h := pX_stp d1153_90 rfl rfl rfl
theorem x1153_91 {L S : List Value} {h : HP} {a : Nat} (hk : hp_k h a = 12) : pX 1153 91 L (.ref a :: S) h = pX 1153 94 L (.ref (hp_a h a 33) :: S) h := pX_get d1153_91 rfl rfl hk
theorem x1153_94 {S : List Value} {h : HP} {l0 l1 l2 : Value} {x0 : Int32} : pX 1153 94 [l0, l1, l2, .int x0] S h = pX 1153 95 [l0, l1, l2, .int x0] (.int x0 :: S) h := pX_stp d1153_94 rfl rfl rfl
theorem x1153_95 {S : List Value} {h : HP} {l0 l1 l2 : Value} {x0 : Int32} : pX 1153 95 [l0, l1, l2, .int x0] S h = pX 1153 96 [l0, l1, l2, .int x0] (.int x0 :: S) h := pX_stp d1153_95 rfl rfl rfl
theorem x1153_96 {S : List Value} {h : HP} {l1 l2 l3 : Value} {a0 : Nat} : pX 1153 96 [.ref a0, l1, l2, l3] S h = pX 1153 97 [.ref a0, l1, l2, l3] (.ref a0 :: S) h := pX_stp d1153_96 rfl rfl rfl
theorem x1153_97 {L S : List Value} {h : HP} {a : Nat} (hk : hp_k h a = 12) : pX 1153 97 L (.ref a :: S) h = pX 1153 100 L (.ref (hp_a h a 1) :: S) h := pX_get d1153_97 rfl rfl hk
theorem x1153_100 {S : List Value} {h : HP} {l0 l2 l3 : Value} {x0 : Int32} : pX 1153 100 [l0, .int x0, l2, l3] S h = pX 1153 101 [l0, .int x0, l2, l3] (.int x0 :: S) h := pX_stp d1153_100 rfl rfl rfl
theorem x1153_101 {L S : List Value} {h : HP} {a : Nat} {j : Int32} (hk : hp_k h a = 100) (hj : inb j (hp_l h a) = true) : pX 1153 101 L (.int j :: .ref a :: S) h = pX 1153 102 L (.int (hp_i h a (ix j)) :: S) h := pX_ild d1153_101 hk hj
theorem x1153_102 {L S : List Value} {h : HP} {x y : Int32} : pX 1153 102 L (.int y :: .int x :: S) h = if y ≤ x then pX 1153 114 L S h else pX 1153 105 L S h := pX_icmp_ge d1153_102 (by decide)
theorem x1153_105 {S : List Value} {h : HP} {l1 l2 l3 : Value} {a0 : Nat} : pX 1153 105 [.ref a0, l1, l2, l3] S h = pX 1153 106 [.ref a0, l1, l2, l3] (.ref a0 :: S) h := pX_stp d1153_105 rfl rfl rfl
theorem x1153_106 {L S : List Value} {h : HP} {a : Nat} (hk : hp_k h a = 12) : pX 1153 106 L (.ref a :: S) h = pX 1153 109 L (.ref (hp_a h a 13) :: S) h := pX_get d1153_106 rfl rfl hk
theorem x1153_109 {S : List Value} {h : HP} {l0 l1 l2 : Value} {x0 : Int32} : pX 1153 109 [l0, l1, l2, .int x0] S h = pX 1153 110 [l0, l1, l2, .int x0] (.int x0 :: S) h := pX_stp d1153_109 rfl rfl rfl
theorem x1153_110 {L S : List Value} {h : HP} {a : Nat} {j : Int32} (hk : hp_k h a = 100) (hj : inb j (hp_l h a) = true) : pX 1153 110 L (.int j :: .ref a :: S) h = pX 1153 111 L (.int (hp_i h a (ix j)) :: S) h := pX_ild d1153_110 hk hj
theorem x1153_111 {L S : List Value} {h : HP} : pX 1153 111 L S h = pX 1153 115 L S h := pX_goto d1153_111 (by decide)
theorem x1153_114 {L S : List Value} {h : HP} : pX 1153 114 L S h = pX 1153 115 L (.int 0 :: S) h := pX_iconst d1153_114 (by decide)
theorem x1153_115 {L S : List Value} {h : HP} {a : Nat} {j x : Int32} (hk : hp_k h a = 100) (hj : inb j (hp_l h a) = true) : pX 1153 115 L (.int x :: .int j :: .ref a :: S) h = pX 1153 116 L S (hp_wi h a (ix j) x) := pX_ist d1153_115 hk hj
theorem x1153_116 {S : List Value} {h : HP} {l1 l2 l3 : Value} {a0 : Nat} : pX 1153 116 [.ref a0, l1, l2, l3] S h = pX 1153 117 [.ref a0, l1, l2, l3] (.ref a0 :: S) h := pX_stp d1153_116 rfl rfl rfl
theorem x1153_117 {L S : List Value} {h : HP} {a : Nat} (hk : hp_k h a = 12) : pX 1153 117 L (.ref a :: S) h = pX 1153 120 L (.ref (hp_a h a 34) :: S) h := pX_get d1153_117 rfl rfl hk
theorem x1153_120 {S : List Value} {h : HP} {l0 l1 l2 : Value} {x0 : Int32} : pX 1153 120 [l0, l1, l2, .int x0] S h = pX 1153 121 [l0, l1, l2, .int x0] (.int x0 :: S) h := pX_stp d1153_120 rfl rfl rfl
theorem x1153_121 {S : List Value} {h : HP} {l0 l1 l2 : Value} {x0 : Int32} : pX 1153 121 [l0, l1, l2, .int x0] S h = pX 1153 122 [l0, l1, l2, .int x0] (.int x0 :: S) h := pX_stp d1153_121 rfl rfl rfl
theorem x1153_122 {S : List Value} {h : HP} {l1 l2 l3 : Value} {a0 : Nat} : pX 1153 122 [.ref a0, l1, l2, l3] S h = pX 1153 123 [.ref a0, l1, l2, l3] (.ref a0 :: S) h := pX_stp d1153_122 rfl rfl rfl
theorem x1153_123 {L S : List Value} {h : HP} {a : Nat} (hk : hp_k h a = 12) : pX 1153 123 L (.ref a :: S) h = pX 1153 126 L (.ref (hp_a h a 1) :: S) h := pX_get d1153_123 rfl rfl hk
theorem x1153_126 {S : List Value} {h : HP} {l0 l2 l3 : Value} {x0 : Int32} : pX 1153 126 [l0, .int x0, l2, l3] S h = pX 1153 127 [l0, .int x0, l2, l3] (.int x0 :: S) h := pX_stp d1153_126 rfl rfl rfl
theorem x1153_127 {L S : List Value} {h : HP} {a : Nat} {j : Int32} (hk : hp_k h a = 100) (hj : inb j (hp_l h a) = true) : pX 1153 127 L (.int j :: .ref a :: S) h = pX 1153 128 L (.int (hp_i h a (ix j)) :: S) h := pX_ild d1153_127 hk hj
theorem x1153_128 {L S : List Value} {h : HP} {x y : Int32} : pX 1153 128 L (.int y :: .int x :: S) h = if y ≤ x then pX 1153 140 L S h else pX 1153 131 L S h := pX_icmp_ge d1153_128 (by decide)
theorem x1153_131 {S : List Value} {h : HP} {l1 l2 l3 : Value} {a0 : Nat} : pX 1153 131 [.ref a0, l1, l2, l3] S h = pX 1153 132 [.ref a0, l1, l2, l3] (.ref a0 :: S) h := pX_stp d1153_131 rfl rfl rfl
theorem x1153_132 {L S : List Value} {h : HP} {a : Nat} (hk : hp_k h a = 12) : pX 1153 132 L (.ref a :: S) h = pX 1153 135 L (.ref (hp_a h a 14) :: S) h := pX_get d1153_132 rfl rfl hk
theorem x1153_135 {S : List Value} {h : HP} {l0 l1 l2 : Value} {x0 : Int32} : pX 1153 135 [l0, l1, l2, .int x0] S h = pX 1153 136 [l0, l1, l2, .int x0] (.int x0 :: S) h := pX_stp d1153_135 rfl rfl rfl
theorem x1153_136 {L S : List Value} {h : HP} {a : Nat} {j : Int32} (hk : hp_k h a = 100) (hj : inb j (hp_l h a) = true) : pX 1153 136 L (.int j :: .ref a :: S) h = pX 1153 137 L (.int (hp_i h a (ix j)) :: S) h := pX_ild d1153_136 hk hj
theorem x1153_137 {L S : List Value} {h : HP} : pX 1153 137 L S h = pX 1153 141 L S h := pX_goto d1153_137 (by decide)
theorem x1153_140 {L S : List Value} {h : HP} : pX 1153 140 L S h = pX 1153 141 L (.int 0 :: S) h := pX_iconst d1153_140 (by decide)
theorem x1153_141 {L S : List Value} {h : HP} {a : Nat} {j x : Int32} (hk : hp_k h a = 100) (hj : inb j (hp_l h a) = true) : pX 1153 141 L (.int x :: .int j :: .ref a :: S) h = pX 1153 142 L S (hp_wi h a (ix j) x) := pX_ist d1153_141 hk hj
theorem x1153_142 {S : List Value} {h : HP} {x0 : Int32} {l0 l1 l2 : Value} : pX 1153 142 [l0, l1, l2, .int x0] S h = pX 1153 145 [l0, l1, l2, .int (x0 + 1)] S h := pX_iinc (x := x0) d1153_142 (by decide) rfl (Nat.le_of_ble_eq_true rfl) rfl rfl
theorem x1153_145 {L S : List Value} {h : HP} : pX 1153 145 L S h = pX 1153 84 L S h := pX_goto d1153_145 (by decide)
theorem x1153_148 {S : List Value} {h : HP} {l1 l2 l3 : Value} {a0 : Nat} : pX 1153 148 [.ref a0, l1, l2, l3] S h = pX 1153 149 [.ref a0, l1, l2, l3] (.ref a0 :: S) h := pX_stp d1153_148 rfl rfl rfl
theorem x1153_149 {S : List Value} {h : HP} {l0 l2 l3 : Value} {x0 : Int32} : pX 1153 149 [l0, .int x0, l2, l3] S h = pX 1153 150 [l0, .int x0, l2, l3] (.int x0 :: S) h := pX_stp d1153_149 rfl rfl rfl
theorem x1153_150 {L S : List Value} {h : HP} : pX 1153 150 L S h = pX 1153 151 L (.int 0 :: S) h := pX_iconst d1153_150 (by decide)
theorem x1153_151 {L : List Value} {h : HP} {x0 : Int32} {x1 : Int32} {a0 : Nat} (hk : hp_k h a0 = 12) : pX 1153 151 L [.int x0, .int x1, .ref a0] h = (pX 1125 0 [.ref a0, .int x1, .int x0] [] h).bind (fun q => pX 1153 154 L (q.1.toList ++ []) q.2) := pX_inv (a := a0) (t := 12) 1125 [.ref a0, .int x1, .int x0] [] d1153_151 rfl rfl rfl hk
theorem x1153_154 {L S : List Value} {h : HP} {x : Int32} : pX 1153 154 L (.int x :: S) h = if x = 0 then pX 1153 157 L S h else pX 1153 161 L S h := pX_if_ne d1153_154 (by decide)
theorem x1153_157 {S : List Value} {h : HP} {l1 l2 l3 : Value} {a0 : Nat} : pX 1153 157 [.ref a0, l1, l2, l3] S h = pX 1153 158 [.ref a0, l1, l2, l3] (.ref a0 :: S) h := pX_stp d1153_157 rfl rfl rfl
theorem x1153_158 {L : List Value} {h : HP} {a0 : Nat} (hk : hp_k h a0 = 12) : pX 1153 158 L [.ref a0] h = (pX 1126 0 [.ref a0, .retAddr 0] [] h).bind (fun q => pX 1153 161 L (q.1.toList ++ []) q.2) := pX_inv (a := a0) (t := 12) 1126 [.ref a0] [] d1153_158 rfl rfl rfl hk
theorem x1153_161 {S : List Value} {h : HP} {l1 l2 l3 : Value} {a0 : Nat} : pX 1153 161 [.ref a0, l1, l2, l3] S h = pX 1153 162 [.ref a0, l1, l2, l3] (.ref a0 :: S) h := pX_stp d1153_161 rfl rfl rfl
theorem x1153_162 {L : List Value} {h : HP} {a0 : Nat} (hk : hp_k h a0 = 12) : pX 1153 162 L [.ref a0] h = (pX 1151 0 [.ref a0] [] h).bind (fun q => pX 1153 165 L (q.1.toList ++ []) q.2) := pX_inv (a := a0) (t := 12) 1151 [.ref a0] [] d1153_162 rfl rfl rfl hk
theorem x1153_165 {L : List Value} {h : HP} : pX 1153 165 L [] h = some (none, h) := pX_ret d1153_165 rfl
theorem d1154_0 : decode (mb 1154) 0 = .ok (.aload_n 0, 1) := by decide +kernel
theorem d1154_1 : decode (mb 1154) 1 = .ok (.iload_n 1, 1) := by decide +kernel
theorem d1154_2 : decode (mb 1154) 2 = .ok (.invokevirtual 123, 3) := by decide +kernel
theorem d1154_5 : decode (mb 1154) 5 = .ok (.ifCond .ne 5, 3) := by decide +kernel
theorem d1154_8 : decode (mb 1154) 8 = .ok (.iconst (-1), 1) := by decide +kernel
theorem d1154_9 : decode (mb 1154) 9 = .ok (.ireturn, 1) := by decide +kernel
theorem d1154_10 : decode (mb 1154) 10 = .ok (.iload_n 2, 1) := by decide +kernel
theorem d1154_11 : decode (mb 1154) 11 = .ok (.iconst 0, 1) := by decide +kernel
theorem d1154_12 : decode (mb 1154) 12 = .ok (.sipush 1000, 3) := by decide +kernel
theorem d1154_15 : decode (mb 1154) 15 = .ok (.invokestatic 111, 3) := by decide +kernel
theorem d1154_18 : decode (mb 1154) 18 = .ok (.ifCond .ne 6, 3) := by decide +kernel
theorem d1154_21 : decode (mb 1154) 21 = .ok (.bipush (-2), 2) := by decide +kernel
theorem d1154_23 : decode (mb 1154) 23 = .ok (.ireturn, 1) := by decide +kernel
theorem d1154_24 : decode (mb 1154) 24 = .ok (.aload_n 0, 1) := by decide +kernel
theorem d1154_25 : decode (mb 1154) 25 = .ok (.getfield 115, 3) := by decide +kernel
theorem d1154_28 : decode (mb 1154) 28 = .ok (.ifCond .eq 6, 3) := by decide +kernel
theorem d1154_31 : decode (mb 1154) 31 = .ok (.bipush (-3), 2) := by decide +kernel
theorem d1154_33 : decode (mb 1154) 33 = .ok (.ireturn, 1) := by decide +kernel
theorem d1154_34 : decode (mb 1154) 34 = .ok (.aload_n 0, 1) := by decide +kernel
theorem d1154_35 : decode (mb 1154) 35 = .ok (.iload_n 1, 1) := by decide +kernel
theorem d1154_36 : decode (mb 1154) 36 = .ok (.iload_n 2, 1) := by decide +kernel
theorem d1154_37 : decode (mb 1154) 37 = .ok (.invokevirtual 290, 3) := by decide +kernel
theorem d1154_40 : decode (mb 1154) 40 = .ok (.aload_n 0, 1) := by decide +kernel
theorem d1154_41 : decode (mb 1154) 41 = .ok (.getfield 174, 3) := by decide +kernel
theorem d1154_44 : decode (mb 1154) 44 = .ok (.ifCond .le 10, 3) := by decide +kernel
theorem d1154_47 : decode (mb 1154) 47 = .ok (.aload_n 0, 1) := by decide +kernel
theorem d1154_48 : decode (mb 1154) 48 = .ok (.invokevirtual 293, 3) := by decide +kernel
theorem d1154_51 : decode (mb 1154) 51 = .ok (.goto (-11), 3) := by decide +kernel
theorem d1154_54 : decode (mb 1154) 54 = .ok (.aload_n 0, 1) := by decide +kernel
theorem d1154_55 : decode (mb 1154) 55 = .ok (.getfield 180, 3) := by decide +kernel
theorem d1154_58 : decode (mb 1154) 58 = .ok (.ireturn, 1) := by decide +kernel
theorem x1154_0 {S : List Value} {h : HP} {l1 l2 : Value} {a0 : Nat} : pX 1154 0 [.ref a0, l1, l2] S h = pX 1154 1 [.ref a0, l1, l2] (.ref a0 :: S) h := pX_stp d1154_0 rfl rfl rfl
theorem x1154_1 {S : List Value} {h : HP} {l0 l2 : Value} {x0 : Int32} : pX 1154 1 [l0, .int x0, l2] S h = pX 1154 2 [l0, .int x0, l2] (.int x0 :: S) h := pX_stp d1154_1 rfl rfl rfl
theorem x1154_2 {L : List Value} {h : HP} {x0 : Int32} {a0 : Nat} (hk : hp_k h a0 = 12) : pX 1154 2 L [.int x0, .ref a0] h = (pX 1102 0 [.ref a0, .int x0] [] h).bind (fun q => pX 1154 5 L (q.1.toList ++ []) q.2) := pX_inv (a := a0) (t := 12) 1102 [.ref a0, .int x0] [] d1154_2 rfl rfl rfl hk
theorem x1154_5 {L S : List Value} {h : HP} {x : Int32} : pX 1154 5 L (.int x :: S) h = if x = 0 then pX 1154 8 L S h else pX 1154 10 L S h := pX_if_ne d1154_5 (by decide)
theorem x1154_8 {L S : List Value} {h : HP} : pX 1154 8 L S h = pX 1154 9 L (.int (-1) :: S) h := pX_iconst d1154_8 (by decide)
theorem x1154_9 {L : List Value} {h : HP} {x : Int32} : pX 1154 9 L [.int x] h = some (some (.int x), h) := pX_ret d1154_9 rfl
theorem x1154_10 {S : List Value} {h : HP} {l0 l1 : Value} {x0 : Int32} : pX 1154 10 [l0, l1, .int x0] S h = pX 1154 11 [l0, l1, .int x0] (.int x0 :: S) h := pX_stp d1154_10 rfl rfl rfl
theorem x1154_11 {L S : List Value} {h : HP} : pX 1154 11 L S h = pX 1154 12 L (.int 0 :: S) h := pX_iconst d1154_11 (by decide)
theorem x1154_12 {L S : List Value} {h : HP} : pX 1154 12 L S h = pX 1154 15 L (.int 1000 :: S) h := pX_sipush d1154_12 (by decide)
theorem x1154_15 {L : List Value} {h : HP} {x0 : Int32} {x1 : Int32} {x2 : Int32} : pX 1154 15 L [.int x0, .int x1, .int x2] h = (pX 1101 0 [.int x2, .int x1, .int x0] [] h).bind (fun q => pX 1154 18 L (q.1.toList ++ []) q.2) := pX_ins 1101 [.int x2, .int x1, .int x0] [] d1154_15 rfl rfl rfl
theorem x1154_18 {L S : List Value} {h : HP} {x : Int32} : pX 1154 18 L (.int x :: S) h = if x = 0 then pX 1154 21 L S h else pX 1154 24 L S h := pX_if_ne d1154_18 (by decide)
theorem x1154_21 {L S : List Value} {h : HP} : pX 1154 21 L S h = pX 1154 23 L (.int (-2) :: S) h := pX_bipush d1154_21 (by decide)
theorem x1154_23 {L : List Value} {h : HP} {x : Int32} : pX 1154 23 L [.int x] h = some (some (.int x), h) := pX_ret d1154_23 rfl
theorem x1154_24 {S : List Value} {h : HP} {l1 l2 : Value} {a0 : Nat} : pX 1154 24 [.ref a0, l1, l2] S h = pX 1154 25 [.ref a0, l1, l2] (.ref a0 :: S) h := pX_stp d1154_24 rfl rfl rfl
theorem x1154_25 {L S : List Value} {h : HP} {a : Nat} (hk : hp_k h a = 12) : pX 1154 25 L (.ref a :: S) h = pX 1154 28 L (.int (hp_i h a 8) :: S) h := pX_get d1154_25 rfl rfl hk
theorem x1154_28 {L S : List Value} {h : HP} {x : Int32} : pX 1154 28 L (.int x :: S) h = if x = 0 then pX 1154 34 L S h else pX 1154 31 L S h := pX_if_eq d1154_28 (by decide)
theorem x1154_31 {L S : List Value} {h : HP} : pX 1154 31 L S h = pX 1154 33 L (.int (-3) :: S) h := pX_bipush d1154_31 (by decide)
theorem x1154_33 {L : List Value} {h : HP} {x : Int32} : pX 1154 33 L [.int x] h = some (some (.int x), h) := pX_ret d1154_33 rfl
theorem x1154_34 {S : List Value} {h : HP} {l1 l2 : Value} {a0 : Nat} : pX 1154 34 [.ref a0, l1, l2] S h = pX 1154 35 [.ref a0, l1, l2] (.ref a0 :: S) h := pX_stp d1154_34 rfl rfl rfl
theorem x1154_35 {S : List Value} {h : HP} {l0 l2 : Value} {x0 : Int32} : pX 1154 35 [l0, .int x0, l2] S h = pX 1154 36 [l0, .int x0, l2] (.int x0 :: S) h := pX_stp d1154_35 rfl rfl rfl
theorem x1154_36 {S : List Value} {h : HP} {l0 l1 : Value} {x0 : Int32} : pX 1154 36 [l0, l1, .int x0] S h = pX 1154 37 [l0, l1, .int x0] (.int x0 :: S) h := pX_stp d1154_36 rfl rfl rfl
theorem x1154_37 {L : List Value} {h : HP} {x0 : Int32} {x1 : Int32} {a0 : Nat} (hk : hp_k h a0 = 12) : pX 1154 37 L [.int x0, .int x1, .ref a0] h = (pX 1153 0 [.ref a0, .int x1, .int x0, .retAddr 0] [] h).bind (fun q => pX 1154 40 L (q.1.toList ++ []) q.2) := pX_inv (a := a0) (t := 12) 1153 [.ref a0, .int x1, .int x0] [] d1154_37 rfl rfl rfl hk
theorem x1154_40 {S : List Value} {h : HP} {l1 l2 : Value} {a0 : Nat} : pX 1154 40 [.ref a0, l1, l2] S h = pX 1154 41 [.ref a0, l1, l2] (.ref a0 :: S) h := pX_stp d1154_40 rfl rfl rfl
theorem x1154_41 {L S : List Value} {h : HP} {a : Nat} (hk : hp_k h a = 12) : pX 1154 41 L (.ref a :: S) h = pX 1154 44 L (.int (hp_i h a 29) :: S) h := pX_get d1154_41 rfl rfl hk
theorem x1154_44 {L S : List Value} {h : HP} {x : Int32} : pX 1154 44 L (.int x :: S) h = if x ≤ 0 then pX 1154 54 L S h else pX 1154 47 L S h := pX_if_le d1154_44 (by decide)
theorem x1154_47 {S : List Value} {h : HP} {l1 l2 : Value} {a0 : Nat} : pX 1154 47 [.ref a0, l1, l2] S h = pX 1154 48 [.ref a0, l1, l2] (.ref a0 :: S) h := pX_stp d1154_47 rfl rfl rfl
theorem x1154_48 {L : List Value} {h : HP} {a0 : Nat} (hk : hp_k h a0 = 12) : pX 1154 48 L [.ref a0] h = (pX 1152 0 [.ref a0, .retAddr 0, .retAddr 0, .retAddr 0] [] h).bind (fun q => pX 1154 51 L (q.1.toList ++ []) q.2) := pX_inv (a := a0) (t := 12) 1152 [.ref a0] [] d1154_48 rfl rfl rfl hk
theorem x1154_51 {L S : List Value} {h : HP} : pX 1154 51 L S h = pX 1154 40 L S h := pX_goto d1154_51 (by decide)
theorem x1154_54 {S : List Value} {h : HP} {l1 l2 : Value} {a0 : Nat} : pX 1154 54 [.ref a0, l1, l2] S h = pX 1154 55 [.ref a0, l1, l2] (.ref a0 :: S) h := pX_stp d1154_54 rfl rfl rfl
theorem x1154_55 {L S : List Value} {h : HP} {a : Nat} (hk : hp_k h a = 12) : pX 1154 55 L (.ref a :: S) h = pX 1154 58 L (.int (hp_i h a 44) :: S) h := pX_get d1154_55 rfl rfl hk
theorem x1154_58 {L : List Value} {h : HP} {x : Int32} : pX 1154 58 L [.int x] h = some (some (.int x), h) := pX_ret d1154_58 rfl
theorem d1155_0 : decode (mb 1155) 0 = .ok (.iload_n 1, 1) := by decide +kernel
theorem d1155_1 : decode (mb 1155) 1 = .ok (.tableswitch 75 0 2 #[27, 40, 53], 27) := by decide +kernel
theorem d1155_28 : decode (mb 1155) 28 = .ok (.aload_n 0, 1) := by decide +kernel
theorem d1155_29 : decode (mb 1155) 29 = .ok (.aload_n 0, 1) := by decide +kernel
theorem d1155_30 : decode (mb 1155) 30 = .ok (.getfield 147, 3) := by decide +kernel
theorem d1155_33 : decode (mb 1155) 33 = .ok (.aload_n 0, 1) := by decide +kernel
theorem d1155_34 : decode (mb 1155) 34 = .ok (.getfield 150, 3) := by decide +kernel
theorem d1155_37 : decode (mb 1155) 37 = .ok (.invokevirtual 153, 3) := by decide +kernel
theorem d1155_40 : decode (mb 1155) 40 = .ok (.ireturn, 1) := by decide +kernel
theorem d1155_41 : decode (mb 1155) 41 = .ok (.aload_n 0, 1) := by decide +kernel
theorem d1155_42 : decode (mb 1155) 42 = .ok (.aload_n 0, 1) := by decide +kernel
theorem d1155_43 : decode (mb 1155) 43 = .ok (.getfield 147, 3) := by decide +kernel
theorem d1155_46 : decode (mb 1155) 46 = .ok (.aload_n 0, 1) := by decide +kernel
theorem d1155_47 : decode (mb 1155) 47 = .ok (.getfield 150, 3) := by decide +kernel
theorem d1155_50 : decode (mb 1155) 50 = .ok (.invokevirtual 296, 3) := by decide +kernel
theorem d1155_53 : decode (mb 1155) 53 = .ok (.ireturn, 1) := by decide +kernel
theorem d1155_54 : decode (mb 1155) 54 = .ok (.aload_n 0, 1) := by decide +kernel
theorem d1155_55 : decode (mb 1155) 55 = .ok (.getfield 147, 3) := by decide +kernel
theorem d1155_58 : decode (mb 1155) 58 = .ok (.iconst 2, 1) := by decide +kernel
theorem d1155_59 : decode (mb 1155) 59 = .ok (.if_icmp .ne 15, 3) := by decide +kernel
theorem d1155_62 : decode (mb 1155) 62 = .ok (.aload_n 0, 1) := by decide +kernel
theorem d1155_63 : decode (mb 1155) 63 = .ok (.getfield 58, 3) := by decide +kernel
theorem d1155_66 : decode (mb 1155) 66 = .ok (.aload_n 0, 1) := by decide +kernel
theorem d1155_67 : decode (mb 1155) 67 = .ok (.getfield 150, 3) := by decide +kernel
theorem d1155_70 : decode (mb 1155) 70 = .ok (.iaload, 1) := by decide +kernel
theorem d1155_71 : decode (mb 1155) 71 = .ok (.goto 4, 3) := by decide +kernel
theorem d1155_74 : decode (mb 1155) 74 = .ok (.iconst 0, 1) := by decide +kernel
theorem d1155_75 : decode (mb 1155) 75 = .ok (.ireturn, 1) := by decide +kernel
theorem d1155_76 : decode (mb 1155) 76 = .ok (.bipush (-2), 2) := by decide +kernel
theorem d1155_78 : decode (mb 1155) 78 = .ok (.ireturn, 1) := by decide +kernel
theorem x1155_0 {S : List Value} {h : HP} {l0 : Value} {x0 : Int32} : pX 1155 0 [l0, .int x0] S h = pX 1155 1 [l0, .int x0] (.int x0 :: S) h := pX_stp d1155_0 rfl rfl rfl
theorem x1155_1_0 {L S : List Value} {h : HP} : pX 1155 1 L (.int 0 :: S) h = pX 1155 28 L S h := pX_tabIn (off := 27) d1155_1 (by decide) (by decide) (by decide) (by decide)
theorem x1155_1_1 {L S : List Value} {h : HP} : pX 1155 1 L (.int 1 :: S) h = pX 1155 41 L S h := pX_tabIn (off := 40) d1155_1 (by decide) (by decide) (by decide) (by decide)
theorem x1155_1_2 {L S : List Value} {h : HP} : pX 1155 1 L (.int 2 :: S) h = pX 1155 54 L S h := pX_tabIn (off := 53) d1155_1 (by decide) (by decide) (by decide) (by decide)
theorem x1155_1_d {L S : List Value} {h : HP} {x : Int32} (hx : x.toInt < 0 ∨ 2 < x.toInt) : pX 1155 1 L (.int x :: S) h = pX 1155 76 L S h := pX_tabOut d1155_1 hx (by decide)
theorem x1155_28 {S : List Value} {h : HP} {l1 : Value} {a0 : Nat} : pX 1155 28 [.ref a0, l1] S h = pX 1155 29 [.ref a0, l1] (.ref a0 :: S) h := pX_stp d1155_28 rfl rfl rfl
theorem x1155_29 {S : List Value} {h : HP} {l1 : Value} {a0 : Nat} : pX 1155 29 [.ref a0, l1] S h = pX 1155 30 [.ref a0, l1] (.ref a0 :: S) h := pX_stp d1155_29 rfl rfl rfl
theorem x1155_30 {L S : List Value} {h : HP} {a : Nat} (hk : hp_k h a = 12) : pX 1155 30 L (.ref a :: S) h = pX 1155 33 L (.int (hp_i h a 15) :: S) h := pX_get d1155_30 rfl rfl hk
theorem x1155_33 {S : List Value} {h : HP} {l1 : Value} {a0 : Nat} : pX 1155 33 [.ref a0, l1] S h = pX 1155 34 [.ref a0, l1] (.ref a0 :: S) h := pX_stp d1155_33 rfl rfl rfl
theorem x1155_34 {L S : List Value} {h : HP} {a : Nat} (hk : hp_k h a = 12) : pX 1155 34 L (.ref a :: S) h = pX 1155 37 L (.int (hp_i h a 16) :: S) h := pX_get d1155_34 rfl rfl hk
theorem x1155_37 {L : List Value} {h : HP} {x0 : Int32} {x1 : Int32} {a0 : Nat} (hk : hp_k h a0 = 12) : pX 1155 37 L [.int x0, .int x1, .ref a0] h = (pX 1119 0 [.ref a0, .int x1, .int x0] [] h).bind (fun q => pX 1155 40 L (q.1.toList ++ []) q.2) := pX_inv (a := a0) (t := 12) 1119 [.ref a0, .int x1, .int x0] [] d1155_37 rfl rfl rfl hk
theorem x1155_40 {L : List Value} {h : HP} {x : Int32} : pX 1155 40 L [.int x] h = some (some (.int x), h) := pX_ret d1155_40 rfl
theorem x1155_41 {S : List Value} {h : HP} {l1 : Value} {a0 : Nat} : pX 1155 41 [.ref a0, l1] S h = pX 1155 42 [.ref a0, l1] (.ref a0 :: S) h := pX_stp d1155_41 rfl rfl rfl
theorem x1155_42 {S : List Value} {h : HP} {l1 : Value} {a0 : Nat} : pX 1155 42 [.ref a0, l1] S h = pX 1155 43 [.ref a0, l1] (.ref a0 :: S) h := pX_stp d1155_42 rfl rfl rfl
theorem x1155_43 {L S : List Value} {h : HP} {a : Nat} (hk : hp_k h a = 12) : pX 1155 43 L (.ref a :: S) h = pX 1155 46 L (.int (hp_i h a 15) :: S) h := pX_get d1155_43 rfl rfl hk
theorem x1155_46 {S : List Value} {h : HP} {l1 : Value} {a0 : Nat} : pX 1155 46 [.ref a0, l1] S h = pX 1155 47 [.ref a0, l1] (.ref a0 :: S) h := pX_stp d1155_46 rfl rfl rfl
theorem x1155_47 {L S : List Value} {h : HP} {a : Nat} (hk : hp_k h a = 12) : pX 1155 47 L (.ref a :: S) h = pX 1155 50 L (.int (hp_i h a 16) :: S) h := pX_get d1155_47 rfl rfl hk
theorem x1155_50 {L : List Value} {h : HP} {x0 : Int32} {x1 : Int32} {a0 : Nat} (hk : hp_k h a0 = 12) : pX 1155 50 L [.int x0, .int x1, .ref a0] h = (pX 1120 0 [.ref a0, .int x1, .int x0] [] h).bind (fun q => pX 1155 53 L (q.1.toList ++ []) q.2) := pX_inv (a := a0) (t := 12) 1120 [.ref a0, .int x1, .int x0] [] d1155_50 rfl rfl rfl hk
theorem x1155_53 {L : List Value} {h : HP} {x : Int32} : pX 1155 53 L [.int x] h = some (some (.int x), h) := pX_ret d1155_53 rfl
theorem x1155_54 {S : List Value} {h : HP} {l1 : Value} {a0 : Nat} : pX 1155 54 [.ref a0, l1] S h = pX 1155 55 [.ref a0, l1] (.ref a0 :: S) h := pX_stp d1155_54 rfl rfl rfl
theorem x1155_55 {L S : List Value} {h : HP} {a : Nat} (hk : hp_k h a = 12) : pX 1155 55 L (.ref a :: S) h = pX 1155 58 L (.int (hp_i h a 15) :: S) h := pX_get d1155_55 rfl rfl hk
theorem x1155_58 {L S : List Value} {h : HP} : pX 1155 58 L S h = pX 1155 59 L (.int 2 :: S) h := pX_iconst d1155_58 (by decide)
theorem x1155_59 {L S : List Value} {h : HP} {x y : Int32} : pX 1155 59 L (.int y :: .int x :: S) h = if x = y then pX 1155 62 L S h else pX 1155 74 L S h := pX_icmp_ne d1155_59 (by decide)
theorem x1155_62 {S : List Value} {h : HP} {l1 : Value} {a0 : Nat} : pX 1155 62 [.ref a0, l1] S h = pX 1155 63 [.ref a0, l1] (.ref a0 :: S) h := pX_stp d1155_62 rfl rfl rfl
theorem x1155_63 {L S : List Value} {h : HP} {a : Nat} (hk : hp_k h a = 12) : pX 1155 63 L (.ref a :: S) h = pX 1155 66 L (.ref (hp_a h a 22) :: S) h := pX_get d1155_63 rfl rfl hk
theorem x1155_66 {S : List Value} {h : HP} {l1 : Value} {a0 : Nat} : pX 1155 66 [.ref a0, l1] S h = pX 1155 67 [.ref a0, l1] (.ref a0 :: S) h := pX_stp d1155_66 rfl rfl rfl
theorem x1155_67 {L S : List Value} {h : HP} {a : Nat} (hk : hp_k h a = 12) : pX 1155 67 L (.ref a :: S) h = pX 1155 70 L (.int (hp_i h a 16) :: S) h := pX_get d1155_67 rfl rfl hk
theorem x1155_70 {L S : List Value} {h : HP} {a : Nat} {j : Int32} (hk : hp_k h a = 100) (hj : inb j (hp_l h a) = true) : pX 1155 70 L (.int j :: .ref a :: S) h = pX 1155 71 L (.int (hp_i h a (ix j)) :: S) h := pX_ild d1155_70 hk hj
theorem x1155_71 {L S : List Value} {h : HP} : pX 1155 71 L S h = pX 1155 75 L S h := pX_goto d1155_71 (by decide)
theorem x1155_74 {L S : List Value} {h : HP} : pX 1155 74 L S h = pX 1155 75 L (.int 0 :: S) h := pX_iconst d1155_74 (by decide)
theorem x1155_75 {L : List Value} {h : HP} {x : Int32} : pX 1155 75 L [.int x] h = some (some (.int x), h) := pX_ret d1155_75 rfl
theorem x1155_76 {L S : List Value} {h : HP} : pX 1155 76 L S h = pX 1155 78 L (.int (-2) :: S) h := pX_bipush d1155_76 (by decide)
theorem x1155_78 {L : List Value} {h : HP} {x : Int32} : pX 1155 78 L [.int x] h = some (some (.int x), h) := pX_ret d1155_78 rfl
theorem d1156_0 : decode (mb 1156) 0 = .ok (.aload_n 0, 1) := by decide +kernel
theorem d1156_1 : decode (mb 1156) 1 = .ok (.getfield 147, 3) := by decide +kernel
theorem d1156_4 : decode (mb 1156) 4 = .ok (.iconst 2, 1) := by decide +kernel
theorem d1156_5 : decode (mb 1156) 5 = .ok (.if_icmp .ne 41, 3) := by decide +kernel
theorem d1156_8 : decode (mb 1156) 8 = .ok (.aload_n 0, 1) := by decide +kernel
theorem d1156_9 : decode (mb 1156) 9 = .ok (.getfield 150, 3) := by decide +kernel
theorem d1156_12 : decode (mb 1156) 12 = .ok (.istore_n 2, 1) := by decide +kernel
theorem d1156_13 : decode (mb 1156) 13 = .ok (.aload_n 0, 1) := by decide +kernel
theorem d1156_14 : decode (mb 1156) 14 = .ok (.aload_n 0, 1) := by decide +kernel
theorem d1156_15 : decode (mb 1156) 15 = .ok (.getfield 52, 3) := by decide +kernel
theorem d1156_18 : decode (mb 1156) 18 = .ok (.iload_n 2, 1) := by decide +kernel
theorem d1156_19 : decode (mb 1156) 19 = .ok (.iaload, 1) := by decide +kernel
theorem d1156_20 : decode (mb 1156) 20 = .ok (.putfield 147, 3) := by decide +kernel
theorem d1156_23 : decode (mb 1156) 23 = .ok (.aload_n 0, 1) := by decide +kernel
theorem d1156_24 : decode (mb 1156) 24 = .ok (.aload_n 0, 1) := by decide +kernel
theorem d1156_25 : decode (mb 1156) 25 = .ok (.getfield 55, 3) := by decide +kernel
theorem d1156_28 : decode (mb 1156) 28 = .ok (.iload_n 2, 1) := by decide +kernel
theorem d1156_29 : decode (mb 1156) 29 = .ok (.iaload, 1) := by decide +kernel
theorem d1156_30 : decode (mb 1156) 30 = .ok (.putfield 150, 3) := by decide +kernel
theorem d1156_33 : decode (mb 1156) 33 = .ok (.aload_n 0, 1) := by decide +kernel
theorem d1156_34 : decode (mb 1156) 34 = .ok (.aload_n 0, 1) := by decide +kernel
theorem d1156_35 : decode (mb 1156) 35 = .ok (.getfield 147, 3) := by decide +kernel
theorem d1156_38 : decode (mb 1156) 38 = .ok (.aload_n 0, 1) := by decide +kernel
theorem d1156_39 : decode (mb 1156) 39 = .ok (.getfield 150, 3) := by decide +kernel
theorem d1156_42 : decode (mb 1156) 42 = .ok (.invokevirtual 153, 3) := by decide +kernel
theorem d1156_45 : decode (mb 1156) 45 = .ok (.ireturn, 1) := by decide +kernel
theorem d1156_46 : decode (mb 1156) 46 = .ok (.aload_n 0, 1) := by decide +kernel
theorem d1156_47 : decode (mb 1156) 47 = .ok (.getfield 147, 3) := by decide +kernel
theorem d1156_50 : decode (mb 1156) 50 = .ok (.iconst 3, 1) := by decide +kernel
theorem d1156_51 : decode (mb 1156) 51 = .ok (.if_icmp .ne 16, 3) := by decide +kernel
theorem d1156_54 : decode (mb 1156) 54 = .ok (.aload_n 0, 1) := by decide +kernel
theorem d1156_55 : decode (mb 1156) 55 = .ok (.getfield 61, 3) := by decide +kernel
theorem d1156_58 : decode (mb 1156) 58 = .ok (.aload_n 0, 1) := by decide +kernel
theorem d1156_59 : decode (mb 1156) 59 = .ok (.getfield 150, 3) := by decide +kernel
theorem d1156_62 : decode (mb 1156) 62 = .ok (.iaload, 1) := by decide +kernel
theorem d1156_63 : decode (mb 1156) 63 = .ok (.iconst 4, 1) := by decide +kernel
theorem d1156_64 : decode (mb 1156) 64 = .ok (.if_icmp .eq 6, 3) := by decide +kernel
theorem d1156_67 : decode (mb 1156) 67 = .ok (.bipush (-3), 2) := by decide +kernel
theorem d1156_69 : decode (mb 1156) 69 = .ok (.ireturn, 1) := by decide +kernel
theorem d1156_70 : decode (mb 1156) 70 = .ok (.iload_n 1, 1) := by decide +kernel
theorem d1156_71 : decode (mb 1156) 71 = .ok (.iconst 0, 1) := by decide +kernel
theorem d1156_72 : decode (mb 1156) 72 = .ok (.aload_n 0, 1) := by decide +kernel
theorem d1156_73 : decode (mb 1156) 73 = .ok (.getfield 67, 3) := by decide +kernel
theorem d1156_76 : decode (mb 1156) 76 = .ok (.aload_n 0, 1) := by decide +kernel
theorem d1156_77 : decode (mb 1156) 77 = .ok (.getfield 150, 3) := by decide +kernel
theorem d1156_80 : decode (mb 1156) 80 = .ok (.iaload, 1) := by decide +kernel
theorem d1156_81 : decode (mb 1156) 81 = .ok (.iconst 1, 1) := by decide +kernel
theorem d1156_82 : decode (mb 1156) 82 = .ok (.isub, 1) := by decide +kernel
theorem d1156_83 : decode (mb 1156) 83 = .ok (.invokestatic 111, 3) := by decide +kernel
theorem d1156_86 : decode (mb 1156) 86 = .ok (.ifCond .ne 6, 3) := by decide +kernel
theorem d1156_89 : decode (mb 1156) 89 = .ok (.bipush (-2), 2) := by decide +kernel
theorem d1156_91 : decode (mb 1156) 91 = .ok (.ireturn, 1) := by decide +kernel
theorem d1156_92 : decode (mb 1156) 92 = .ok (.aload_n 0, 1) := by decide +kernel
theorem d1156_93 : decode (mb 1156) 93 = .ok (.getfield 70, 3) := by decide +kernel
theorem d1156_96 : decode (mb 1156) 96 = .ok (.aload_n 0, 1) := by decide +kernel
theorem d1156_97 : decode (mb 1156) 97 = .ok (.getfield 64, 3) := by decide +kernel
theorem d1156_100 : decode (mb 1156) 100 = .ok (.aload_n 0, 1) := by decide +kernel
theorem d1156_101 : decode (mb 1156) 101 = .ok (.getfield 150, 3) := by decide +kernel
theorem d1156_104 : decode (mb 1156) 104 = .ok (.iaload, 1) := by decide +kernel
theorem d1156_105 : decode (mb 1156) 105 = .ok (.iload_n 1, 1) := by decide +kernel
theorem d1156_106 : decode (mb 1156) 106 = .ok (.iadd, 1) := by decide +kernel
theorem d1156_107 : decode (mb 1156) 107 = .ok (.iaload, 1) := by decide +kernel
theorem d1156_108 : decode (mb 1156) 108 = .ok (.istore_n 2, 1) := by decide +kernel
theorem d1156_109 : decode (mb 1156) 109 = .ok (.aload_n 0, 1) := by decide +kernel
theorem d1156_110 : decode (mb 1156) 110 = .ok (.iload_n 2, 1) := by decide +kernel
theorem d1156_111 : decode (mb 1156) 111 = .ok (.ifCond .ne 7, 3) := by decide +kernel
theorem d1156_114 : decode (mb 1156) 114 = .ok (.iconst 0, 1) := by decide +kernel
theorem d1156_115 : decode (mb 1156) 115 = .ok (.goto 4, 3) := by decide +kernel
theorem d1156_118 : decode (mb 1156) 118 = .ok (.iconst 3, 1) := by decide +kernel
theorem d1156_119 : decode (mb 1156) 119 = .ok (.putfield 147, 3) := by decide +kernel
theorem d1156_122 : decode (mb 1156) 122 = .ok (.aload_n 0, 1) := by decide +kernel
theorem d1156_123 : decode (mb 1156) 123 = .ok (.iload_n 2, 1) := by decide +kernel
theorem d1156_124 : decode (mb 1156) 124 = .ok (.ifCond .ne 7, 3) := by decide +kernel
theorem d1156_127 : decode (mb 1156) 127 = .ok (.iconst 0, 1) := by decide +kernel
theorem d1156_128 : decode (mb 1156) 128 = .ok (.goto 6, 3) := by decide +kernel
theorem d1156_131 : decode (mb 1156) 131 = .ok (.iload_n 2, 1) := by decide +kernel
theorem d1156_132 : decode (mb 1156) 132 = .ok (.iconst 1, 1) := by decide +kernel
theorem d1156_133 : decode (mb 1156) 133 = .ok (.isub, 1) := by decide +kernel
theorem d1156_134 : decode (mb 1156) 134 = .ok (.putfield 150, 3) := by decide +kernel
theorem d1156_137 : decode (mb 1156) 137 = .ok (.aload_n 0, 1) := by decide +kernel
theorem d1156_138 : decode (mb 1156) 138 = .ok (.aload_n 0, 1) := by decide +kernel
theorem d1156_139 : decode (mb 1156) 139 = .ok (.getfield 147, 3) := by decide +kernel
theorem d1156_142 : decode (mb 1156) 142 = .ok (.aload_n 0, 1) := by decide +kernel
theorem d1156_143 : decode (mb 1156) 143 = .ok (.getfield 150, 3) := by decide +kernel
theorem d1156_146 : decode (mb 1156) 146 = .ok (.invokevirtual 153, 3) := by decide +kernel
theorem d1156_149 : decode (mb 1156) 149 = .ok (.ireturn, 1) := by decide +kernel
theorem x1156_0 {S : List Value} {h : HP} {l1 l2 : Value} {a0 : Nat} : pX 1156 0 [.ref a0, l1, l2] S h = pX 1156 1 [.ref a0, l1, l2] (.ref a0 :: S) h := pX_stp d1156_0 rfl rfl rfl
theorem x1156_1 {L S : List Value} {h : HP} {a : Nat} (hk : hp_k h a = 12) : pX 1156 1 L (.ref a :: S) h = pX 1156 4 L (.int (hp_i h a 15) :: S) h := pX_get d1156_1 rfl rfl hk
theorem x1156_4 {L S : List Value} {h : HP} : pX 1156 4 L S h = pX 1156 5 L (.int 2 :: S) h := pX_iconst d1156_4 (by decide)
theorem x1156_5 {L S : List Value} {h : HP} {x y : Int32} : pX 1156 5 L (.int y :: .int x :: S) h = if x = y then pX 1156 8 L S h else pX 1156 46 L S h := pX_icmp_ne d1156_5 (by decide)
theorem x1156_8 {S : List Value} {h : HP} {l1 l2 : Value} {a0 : Nat} : pX 1156 8 [.ref a0, l1, l2] S h = pX 1156 9 [.ref a0, l1, l2] (.ref a0 :: S) h := pX_stp d1156_8 rfl rfl rfl
theorem x1156_9 {L S : List Value} {h : HP} {a : Nat} (hk : hp_k h a = 12) : pX 1156 9 L (.ref a :: S) h = pX 1156 12 L (.int (hp_i h a 16) :: S) h := pX_get d1156_9 rfl rfl hk
theorem x1156_12 {S : List Value} {h : HP} {l0 l1 l2 : Value} {x0 : Int32} : pX 1156 12 [l0, l1, l2] (.int x0 :: S) h = pX 1156 13 [l0, l1, .int x0] S h := pX_stp d1156_12 rfl rfl rfl
theorem x1156_13 {S : List Value} {h : HP} {l1 l2 : Value} {a0 : Nat} : pX 1156 13 [.ref a0, l1, l2] S h = pX 1156 14 [.ref a0, l1, l2] (.ref a0 :: S) h := pX_stp d1156_13 rfl rfl rfl
theorem x1156_14 {S : List Value} {h : HP} {l1 l2 : Value} {a0 : Nat} : pX 1156 14 [.ref a0, l1, l2] S h = pX 1156 15 [.ref a0, l1, l2] (.ref a0 :: S) h := pX_stp d1156_14 rfl rfl rfl
theorem x1156_15 {L S : List Value} {h : HP} {a : Nat} (hk : hp_k h a = 12) : pX 1156 15 L (.ref a :: S) h = pX 1156 18 L (.ref (hp_a h a 20) :: S) h := pX_get d1156_15 rfl rfl hk
theorem x1156_18 {S : List Value} {h : HP} {l0 l1 : Value} {x0 : Int32} : pX 1156 18 [l0, l1, .int x0] S h = pX 1156 19 [l0, l1, .int x0] (.int x0 :: S) h := pX_stp d1156_18 rfl rfl rfl
theorem x1156_19 {L S : List Value} {h : HP} {a : Nat} {j : Int32} (hk : hp_k h a = 100) (hj : inb j (hp_l h a) = true) : pX 1156 19 L (.int j :: .ref a :: S) h = pX 1156 20 L (.int (hp_i h a (ix j)) :: S) h := pX_ild d1156_19 hk hj
theorem x1156_20 {L S : List Value} {h : HP} {a : Nat} {x : Int32} (hk : hp_k h a = 12) : pX 1156 20 L (.int x :: .ref a :: S) h = pX 1156 23 L S (hp_wi h a 15 x) := pX_put d1156_20 rfl rfl rfl hk
theorem x1156_23 {S : List Value} {h : HP} {l1 l2 : Value} {a0 : Nat} : pX 1156 23 [.ref a0, l1, l2] S h = pX 1156 24 [.ref a0, l1, l2] (.ref a0 :: S) h := pX_stp d1156_23 rfl rfl rfl
theorem x1156_24 {S : List Value} {h : HP} {l1 l2 : Value} {a0 : Nat} : pX 1156 24 [.ref a0, l1, l2] S h = pX 1156 25 [.ref a0, l1, l2] (.ref a0 :: S) h := pX_stp d1156_24 rfl rfl rfl
theorem x1156_25 {L S : List Value} {h : HP} {a : Nat} (hk : hp_k h a = 12) : pX 1156 25 L (.ref a :: S) h = pX 1156 28 L (.ref (hp_a h a 21) :: S) h := pX_get d1156_25 rfl rfl hk
theorem x1156_28 {S : List Value} {h : HP} {l0 l1 : Value} {x0 : Int32} : pX 1156 28 [l0, l1, .int x0] S h = pX 1156 29 [l0, l1, .int x0] (.int x0 :: S) h := pX_stp d1156_28 rfl rfl rfl
theorem x1156_29 {L S : List Value} {h : HP} {a : Nat} {j : Int32} (hk : hp_k h a = 100) (hj : inb j (hp_l h a) = true) : pX 1156 29 L (.int j :: .ref a :: S) h = pX 1156 30 L (.int (hp_i h a (ix j)) :: S) h := pX_ild d1156_29 hk hj
theorem x1156_30 {L S : List Value} {h : HP} {a : Nat} {x : Int32} (hk : hp_k h a = 12) : pX 1156 30 L (.int x :: .ref a :: S) h = pX 1156 33 L S (hp_wi h a 16 x) := pX_put d1156_30 rfl rfl rfl hk
theorem x1156_33 {S : List Value} {h : HP} {l1 l2 : Value} {a0 : Nat} : pX 1156 33 [.ref a0, l1, l2] S h = pX 1156 34 [.ref a0, l1, l2] (.ref a0 :: S) h := pX_stp d1156_33 rfl rfl rfl
theorem x1156_34 {S : List Value} {h : HP} {l1 l2 : Value} {a0 : Nat} : pX 1156 34 [.ref a0, l1, l2] S h = pX 1156 35 [.ref a0, l1, l2] (.ref a0 :: S) h := pX_stp d1156_34 rfl rfl rfl
theorem x1156_35 {L S : List Value} {h : HP} {a : Nat} (hk : hp_k h a = 12) : pX 1156 35 L (.ref a :: S) h = pX 1156 38 L (.int (hp_i h a 15) :: S) h := pX_get d1156_35 rfl rfl hk
theorem x1156_38 {S : List Value} {h : HP} {l1 l2 : Value} {a0 : Nat} : pX 1156 38 [.ref a0, l1, l2] S h = pX 1156 39 [.ref a0, l1, l2] (.ref a0 :: S) h := pX_stp d1156_38 rfl rfl rfl
theorem x1156_39 {L S : List Value} {h : HP} {a : Nat} (hk : hp_k h a = 12) : pX 1156 39 L (.ref a :: S) h = pX 1156 42 L (.int (hp_i h a 16) :: S) h := pX_get d1156_39 rfl rfl hk
theorem x1156_42 {L : List Value} {h : HP} {x0 : Int32} {x1 : Int32} {a0 : Nat} (hk : hp_k h a0 = 12) : pX 1156 42 L [.int x0, .int x1, .ref a0] h = (pX 1119 0 [.ref a0, .int x1, .int x0] [] h).bind (fun q => pX 1156 45 L (q.1.toList ++ []) q.2) := pX_inv (a := a0) (t := 12) 1119 [.ref a0, .int x1, .int x0] [] d1156_42 rfl rfl rfl hk
theorem x1156_45 {L : List Value} {h : HP} {x : Int32} : pX 1156 45 L [.int x] h = some (some (.int x), h) := pX_ret d1156_45 rfl
theorem x1156_46 {S : List Value} {h : HP} {l1 l2 : Value} {a0 : Nat} : pX 1156 46 [.ref a0, l1, l2] S h = pX 1156 47 [.ref a0, l1, l2] (.ref a0 :: S) h := pX_stp d1156_46 rfl rfl rfl
theorem x1156_47 {L S : List Value} {h : HP} {a : Nat} (hk : hp_k h a = 12) : pX 1156 47 L (.ref a :: S) h = pX 1156 50 L (.int (hp_i h a 15) :: S) h := pX_get d1156_47 rfl rfl hk
theorem x1156_50 {L S : List Value} {h : HP} : pX 1156 50 L S h = pX 1156 51 L (.int 3 :: S) h := pX_iconst d1156_50 (by decide)
theorem x1156_51 {L S : List Value} {h : HP} {x y : Int32} : pX 1156 51 L (.int y :: .int x :: S) h = if x = y then pX 1156 54 L S h else pX 1156 67 L S h := pX_icmp_ne d1156_51 (by decide)
theorem x1156_54 {S : List Value} {h : HP} {l1 l2 : Value} {a0 : Nat} : pX 1156 54 [.ref a0, l1, l2] S h = pX 1156 55 [.ref a0, l1, l2] (.ref a0 :: S) h := pX_stp d1156_54 rfl rfl rfl
theorem x1156_55 {L S : List Value} {h : HP} {a : Nat} (hk : hp_k h a = 12) : pX 1156 55 L (.ref a :: S) h = pX 1156 58 L (.ref (hp_a h a 24) :: S) h := pX_get d1156_55 rfl rfl hk
theorem x1156_58 {S : List Value} {h : HP} {l1 l2 : Value} {a0 : Nat} : pX 1156 58 [.ref a0, l1, l2] S h = pX 1156 59 [.ref a0, l1, l2] (.ref a0 :: S) h := pX_stp d1156_58 rfl rfl rfl
theorem x1156_59 {L S : List Value} {h : HP} {a : Nat} (hk : hp_k h a = 12) : pX 1156 59 L (.ref a :: S) h = pX 1156 62 L (.int (hp_i h a 16) :: S) h := pX_get d1156_59 rfl rfl hk
theorem x1156_62 {L S : List Value} {h : HP} {a : Nat} {j : Int32} (hk : hp_k h a = 100) (hj : inb j (hp_l h a) = true) : pX 1156 62 L (.int j :: .ref a :: S) h = pX 1156 63 L (.int (hp_i h a (ix j)) :: S) h := pX_ild d1156_62 hk hj
theorem x1156_63 {L S : List Value} {h : HP} : pX 1156 63 L S h = pX 1156 64 L (.int 4 :: S) h := pX_iconst d1156_63 (by decide)
theorem x1156_64 {L S : List Value} {h : HP} {x y : Int32} : pX 1156 64 L (.int y :: .int x :: S) h = if x = y then pX 1156 70 L S h else pX 1156 67 L S h := pX_icmp_eq d1156_64 (by decide)
theorem x1156_67 {L S : List Value} {h : HP} : pX 1156 67 L S h = pX 1156 69 L (.int (-3) :: S) h := pX_bipush d1156_67 (by decide)
theorem x1156_69 {L : List Value} {h : HP} {x : Int32} : pX 1156 69 L [.int x] h = some (some (.int x), h) := pX_ret d1156_69 rfl
theorem x1156_70 {S : List Value} {h : HP} {l0 l2 : Value} {x0 : Int32} : pX 1156 70 [l0, .int x0, l2] S h = pX 1156 71 [l0, .int x0, l2] (.int x0 :: S) h := pX_stp d1156_70 rfl rfl rfl
theorem x1156_71 {L S : List Value} {h : HP} : pX 1156 71 L S h = pX 1156 72 L (.int 0 :: S) h := pX_iconst d1156_71 (by decide)
theorem x1156_72 {S : List Value} {h : HP} {l1 l2 : Value} {a0 : Nat} : pX 1156 72 [.ref a0, l1, l2] S h = pX 1156 73 [.ref a0, l1, l2] (.ref a0 :: S) h := pX_stp d1156_72 rfl rfl rfl
theorem x1156_73 {L S : List Value} {h : HP} {a : Nat} (hk : hp_k h a = 12) : pX 1156 73 L (.ref a :: S) h = pX 1156 76 L (.ref (hp_a h a 26) :: S) h := pX_get d1156_73 rfl rfl hk
theorem x1156_76 {S : List Value} {h : HP} {l1 l2 : Value} {a0 : Nat} : pX 1156 76 [.ref a0, l1, l2] S h = pX 1156 77 [.ref a0, l1, l2] (.ref a0 :: S) h := pX_stp d1156_76 rfl rfl rfl
theorem x1156_77 {L S : List Value} {h : HP} {a : Nat} (hk : hp_k h a = 12) : pX 1156 77 L (.ref a :: S) h = pX 1156 80 L (.int (hp_i h a 16) :: S) h := pX_get d1156_77 rfl rfl hk
theorem x1156_80 {L S : List Value} {h : HP} {a : Nat} {j : Int32} (hk : hp_k h a = 100) (hj : inb j (hp_l h a) = true) : pX 1156 80 L (.int j :: .ref a :: S) h = pX 1156 81 L (.int (hp_i h a (ix j)) :: S) h := pX_ild d1156_80 hk hj
theorem x1156_81 {L S : List Value} {h : HP} : pX 1156 81 L S h = pX 1156 82 L (.int 1 :: S) h := pX_iconst d1156_81 (by decide)
theorem x1156_82 {L S : List Value} {h : HP} {x y : Int32} : pX 1156 82 L (.int y :: .int x :: S) h = pX 1156 83 L (.int (x - y) :: S) h := pX_stp d1156_82 rfl rfl rfl
theorem x1156_83 {L : List Value} {h : HP} {x0 : Int32} {x1 : Int32} {x2 : Int32} : pX 1156 83 L [.int x0, .int x1, .int x2] h = (pX 1101 0 [.int x2, .int x1, .int x0] [] h).bind (fun q => pX 1156 86 L (q.1.toList ++ []) q.2) := pX_ins 1101 [.int x2, .int x1, .int x0] [] d1156_83 rfl rfl rfl
theorem x1156_86 {L S : List Value} {h : HP} {x : Int32} : pX 1156 86 L (.int x :: S) h = if x = 0 then pX 1156 89 L S h else pX 1156 92 L S h := pX_if_ne d1156_86 (by decide)
theorem x1156_89 {L S : List Value} {h : HP} : pX 1156 89 L S h = pX 1156 91 L (.int (-2) :: S) h := pX_bipush d1156_89 (by decide)
theorem x1156_91 {L : List Value} {h : HP} {x : Int32} : pX 1156 91 L [.int x] h = some (some (.int x), h) := pX_ret d1156_91 rfl
theorem x1156_92 {S : List Value} {h : HP} {l1 l2 : Value} {a0 : Nat} : pX 1156 92 [.ref a0, l1, l2] S h = pX 1156 93 [.ref a0, l1, l2] (.ref a0 :: S) h := pX_stp d1156_92 rfl rfl rfl
theorem x1156_93 {L S : List Value} {h : HP} {a : Nat} (hk : hp_k h a = 12) : pX 1156 93 L (.ref a :: S) h = pX 1156 96 L (.ref (hp_a h a 27) :: S) h := pX_get d1156_93 rfl rfl hk
theorem x1156_96 {S : List Value} {h : HP} {l1 l2 : Value} {a0 : Nat} : pX 1156 96 [.ref a0, l1, l2] S h = pX 1156 97 [.ref a0, l1, l2] (.ref a0 :: S) h := pX_stp d1156_96 rfl rfl rfl
theorem x1156_97 {L S : List Value} {h : HP} {a : Nat} (hk : hp_k h a = 12) : pX 1156 97 L (.ref a :: S) h = pX 1156 100 L (.ref (hp_a h a 25) :: S) h := pX_get d1156_97 rfl rfl hk
theorem x1156_100 {S : List Value} {h : HP} {l1 l2 : Value} {a0 : Nat} : pX 1156 100 [.ref a0, l1, l2] S h = pX 1156 101 [.ref a0, l1, l2] (.ref a0 :: S) h := pX_stp d1156_100 rfl rfl rfl
theorem x1156_101 {L S : List Value} {h : HP} {a : Nat} (hk : hp_k h a = 12) : pX 1156 101 L (.ref a :: S) h = pX 1156 104 L (.int (hp_i h a 16) :: S) h := pX_get d1156_101 rfl rfl hk
theorem x1156_104 {L S : List Value} {h : HP} {a : Nat} {j : Int32} (hk : hp_k h a = 100) (hj : inb j (hp_l h a) = true) : pX 1156 104 L (.int j :: .ref a :: S) h = pX 1156 105 L (.int (hp_i h a (ix j)) :: S) h := pX_ild d1156_104 hk hj
theorem x1156_105 {S : List Value} {h : HP} {l0 l2 : Value} {x0 : Int32} : pX 1156 105 [l0, .int x0, l2] S h = pX 1156 106 [l0, .int x0, l2] (.int x0 :: S) h := pX_stp d1156_105 rfl rfl rfl
theorem x1156_106 {L S : List Value} {h : HP} {x y : Int32} : pX 1156 106 L (.int y :: .int x :: S) h = pX 1156 107 L (.int (x + y) :: S) h := pX_stp d1156_106 rfl rfl rfl
theorem x1156_107 {L S : List Value} {h : HP} {a : Nat} {j : Int32} (hk : hp_k h a = 100) (hj : inb j (hp_l h a) = true) : pX 1156 107 L (.int j :: .ref a :: S) h = pX 1156 108 L (.int (hp_i h a (ix j)) :: S) h := pX_ild d1156_107 hk hj
theorem x1156_108 {S : List Value} {h : HP} {l0 l1 l2 : Value} {x0 : Int32} : pX 1156 108 [l0, l1, l2] (.int x0 :: S) h = pX 1156 109 [l0, l1, .int x0] S h := pX_stp d1156_108 rfl rfl rfl
theorem x1156_109 {S : List Value} {h : HP} {l1 l2 : Value} {a0 : Nat} : pX 1156 109 [.ref a0, l1, l2] S h = pX 1156 110 [.ref a0, l1, l2] (.ref a0 :: S) h := pX_stp d1156_109 rfl rfl rfl
theorem x1156_110 {S : List Value} {h : HP} {l0 l1 : Value} {x0 : Int32} : pX 1156 110 [l0, l1, .int x0] S h = pX 1156 111 [l0, l1, .int x0] (.int x0 :: S) h := pX_stp d1156_110 rfl rfl rfl
theorem x1156_111 {L S : List Value} {h : HP} {x : Int32} : pX 1156 111 L (.int x :: S) h = if x = 0 then pX 1156 114 L S h else pX 1156 118 L S h := pX_if_ne d1156_111 (by decide)
theorem x1156_114 {L S : List Value} {h : HP} : pX 1156 114 L S h = pX 1156 115 L (.int 0 :: S) h := pX_iconst d1156_114 (by decide)
theorem x1156_115 {L S : List Value} {h : HP} : pX 1156 115 L S h = pX 1156 119 L S h := pX_goto d1156_115 (by decide)
theorem x1156_118 {L S : List Value} {h : HP} : pX 1156 118 L S h = pX 1156 119 L (.int 3 :: S) h := pX_iconst d1156_118 (by decide)
theorem x1156_119 {L S : List Value} {h : HP} {a : Nat} {x : Int32} (hk : hp_k h a = 12) : pX 1156 119 L (.int x :: .ref a :: S) h = pX 1156 122 L S (hp_wi h a 15 x) := pX_put d1156_119 rfl rfl rfl hk
theorem x1156_122 {S : List Value} {h : HP} {l1 l2 : Value} {a0 : Nat} : pX 1156 122 [.ref a0, l1, l2] S h = pX 1156 123 [.ref a0, l1, l2] (.ref a0 :: S) h := pX_stp d1156_122 rfl rfl rfl
theorem x1156_123 {S : List Value} {h : HP} {l0 l1 : Value} {x0 : Int32} : pX 1156 123 [l0, l1, .int x0] S h = pX 1156 124 [l0, l1, .int x0] (.int x0 :: S) h := pX_stp d1156_123 rfl rfl rfl
theorem x1156_124 {L S : List Value} {h : HP} {x : Int32} : pX 1156 124 L (.int x :: S) h = if x = 0 then pX 1156 127 L S h else pX 1156 131 L S h := pX_if_ne d1156_124 (by decide)
theorem x1156_127 {L S : List Value} {h : HP} : pX 1156 127 L S h = pX 1156 128 L (.int 0 :: S) h := pX_iconst d1156_127 (by decide)
theorem x1156_128 {L S : List Value} {h : HP} : pX 1156 128 L S h = pX 1156 134 L S h := pX_goto d1156_128 (by decide)
theorem x1156_131 {S : List Value} {h : HP} {l0 l1 : Value} {x0 : Int32} : pX 1156 131 [l0, l1, .int x0] S h = pX 1156 132 [l0, l1, .int x0] (.int x0 :: S) h := pX_stp d1156_131 rfl rfl rfl
theorem x1156_132 {L S : List Value} {h : HP} : pX 1156 132 L S h = pX 1156 133 L (.int 1 :: S) h := pX_iconst d1156_132 (by decide)
theorem x1156_133 {L S : List Value} {h : HP} {x y : Int32} : pX 1156 133 L (.int y :: .int x :: S) h = pX 1156 134 L (.int (x - y) :: S) h := pX_stp d1156_133 rfl rfl rfl
theorem x1156_134 {L S : List Value} {h : HP} {a : Nat} {x : Int32} (hk : hp_k h a = 12) : pX 1156 134 L (.int x :: .ref a :: S) h = pX 1156 137 L S (hp_wi h a 16 x) := pX_put d1156_134 rfl rfl rfl hk
theorem x1156_137 {S : List Value} {h : HP} {l1 l2 : Value} {a0 : Nat} : pX 1156 137 [.ref a0, l1, l2] S h = pX 1156 138 [.ref a0, l1, l2] (.ref a0 :: S) h := pX_stp d1156_137 rfl rfl rfl
theorem x1156_138 {S : List Value} {h : HP} {l1 l2 : Value} {a0 : Nat} : pX 1156 138 [.ref a0, l1, l2] S h = pX 1156 139 [.ref a0, l1, l2] (.ref a0 :: S) h := pX_stp d1156_138 rfl rfl rfl
theorem x1156_139 {L S : List Value} {h : HP} {a : Nat} (hk : hp_k h a = 12) : pX 1156 139 L (.ref a :: S) h = pX 1156 142 L (.int (hp_i h a 15) :: S) h := pX_get d1156_139 rfl rfl hk
theorem x1156_142 {S : List Value} {h : HP} {l1 l2 : Value} {a0 : Nat} : pX 1156 142 [.ref a0, l1, l2] S h = pX 1156 143 [.ref a0, l1, l2] (.ref a0 :: S) h := pX_stp d1156_142 rfl rfl rfl
theorem x1156_143 {L S : List Value} {h : HP} {a : Nat} (hk : hp_k h a = 12) : pX 1156 143 L (.ref a :: S) h = pX 1156 146 L (.int (hp_i h a 16) :: S) h := pX_get d1156_143 rfl rfl hk
theorem x1156_146 {L : List Value} {h : HP} {x0 : Int32} {x1 : Int32} {a0 : Nat} (hk : hp_k h a0 = 12) : pX 1156 146 L [.int x0, .int x1, .ref a0] h = (pX 1119 0 [.ref a0, .int x1, .int x0] [] h).bind (fun q => pX 1156 149 L (q.1.toList ++ []) q.2) := pX_inv (a := a0) (t := 12) 1119 [.ref a0, .int x1, .int x0] [] d1156_146 rfl rfl rfl hk
theorem x1156_149 {L : List Value} {h : HP} {x : Int32} : pX 1156 149 L [.int x] h = some (some (.int x), h) := pX_ret d1156_149 rfl
theorem d1157_0 : decode (mb 1157) 0 = .ok (.aload_n 0, 1) := by decide +kernel
theorem d1157_1 : decode (mb 1157) 1 = .ok (.getfield 147, 3) := by decide +kernel
theorem d1157_4 : decode (mb 1157) 4 = .ok (.iconst 3, 1) := by decide +kernel
theorem d1157_5 : decode (mb 1157) 5 = .ok (.if_icmp .ne 54, 3) := by decide +kernel
theorem d1157_8 : decode (mb 1157) 8 = .ok (.aload_n 0, 1) := by decide +kernel
theorem d1157_9 : decode (mb 1157) 9 = .ok (.getfield 61, 3) := by decide +kernel
theorem d1157_12 : decode (mb 1157) 12 = .ok (.aload_n 0, 1) := by decide +kernel
theorem d1157_13 : decode (mb 1157) 13 = .ok (.getfield 150, 3) := by decide +kernel
theorem d1157_16 : decode (mb 1157) 16 = .ok (.iaload, 1) := by decide +kernel
theorem d1157_17 : decode (mb 1157) 17 = .ok (.iconst 4, 1) := by decide +kernel
theorem d1157_18 : decode (mb 1157) 18 = .ok (.if_icmp .ge 41, 3) := by decide +kernel
theorem d1157_21 : decode (mb 1157) 21 = .ok (.iload_n 1, 1) := by decide +kernel
theorem d1157_22 : decode (mb 1157) 22 = .ok (.iconst 0, 1) := by decide +kernel
theorem d1157_23 : decode (mb 1157) 23 = .ok (.aload_n 0, 1) := by decide +kernel
theorem d1157_24 : decode (mb 1157) 24 = .ok (.getfield 67, 3) := by decide +kernel
theorem d1157_27 : decode (mb 1157) 27 = .ok (.aload_n 0, 1) := by decide +kernel
theorem d1157_28 : decode (mb 1157) 28 = .ok (.getfield 150, 3) := by decide +kernel
theorem d1157_31 : decode (mb 1157) 31 = .ok (.iaload, 1) := by decide +kernel
theorem d1157_32 : decode (mb 1157) 32 = .ok (.iconst 1, 1) := by decide +kernel
theorem d1157_33 : decode (mb 1157) 33 = .ok (.isub, 1) := by decide +kernel
theorem d1157_34 : decode (mb 1157) 34 = .ok (.invokestatic 111, 3) := by decide +kernel
theorem d1157_37 : decode (mb 1157) 37 = .ok (.ifCond .eq 22, 3) := by decide +kernel
theorem d1157_40 : decode (mb 1157) 40 = .ok (.aload_n 0, 1) := by decide +kernel
theorem d1157_41 : decode (mb 1157) 41 = .ok (.getfield 70, 3) := by decide +kernel
theorem d1157_44 : decode (mb 1157) 44 = .ok (.aload_n 0, 1) := by decide +kernel
theorem d1157_45 : decode (mb 1157) 45 = .ok (.getfield 64, 3) := by decide +kernel
theorem d1157_48 : decode (mb 1157) 48 = .ok (.aload_n 0, 1) := by decide +kernel
theorem d1157_49 : decode (mb 1157) 49 = .ok (.getfield 150, 3) := by decide +kernel
theorem d1157_52 : decode (mb 1157) 52 = .ok (.iaload, 1) := by decide +kernel
theorem d1157_53 : decode (mb 1157) 53 = .ok (.iload_n 1, 1) := by decide +kernel
theorem d1157_54 : decode (mb 1157) 54 = .ok (.iadd, 1) := by decide +kernel
theorem d1157_55 : decode (mb 1157) 55 = .ok (.iaload, 1) := by decide +kernel
theorem d1157_56 : decode (mb 1157) 56 = .ok (.goto 4, 3) := by decide +kernel
theorem d1157_59 : decode (mb 1157) 59 = .ok (.iconst 0, 1) := by decide +kernel
theorem d1157_60 : decode (mb 1157) 60 = .ok (.ireturn, 1) := by decide +kernel
theorem x1157_0 {S : List Value} {h : HP} {l1 : Value} {a0 : Nat} : pX 1157 0 [.ref a0, l1] S h = pX 1157 1 [.ref a0, l1] (.ref a0 :: S) h := pX_stp d1157_0 rfl rfl rfl
theorem x1157_1 {L S : List Value} {h : HP} {a : Nat} (hk : hp_k h a = 12) : pX 1157 1 L (.ref a :: S) h = pX 1157 4 L (.int (hp_i h a 15) :: S) h := pX_get d1157_1 rfl rfl hk
theorem x1157_4 {L S : List Value} {h : HP} : pX 1157 4 L S h = pX 1157 5 L (.int 3 :: S) h := pX_iconst d1157_4 (by decide)
theorem x1157_5 {L S : List Value} {h : HP} {x y : Int32} : pX 1157 5 L (.int y :: .int x :: S) h = if x = y then pX 1157 8 L S h else pX 1157 59 L S h := pX_icmp_ne d1157_5 (by decide)
theorem x1157_8 {S : List Value} {h : HP} {l1 : Value} {a0 : Nat} : pX 1157 8 [.ref a0, l1] S h = pX 1157 9 [.ref a0, l1] (.ref a0 :: S) h := pX_stp d1157_8 rfl rfl rfl
theorem x1157_9 {L S : List Value} {h : HP} {a : Nat} (hk : hp_k h a = 12) : pX 1157 9 L (.ref a :: S) h = pX 1157 12 L (.ref (hp_a h a 24) :: S) h := pX_get d1157_9 rfl rfl hk
theorem x1157_12 {S : List Value} {h : HP} {l1 : Value} {a0 : Nat} : pX 1157 12 [.ref a0, l1] S h = pX 1157 13 [.ref a0, l1] (.ref a0 :: S) h := pX_stp d1157_12 rfl rfl rfl
theorem x1157_13 {L S : List Value} {h : HP} {a : Nat} (hk : hp_k h a = 12) : pX 1157 13 L (.ref a :: S) h = pX 1157 16 L (.int (hp_i h a 16) :: S) h := pX_get d1157_13 rfl rfl hk
theorem x1157_16 {L S : List Value} {h : HP} {a : Nat} {j : Int32} (hk : hp_k h a = 100) (hj : inb j (hp_l h a) = true) : pX 1157 16 L (.int j :: .ref a :: S) h = pX 1157 17 L (.int (hp_i h a (ix j)) :: S) h := pX_ild d1157_16 hk hj
theorem x1157_17 {L S : List Value} {h : HP} : pX 1157 17 L S h = pX 1157 18 L (.int 4 :: S) h := pX_iconst d1157_17 (by decide)
theorem x1157_18 {L S : List Value} {h : HP} {x y : Int32} : pX 1157 18 L (.int y :: .int x :: S) h = if y ≤ x then pX 1157 59 L S h else pX 1157 21 L S h := pX_icmp_ge d1157_18 (by decide)
theorem x1157_21 {S : List Value} {h : HP} {l0 : Value} {x0 : Int32} : pX 1157 21 [l0, .int x0] S h = pX 1157 22 [l0, .int x0] (.int x0 :: S) h := pX_stp d1157_21 rfl rfl rfl
theorem x1157_22 {L S : List Value} {h : HP} : pX 1157 22 L S h = pX 1157 23 L (.int 0 :: S) h := pX_iconst d1157_22 (by decide)
theorem x1157_23 {S : List Value} {h : HP} {l1 : Value} {a0 : Nat} : pX 1157 23 [.ref a0, l1] S h = pX 1157 24 [.ref a0, l1] (.ref a0 :: S) h := pX_stp d1157_23 rfl rfl rfl
theorem x1157_24 {L S : List Value} {h : HP} {a : Nat} (hk : hp_k h a = 12) : pX 1157 24 L (.ref a :: S) h = pX 1157 27 L (.ref (hp_a h a 26) :: S) h := pX_get d1157_24 rfl rfl hk
theorem x1157_27 {S : List Value} {h : HP} {l1 : Value} {a0 : Nat} : pX 1157 27 [.ref a0, l1] S h = pX 1157 28 [.ref a0, l1] (.ref a0 :: S) h := pX_stp d1157_27 rfl rfl rfl
theorem x1157_28 {L S : List Value} {h : HP} {a : Nat} (hk : hp_k h a = 12) : pX 1157 28 L (.ref a :: S) h = pX 1157 31 L (.int (hp_i h a 16) :: S) h := pX_get d1157_28 rfl rfl hk
theorem x1157_31 {L S : List Value} {h : HP} {a : Nat} {j : Int32} (hk : hp_k h a = 100) (hj : inb j (hp_l h a) = true) : pX 1157 31 L (.int j :: .ref a :: S) h = pX 1157 32 L (.int (hp_i h a (ix j)) :: S) h := pX_ild d1157_31 hk hj
theorem x1157_32 {L S : List Value} {h : HP} : pX 1157 32 L S h = pX 1157 33 L (.int 1 :: S) h := pX_iconst d1157_32 (by decide)
theorem x1157_33 {L S : List Value} {h : HP} {x y : Int32} : pX 1157 33 L (.int y :: .int x :: S) h = pX 1157 34 L (.int (x - y) :: S) h := pX_stp d1157_33 rfl rfl rfl
theorem x1157_34 {L : List Value} {h : HP} {x0 : Int32} {x1 : Int32} {x2 : Int32} : pX 1157 34 L [.int x0, .int x1, .int x2] h = (pX 1101 0 [.int x2, .int x1, .int x0] [] h).bind (fun q => pX 1157 37 L (q.1.toList ++ []) q.2) := pX_ins 1101 [.int x2, .int x1, .int x0] [] d1157_34 rfl rfl rfl
theorem x1157_37 {L S : List Value} {h : HP} {x : Int32} : pX 1157 37 L (.int x :: S) h = if x = 0 then pX 1157 59 L S h else pX 1157 40 L S h := pX_if_eq d1157_37 (by decide)
theorem x1157_40 {S : List Value} {h : HP} {l1 : Value} {a0 : Nat} : pX 1157 40 [.ref a0, l1] S h = pX 1157 41 [.ref a0, l1] (.ref a0 :: S) h := pX_stp d1157_40 rfl rfl rfl
theorem x1157_41 {L S : List Value} {h : HP} {a : Nat} (hk : hp_k h a = 12) : pX 1157 41 L (.ref a :: S) h = pX 1157 44 L (.ref (hp_a h a 27) :: S) h := pX_get d1157_41 rfl rfl hk
theorem x1157_44 {S : List Value} {h : HP} {l1 : Value} {a0 : Nat} : pX 1157 44 [.ref a0, l1] S h = pX 1157 45 [.ref a0, l1] (.ref a0 :: S) h := pX_stp d1157_44 rfl rfl rfl
theorem x1157_45 {L S : List Value} {h : HP} {a : Nat} (hk : hp_k h a = 12) : pX 1157 45 L (.ref a :: S) h = pX 1157 48 L (.ref (hp_a h a 25) :: S) h := pX_get d1157_45 rfl rfl hk
theorem x1157_48 {S : List Value} {h : HP} {l1 : Value} {a0 : Nat} : pX 1157 48 [.ref a0, l1] S h = pX 1157 49 [.ref a0, l1] (.ref a0 :: S) h := pX_stp d1157_48 rfl rfl rfl
theorem x1157_49 {L S : List Value} {h : HP} {a : Nat} (hk : hp_k h a = 12) : pX 1157 49 L (.ref a :: S) h = pX 1157 52 L (.int (hp_i h a 16) :: S) h := pX_get d1157_49 rfl rfl hk
theorem x1157_52 {L S : List Value} {h : HP} {a : Nat} {j : Int32} (hk : hp_k h a = 100) (hj : inb j (hp_l h a) = true) : pX 1157 52 L (.int j :: .ref a :: S) h = pX 1157 53 L (.int (hp_i h a (ix j)) :: S) h := pX_ild d1157_52 hk hj
theorem x1157_53 {S : List Value} {h : HP} {l0 : Value} {x0 : Int32} : pX 1157 53 [l0, .int x0] S h = pX 1157 54 [l0, .int x0] (.int x0 :: S) h := pX_stp d1157_53 rfl rfl rfl
theorem x1157_54 {L S : List Value} {h : HP} {x y : Int32} : pX 1157 54 L (.int y :: .int x :: S) h = pX 1157 55 L (.int (x + y) :: S) h := pX_stp d1157_54 rfl rfl rfl
theorem x1157_55 {L S : List Value} {h : HP} {a : Nat} {j : Int32} (hk : hp_k h a = 100) (hj : inb j (hp_l h a) = true) : pX 1157 55 L (.int j :: .ref a :: S) h = pX 1157 56 L (.int (hp_i h a (ix j)) :: S) h := pX_ild d1157_55 hk hj
theorem x1157_56 {L S : List Value} {h : HP} : pX 1157 56 L S h = pX 1157 60 L S h := pX_goto d1157_56 (by decide)
theorem x1157_59 {L S : List Value} {h : HP} : pX 1157 59 L S h = pX 1157 60 L (.int 0 :: S) h := pX_iconst d1157_59 (by decide)
theorem x1157_60 {L : List Value} {h : HP} {x : Int32} : pX 1157 60 L [.int x] h = some (some (.int x), h) := pX_ret d1157_60 rfl
theorem d1158_0 : decode (mb 1158) 0 = .ok (.iload_n 1, 1) := by decide +kernel
theorem d1158_1 : decode (mb 1158) 1 = .ok (.iconst 0, 1) := by decide +kernel
theorem d1158_2 : decode (mb 1158) 2 = .ok (.bipush 8, 2) := by decide +kernel
theorem d1158_4 : decode (mb 1158) 4 = .ok (.invokestatic 111, 3) := by decide +kernel
theorem d1158_7 : decode (mb 1158) 7 = .ok (.ifCond .eq 12, 3) := by decide +kernel
theorem d1158_10 : decode (mb 1158) 10 = .ok (.aload_n 0, 1) := by decide +kernel
theorem d1158_11 : decode (mb 1158) 11 = .ok (.getfield 95, 3) := by decide +kernel
theorem d1158_14 : decode (mb 1158) 14 = .ok (.iload_n 1, 1) := by decide +kernel
theorem d1158_15 : decode (mb 1158) 15 = .ok (.iaload, 1) := by decide +kernel
theorem d1158_16 : decode (mb 1158) 16 = .ok (.goto 5, 3) := by decide +kernel
theorem d1158_19 : decode (mb 1158) 19 = .ok (.bipush (-2), 2) := by decide +kernel
theorem d1158_21 : decode (mb 1158) 21 = .ok (.ireturn, 1) := by decide +kernel
theorem x1158_0 {S : List Value} {h : HP} {l0 : Value} {x0 : Int32} : pX 1158 0 [l0, .int x0] S h = pX 1158 1 [l0, .int x0] (.int x0 :: S) h := pX_stp d1158_0 rfl rfl rfl
theorem x1158_1 {L S : List Value} {h : HP} : pX 1158 1 L S h = pX 1158 2 L (.int 0 :: S) h := pX_iconst d1158_1 (by decide)
theorem x1158_2 {L S : List Value} {h : HP} : pX 1158 2 L S h = pX 1158 4 L (.int 8 :: S) h := pX_bipush d1158_2 (by decide)
theorem x1158_4 {L : List Value} {h : HP} {x0 : Int32} {x1 : Int32} {x2 : Int32} : pX 1158 4 L [.int x0, .int x1, .int x2] h = (pX 1101 0 [.int x2, .int x1, .int x0] [] h).bind (fun q => pX 1158 7 L (q.1.toList ++ []) q.2) := pX_ins 1101 [.int x2, .int x1, .int x0] [] d1158_4 rfl rfl rfl
theorem x1158_7 {L S : List Value} {h : HP} {x : Int32} : pX 1158 7 L (.int x :: S) h = if x = 0 then pX 1158 19 L S h else pX 1158 10 L S h := pX_if_eq d1158_7 (by decide)
theorem x1158_10 {S : List Value} {h : HP} {l1 : Value} {a0 : Nat} : pX 1158 10 [.ref a0, l1] S h = pX 1158 11 [.ref a0, l1] (.ref a0 :: S) h := pX_stp d1158_10 rfl rfl rfl
theorem x1158_11 {L S : List Value} {h : HP} {a : Nat} (hk : hp_k h a = 12) : pX 1158 11 L (.ref a :: S) h = pX 1158 14 L (.ref (hp_a h a 39) :: S) h := pX_get d1158_11 rfl rfl hk
theorem x1158_14 {S : List Value} {h : HP} {l0 : Value} {x0 : Int32} : pX 1158 14 [l0, .int x0] S h = pX 1158 15 [l0, .int x0] (.int x0 :: S) h := pX_stp d1158_14 rfl rfl rfl
theorem x1158_15 {L S : List Value} {h : HP} {a : Nat} {j : Int32} (hk : hp_k h a = 100) (hj : inb j (hp_l h a) = true) : pX 1158 15 L (.int j :: .ref a :: S) h = pX 1158 16 L (.int (hp_i h a (ix j)) :: S) h := pX_ild d1158_15 hk hj
theorem x1158_16 {L S : List Value} {h : HP} : pX 1158 16 L S h = pX 1158 21 L S h := pX_goto d1158_16 (by decide)
theorem x1158_19 {L S : List Value} {h : HP} : pX 1158 19 L S h = pX 1158 21 L (.int (-2) :: S) h := pX_bipush d1158_19 (by decide)
theorem x1158_21 {L : List Value} {h : HP} {x : Int32} : pX 1158 21 L [.int x] h = some (some (.int x), h) := pX_ret d1158_21 rfl
theorem d1159_0 : decode (mb 1159) 0 = .ok (.iload_n 1, 1) := by decide +kernel
theorem d1159_1 : decode (mb 1159) 1 = .ok (.iconst 0, 1) := by decide +kernel
theorem d1159_2 : decode (mb 1159) 2 = .ok (.aload_n 0, 1) := by decide +kernel
theorem d1159_3 : decode (mb 1159) 3 = .ok (.getfield 160, 3) := by decide +kernel
theorem d1159_6 : decode (mb 1159) 6 = .ok (.iconst 1, 1) := by decide +kernel
theorem d1159_7 : decode (mb 1159) 7 = .ok (.isub, 1) := by decide +kernel
theorem d1159_8 : decode (mb 1159) 8 = .ok (.invokestatic 111, 3) := by decide +kernel
theorem d1159_11 : decode (mb 1159) 11 = .ok (.ifCond .eq 12, 3) := by decide +kernel
theorem d1159_14 : decode (mb 1159) 14 = .ok (.aload_n 0, 1) := by decide +kernel
theorem d1159_15 : decode (mb 1159) 15 = .ok (.getfield 98, 3) := by decide +kernel
theorem d1159_18 : decode (mb 1159) 18 = .ok (.iload_n 1, 1) := by decide +kernel
theorem d1159_19 : decode (mb 1159) 19 = .ok (.iaload, 1) := by decide +kernel
theorem d1159_20 : decode (mb 1159) 20 = .ok (.goto 5, 3) := by decide +kernel
theorem d1159_23 : decode (mb 1159) 23 = .ok (.bipush (-5), 2) := by decide +kernel
theorem d1159_25 : decode (mb 1159) 25 = .ok (.ireturn, 1) := by decide +kernel
theorem x1159_0 {S : List Value} {h : HP} {l0 : Value} {x0 : Int32} : pX 1159 0 [l0, .int x0] S h = pX 1159 1 [l0, .int x0] (.int x0 :: S) h := pX_stp d1159_0 rfl rfl rfl
theorem x1159_1 {L S : List Value} {h : HP} : pX 1159 1 L S h = pX 1159 2 L (.int 0 :: S) h := pX_iconst d1159_1 (by decide)
theorem x1159_2 {S : List Value} {h : HP} {l1 : Value} {a0 : Nat} : pX 1159 2 [.ref a0, l1] S h = pX 1159 3 [.ref a0, l1] (.ref a0 :: S) h := pX_stp d1159_2 rfl rfl rfl
theorem x1159_3 {L S : List Value} {h : HP} {a : Nat} (hk : hp_k h a = 12) : pX 1159 3 L (.ref a :: S) h = pX 1159 6 L (.int (hp_i h a 41) :: S) h := pX_get d1159_3 rfl rfl hk
theorem x1159_6 {L S : List Value} {h : HP} : pX 1159 6 L S h = pX 1159 7 L (.int 1 :: S) h := pX_iconst d1159_6 (by decide)
theorem x1159_7 {L S : List Value} {h : HP} {x y : Int32} : pX 1159 7 L (.int y :: .int x :: S) h = pX 1159 8 L (.int (x - y) :: S) h := pX_stp d1159_7 rfl rfl rfl
theorem x1159_8 {L : List Value} {h : HP} {x0 : Int32} {x1 : Int32} {x2 : Int32} : pX 1159 8 L [.int x0, .int x1, .int x2] h = (pX 1101 0 [.int x2, .int x1, .int x0] [] h).bind (fun q => pX 1159 11 L (q.1.toList ++ []) q.2) := pX_ins 1101 [.int x2, .int x1, .int x0] [] d1159_8 rfl rfl rfl
theorem x1159_11 {L S : List Value} {h : HP} {x : Int32} : pX 1159 11 L (.int x :: S) h = if x = 0 then pX 1159 23 L S h else pX 1159 14 L S h := pX_if_eq d1159_11 (by decide)
theorem x1159_14 {S : List Value} {h : HP} {l1 : Value} {a0 : Nat} : pX 1159 14 [.ref a0, l1] S h = pX 1159 15 [.ref a0, l1] (.ref a0 :: S) h := pX_stp d1159_14 rfl rfl rfl
theorem x1159_15 {L S : List Value} {h : HP} {a : Nat} (hk : hp_k h a = 12) : pX 1159 15 L (.ref a :: S) h = pX 1159 18 L (.ref (hp_a h a 40) :: S) h := pX_get d1159_15 rfl rfl hk
theorem x1159_18 {S : List Value} {h : HP} {l0 : Value} {x0 : Int32} : pX 1159 18 [l0, .int x0] S h = pX 1159 19 [l0, .int x0] (.int x0 :: S) h := pX_stp d1159_18 rfl rfl rfl
theorem x1159_19 {L S : List Value} {h : HP} {a : Nat} {j : Int32} (hk : hp_k h a = 100) (hj : inb j (hp_l h a) = true) : pX 1159 19 L (.int j :: .ref a :: S) h = pX 1159 20 L (.int (hp_i h a (ix j)) :: S) h := pX_ild d1159_19 hk hj
theorem x1159_20 {L S : List Value} {h : HP} : pX 1159 20 L S h = pX 1159 25 L S h := pX_goto d1159_20 (by decide)
theorem x1159_23 {L S : List Value} {h : HP} : pX 1159 23 L S h = pX 1159 25 L (.int (-5) :: S) h := pX_bipush d1159_23 (by decide)
theorem x1159_25 {L : List Value} {h : HP} {x : Int32} : pX 1159 25 L [.int x] h = some (some (.int x), h) := pX_ret d1159_25 rfl
theorem d1160_0 : decode (mb 1160) 0 = .ok (.aload_n 0, 1) := by decide +kernel
theorem d1160_1 : decode (mb 1160) 1 = .ok (.getfield 104, 3) := by decide +kernel
theorem d1160_4 : decode (mb 1160) 4 = .ok (.ireturn, 1) := by decide +kernel
theorem x1160_0 {S : List Value} {h : HP}  {a0 : Nat} : pX 1160 0 [.ref a0] S h = pX 1160 1 [.ref a0] (.ref a0 :: S) h := pX_stp d1160_0 rfl rfl rfl
theorem x1160_1 {L S : List Value} {h : HP} {a : Nat} (hk : hp_k h a = 12) : pX 1160 1 L (.ref a :: S) h = pX 1160 4 L (.int (hp_i h a 38) :: S) h := pX_get d1160_1 rfl rfl hk
theorem x1160_4 {L : List Value} {h : HP} {x : Int32} : pX 1160 4 L [.int x] h = some (some (.int x), h) := pX_ret d1160_4 rfl
theorem d1161_0 : decode (mb 1161) 0 = .ok (.aload_n 0, 1) := by decide +kernel
theorem d1161_1 : decode (mb 1161) 1 = .ok (.iload_n 1, 1) := by decide +kernel
theorem d1161_2 : decode (mb 1161) 2 = .ok (.invokevirtual 123, 3) := by decide +kernel
theorem d1161_5 : decode (mb 1161) 5 = .ok (.ifCond .ne 5, 3) := by decide +kernel
theorem d1161_8 : decode (mb 1161) 8 = .ok (.iconst (-1), 1) := by decide +kernel
theorem d1161_9 : decode (mb 1161) 9 = .ok (.ireturn, 1) := by decide +kernel
theorem d1161_10 : decode (mb 1161) 10 = .ok (.iload_n 2, 1) := by decide +kernel
theorem d1161_11 : decode (mb 1161) 11 = .ok (.iconst 0, 1) := by decide +kernel
theorem d1161_12 : decode (mb 1161) 12 = .ok (.sipush 1000, 3) := by decide +kernel
theorem d1161_15 : decode (mb 1161) 15 = .ok (.invokestatic 111, 3) := by decide +kernel
theorem d1161_18 : decode (mb 1161) 18 = .ok (.ifCond .ne 6, 3) := by decide +kernel
theorem d1161_21 : decode (mb 1161) 21 = .ok (.bipush (-2), 2) := by decide +kernel
theorem d1161_23 : decode (mb 1161) 23 = .ok (.ireturn, 1) := by decide +kernel
theorem d1161_24 : decode (mb 1161) 24 = .ok (.aload_n 0, 1) := by decide +kernel
theorem d1161_25 : decode (mb 1161) 25 = .ok (.getfield 115, 3) := by decide +kernel
theorem d1161_28 : decode (mb 1161) 28 = .ok (.ifCond .eq 6, 3) := by decide +kernel
theorem d1161_31 : decode (mb 1161) 31 = .ok (.bipush (-3), 2) := by decide +kernel
theorem d1161_33 : decode (mb 1161) 33 = .ok (.ireturn, 1) := by decide +kernel
theorem d1161_34 : decode (mb 1161) 34 = .ok (.aload_n 0, 1) := by decide +kernel
theorem d1161_35 : decode (mb 1161) 35 = .ok (.iload_n 1, 1) := by decide +kernel
theorem d1161_36 : decode (mb 1161) 36 = .ok (.iload_n 2, 1) := by decide +kernel
theorem d1161_37 : decode (mb 1161) 37 = .ok (.invokevirtual 290, 3) := by decide +kernel
theorem d1161_40 : decode (mb 1161) 40 = .ok (.aload_n 0, 1) := by decide +kernel
theorem d1161_41 : decode (mb 1161) 41 = .ok (.aload_n 0, 1) := by decide +kernel
theorem d1161_42 : decode (mb 1161) 42 = .ok (.getfield 174, 3) := by decide +kernel
theorem d1161_45 : decode (mb 1161) 45 = .ok (.ifCond .le 7, 3) := by decide +kernel
theorem d1161_48 : decode (mb 1161) 48 = .ok (.iconst 1, 1) := by decide +kernel
theorem d1161_49 : decode (mb 1161) 49 = .ok (.goto 4, 3) := by decide +kernel
theorem d1161_52 : decode (mb 1161) 52 = .ok (.iconst 0, 1) := by decide +kernel
theorem d1161_53 : decode (mb 1161) 53 = .ok (.putfield 115, 3) := by decide +kernel
theorem d1161_56 : decode (mb 1161) 56 = .ok (.aload_n 0, 1) := by decide +kernel
theorem d1161_57 : decode (mb 1161) 57 = .ok (.getfield 115, 3) := by decide +kernel
theorem d1161_60 : decode (mb 1161) 60 = .ok (.ifCond .eq 7, 3) := by decide +kernel
theorem d1161_63 : decode (mb 1161) 63 = .ok (.iconst 1, 1) := by decide +kernel
theorem d1161_64 : decode (mb 1161) 64 = .ok (.goto 7, 3) := by decide +kernel
theorem d1161_67 : decode (mb 1161) 67 = .ok (.aload_n 0, 1) := by decide +kernel
theorem d1161_68 : decode (mb 1161) 68 = .ok (.getfield 180, 3) := by decide +kernel
theorem d1161_71 : decode (mb 1161) 71 = .ok (.ireturn, 1) := by decide +kernel
theorem x1161_0 {S : List Value} {h : HP} {l1 l2 : Value} {a0 : Nat} : pX 1161 0 [.ref a0, l1, l2] S h = pX 1161 1 [.ref a0, l1, l2] (.ref a0 :: S) h := pX_stp d1161_0 rfl rfl rfl
theorem x1161_1 {S : List Value} {h : HP} {l0 l2 : Value} {x0 : Int32} : pX 1161 1 [l0, .int x0, l2] S h = pX 1161 2 [l0, .int x0, l2] (.int x0 :: S) h := pX_stp d1161_1 rfl rfl rfl
theorem x1161_2 {L : List Value} {h : HP} {x0 : Int32} {a0 : Nat} (hk : hp_k h a0 = 12) : pX 1161 2 L [.int x0, .ref a0] h = (pX 1102 0 [.ref a0, .int x0] [] h).bind (fun q => pX 1161 5 L (q.1.toList ++ []) q.2) := pX_inv (a := a0) (t := 12) 1102 [.ref a0, .int x0] [] d1161_2 rfl rfl rfl hk
theorem x1161_5 {L S : List Value} {h : HP} {x : Int32} : pX 1161 5 L (.int x :: S) h = if x = 0 then pX 1161 8 L S h else pX 1161 10 L S h := pX_if_ne d1161_5 (by decide)
theorem x1161_8 {L S : List Value} {h : HP} : pX 1161 8 L S h = pX 1161 9 L (.int (-1) :: S) h := pX_iconst d1161_8 (by decide)
theorem x1161_9 {L : List Value} {h : HP} {x : Int32} : pX 1161 9 L [.int x] h = some (some (.int x), h) := pX_ret d1161_9 rfl
theorem x1161_10 {S : List Value} {h : HP} {l0 l1 : Value} {x0 : Int32} : pX 1161 10 [l0, l1, .int x0] S h = pX 1161 11 [l0, l1, .int x0] (.int x0 :: S) h := pX_stp d1161_10 rfl rfl rfl
theorem x1161_11 {L S : List Value} {h : HP} : pX 1161 11 L S h = pX 1161 12 L (.int 0 :: S) h := pX_iconst d1161_11 (by decide)
theorem x1161_12 {L S : List Value} {h : HP} : pX 1161 12 L S h = pX 1161 15 L (.int 1000 :: S) h := pX_sipush d1161_12 (by decide)
theorem x1161_15 {L : List Value} {h : HP} {x0 : Int32} {x1 : Int32} {x2 : Int32} : pX 1161 15 L [.int x0, .int x1, .int x2] h = (pX 1101 0 [.int x2, .int x1, .int x0] [] h).bind (fun q => pX 1161 18 L (q.1.toList ++ []) q.2) := pX_ins 1101 [.int x2, .int x1, .int x0] [] d1161_15 rfl rfl rfl
theorem x1161_18 {L S : List Value} {h : HP} {x : Int32} : pX 1161 18 L (.int x :: S) h = if x = 0 then pX 1161 21 L S h else pX 1161 24 L S h := pX_if_ne d1161_18 (by decide)
theorem x1161_21 {L S : List Value} {h : HP} : pX 1161 21 L S h = pX 1161 23 L (.int (-2) :: S) h := pX_bipush d1161_21 (by decide)
theorem x1161_23 {L : List Value} {h : HP} {x : Int32} : pX 1161 23 L [.int x] h = some (some (.int x), h) := pX_ret d1161_23 rfl
theorem x1161_24 {S : List Value} {h : HP} {l1 l2 : Value} {a0 : Nat} : pX 1161 24 [.ref a0, l1, l2] S h = pX 1161 25 [.ref a0, l1, l2] (.ref a0 :: S) h := pX_stp d1161_24 rfl rfl rfl
theorem x1161_25 {L S : List Value} {h : HP} {a : Nat} (hk : hp_k h a = 12) : pX 1161 25 L (.ref a :: S) h = pX 1161 28 L (.int (hp_i h a 8) :: S) h := pX_get d1161_25 rfl rfl hk
theorem x1161_28 {L S : List Value} {h : HP} {x : Int32} : pX 1161 28 L (.int x :: S) h = if x = 0 then pX 1161 34 L S h else pX 1161 31 L S h := pX_if_eq d1161_28 (by decide)
theorem x1161_31 {L S : List Value} {h : HP} : pX 1161 31 L S h = pX 1161 33 L (.int (-3) :: S) h := pX_bipush d1161_31 (by decide)
theorem x1161_33 {L : List Value} {h : HP} {x : Int32} : pX 1161 33 L [.int x] h = some (some (.int x), h) := pX_ret d1161_33 rfl
theorem x1161_34 {S : List Value} {h : HP} {l1 l2 : Value} {a0 : Nat} : pX 1161 34 [.ref a0, l1, l2] S h = pX 1161 35 [.ref a0, l1, l2] (.ref a0 :: S) h := pX_stp d1161_34 rfl rfl rfl
theorem x1161_35 {S : List Value} {h : HP} {l0 l2 : Value} {x0 : Int32} : pX 1161 35 [l0, .int x0, l2] S h = pX 1161 36 [l0, .int x0, l2] (.int x0 :: S) h := pX_stp d1161_35 rfl rfl rfl
theorem x1161_36 {S : List Value} {h : HP} {l0 l1 : Value} {x0 : Int32} : pX 1161 36 [l0, l1, .int x0] S h = pX 1161 37 [l0, l1, .int x0] (.int x0 :: S) h := pX_stp d1161_36 rfl rfl rfl
theorem x1161_37 {L : List Value} {h : HP} {x0 : Int32} {x1 : Int32} {a0 : Nat} (hk : hp_k h a0 = 12) : pX 1161 37 L [.int x0, .int x1, .ref a0] h = (pX 1153 0 [.ref a0, .int x1, .int x0, .retAddr 0] [] h).bind (fun q => pX 1161 40 L (q.1.toList ++ []) q.2) := pX_inv (a := a0) (t := 12) 1153 [.ref a0, .int x1, .int x0] [] d1161_37 rfl rfl rfl hk
theorem x1161_40 {S : List Value} {h : HP} {l1 l2 : Value} {a0 : Nat} : pX 1161 40 [.ref a0, l1, l2] S h = pX 1161 41 [.ref a0, l1, l2] (.ref a0 :: S) h := pX_stp d1161_40 rfl rfl rfl
theorem x1161_41 {S : List Value} {h : HP} {l1 l2 : Value} {a0 : Nat} : pX 1161 41 [.ref a0, l1, l2] S h = pX 1161 42 [.ref a0, l1, l2] (.ref a0 :: S) h := pX_stp d1161_41 rfl rfl rfl
theorem x1161_42 {L S : List Value} {h : HP} {a : Nat} (hk : hp_k h a = 12) : pX 1161 42 L (.ref a :: S) h = pX 1161 45 L (.int (hp_i h a 29) :: S) h := pX_get d1161_42 rfl rfl hk
theorem x1161_45 {L S : List Value} {h : HP} {x : Int32} : pX 1161 45 L (.int x :: S) h = if x ≤ 0 then pX 1161 52 L S h else pX 1161 48 L S h := pX_if_le d1161_45 (by decide)
theorem x1161_48 {L S : List Value} {h : HP} : pX 1161 48 L S h = pX 1161 49 L (.int 1 :: S) h := pX_iconst d1161_48 (by decide)
theorem x1161_49 {L S : List Value} {h : HP} : pX 1161 49 L S h = pX 1161 53 L S h := pX_goto d1161_49 (by decide)
theorem x1161_52 {L S : List Value} {h : HP} : pX 1161 52 L S h = pX 1161 53 L (.int 0 :: S) h := pX_iconst d1161_52 (by decide)
theorem x1161_53 {L S : List Value} {h : HP} {a : Nat} {x : Int32} (hk : hp_k h a = 12) (hx : x = 0 ∨ x = 1) : pX 1161 53 L (.int x :: .ref a :: S) h = pX 1161 56 L S (hp_wi h a 8 x) := pX_put d1161_53 rfl rfl (by rcases hx with rfl | rfl <;> rfl) hk
theorem x1161_56 {S : List Value} {h : HP} {l1 l2 : Value} {a0 : Nat} : pX 1161 56 [.ref a0, l1, l2] S h = pX 1161 57 [.ref a0, l1, l2] (.ref a0 :: S) h := pX_stp d1161_56 rfl rfl rfl
theorem x1161_57 {L S : List Value} {h : HP} {a : Nat} (hk : hp_k h a = 12) : pX 1161 57 L (.ref a :: S) h = pX 1161 60 L (.int (hp_i h a 8) :: S) h := pX_get d1161_57 rfl rfl hk
theorem x1161_60 {L S : List Value} {h : HP} {x : Int32} : pX 1161 60 L (.int x :: S) h = if x = 0 then pX 1161 67 L S h else pX 1161 63 L S h := pX_if_eq d1161_60 (by decide)
theorem x1161_63 {L S : List Value} {h : HP} : pX 1161 63 L S h = pX 1161 64 L (.int 1 :: S) h := pX_iconst d1161_63 (by decide)
theorem x1161_64 {L S : List Value} {h : HP} : pX 1161 64 L S h = pX 1161 71 L S h := pX_goto d1161_64 (by decide)
theorem x1161_67 {S : List Value} {h : HP} {l1 l2 : Value} {a0 : Nat} : pX 1161 67 [.ref a0, l1, l2] S h = pX 1161 68 [.ref a0, l1, l2] (.ref a0 :: S) h := pX_stp d1161_67 rfl rfl rfl
theorem x1161_68 {L S : List Value} {h : HP} {a : Nat} (hk : hp_k h a = 12) : pX 1161 68 L (.ref a :: S) h = pX 1161 71 L (.int (hp_i h a 44) :: S) h := pX_get d1161_68 rfl rfl hk
theorem x1161_71 {L : List Value} {h : HP} {x : Int32} : pX 1161 71 L [.int x] h = some (some (.int x), h) := pX_ret d1161_71 rfl
theorem d1162_0 : decode (mb 1162) 0 = .ok (.iload_n 1, 1) := by decide +kernel
theorem d1162_1 : decode (mb 1162) 1 = .ok (.iconst 1, 1) := by decide +kernel
theorem d1162_2 : decode (mb 1162) 2 = .ok (.sipush 1000, 3) := by decide +kernel
theorem d1162_5 : decode (mb 1162) 5 = .ok (.invokestatic 111, 3) := by decide +kernel
theorem d1162_8 : decode (mb 1162) 8 = .ok (.ifCond .ne 6, 3) := by decide +kernel
theorem d1162_11 : decode (mb 1162) 11 = .ok (.bipush (-2), 2) := by decide +kernel
theorem d1162_13 : decode (mb 1162) 13 = .ok (.ireturn, 1) := by decide +kernel
theorem d1162_14 : decode (mb 1162) 14 = .ok (.aload_n 0, 1) := by decide +kernel
theorem d1162_15 : decode (mb 1162) 15 = .ok (.getfield 115, 3) := by decide +kernel
theorem d1162_18 : decode (mb 1162) 18 = .ok (.ifCond .ne 6, 3) := by decide +kernel
theorem d1162_21 : decode (mb 1162) 21 = .ok (.bipush (-3), 2) := by decide +kernel
theorem d1162_23 : decode (mb 1162) 23 = .ok (.ireturn, 1) := by decide +kernel
theorem d1162_24 : decode (mb 1162) 24 = .ok (.iconst 0, 1) := by decide +kernel
theorem d1162_25 : decode (mb 1162) 25 = .ok (.istore_n 2, 1) := by decide +kernel
theorem d1162_26 : decode (mb 1162) 26 = .ok (.iload_n 2, 1) := by decide +kernel
theorem d1162_27 : decode (mb 1162) 27 = .ok (.iload_n 1, 1) := by decide +kernel
theorem d1162_28 : decode (mb 1162) 28 = .ok (.if_icmp .ge 20, 3) := by decide +kernel
theorem d1162_31 : decode (mb 1162) 31 = .ok (.aload_n 0, 1) := by decide +kernel
theorem d1162_32 : decode (mb 1162) 32 = .ok (.getfield 174, 3) := by decide +kernel
theorem d1162_35 : decode (mb 1162) 35 = .ok (.ifCond .le 13, 3) := by decide +kernel
theorem d1162_38 : decode (mb 1162) 38 = .ok (.aload_n 0, 1) := by decide +kernel
theorem d1162_39 : decode (mb 1162) 39 = .ok (.invokevirtual 293, 3) := by decide +kernel
theorem d1162_42 : decode (mb 1162) 42 = .ok (.iinc 2 1, 3) := by decide +kernel
theorem d1162_45 : decode (mb 1162) 45 = .ok (.goto (-19), 3) := by decide +kernel
theorem d1162_48 : decode (mb 1162) 48 = .ok (.aload_n 0, 1) := by decide +kernel
theorem d1162_49 : decode (mb 1162) 49 = .ok (.aload_n 0, 1) := by decide +kernel
theorem d1162_50 : decode (mb 1162) 50 = .ok (.getfield 174, 3) := by decide +kernel
theorem d1162_53 : decode (mb 1162) 53 = .ok (.ifCond .le 7, 3) := by decide +kernel
theorem d1162_56 : decode (mb 1162) 56 = .ok (.iconst 1, 1) := by decide +kernel
theorem d1162_57 : decode (mb 1162) 57 = .ok (.goto 4, 3) := by decide +kernel
theorem d1162_60 : decode (mb 1162) 60 = .ok (.iconst 0, 1) := by decide +kernel
theorem d1162_61 : decode (mb 1162) 61 = .ok (.putfield 115, 3) := by decide +kernel
theorem d1162_64 : decode (mb 1162) 64 = .ok (.aload_n 0, 1) := by decide +kernel
theorem d1162_65 : decode (mb 1162) 65 = .ok (.getfield 115, 3) := by decide +kernel
theorem d1162_68 : decode (mb 1162) 68 = .ok (.ifCond .eq 7, 3) := by decide +kernel
theorem d1162_71 : decode (mb 1162) 71 = .ok (.iconst 1, 1) := by decide +kernel
theorem d1162_72 : decode (mb 1162) 72 = .ok (.goto 7, 3) := by decide +kernel
theorem d1162_75 : decode (mb 1162) 75 = .ok (.aload_n 0, 1) := by decide +kernel
theorem d1162_76 : decode (mb 1162) 76 = .ok (.getfield 180, 3) := by decide +kernel
theorem d1162_79 : decode (mb 1162) 79 = .ok (.ireturn, 1) := by decide +kernel
theorem x1162_0 {S : List Value} {h : HP} {l0 l2 : Value} {x0 : Int32} : pX 1162 0 [l0, .int x0, l2] S h = pX 1162 1 [l0, .int x0, l2] (.int x0 :: S) h := pX_stp d1162_0 rfl rfl rfl
theorem x1162_1 {L S : List Value} {h : HP} : pX 1162 1 L S h = pX 1162 2 L (.int 1 :: S) h := pX_iconst d1162_1 (by decide)
theorem x1162_2 {L S : List Value} {h : HP} : pX 1162 2 L S h = pX 1162 5 L (.int 1000 :: S) h := pX_sipush d1162_2 (by decide)
theorem x1162_5 {L : List Value} {h : HP} {x0 : Int32} {x1 : Int32} {x2 : Int32} : pX 1162 5 L [.int x0, .int x1, .int x2] h = (pX 1101 0 [.int x2, .int x1, .int x0] [] h).bind (fun q => pX 1162 8 L (q.1.toList ++ []) q.2) := pX_ins 1101 [.int x2, .int x1, .int x0] [] d1162_5 rfl rfl rfl
theorem x1162_8 {L S : List Value} {h : HP} {x : Int32} : pX 1162 8 L (.int x :: S) h = if x = 0 then pX 1162 11 L S h else pX 1162 14 L S h := pX_if_ne d1162_8 (by decide)
theorem x1162_11 {L S : List Value} {h : HP} : pX 1162 11 L S h = pX 1162 13 L (.int (-2) :: S) h := pX_bipush d1162_11 (by decide)
theorem x1162_13 {L : List Value} {h : HP} {x : Int32} : pX 1162 13 L [.int x] h = some (some (.int x), h) := pX_ret d1162_13 rfl
theorem x1162_14 {S : List Value} {h : HP} {l1 l2 : Value} {a0 : Nat} : pX 1162 14 [.ref a0, l1, l2] S h = pX 1162 15 [.ref a0, l1, l2] (.ref a0 :: S) h := pX_stp d1162_14 rfl rfl rfl
theorem x1162_15 {L S : List Value} {h : HP} {a : Nat} (hk : hp_k h a = 12) : pX 1162 15 L (.ref a :: S) h = pX 1162 18 L (.int (hp_i h a 8) :: S) h := pX_get d1162_15 rfl rfl hk
theorem x1162_18 {L S : List Value} {h : HP} {x : Int32} : pX 1162 18 L (.int x :: S) h = if x = 0 then pX 1162 21 L S h else pX 1162 24 L S h := pX_if_ne d1162_18 (by decide)
theorem x1162_21 {L S : List Value} {h : HP} : pX 1162 21 L S h = pX 1162 23 L (.int (-3) :: S) h := pX_bipush d1162_21 (by decide)
theorem x1162_23 {L : List Value} {h : HP} {x : Int32} : pX 1162 23 L [.int x] h = some (some (.int x), h) := pX_ret d1162_23 rfl
theorem x1162_24 {L S : List Value} {h : HP} : pX 1162 24 L S h = pX 1162 25 L (.int 0 :: S) h := pX_iconst d1162_24 (by decide)
theorem x1162_25 {S : List Value} {h : HP} {l0 l1 l2 : Value} {x0 : Int32} : pX 1162 25 [l0, l1, l2] (.int x0 :: S) h = pX 1162 26 [l0, l1, .int x0] S h := pX_stp d1162_25 rfl rfl rfl
theorem x1162_26 {S : List Value} {h : HP} {l0 l1 : Value} {x0 : Int32} : pX 1162 26 [l0, l1, .int x0] S h = pX 1162 27 [l0, l1, .int x0] (.int x0 :: S) h := pX_stp d1162_26 rfl rfl rfl
theorem x1162_27 {S : List Value} {h : HP} {l0 l2 : Value} {x0 : Int32} : pX 1162 27 [l0, .int x0, l2] S h = pX 1162 28 [l0, .int x0, l2] (.int x0 :: S) h := pX_stp d1162_27 rfl rfl rfl
theorem x1162_28 {L S : List Value} {h : HP} {x y : Int32} : pX 1162 28 L (.int y :: .int x :: S) h = if y ≤ x then pX 1162 48 L S h else pX 1162 31 L S h := pX_icmp_ge d1162_28 (by decide)
theorem x1162_31 {S : List Value} {h : HP} {l1 l2 : Value} {a0 : Nat} : pX 1162 31 [.ref a0, l1, l2] S h = pX 1162 32 [.ref a0, l1, l2] (.ref a0 :: S) h := pX_stp d1162_31 rfl rfl rfl
theorem x1162_32 {L S : List Value} {h : HP} {a : Nat} (hk : hp_k h a = 12) : pX 1162 32 L (.ref a :: S) h = pX 1162 35 L (.int (hp_i h a 29) :: S) h := pX_get d1162_32 rfl rfl hk
theorem x1162_35 {L S : List Value} {h : HP} {x : Int32} : pX 1162 35 L (.int x :: S) h = if x ≤ 0 then pX 1162 48 L S h else pX 1162 38 L S h := pX_if_le d1162_35 (by decide)
theorem x1162_38 {S : List Value} {h : HP} {l1 l2 : Value} {a0 : Nat} : pX 1162 38 [.ref a0, l1, l2] S h = pX 1162 39 [.ref a0, l1, l2] (.ref a0 :: S) h := pX_stp d1162_38 rfl rfl rfl
theorem x1162_39 {L : List Value} {h : HP} {a0 : Nat} (hk : hp_k h a0 = 12) : pX 1162 39 L [.ref a0] h = (pX 1152 0 [.ref a0, .retAddr 0, .retAddr 0, .retAddr 0] [] h).bind (fun q => pX 1162 42 L (q.1.toList ++ []) q.2) := pX_inv (a := a0) (t := 12) 1152 [.ref a0] [] d1162_39 rfl rfl rfl hk
theorem x1162_42 {S : List Value} {h : HP} {x0 : Int32} {l0 l1 : Value} : pX 1162 42 [l0, l1, .int x0] S h = pX 1162 45 [l0, l1, .int (x0 + 1)] S h := pX_iinc (x := x0) d1162_42 (by decide) rfl (Nat.le_of_ble_eq_true rfl) rfl rfl
theorem x1162_45 {L S : List Value} {h : HP} : pX 1162 45 L S h = pX 1162 26 L S h := pX_goto d1162_45 (by decide)
theorem x1162_48 {S : List Value} {h : HP} {l1 l2 : Value} {a0 : Nat} : pX 1162 48 [.ref a0, l1, l2] S h = pX 1162 49 [.ref a0, l1, l2] (.ref a0 :: S) h := pX_stp d1162_48 rfl rfl rfl
theorem x1162_49 {S : List Value} {h : HP} {l1 l2 : Value} {a0 : Nat} : pX 1162 49 [.ref a0, l1, l2] S h = pX 1162 50 [.ref a0, l1, l2] (.ref a0 :: S) h := pX_stp d1162_49 rfl rfl rfl
theorem x1162_50 {L S : List Value} {h : HP} {a : Nat} (hk : hp_k h a = 12) : pX 1162 50 L (.ref a :: S) h = pX 1162 53 L (.int (hp_i h a 29) :: S) h := pX_get d1162_50 rfl rfl hk
theorem x1162_53 {L S : List Value} {h : HP} {x : Int32} : pX 1162 53 L (.int x :: S) h = if x ≤ 0 then pX 1162 60 L S h else pX 1162 56 L S h := pX_if_le d1162_53 (by decide)
theorem x1162_56 {L S : List Value} {h : HP} : pX 1162 56 L S h = pX 1162 57 L (.int 1 :: S) h := pX_iconst d1162_56 (by decide)
theorem x1162_57 {L S : List Value} {h : HP} : pX 1162 57 L S h = pX 1162 61 L S h := pX_goto d1162_57 (by decide)
theorem x1162_60 {L S : List Value} {h : HP} : pX 1162 60 L S h = pX 1162 61 L (.int 0 :: S) h := pX_iconst d1162_60 (by decide)
theorem x1162_61 {L S : List Value} {h : HP} {a : Nat} {x : Int32} (hk : hp_k h a = 12) (hx : x = 0 ∨ x = 1) : pX 1162 61 L (.int x :: .ref a :: S) h = pX 1162 64 L S (hp_wi h a 8 x) := pX_put d1162_61 rfl rfl (by rcases hx with rfl | rfl <;> rfl) hk
theorem x1162_64 {S : List Value} {h : HP} {l1 l2 : Value} {a0 : Nat} : pX 1162 64 [.ref a0, l1, l2] S h = pX 1162 65 [.ref a0, l1, l2] (.ref a0 :: S) h := pX_stp d1162_64 rfl rfl rfl
theorem x1162_65 {L S : List Value} {h : HP} {a : Nat} (hk : hp_k h a = 12) : pX 1162 65 L (.ref a :: S) h = pX 1162 68 L (.int (hp_i h a 8) :: S) h := pX_get d1162_65 rfl rfl hk
theorem x1162_68 {L S : List Value} {h : HP} {x : Int32} : pX 1162 68 L (.int x :: S) h = if x = 0 then pX 1162 75 L S h else pX 1162 71 L S h := pX_if_eq d1162_68 (by decide)
theorem x1162_71 {L S : List Value} {h : HP} : pX 1162 71 L S h = pX 1162 72 L (.int 1 :: S) h := pX_iconst d1162_71 (by decide)
theorem x1162_72 {L S : List Value} {h : HP} : pX 1162 72 L S h = pX 1162 79 L S h := pX_goto d1162_72 (by decide)
theorem x1162_75 {S : List Value} {h : HP} {l1 l2 : Value} {a0 : Nat} : pX 1162 75 [.ref a0, l1, l2] S h = pX 1162 76 [.ref a0, l1, l2] (.ref a0 :: S) h := pX_stp d1162_75 rfl rfl rfl
theorem x1162_76 {L S : List Value} {h : HP} {a : Nat} (hk : hp_k h a = 12) : pX 1162 76 L (.ref a :: S) h = pX 1162 79 L (.int (hp_i h a 44) :: S) h := pX_get d1162_76 rfl rfl hk
theorem x1162_79 {L : List Value} {h : HP} {x : Int32} : pX 1162 79 L [.int x] h = some (some (.int x), h) := pX_ret d1162_79 rfl
theorem d1163_0 : decode (mb 1163) 0 = .ok (.iload_n 1, 1) := by decide +kernel
theorem d1163_1 : decode (mb 1163) 1 = .ok (.iconst 0, 1) := by decide +kernel
theorem d1163_2 : decode (mb 1163) 2 = .ok (.iconst 3, 1) := by decide +kernel
theorem d1163_3 : decode (mb 1163) 3 = .ok (.invokestatic 111, 3) := by decide +kernel
theorem d1163_6 : decode (mb 1163) 6 = .ok (.ifCond .ne 6, 3) := by decide +kernel
theorem d1163_9 : decode (mb 1163) 9 = .ok (.bipush (-2), 2) := by decide +kernel
theorem d1163_11 : decode (mb 1163) 11 = .ok (.ireturn, 1) := by decide +kernel
theorem d1163_12 : decode (mb 1163) 12 = .ok (.aload_n 0, 1) := by decide +kernel
theorem d1163_13 : decode (mb 1163) 13 = .ok (.getfield 115, 3) := by decide +kernel
theorem d1163_16 : decode (mb 1163) 16 = .ok (.ifCond .ne 6, 3) := by decide +kernel
theorem d1163_19 : decode (mb 1163) 19 = .ok (.bipush (-3), 2) := by decide +kernel
theorem d1163_21 : decode (mb 1163) 21 = .ok (.ireturn, 1) := by decide +kernel
theorem d1163_22 : decode (mb 1163) 22 = .ok (.iload_n 1, 1) := by decide +kernel
theorem d1163_23 : decode (mb 1163) 23 = .ok (.iconst 3, 1) := by decide +kernel
theorem d1163_24 : decode (mb 1163) 24 = .ok (.if_icmp .ge 45, 3) := by decide +kernel
theorem d1163_27 : decode (mb 1163) 27 = .ok (.iload_n 1, 1) := by decide +kernel
theorem d1163_28 : decode (mb 1163) 28 = .ok (.ifCond .ne 10, 3) := by decide +kernel
theorem d1163_31 : decode (mb 1163) 31 = .ok (.aload_n 0, 1) := by decide +kernel
theorem d1163_32 : decode (mb 1163) 32 = .ok (.getfield 174, 3) := by decide +kernel
theorem d1163_35 : decode (mb 1163) 35 = .ok (.goto 33, 3) := by decide +kernel
theorem d1163_38 : decode (mb 1163) 38 = .ok (.iload_n 1, 1) := by decide +kernel
theorem d1163_39 : decode (mb 1163) 39 = .ok (.iconst 1, 1) := by decide +kernel
theorem d1163_40 : decode (mb 1163) 40 = .ok (.if_icmp .ne 17, 3) := by decide +kernel
theorem d1163_43 : decode (mb 1163) 43 = .ok (.aload_n 0, 1) := by decide +kernel
theorem d1163_44 : decode (mb 1163) 44 = .ok (.getfield 73, 3) := by decide +kernel
theorem d1163_47 : decode (mb 1163) 47 = .ok (.aload_n 0, 1) := by decide +kernel
theorem d1163_48 : decode (mb 1163) 48 = .ok (.getfield 174, 3) := by decide +kernel
theorem d1163_51 : decode (mb 1163) 51 = .ok (.iconst 1, 1) := by decide +kernel
theorem d1163_52 : decode (mb 1163) 52 = .ok (.isub, 1) := by decide +kernel
theorem d1163_53 : decode (mb 1163) 53 = .ok (.iaload, 1) := by decide +kernel
theorem d1163_54 : decode (mb 1163) 54 = .ok (.goto 14, 3) := by decide +kernel
theorem d1163_57 : decode (mb 1163) 57 = .ok (.aload_n 0, 1) := by decide +kernel
theorem d1163_58 : decode (mb 1163) 58 = .ok (.getfield 76, 3) := by decide +kernel
theorem d1163_61 : decode (mb 1163) 61 = .ok (.aload_n 0, 1) := by decide +kernel
theorem d1163_62 : decode (mb 1163) 62 = .ok (.getfield 174, 3) := by decide +kernel
theorem d1163_65 : decode (mb 1163) 65 = .ok (.iconst 1, 1) := by decide +kernel
theorem d1163_66 : decode (mb 1163) 66 = .ok (.isub, 1) := by decide +kernel
theorem d1163_67 : decode (mb 1163) 67 = .ok (.iaload, 1) := by decide +kernel
theorem d1163_68 : decode (mb 1163) 68 = .ok (.ireturn, 1) := by decide +kernel
theorem d1163_69 : decode (mb 1163) 69 = .ok (.iconst 0, 1) := by decide +kernel
theorem d1163_70 : decode (mb 1163) 70 = .ok (.istore_n 2, 1) := by decide +kernel
theorem d1163_71 : decode (mb 1163) 71 = .ok (.iconst 0, 1) := by decide +kernel
theorem d1163_72 : decode (mb 1163) 72 = .ok (.istore_n 3, 1) := by decide +kernel
theorem d1163_73 : decode (mb 1163) 73 = .ok (.iload_n 3, 1) := by decide +kernel
theorem d1163_74 : decode (mb 1163) 74 = .ok (.aload_n 0, 1) := by decide +kernel
theorem d1163_75 : decode (mb 1163) 75 = .ok (.getfield 174, 3) := by decide +kernel
theorem d1163_78 : decode (mb 1163) 78 = .ok (.if_icmp .ge 18, 3) := by decide +kernel
theorem d1163_81 : decode (mb 1163) 81 = .ok (.iload_n 2, 1) := by decide +kernel
theorem d1163_82 : decode (mb 1163) 82 = .ok (.aload_n 0, 1) := by decide +kernel
theorem d1163_83 : decode (mb 1163) 83 = .ok (.getfield 88, 3) := by decide +kernel
theorem d1163_86 : decode (mb 1163) 86 = .ok (.iload_n 3, 1) := by decide +kernel
theorem d1163_87 : decode (mb 1163) 87 = .ok (.iaload, 1) := by decide +kernel
theorem d1163_88 : decode (mb 1163) 88 = .ok (.iadd, 1) := by decide +kernel
theorem d1163_89 : decode (mb 1163) 89 = .ok (.istore_n 2, 1) := by decide +kernel
theorem d1163_90 : decode (mb 1163) 90 = .ok (.iinc 3 1, 3) := by decide +kernel
theorem d1163_93 : decode (mb 1163) 93 = .ok (.goto (-20), 3) := by decide +kernel
theorem d1163_96 : decode (mb 1163) 96 = .ok (.iload_n 2, 1) := by decide +kernel
theorem d1163_97 : decode (mb 1163) 97 = .ok (.ireturn, 1) := by decide +kernel
theorem x1163_0 {S : List Value} {h : HP} {l0 l2 l3 : Value} {x0 : Int32} : pX 1163 0 [l0, .int x0, l2, l3] S h = pX 1163 1 [l0, .int x0, l2, l3] (.int x0 :: S) h := pX_stp d1163_0 rfl rfl rfl
theorem x1163_1 {L S : List Value} {h : HP} : pX 1163 1 L S h = pX 1163 2 L (.int 0 :: S) h := pX_iconst d1163_1 (by decide)
theorem x1163_2 {L S : List Value} {h : HP} : pX 1163 2 L S h = pX 1163 3 L (.int 3 :: S) h := pX_iconst d1163_2 (by decide)
theorem x1163_3 {L : List Value} {h : HP} {x0 : Int32} {x1 : Int32} {x2 : Int32} : pX 1163 3 L [.int x0, .int x1, .int x2] h = (pX 1101 0 [.int x2, .int x1, .int x0] [] h).bind (fun q => pX 1163 6 L (q.1.toList ++ []) q.2) := pX_ins 1101 [.int x2, .int x1, .int x0] [] d1163_3 rfl rfl rfl
theorem x1163_6 {L S : List Value} {h : HP} {x : Int32} : pX 1163 6 L (.int x :: S) h = if x = 0 then pX 1163 9 L S h else pX 1163 12 L S h := pX_if_ne d1163_6 (by decide)
theorem x1163_9 {L S : List Value} {h : HP} : pX 1163 9 L S h = pX 1163 11 L (.int (-2) :: S) h := pX_bipush d1163_9 (by decide)
theorem x1163_11 {L : List Value} {h : HP} {x : Int32} : pX 1163 11 L [.int x] h = some (some (.int x), h) := pX_ret d1163_11 rfl
theorem x1163_12 {S : List Value} {h : HP} {l1 l2 l3 : Value} {a0 : Nat} : pX 1163 12 [.ref a0, l1, l2, l3] S h = pX 1163 13 [.ref a0, l1, l2, l3] (.ref a0 :: S) h := pX_stp d1163_12 rfl rfl rfl
theorem x1163_13 {L S : List Value} {h : HP} {a : Nat} (hk : hp_k h a = 12) : pX 1163 13 L (.ref a :: S) h = pX 1163 16 L (.int (hp_i h a 8) :: S) h := pX_get d1163_13 rfl rfl hk
theorem x1163_16 {L S : List Value} {h : HP} {x : Int32} : pX 1163 16 L (.int x :: S) h = if x = 0 then pX 1163 19 L S h else pX 1163 22 L S h := pX_if_ne d1163_16 (by decide)
theorem x1163_19 {L S : List Value} {h : HP} : pX 1163 19 L S h = pX 1163 21 L (.int (-3) :: S) h := pX_bipush d1163_19 (by decide)
theorem x1163_21 {L : List Value} {h : HP} {x : Int32} : pX 1163 21 L [.int x] h = some (some (.int x), h) := pX_ret d1163_21 rfl
theorem x1163_22 {S : List Value} {h : HP} {l0 l2 l3 : Value} {x0 : Int32} : pX 1163 22 [l0, .int x0, l2, l3] S h = pX 1163 23 [l0, .int x0, l2, l3] (.int x0 :: S) h := pX_stp d1163_22 rfl rfl rfl
theorem x1163_23 {L S : List Value} {h : HP} : pX 1163 23 L S h = pX 1163 24 L (.int 3 :: S) h := pX_iconst d1163_23 (by decide)
theorem x1163_24 {L S : List Value} {h : HP} {x y : Int32} : pX 1163 24 L (.int y :: .int x :: S) h = if y ≤ x then pX 1163 69 L S h else pX 1163 27 L S h := pX_icmp_ge d1163_24 (by decide)
theorem x1163_27 {S : List Value} {h : HP} {l0 l2 l3 : Value} {x0 : Int32} : pX 1163 27 [l0, .int x0, l2, l3] S h = pX 1163 28 [l0, .int x0, l2, l3] (.int x0 :: S) h := pX_stp d1163_27 rfl rfl rfl
theorem x1163_28 {L S : List Value} {h : HP} {x : Int32} : pX 1163 28 L (.int x :: S) h = if x = 0 then pX 1163 31 L S h else pX 1163 38 L S h := pX_if_ne d1163_28 (by decide)
theorem x1163_31 {S : List Value} {h : HP} {l1 l2 l3 : Value} {a0 : Nat} : pX 1163 31 [.ref a0, l1, l2, l3] S h = pX 1163 32 [.ref a0, l1, l2, l3] (.ref a0 :: S) h := pX_stp d1163_31 rfl rfl rfl
theorem x1163_32 {L S : List Value} {h : HP} {a : Nat} (hk : hp_k h a = 12) : pX 1163 32 L (.ref a :: S) h = pX 1163 35 L (.int (hp_i h a 29) :: S) h := pX_get d1163_32 rfl rfl hk
theorem x1163_35 {L S : List Value} {h : HP} : pX 1163 35 L S h = pX 1163 68 L S h := pX_goto d1163_35 (by decide)
theorem x1163_38 {S : List Value} {h : HP} {l0 l2 l3 : Value} {x0 : Int32} : pX 1163 38 [l0, .int x0, l2, l3] S h = pX 1163 39 [l0, .int x0, l2, l3] (.int x0 :: S) h := pX_stp d1163_38 rfl rfl rfl
theorem x1163_39 {L S : List Value} {h : HP} : pX 1163 39 L S h = pX 1163 40 L (.int 1 :: S) h := pX_iconst d1163_39 (by decide)
theorem x1163_40 {L S : List Value} {h : HP} {x y : Int32} : pX 1163 40 L (.int y :: .int x :: S) h = if x = y then pX 1163 43 L S h else pX 1163 57 L S h := pX_icmp_ne d1163_40 (by decide)
theorem x1163_43 {S : List Value} {h : HP} {l1 l2 l3 : Value} {a0 : Nat} : pX 1163 43 [.ref a0, l1, l2, l3] S h = pX 1163 44 [.ref a0, l1, l2, l3] (.ref a0 :: S) h := pX_stp d1163_43 rfl rfl rfl
theorem x1163_44 {L S : List Value} {h : HP} {a : Nat} (hk : hp_k h a = 12) : pX 1163 44 L (.ref a :: S) h = pX 1163 47 L (.ref (hp_a h a 30) :: S) h := pX_get d1163_44 rfl rfl hk
theorem x1163_47 {S : List Value} {h : HP} {l1 l2 l3 : Value} {a0 : Nat} : pX 1163 47 [.ref a0, l1, l2, l3] S h = pX 1163 48 [.ref a0, l1, l2, l3] (.ref a0 :: S) h := pX_stp d1163_47 rfl rfl rfl
theorem x1163_48 {L S : List Value} {h : HP} {a : Nat} (hk : hp_k h a = 12) : pX 1163 48 L (.ref a :: S) h = pX 1163 51 L (.int (hp_i h a 29) :: S) h := pX_get d1163_48 rfl rfl hk
theorem x1163_51 {L S : List Value} {h : HP} : pX 1163 51 L S h = pX 1163 52 L (.int 1 :: S) h := pX_iconst d1163_51 (by decide)
theorem x1163_52 {L S : List Value} {h : HP} {x y : Int32} : pX 1163 52 L (.int y :: .int x :: S) h = pX 1163 53 L (.int (x - y) :: S) h := pX_stp d1163_52 rfl rfl rfl
theorem x1163_53 {L S : List Value} {h : HP} {a : Nat} {j : Int32} (hk : hp_k h a = 100) (hj : inb j (hp_l h a) = true) : pX 1163 53 L (.int j :: .ref a :: S) h = pX 1163 54 L (.int (hp_i h a (ix j)) :: S) h := pX_ild d1163_53 hk hj
theorem x1163_54 {L S : List Value} {h : HP} : pX 1163 54 L S h = pX 1163 68 L S h := pX_goto d1163_54 (by decide)
theorem x1163_57 {S : List Value} {h : HP} {l1 l2 l3 : Value} {a0 : Nat} : pX 1163 57 [.ref a0, l1, l2, l3] S h = pX 1163 58 [.ref a0, l1, l2, l3] (.ref a0 :: S) h := pX_stp d1163_57 rfl rfl rfl
theorem x1163_58 {L S : List Value} {h : HP} {a : Nat} (hk : hp_k h a = 12) : pX 1163 58 L (.ref a :: S) h = pX 1163 61 L (.ref (hp_a h a 31) :: S) h := pX_get d1163_58 rfl rfl hk
theorem x1163_61 {S : List Value} {h : HP} {l1 l2 l3 : Value} {a0 : Nat} : pX 1163 61 [.ref a0, l1, l2, l3] S h = pX 1163 62 [.ref a0, l1, l2, l3] (.ref a0 :: S) h := pX_stp d1163_61 rfl rfl rfl
theorem x1163_62 {L S : List Value} {h : HP} {a : Nat} (hk : hp_k h a = 12) : pX 1163 62 L (.ref a :: S) h = pX 1163 65 L (.int (hp_i h a 29) :: S) h := pX_get d1163_62 rfl rfl hk
theorem x1163_65 {L S : List Value} {h : HP} : pX 1163 65 L S h = pX 1163 66 L (.int 1 :: S) h := pX_iconst d1163_65 (by decide)
theorem x1163_66 {L S : List Value} {h : HP} {x y : Int32} : pX 1163 66 L (.int y :: .int x :: S) h = pX 1163 67 L (.int (x - y) :: S) h := pX_stp d1163_66 rfl rfl rfl
theorem x1163_67 {L S : List Value} {h : HP} {a : Nat} {j : Int32} (hk : hp_k h a = 100) (hj : inb j (hp_l h a) = true) : pX 1163 67 L (.int j :: .ref a :: S) h = pX 1163 68 L (.int (hp_i h a (ix j)) :: S) h := pX_ild d1163_67 hk hj
theorem x1163_68 {L : List Value} {h : HP} {x : Int32} : pX 1163 68 L [.int x] h = some (some (.int x), h) := pX_ret d1163_68 rfl
theorem x1163_69 {L S : List Value} {h : HP} : pX 1163 69 L S h = pX 1163 70 L (.int 0 :: S) h := pX_iconst d1163_69 (by decide)
theorem x1163_70 {S : List Value} {h : HP} {l0 l1 l2 l3 : Value} {x0 : Int32} : pX 1163 70 [l0, l1, l2, l3] (.int x0 :: S) h = pX 1163 71 [l0, l1, .int x0, l3] S h := pX_stp d1163_70 rfl rfl rfl
theorem x1163_71 {L S : List Value} {h : HP} : pX 1163 71 L S h = pX 1163 72 L (.int 0 :: S) h := pX_iconst d1163_71 (by decide)
theorem x1163_72 {S : List Value} {h : HP} {l0 l1 l2 l3 : Value} {x0 : Int32} : pX 1163 72 [l0, l1, l2, l3] (.int x0 :: S) h = pX 1163 73 [l0, l1, l2, .int x0] S h := pX_stp d1163_72 rfl rfl rfl
theorem x1163_73 {S : List Value} {h : HP} {l0 l1 l2 : Value} {x0 : Int32} : pX 1163 73 [l0, l1, l2, .int x0] S h = pX 1163 74 [l0, l1, l2, .int x0] (.int x0 :: S) h := pX_stp d1163_73 rfl rfl rfl
theorem x1163_74 {S : List Value} {h : HP} {l1 l2 l3 : Value} {a0 : Nat} : pX 1163 74 [.ref a0, l1, l2, l3] S h = pX 1163 75 [.ref a0, l1, l2, l3] (.ref a0 :: S) h := pX_stp d1163_74 rfl rfl rfl
theorem x1163_75 {L S : List Value} {h : HP} {a : Nat} (hk : hp_k h a = 12) : pX 1163 75 L (.ref a :: S) h = pX 1163 78 L (.int (hp_i h a 29) :: S) h := pX_get d1163_75 rfl rfl hk
theorem x1163_78 {L S : List Value} {h : HP} {x y : Int32} : pX 1163 78 L (.int y :: .int x :: S) h = if y ≤ x then pX 1163 96 L S h else pX 1163 81 L S h := pX_icmp_ge d1163_78 (by decide)
theorem x1163_81 {S : List Value} {h : HP} {l0 l1 l3 : Value} {x0 : Int32} : pX 1163 81 [l0, l1, .int x0, l3] S h = pX 1163 82 [l0, l1, .int x0, l3] (.int x0 :: S) h := pX_stp d1163_81 rfl rfl rfl
theorem x1163_82 {S : List Value} {h : HP} {l1 l2 l3 : Value} {a0 : Nat} : pX 1163 82 [.ref a0, l1, l2, l3] S h = pX 1163 83 [.ref a0, l1, l2, l3] (.ref a0 :: S) h := pX_stp d1163_82 rfl rfl rfl
theorem x1163_83 {L S : List Value} {h : HP} {a : Nat} (hk : hp_k h a = 12) : pX 1163 83 L (.ref a :: S) h = pX 1163 86 L (.ref (hp_a h a 35) :: S) h := pX_get d1163_83 rfl rfl hk
theorem x1163_86 {S : List Value} {h : HP} {l0 l1 l2 : Value} {x0 : Int32} : pX 1163 86 [l0, l1, l2, .int x0] S h = pX 1163 87 [l0, l1, l2, .int x0] (.int x0 :: S) h := pX_stp d1163_86 rfl rfl rfl
theorem x1163_87 {L S : List Value} {h : HP} {a : Nat} {j : Int32} (hk : hp_k h a = 100) (hj : inb j (hp_l h a) = true) : pX 1163 87 L (.int j :: .ref a :: S) h = pX 1163 88 L (.int (hp_i h a (ix j)) :: S) h := pX_ild d1163_87 hk hj
theorem x1163_88 {L S : List Value} {h : HP} {x y : Int32} : pX 1163 88 L (.int y :: .int x :: S) h = pX 1163 89 L (.int (x + y) :: S) h := pX_stp d1163_88 rfl rfl rfl
theorem x1163_89 {S : List Value} {h : HP} {l0 l1 l2 l3 : Value} {x0 : Int32} : pX 1163 89 [l0, l1, l2, l3] (.int x0 :: S) h = pX 1163 90 [l0, l1, .int x0, l3] S h := pX_stp d1163_89 rfl rfl rfl
theorem x1163_90 {S : List Value} {h : HP} {x0 : Int32} {l0 l1 l2 : Value} : pX 1163 90 [l0, l1, l2, .int x0] S h = pX 1163 93 [l0, l1, l2, .int (x0 + 1)] S h := pX_iinc (x := x0) d1163_90 (by decide) rfl (Nat.le_of_ble_eq_true rfl) rfl rfl
theorem x1163_93 {L S : List Value} {h : HP} : pX 1163 93 L S h = pX 1163 73 L S h := pX_goto d1163_93 (by decide)
theorem x1163_96 {S : List Value} {h : HP} {l0 l1 l3 : Value} {x0 : Int32} : pX 1163 96 [l0, l1, .int x0, l3] S h = pX 1163 97 [l0, l1, .int x0, l3] (.int x0 :: S) h := pX_stp d1163_96 rfl rfl rfl
theorem x1163_97 {L : List Value} {h : HP} {x : Int32} : pX 1163 97 L [.int x] h = some (some (.int x), h) := pX_ret d1163_97 rfl
theorem d1164_0 : decode (mb 1164) 0 = .ok (.iload_n 1, 1) := by decide +kernel
theorem d1164_1 : decode (mb 1164) 1 = .ok (.iconst 0, 1) := by decide +kernel
theorem d1164_2 : decode (mb 1164) 2 = .ok (.bipush 7, 2) := by decide +kernel
theorem d1164_4 : decode (mb 1164) 4 = .ok (.invokestatic 111, 3) := by decide +kernel
theorem d1164_7 : decode (mb 1164) 7 = .ok (.ifCond .eq 12, 3) := by decide +kernel
theorem d1164_10 : decode (mb 1164) 10 = .ok (.iload_n 2, 1) := by decide +kernel
theorem d1164_11 : decode (mb 1164) 11 = .ok (.iconst 0, 1) := by decide +kernel
theorem d1164_12 : decode (mb 1164) 12 = .ok (.iconst 1, 1) := by decide +kernel
theorem d1164_13 : decode (mb 1164) 13 = .ok (.invokestatic 111, 3) := by decide +kernel
theorem d1164_16 : decode (mb 1164) 16 = .ok (.ifCond .ne 6, 3) := by decide +kernel
theorem d1164_19 : decode (mb 1164) 19 = .ok (.bipush (-2), 2) := by decide +kernel
theorem d1164_21 : decode (mb 1164) 21 = .ok (.ireturn, 1) := by decide +kernel
theorem d1164_22 : decode (mb 1164) 22 = .ok (.aload_n 0, 1) := by decide +kernel
theorem d1164_23 : decode (mb 1164) 23 = .ok (.getfield 115, 3) := by decide +kernel
theorem d1164_26 : decode (mb 1164) 26 = .ok (.ifCond .ne 6, 3) := by decide +kernel
theorem d1164_29 : decode (mb 1164) 29 = .ok (.bipush (-3), 2) := by decide +kernel
theorem d1164_31 : decode (mb 1164) 31 = .ok (.ireturn, 1) := by decide +kernel
theorem d1164_32 : decode (mb 1164) 32 = .ok (.bipush 8, 2) := by decide +kernel
theorem d1164_34 : decode (mb 1164) 34 = .ok (.aload_n 0, 1) := by decide +kernel
theorem d1164_35 : decode (mb 1164) 35 = .ok (.getfield 174, 3) := by decide +kernel
theorem d1164_38 : decode (mb 1164) 38 = .ok (.iconst 1, 1) := by decide +kernel
theorem d1164_39 : decode (mb 1164) 39 = .ok (.isub, 1) := by decide +kernel
theorem d1164_40 : decode (mb 1164) 40 = .ok (.imul, 1) := by decide +kernel
theorem d1164_41 : decode (mb 1164) 41 = .ok (.iload_n 1, 1) := by decide +kernel
theorem d1164_42 : decode (mb 1164) 42 = .ok (.iadd, 1) := by decide +kernel
theorem d1164_43 : decode (mb 1164) 43 = .ok (.istore_n 3, 1) := by decide +kernel
theorem d1164_44 : decode (mb 1164) 44 = .ok (.iload_n 2, 1) := by decide +kernel
theorem d1164_45 : decode (mb 1164) 45 = .ok (.ifCond .ne 22, 3) := by decide +kernel
theorem d1164_48 : decode (mb 1164) 48 = .ok (.aload_n 0, 1) := by decide +kernel
theorem d1164_49 : decode (mb 1164) 49 = .ok (.aload_n 0, 1) := by decide +kernel
theorem d1164_50 : decode (mb 1164) 50 = .ok (.getfield 82, 3) := by decide +kernel
theorem d1164_53 : decode (mb 1164) 53 = .ok (.iload_n 3, 1) := by decide +kernel
theorem d1164_54 : decode (mb 1164) 54 = .ok (.iaload, 1) := by decide +kernel
theorem d1164_55 : decode (mb 1164) 55 = .ok (.aload_n 0, 1) := by decide +kernel
theorem d1164_56 : decode (mb 1164) 56 = .ok (.getfield 85, 3) := by decide +kernel
theorem d1164_59 : decode (mb 1164) 59 = .ok (.iload_n 3, 1) := by decide +kernel
theorem d1164_60 : decode (mb 1164) 60 = .ok (.iaload, 1) := by decide +kernel
theorem d1164_61 : decode (mb 1164) 61 = .ok (.invokevirtual 153, 3) := by decide +kernel
theorem d1164_64 : decode (mb 1164) 64 = .ok (.goto 19, 3) := by decide +kernel
theorem d1164_67 : decode (mb 1164) 67 = .ok (.aload_n 0, 1) := by decide +kernel
theorem d1164_68 : decode (mb 1164) 68 = .ok (.aload_n 0, 1) := by decide +kernel
theorem d1164_69 : decode (mb 1164) 69 = .ok (.getfield 82, 3) := by decide +kernel
theorem d1164_72 : decode (mb 1164) 72 = .ok (.iload_n 3, 1) := by decide +kernel
theorem d1164_73 : decode (mb 1164) 73 = .ok (.iaload, 1) := by decide +kernel
theorem d1164_74 : decode (mb 1164) 74 = .ok (.aload_n 0, 1) := by decide +kernel
theorem d1164_75 : decode (mb 1164) 75 = .ok (.getfield 85, 3) := by decide +kernel
theorem d1164_78 : decode (mb 1164) 78 = .ok (.iload_n 3, 1) := by decide +kernel
theorem d1164_79 : decode (mb 1164) 79 = .ok (.iaload, 1) := by decide +kernel
theorem d1164_80 : decode (mb 1164) 80 = .ok (.invokevirtual 296, 3) := by decide +kernel
theorem d1164_83 : decode (mb 1164) 83 = .ok (.ireturn, 1) := by decide +kernel
theorem x1164_0 {S : List Value} {h : HP} {l0 l2 l3 : Value} {x0 : Int32} : pX 1164 0 [l0, .int x0, l2, l3] S h = pX 1164 1 [l0, .int x0, l2, l3] (.int x0 :: S) h := pX_stp d1164_0 rfl rfl rfl
theorem x1164_1 {L S : List Value} {h : HP} : pX 1164 1 L S h = pX 1164 2 L (.int 0 :: S) h := pX_iconst d1164_1 (by decide)
theorem x1164_2 {L S : List Value} {h : HP} : pX 1164 2 L S h = pX 1164 4 L (.int 7 :: S) h := pX_bipush d1164_2 (by decide)
theorem x1164_4 {L : List Value} {h : HP} {x0 : Int32} {x1 : Int32} {x2 : Int32} : pX 1164 4 L [.int x0, .int x1, .int x2] h = (pX 1101 0 [.int x2, .int x1, .int x0] [] h).bind (fun q => pX 1164 7 L (q.1.toList ++ []) q.2) := pX_ins 1101 [.int x2, .int x1, .int x0] [] d1164_4 rfl rfl rfl
theorem x1164_7 {L S : List Value} {h : HP} {x : Int32} : pX 1164 7 L (.int x :: S) h = if x = 0 then pX 1164 19 L S h else pX 1164 10 L S h := pX_if_eq d1164_7 (by decide)
theorem x1164_10 {S : List Value} {h : HP} {l0 l1 l3 : Value} {x0 : Int32} : pX 1164 10 [l0, l1, .int x0, l3] S h = pX 1164 11 [l0, l1, .int x0, l3] (.int x0 :: S) h := pX_stp d1164_10 rfl rfl rfl
theorem x1164_11 {L S : List Value} {h : HP} : pX 1164 11 L S h = pX 1164 12 L (.int 0 :: S) h := pX_iconst d1164_11 (by decide)
theorem x1164_12 {L S : List Value} {h : HP} : pX 1164 12 L S h = pX 1164 13 L (.int 1 :: S) h := pX_iconst d1164_12 (by decide)
theorem x1164_13 {L : List Value} {h : HP} {x0 : Int32} {x1 : Int32} {x2 : Int32} : pX 1164 13 L [.int x0, .int x1, .int x2] h = (pX 1101 0 [.int x2, .int x1, .int x0] [] h).bind (fun q => pX 1164 16 L (q.1.toList ++ []) q.2) := pX_ins 1101 [.int x2, .int x1, .int x0] [] d1164_13 rfl rfl rfl
theorem x1164_16 {L S : List Value} {h : HP} {x : Int32} : pX 1164 16 L (.int x :: S) h = if x = 0 then pX 1164 19 L S h else pX 1164 22 L S h := pX_if_ne d1164_16 (by decide)
theorem x1164_19 {L S : List Value} {h : HP} : pX 1164 19 L S h = pX 1164 21 L (.int (-2) :: S) h := pX_bipush d1164_19 (by decide)
theorem x1164_21 {L : List Value} {h : HP} {x : Int32} : pX 1164 21 L [.int x] h = some (some (.int x), h) := pX_ret d1164_21 rfl
theorem x1164_22 {S : List Value} {h : HP} {l1 l2 l3 : Value} {a0 : Nat} : pX 1164 22 [.ref a0, l1, l2, l3] S h = pX 1164 23 [.ref a0, l1, l2, l3] (.ref a0 :: S) h := pX_stp d1164_22 rfl rfl rfl
theorem x1164_23 {L S : List Value} {h : HP} {a : Nat} (hk : hp_k h a = 12) : pX 1164 23 L (.ref a :: S) h = pX 1164 26 L (.int (hp_i h a 8) :: S) h := pX_get d1164_23 rfl rfl hk
theorem x1164_26 {L S : List Value} {h : HP} {x : Int32} : pX 1164 26 L (.int x :: S) h = if x = 0 then pX 1164 29 L S h else pX 1164 32 L S h := pX_if_ne d1164_26 (by decide)
theorem x1164_29 {L S : List Value} {h : HP} : pX 1164 29 L S h = pX 1164 31 L (.int (-3) :: S) h := pX_bipush d1164_29 (by decide)
theorem x1164_31 {L : List Value} {h : HP} {x : Int32} : pX 1164 31 L [.int x] h = some (some (.int x), h) := pX_ret d1164_31 rfl
theorem x1164_32 {L S : List Value} {h : HP} : pX 1164 32 L S h = pX 1164 34 L (.int 8 :: S) h := pX_bipush d1164_32 (by decide)
theorem x1164_34 {S : List Value} {h : HP} {l1 l2 l3 : Value} {a0 : Nat} : pX 1164 34 [.ref a0, l1, l2, l3] S h = pX 1164 35 [.ref a0, l1, l2, l3] (.ref a0 :: S) h := pX_stp d1164_34 rfl rfl rfl
theorem x1164_35 {L S : List Value} {h : HP} {a : Nat} (hk : hp_k h a = 12) : pX 1164 35 L (.ref a :: S) h = pX 1164 38 L (.int (hp_i h a 29) :: S) h := pX_get d1164_35 rfl rfl hk
theorem x1164_38 {L S : List Value} {h : HP} : pX 1164 38 L S h = pX 1164 39 L (.int 1 :: S) h := pX_iconst d1164_38 (by decide)
theorem x1164_39 {L S : List Value} {h : HP} {x y : Int32} : pX 1164 39 L (.int y :: .int x :: S) h = pX 1164 40 L (.int (x - y) :: S) h := pX_stp d1164_39 rfl rfl rfl
theorem x1164_40 {L S : List Value} {h : HP} {x y : Int32} : pX 1164 40 L (.int y :: .int x :: S) h = pX 1164 41 L (.int (x * y) :: S) h := pX_stp d1164_40 rfl rfl rfl
theorem x1164_41 {S : List Value} {h : HP} {l0 l2 l3 : Value} {x0 : Int32} : pX 1164 41 [l0, .int x0, l2, l3] S h = pX 1164 42 [l0, .int x0, l2, l3] (.int x0 :: S) h := pX_stp d1164_41 rfl rfl rfl
theorem x1164_42 {L S : List Value} {h : HP} {x y : Int32} : pX 1164 42 L (.int y :: .int x :: S) h = pX 1164 43 L (.int (x + y) :: S) h := pX_stp d1164_42 rfl rfl rfl
theorem x1164_43 {S : List Value} {h : HP} {l0 l1 l2 l3 : Value} {x0 : Int32} : pX 1164 43 [l0, l1, l2, l3] (.int x0 :: S) h = pX 1164 44 [l0, l1, l2, .int x0] S h := pX_stp d1164_43 rfl rfl rfl
theorem x1164_44 {S : List Value} {h : HP} {l0 l1 l3 : Value} {x0 : Int32} : pX 1164 44 [l0, l1, .int x0, l3] S h = pX 1164 45 [l0, l1, .int x0, l3] (.int x0 :: S) h := pX_stp d1164_44 rfl rfl rfl
theorem x1164_45 {L S : List Value} {h : HP} {x : Int32} : pX 1164 45 L (.int x :: S) h = if x = 0 then pX 1164 48 L S h else pX 1164 67 L S h := pX_if_ne d1164_45 (by decide)
theorem x1164_48 {S : List Value} {h : HP} {l1 l2 l3 : Value} {a0 : Nat} : pX 1164 48 [.ref a0, l1, l2, l3] S h = pX 1164 49 [.ref a0, l1, l2, l3] (.ref a0 :: S) h := pX_stp d1164_48 rfl rfl rfl
theorem x1164_49 {S : List Value} {h : HP} {l1 l2 l3 : Value} {a0 : Nat} : pX 1164 49 [.ref a0, l1, l2, l3] S h = pX 1164 50 [.ref a0, l1, l2, l3] (.ref a0 :: S) h := pX_stp d1164_49 rfl rfl rfl
theorem x1164_50 {L S : List Value} {h : HP} {a : Nat} (hk : hp_k h a = 12) : pX 1164 50 L (.ref a :: S) h = pX 1164 53 L (.ref (hp_a h a 33) :: S) h := pX_get d1164_50 rfl rfl hk
theorem x1164_53 {S : List Value} {h : HP} {l0 l1 l2 : Value} {x0 : Int32} : pX 1164 53 [l0, l1, l2, .int x0] S h = pX 1164 54 [l0, l1, l2, .int x0] (.int x0 :: S) h := pX_stp d1164_53 rfl rfl rfl
theorem x1164_54 {L S : List Value} {h : HP} {a : Nat} {j : Int32} (hk : hp_k h a = 100) (hj : inb j (hp_l h a) = true) : pX 1164 54 L (.int j :: .ref a :: S) h = pX 1164 55 L (.int (hp_i h a (ix j)) :: S) h := pX_ild d1164_54 hk hj
theorem x1164_55 {S : List Value} {h : HP} {l1 l2 l3 : Value} {a0 : Nat} : pX 1164 55 [.ref a0, l1, l2, l3] S h = pX 1164 56 [.ref a0, l1, l2, l3] (.ref a0 :: S) h := pX_stp d1164_55 rfl rfl rfl
theorem x1164_56 {L S : List Value} {h : HP} {a : Nat} (hk : hp_k h a = 12) : pX 1164 56 L (.ref a :: S) h = pX 1164 59 L (.ref (hp_a h a 34) :: S) h := pX_get d1164_56 rfl rfl hk
theorem x1164_59 {S : List Value} {h : HP} {l0 l1 l2 : Value} {x0 : Int32} : pX 1164 59 [l0, l1, l2, .int x0] S h = pX 1164 60 [l0, l1, l2, .int x0] (.int x0 :: S) h := pX_stp d1164_59 rfl rfl rfl
theorem x1164_60 {L S : List Value} {h : HP} {a : Nat} {j : Int32} (hk : hp_k h a = 100) (hj : inb j (hp_l h a) = true) : pX 1164 60 L (.int j :: .ref a :: S) h = pX 1164 61 L (.int (hp_i h a (ix j)) :: S) h := pX_ild d1164_60 hk hj
theorem x1164_61 {L : List Value} {h : HP} {x0 : Int32} {x1 : Int32} {a0 : Nat} (hk : hp_k h a0 = 12) : pX 1164 61 L [.int x0, .int x1, .ref a0] h = (pX 1119 0 [.ref a0, .int x1, .int x0] [] h).bind (fun q => pX 1164 64 L (q.1.toList ++ []) q.2) := pX_inv (a := a0) (t := 12) 1119 [.ref a0, .int x1, .int x0] [] d1164_61 rfl rfl rfl hk
theorem x1164_64 {L S : List Value} {h : HP} : pX 1164 64 L S h = pX 1164 83 L S h := pX_goto d1164_64 (by decide)
theorem x1164_67 {S : List Value} {h : HP} {l1 l2 l3 : Value} {a0 : Nat} : pX 1164 67 [.ref a0, l1, l2, l3] S h = pX 1164 68 [.ref a0, l1, l2, l3] (.ref a0 :: S) h := pX_stp d1164_67 rfl rfl rfl
theorem x1164_68 {S : List Value} {h : HP} {l1 l2 l3 : Value} {a0 : Nat} : pX 1164 68 [.ref a0, l1, l2, l3] S h = pX 1164 69 [.ref a0, l1, l2, l3] (.ref a0 :: S) h := pX_stp d1164_68 rfl rfl rfl
theorem x1164_69 {L S : List Value} {h : HP} {a : Nat} (hk : hp_k h a = 12) : pX 1164 69 L (.ref a :: S) h = pX 1164 72 L (.ref (hp_a h a 33) :: S) h := pX_get d1164_69 rfl rfl hk
theorem x1164_72 {S : List Value} {h : HP} {l0 l1 l2 : Value} {x0 : Int32} : pX 1164 72 [l0, l1, l2, .int x0] S h = pX 1164 73 [l0, l1, l2, .int x0] (.int x0 :: S) h := pX_stp d1164_72 rfl rfl rfl
theorem x1164_73 {L S : List Value} {h : HP} {a : Nat} {j : Int32} (hk : hp_k h a = 100) (hj : inb j (hp_l h a) = true) : pX 1164 73 L (.int j :: .ref a :: S) h = pX 1164 74 L (.int (hp_i h a (ix j)) :: S) h := pX_ild d1164_73 hk hj
theorem x1164_74 {S : List Value} {h : HP} {l1 l2 l3 : Value} {a0 : Nat} : pX 1164 74 [.ref a0, l1, l2, l3] S h = pX 1164 75 [.ref a0, l1, l2, l3] (.ref a0 :: S) h := pX_stp d1164_74 rfl rfl rfl
theorem x1164_75 {L S : List Value} {h : HP} {a : Nat} (hk : hp_k h a = 12) : pX 1164 75 L (.ref a :: S) h = pX 1164 78 L (.ref (hp_a h a 34) :: S) h := pX_get d1164_75 rfl rfl hk
theorem x1164_78 {S : List Value} {h : HP} {l0 l1 l2 : Value} {x0 : Int32} : pX 1164 78 [l0, l1, l2, .int x0] S h = pX 1164 79 [l0, l1, l2, .int x0] (.int x0 :: S) h := pX_stp d1164_78 rfl rfl rfl
theorem x1164_79 {L S : List Value} {h : HP} {a : Nat} {j : Int32} (hk : hp_k h a = 100) (hj : inb j (hp_l h a) = true) : pX 1164 79 L (.int j :: .ref a :: S) h = pX 1164 80 L (.int (hp_i h a (ix j)) :: S) h := pX_ild d1164_79 hk hj
theorem x1164_80 {L : List Value} {h : HP} {x0 : Int32} {x1 : Int32} {a0 : Nat} (hk : hp_k h a0 = 12) : pX 1164 80 L [.int x0, .int x1, .ref a0] h = (pX 1120 0 [.ref a0, .int x1, .int x0] [] h).bind (fun q => pX 1164 83 L (q.1.toList ++ []) q.2) := pX_inv (a := a0) (t := 12) 1120 [.ref a0, .int x1, .int x0] [] d1164_80 rfl rfl rfl hk
theorem x1164_83 {L : List Value} {h : HP} {x : Int32} : pX 1164 83 L [.int x] h = some (some (.int x), h) := pX_ret d1164_83 rfl
