theorem d1000_0 : decode (mb 1000) 0 = .ok (.aload_n 0, 1) := by decide +kernel
theorem d1000_1 : decode (mb 1000) 1 = .ok (.invokespecial 1, 3) := by decide +kernel
theorem d1000_4 : decode (mb 1000) 4 = .ok (.aload_n 0, 1) := by decide +kernel
theorem d1000_5 : decode (mb 1000) 5 = .ok (.new 7, 3) := by decide +kernel
theorem d1000_8 : decode (mb 1000) 8 = .ok (.dup, 1) := by decide +kernel
theorem d1000_9 : decode (mb 1000) 9 = .ok (.invokespecial 9, 3) := by decide +kernel
theorem d1000_12 : decode (mb 1000) 12 = .ok (.putfield 10, 3) := by decide +kernel
theorem d1000_15 : decode (mb 1000) 15 = .ok (.aload_n 0, 1) := by decide +kernel
theorem d1000_16 : decode (mb 1000) 16 = .ok (.new 16, 3) := by decide +kernel
theorem d1000_19 : decode (mb 1000) 19 = .ok (.dup, 1) := by decide +kernel
theorem d1000_20 : decode (mb 1000) 20 = .ok (.invokespecial 18, 3) := by decide +kernel
theorem d1000_23 : decode (mb 1000) 23 = .ok (.putfield 19, 3) := by decide +kernel
theorem d1000_26 : decode (mb 1000) 26 = .ok (.aload_n 0, 1) := by decide +kernel
theorem d1000_27 : decode (mb 1000) 27 = .ok (.iconst 3, 1) := by decide +kernel
theorem d1000_28 : decode (mb 1000) 28 = .ok (.anewarray 23, 3) := by decide +kernel
theorem d1000_31 : decode (mb 1000) 31 = .ok (.putfield 25, 3) := by decide +kernel
theorem d1000_34 : decode (mb 1000) 34 = .ok (.iconst 0, 1) := by decide +kernel
theorem d1000_35 : decode (mb 1000) 35 = .ok (.istore_n 1, 1) := by decide +kernel
theorem d1000_36 : decode (mb 1000) 36 = .ok (.iload_n 1, 1) := by decide +kernel
theorem d1000_37 : decode (mb 1000) 37 = .ok (.iconst 3, 1) := by decide +kernel
theorem d1000_38 : decode (mb 1000) 38 = .ok (.if_icmp .ge 22, 3) := by decide +kernel
theorem d1000_41 : decode (mb 1000) 41 = .ok (.aload_n 0, 1) := by decide +kernel
theorem d1000_42 : decode (mb 1000) 42 = .ok (.getfield 25, 3) := by decide +kernel
theorem d1000_45 : decode (mb 1000) 45 = .ok (.iload_n 1, 1) := by decide +kernel
theorem d1000_46 : decode (mb 1000) 46 = .ok (.new 23, 3) := by decide +kernel
theorem d1000_49 : decode (mb 1000) 49 = .ok (.dup, 1) := by decide +kernel
theorem d1000_50 : decode (mb 1000) 50 = .ok (.invokespecial 29, 3) := by decide +kernel
theorem d1000_53 : decode (mb 1000) 53 = .ok (.aastore, 1) := by decide +kernel
theorem d1000_54 : decode (mb 1000) 54 = .ok (.iinc 1 1, 3) := by decide +kernel
theorem d1000_57 : decode (mb 1000) 57 = .ok (.goto (-21), 3) := by decide +kernel
theorem d1000_60 : decode (mb 1000) 60 = .ok (.return_, 1) := by decide +kernel
theorem x1000_0 {S : List Value} {h : HP} {l1 : Value} {a0 : Nat} : pX 1000 0 [.ref a0, l1] S h = pX 1000 1 [.ref a0, l1] (.ref a0 :: S) h := pX_stp d1000_0 rfl rfl rfl
theorem x1000_1 {L : List Value} {h : HP} {a0 : Nat} (ha : ¬ a0 = 0) : pX 1000 1 L [.ref a0] h = pX 1000 4 L [] h := pX_oinit d1000_1 rfl (Nat.le_of_ble_eq_true rfl) ha
theorem x1000_4 {S : List Value} {h : HP} {l1 : Value} {a0 : Nat} : pX 1000 4 [.ref a0, l1] S h = pX 1000 5 [.ref a0, l1] (.ref a0 :: S) h := pX_stp d1000_4 rfl rfl rfl
theorem x1000_5 {L S : List Value} {h : HP} : pX 1000 5 L S h = pX 1000 8 L (.ref (hp_n h) :: S) (hp_mk h 4 0 16) := pX_new d1000_5 rfl
theorem x1000_8 {L S : List Value} {h : HP} {a0 : Nat} : pX 1000 8 L (.ref a0 :: S) h = pX 1000 9 L (.ref a0 :: .ref a0 :: S) h := pX_stp d1000_8 rfl rfl rfl
theorem x1000_9 {L : List Value} {h : HP} {a0 : Nat} {a1 : Nat} {a2 : Nat} (hk : hp_k h a0 = 4) : pX 1000 9 L [.ref a0, .ref a1, .ref a2] h = (pX 300 0 [.ref a0, .retAddr 0] [] h).bind (fun q => pX 1000 12 L (q.1.toList ++ [.ref a1, .ref a2]) q.2) := pX_inv (a := a0) (t := 4) 300 [.ref a0] [.ref a1, .ref a2] d1000_9 rfl rfl rfl hk
theorem x1000_12 {L S : List Value} {h : HP} {a b : Nat} (hk : hp_k h a = 11) : pX 1000 12 L (.ref b :: .ref a :: S) h = pX 1000 15 L S (hp_wa h a 0 b) := pX_put d1000_12 rfl rfl rfl hk
theorem x1000_15 {S : List Value} {h : HP} {l1 : Value} {a0 : Nat} : pX 1000 15 [.ref a0, l1] S h = pX 1000 16 [.ref a0, l1] (.ref a0 :: S) h := pX_stp d1000_15 rfl rfl rfl
theorem x1000_16 {L S : List Value} {h : HP} : pX 1000 16 L S h = pX 1000 19 L (.ref (hp_n h) :: S) (hp_mk h 10 0 2) := pX_new d1000_16 rfl
theorem x1000_19 {L S : List Value} {h : HP} {a0 : Nat} : pX 1000 19 L (.ref a0 :: S) h = pX 1000 20 L (.ref a0 :: .ref a0 :: S) h := pX_stp d1000_19 rfl rfl rfl
theorem x1000_20 {L : List Value} {h : HP} {a0 : Nat} {a1 : Nat} {a2 : Nat} (hk : hp_k h a0 = 10) : pX 1000 20 L [.ref a0, .ref a1, .ref a2] h = (pX 900 0 [.ref a0] [] h).bind (fun q => pX 1000 23 L (q.1.toList ++ [.ref a1, .ref a2]) q.2) := pX_inv (a := a0) (t := 10) 900 [.ref a0] [.ref a1, .ref a2] d1000_20 rfl rfl rfl hk
theorem x1000_23 {L S : List Value} {h : HP} {a b : Nat} (hk : hp_k h a = 11) : pX 1000 23 L (.ref b :: .ref a :: S) h = pX 1000 26 L S (hp_wa h a 1 b) := pX_put d1000_23 rfl rfl rfl hk
theorem x1000_26 {S : List Value} {h : HP} {l1 : Value} {a0 : Nat} : pX 1000 26 [.ref a0, l1] S h = pX 1000 27 [.ref a0, l1] (.ref a0 :: S) h := pX_stp d1000_26 rfl rfl rfl
theorem x1000_27 {L S : List Value} {h : HP} : pX 1000 27 L S h = pX 1000 28 L (.int 3 :: S) h := pX_iconst d1000_27 (by decide)
theorem x1000_28 {L S : List Value} {h : HP} {j : Int32} (h0 : 0 ≤ j) (h1 : ix j ≤ 134217728) : pX 1000 28 L (.int j :: S) h = pX 1000 31 L (.ref (hp_n h) :: S) (hp_mk h 208 (ix j) (ix j)) := pX_anew d1000_28 rfl rfl h0 h1
theorem x1000_31 {L S : List Value} {h : HP} {a b : Nat} (hk : hp_k h a = 11) : pX 1000 31 L (.ref b :: .ref a :: S) h = pX 1000 34 L S (hp_wa h a 2 b) := pX_put d1000_31 rfl rfl rfl hk
theorem x1000_34 {L S : List Value} {h : HP} : pX 1000 34 L S h = pX 1000 35 L (.int 0 :: S) h := pX_iconst d1000_34 (by decide)
theorem x1000_35 {S : List Value} {h : HP} {l0 l1 : Value} {x0 : Int32} : pX 1000 35 [l0, l1] (.int x0 :: S) h = pX 1000 36 [l0, .int x0] S h := pX_stp d1000_35 rfl rfl rfl
theorem x1000_36 {S : List Value} {h : HP} {l0 : Value} {x0 : Int32} : pX 1000 36 [l0, .int x0] S h = pX 1000 37 [l0, .int x0] (.int x0 :: S) h := pX_stp d1000_36 rfl rfl rfl
theorem x1000_37 {L S : List Value} {h : HP} : pX 1000 37 L S h = pX 1000 38 L (.int 3 :: S) h := pX_iconst d1000_37 (by decide)
theorem x1000_38 {L S : List Value} {h : HP} {x y : Int32} : pX 1000 38 L (.int y :: .int x :: S) h = if y ≤ x then pX 1000 60 L S h else pX 1000 41 L S h := pX_icmp_ge d1000_38 (by decide)
theorem x1000_41 {S : List Value} {h : HP} {l1 : Value} {a0 : Nat} : pX 1000 41 [.ref a0, l1] S h = pX 1000 42 [.ref a0, l1] (.ref a0 :: S) h := pX_stp d1000_41 rfl rfl rfl
theorem x1000_42 {L S : List Value} {h : HP} {a : Nat} (hk : hp_k h a = 11) : pX 1000 42 L (.ref a :: S) h = pX 1000 45 L (.ref (hp_a h a 2) :: S) h := pX_get d1000_42 rfl rfl hk
theorem x1000_45 {S : List Value} {h : HP} {l0 : Value} {x0 : Int32} : pX 1000 45 [l0, .int x0] S h = pX 1000 46 [l0, .int x0] (.int x0 :: S) h := pX_stp d1000_45 rfl rfl rfl
theorem x1000_46 {L S : List Value} {h : HP} : pX 1000 46 L S h = pX 1000 49 L (.ref (hp_n h) :: S) (hp_mk h 9 0 4) := pX_new d1000_46 rfl
theorem x1000_49 {L S : List Value} {h : HP} {a0 : Nat} : pX 1000 49 L (.ref a0 :: S) h = pX 1000 50 L (.ref a0 :: .ref a0 :: S) h := pX_stp d1000_49 rfl rfl rfl
theorem x1000_50 {L : List Value} {h : HP} {a0 : Nat} {a1 : Nat} {x0 : Int32} {a2 : Nat} (hk : hp_k h a0 = 9) : pX 1000 50 L [.ref a0, .ref a1, .int x0, .ref a2] h = (pX 800 0 [.ref a0] [] h).bind (fun q => pX 1000 53 L (q.1.toList ++ [.ref a1, .int x0, .ref a2]) q.2) := pX_inv (a := a0) (t := 9) 800 [.ref a0] [.ref a1, .int x0, .ref a2] d1000_50 rfl rfl rfl hk
theorem x1000_53 {L S : List Value} {h : HP} {a b : Nat} {j : Int32} (hk : 200 ≤ hp_k h a) (hb : b = 0 ∨ hp_k h b + 199 = hp_k h a) (hj : inb j (hp_l h a) = true) : pX 1000 53 L (.ref b :: .int j :: .ref a :: S) h = pX 1000 54 L S (hp_wa h a (ix j) b) := pX_ast d1000_53 hk hb hj
theorem x1000_54 {S : List Value} {h : HP} {x0 : Int32} {l0 : Value} : pX 1000 54 [l0, .int x0] S h = pX 1000 57 [l0, .int (x0 + 1)] S h := pX_iinc (x := x0) d1000_54 (by decide) rfl (Nat.le_of_ble_eq_true rfl) rfl rfl
theorem x1000_57 {L S : List Value} {h : HP} : pX 1000 57 L S h = pX 1000 36 L S h := pX_goto d1000_57 (by decide)
theorem x1000_60 {L : List Value} {h : HP} : pX 1000 60 L [] h = some (none, h) := pX_ret d1000_60 rfl
theorem d1001_0 : decode (mb 1001) 0 = .ok (.iload_n 1, 1) := by decide +kernel
theorem d1001_1 : decode (mb 1001) 1 = .ok (.iconst 0, 1) := by decide +kernel
theorem d1001_2 : decode (mb 1001) 2 = .ok (.iconst 3, 1) := by decide +kernel
theorem d1001_3 : decode (mb 1001) 3 = .ok (.invokestatic 30, 3) := by decide +kernel
theorem d1001_6 : decode (mb 1001) 6 = .ok (.ifCond .eq 6, 3) := by decide +kernel
theorem d1001_9 : decode (mb 1001) 9 = .ok (.bipush (-2), 2) := by decide +kernel
theorem d1001_11 : decode (mb 1001) 11 = .ok (.ireturn, 1) := by decide +kernel
theorem d1001_12 : decode (mb 1001) 12 = .ok (.aload_n 0, 1) := by decide +kernel
theorem d1001_13 : decode (mb 1001) 13 = .ok (.getfield 10, 3) := by decide +kernel
theorem d1001_16 : decode (mb 1001) 16 = .ok (.invokevirtual 34, 3) := by decide +kernel
theorem d1001_19 : decode (mb 1001) 19 = .ok (.ifCond .eq 6, 3) := by decide +kernel
theorem d1001_22 : decode (mb 1001) 22 = .ok (.bipush (-3), 2) := by decide +kernel
theorem d1001_24 : decode (mb 1001) 24 = .ok (.ireturn, 1) := by decide +kernel
theorem d1001_25 : decode (mb 1001) 25 = .ok (.aload_n 0, 1) := by decide +kernel
theorem d1001_26 : decode (mb 1001) 26 = .ok (.getfield 10, 3) := by decide +kernel
theorem d1001_29 : decode (mb 1001) 29 = .ok (.getfield 38, 3) := by decide +kernel
theorem d1001_32 : decode (mb 1001) 32 = .ok (.bipush 10, 2) := by decide +kernel
theorem d1001_34 : decode (mb 1001) 34 = .ok (.if_icmp .lt 6, 3) := by decide +kernel
theorem d1001_37 : decode (mb 1001) 37 = .ok (.bipush (-4), 2) := by decide +kernel
theorem d1001_39 : decode (mb 1001) 39 = .ok (.ireturn, 1) := by decide +kernel
theorem d1001_40 : decode (mb 1001) 40 = .ok (.aload_n 0, 1) := by decide +kernel
theorem d1001_41 : decode (mb 1001) 41 = .ok (.getfield 10, 3) := by decide +kernel
theorem d1001_44 : decode (mb 1001) 44 = .ok (.getfield 38, 3) := by decide +kernel
theorem d1001_47 : decode (mb 1001) 47 = .ok (.istore_n 2, 1) := by decide +kernel
theorem d1001_48 : decode (mb 1001) 48 = .ok (.aload_n 0, 1) := by decide +kernel
theorem d1001_49 : decode (mb 1001) 49 = .ok (.getfield 10, 3) := by decide +kernel
theorem d1001_52 : decode (mb 1001) 52 = .ok (.getfield 42, 3) := by decide +kernel
theorem d1001_55 : decode (mb 1001) 55 = .ok (.iload_n 2, 1) := by decide +kernel
theorem d1001_56 : decode (mb 1001) 56 = .ok (.aaload, 1) := by decide +kernel
theorem d1001_57 : decode (mb 1001) 57 = .ok (.iload_n 1, 1) := by decide +kernel
theorem d1001_58 : decode (mb 1001) 58 = .ok (.putfield 46, 3) := by decide +kernel
theorem d1001_61 : decode (mb 1001) 61 = .ok (.aload_n 0, 1) := by decide +kernel
theorem d1001_62 : decode (mb 1001) 62 = .ok (.getfield 10, 3) := by decide +kernel
theorem d1001_65 : decode (mb 1001) 65 = .ok (.dup, 1) := by decide +kernel
theorem d1001_66 : decode (mb 1001) 66 = .ok (.getfield 38, 3) := by decide +kernel
theorem d1001_69 : decode (mb 1001) 69 = .ok (.iconst 1, 1) := by decide +kernel
theorem d1001_70 : decode (mb 1001) 70 = .ok (.iadd, 1) := by decide +kernel
theorem d1001_71 : decode (mb 1001) 71 = .ok (.putfield 38, 3) := by decide +kernel
theorem d1001_74 : decode (mb 1001) 74 = .ok (.iload_n 2, 1) := by decide +kernel
theorem d1001_75 : decode (mb 1001) 75 = .ok (.ireturn, 1) := by decide +kernel
theorem x1001_0 {S : List Value} {h : HP} {l0 l2 : Value} {x0 : Int32} : pX 1001 0 [l0, .int x0, l2] S h = pX 1001 1 [l0, .int x0, l2] (.int x0 :: S) h := pX_stp d1001_0 rfl rfl rfl
theorem x1001_1 {L S : List Value} {h : HP} : pX 1001 1 L S h = pX 1001 2 L (.int 0 :: S) h := pX_iconst d1001_1 (by decide)
theorem x1001_2 {L S : List Value} {h : HP} : pX 1001 2 L S h = pX 1001 3 L (.int 3 :: S) h := pX_iconst d1001_2 (by decide)
theorem x1001_3 {L : List Value} {h : HP} {x0 : Int32} {x1 : Int32} {x2 : Int32} : pX 1001 3 L [.int x0, .int x1, .int x2] h = (pX 1025 0 [.int x2, .int x1, .int x0] [] h).bind (fun q => pX 1001 6 L (q.1.toList ++ []) q.2) := pX_ins 1025 [.int x2, .int x1, .int x0] [] d1001_3 rfl rfl rfl
theorem x1001_6 {L S : List Value} {h : HP} {x : Int32} : pX 1001 6 L (.int x :: S) h = if x = 0 then pX 1001 12 L S h else pX 1001 9 L S h := pX_if_eq d1001_6 (by decide)
theorem x1001_9 {L S : List Value} {h : HP} : pX 1001 9 L S h = pX 1001 11 L (.int (-2) :: S) h := pX_bipush d1001_9 (by decide)
theorem x1001_11 {L : List Value} {h : HP} {x : Int32} : pX 1001 11 L [.int x] h = some (some (.int x), h) := pX_ret d1001_11 rfl
theorem x1001_12 {S : List Value} {h : HP} {l1 l2 : Value} {a0 : Nat} : pX 1001 12 [.ref a0, l1, l2] S h = pX 1001 13 [.ref a0, l1, l2] (.ref a0 :: S) h := pX_stp d1001_12 rfl rfl rfl
theorem x1001_13 {L S : List Value} {h : HP} {a : Nat} (hk : hp_k h a = 11) : pX 1001 13 L (.ref a :: S) h = pX 1001 16 L (.ref (hp_a h a 0) :: S) h := pX_get d1001_13 rfl rfl hk
theorem x1001_16 {L : List Value} {h : HP} {a0 : Nat} (hk : hp_k h a0 = 4) : pX 1001 16 L [.ref a0] h = (pX 302 0 [.ref a0] [] h).bind (fun q => pX 1001 19 L (q.1.toList ++ []) q.2) := pX_inv (a := a0) (t := 4) 302 [.ref a0] [] d1001_16 rfl rfl rfl hk
theorem x1001_19 {L S : List Value} {h : HP} {x : Int32} : pX 1001 19 L (.int x :: S) h = if x = 0 then pX 1001 25 L S h else pX 1001 22 L S h := pX_if_eq d1001_19 (by decide)
theorem x1001_22 {L S : List Value} {h : HP} : pX 1001 22 L S h = pX 1001 24 L (.int (-3) :: S) h := pX_bipush d1001_22 (by decide)
theorem x1001_24 {L : List Value} {h : HP} {x : Int32} : pX 1001 24 L [.int x] h = some (some (.int x), h) := pX_ret d1001_24 rfl
theorem x1001_25 {S : List Value} {h : HP} {l1 l2 : Value} {a0 : Nat} : pX 1001 25 [.ref a0, l1, l2] S h = pX 1001 26 [.ref a0, l1, l2] (.ref a0 :: S) h := pX_stp d1001_25 rfl rfl rfl
theorem x1001_26 {L S : List Value} {h : HP} {a : Nat} (hk : hp_k h a = 11) : pX 1001 26 L (.ref a :: S) h = pX 1001 29 L (.ref (hp_a h a 0) :: S) h := pX_get d1001_26 rfl rfl hk
theorem x1001_29 {L S : List Value} {h : HP} {a : Nat} (hk : hp_k h a = 4) : pX 1001 29 L (.ref a :: S) h = pX 1001 32 L (.int (hp_i h a 1) :: S) h := pX_get d1001_29 rfl rfl hk
theorem x1001_32 {L S : List Value} {h : HP} : pX 1001 32 L S h = pX 1001 34 L (.int 10 :: S) h := pX_bipush d1001_32 (by decide)
theorem x1001_34 {L S : List Value} {h : HP} {x y : Int32} : pX 1001 34 L (.int y :: .int x :: S) h = if x < y then pX 1001 40 L S h else pX 1001 37 L S h := pX_icmp_lt d1001_34 (by decide)
theorem x1001_37 {L S : List Value} {h : HP} : pX 1001 37 L S h = pX 1001 39 L (.int (-4) :: S) h := pX_bipush d1001_37 (by decide)
theorem x1001_39 {L : List Value} {h : HP} {x : Int32} : pX 1001 39 L [.int x] h = some (some (.int x), h) := pX_ret d1001_39 rfl
theorem x1001_40 {S : List Value} {h : HP} {l1 l2 : Value} {a0 : Nat} : pX 1001 40 [.ref a0, l1, l2] S h = pX 1001 41 [.ref a0, l1, l2] (.ref a0 :: S) h := pX_stp d1001_40 rfl rfl rfl
theorem x1001_41 {L S : List Value} {h : HP} {a : Nat} (hk : hp_k h a = 11) : pX 1001 41 L (.ref a :: S) h = pX 1001 44 L (.ref (hp_a h a 0) :: S) h := pX_get d1001_41 rfl rfl hk
theorem x1001_44 {L S : List Value} {h : HP} {a : Nat} (hk : hp_k h a = 4) : pX 1001 44 L (.ref a :: S) h = pX 1001 47 L (.int (hp_i h a 1) :: S) h := pX_get d1001_44 rfl rfl hk
theorem x1001_47 {S : List Value} {h : HP} {l0 l1 l2 : Value} {x0 : Int32} : pX 1001 47 [l0, l1, l2] (.int x0 :: S) h = pX 1001 48 [l0, l1, .int x0] S h := pX_stp d1001_47 rfl rfl rfl
theorem x1001_48 {S : List Value} {h : HP} {l1 l2 : Value} {a0 : Nat} : pX 1001 48 [.ref a0, l1, l2] S h = pX 1001 49 [.ref a0, l1, l2] (.ref a0 :: S) h := pX_stp d1001_48 rfl rfl rfl
theorem x1001_49 {L S : List Value} {h : HP} {a : Nat} (hk : hp_k h a = 11) : pX 1001 49 L (.ref a :: S) h = pX 1001 52 L (.ref (hp_a h a 0) :: S) h := pX_get d1001_49 rfl rfl hk
theorem x1001_52 {L S : List Value} {h : HP} {a : Nat} (hk : hp_k h a = 4) : pX 1001 52 L (.ref a :: S) h = pX 1001 55 L (.ref (hp_a h a 0) :: S) h := pX_get d1001_52 rfl rfl hk
theorem x1001_55 {S : List Value} {h : HP} {l0 l1 : Value} {x0 : Int32} : pX 1001 55 [l0, l1, .int x0] S h = pX 1001 56 [l0, l1, .int x0] (.int x0 :: S) h := pX_stp d1001_55 rfl rfl rfl
theorem x1001_56 {L S : List Value} {h : HP} {a : Nat} {j : Int32} (hk : 200 ≤ hp_k h a) (hj : inb j (hp_l h a) = true) : pX 1001 56 L (.int j :: .ref a :: S) h = pX 1001 57 L (.ref (hp_a h a (ix j)) :: S) h := pX_ald d1001_56 hk hj
theorem x1001_57 {S : List Value} {h : HP} {l0 l2 : Value} {x0 : Int32} : pX 1001 57 [l0, .int x0, l2] S h = pX 1001 58 [l0, .int x0, l2] (.int x0 :: S) h := pX_stp d1001_57 rfl rfl rfl
theorem x1001_58 {L S : List Value} {h : HP} {a : Nat} {x : Int32} (hk : hp_k h a = 5) : pX 1001 58 L (.int x :: .ref a :: S) h = pX 1001 61 L S (hp_wi h a 0 x) := pX_put d1001_58 rfl rfl rfl hk
theorem x1001_61 {S : List Value} {h : HP} {l1 l2 : Value} {a0 : Nat} : pX 1001 61 [.ref a0, l1, l2] S h = pX 1001 62 [.ref a0, l1, l2] (.ref a0 :: S) h := pX_stp d1001_61 rfl rfl rfl
theorem x1001_62 {L S : List Value} {h : HP} {a : Nat} (hk : hp_k h a = 11) : pX 1001 62 L (.ref a :: S) h = pX 1001 65 L (.ref (hp_a h a 0) :: S) h := pX_get d1001_62 rfl rfl hk
theorem x1001_65 {L S : List Value} {h : HP} {a0 : Nat} : pX 1001 65 L (.ref a0 :: S) h = pX 1001 66 L (.ref a0 :: .ref a0 :: S) h := pX_stp d1001_65 rfl rfl rfl
theorem x1001_66 {L S : List Value} {h : HP} {a : Nat} (hk : hp_k h a = 4) : pX 1001 66 L (.ref a :: S) h = pX 1001 69 L (.int (hp_i h a 1) :: S) h := pX_get d1001_66 rfl rfl hk
theorem x1001_69 {L S : List Value} {h : HP} : pX 1001 69 L S h = pX 1001 70 L (.int 1 :: S) h := pX_iconst d1001_69 (by decide)
theorem x1001_70 {L S : List Value} {h : HP} {x y : Int32} : pX 1001 70 L (.int y :: .int x :: S) h = pX 1001 71 L (.int (x + y) :: S) h := pX_stp d1001_70 rfl rfl rfl
theorem x1001_71 {L S : List Value} {h : HP} {a : Nat} {x : Int32} (hk : hp_k h a = 4) : pX 1001 71 L (.int x :: .ref a :: S) h = pX 1001 74 L S (hp_wi h a 1 x) := pX_put d1001_71 rfl rfl rfl hk
theorem x1001_74 {S : List Value} {h : HP} {l0 l1 : Value} {x0 : Int32} : pX 1001 74 [l0, l1, .int x0] S h = pX 1001 75 [l0, l1, .int x0] (.int x0 :: S) h := pX_stp d1001_74 rfl rfl rfl
theorem x1001_75 {L : List Value} {h : HP} {x : Int32} : pX 1001 75 L [.int x] h = some (some (.int x), h) := pX_ret d1001_75 rfl
theorem d1002_0 : decode (mb 1002) 0 = .ok (.aload_n 0, 1) := by decide +kernel
theorem d1002_1 : decode (mb 1002) 1 = .ok (.getfield 10, 3) := by decide +kernel
theorem d1002_4 : decode (mb 1002) 4 = .ok (.iload_n 1, 1) := by decide +kernel
theorem d1002_5 : decode (mb 1002) 5 = .ok (.invokevirtual 51, 3) := by decide +kernel
theorem d1002_8 : decode (mb 1002) 8 = .ok (.ifCond .eq 5, 3) := by decide +kernel
theorem d1002_11 : decode (mb 1002) 11 = .ok (.iconst (-1), 1) := by decide +kernel
theorem d1002_12 : decode (mb 1002) 12 = .ok (.ireturn, 1) := by decide +kernel
theorem d1002_13 : decode (mb 1002) 13 = .ok (.iload_n 2, 1) := by decide +kernel
theorem d1002_14 : decode (mb 1002) 14 = .ok (.iconst 0, 1) := by decide +kernel
theorem d1002_15 : decode (mb 1002) 15 = .ok (.bipush 27, 2) := by decide +kernel
theorem d1002_17 : decode (mb 1002) 17 = .ok (.invokestatic 30, 3) := by decide +kernel
theorem d1002_20 : decode (mb 1002) 20 = .ok (.ifCond .ne 27, 3) := by decide +kernel
theorem d1002_23 : decode (mb 1002) 23 = .ok (.iload_n 2, 1) := by decide +kernel
theorem d1002_24 : decode (mb 1002) 24 = .ok (.iload_n 3, 1) := by decide +kernel
theorem d1002_25 : decode (mb 1002) 25 = .ok (.iload 4, 2) := by decide +kernel
theorem d1002_27 : decode (mb 1002) 27 = .ok (.iload 5, 2) := by decide +kernel
theorem d1002_29 : decode (mb 1002) 29 = .ok (.invokestatic 55, 3) := by decide +kernel
theorem d1002_32 : decode (mb 1002) 32 = .ok (.ifCond .ne 15, 3) := by decide +kernel
theorem d1002_35 : decode (mb 1002) 35 = .ok (.iload_n 2, 1) := by decide +kernel
theorem d1002_36 : decode (mb 1002) 36 = .ok (.iload_n 3, 1) := by decide +kernel
theorem d1002_37 : decode (mb 1002) 37 = .ok (.iload 4, 2) := by decide +kernel
theorem d1002_39 : decode (mb 1002) 39 = .ok (.iload 5, 2) := by decide +kernel
theorem d1002_41 : decode (mb 1002) 41 = .ok (.invokestatic 59, 3) := by decide +kernel
theorem d1002_44 : decode (mb 1002) 44 = .ok (.ifCond .eq 6, 3) := by decide +kernel
theorem d1002_47 : decode (mb 1002) 47 = .ok (.bipush (-2), 2) := by decide +kernel
theorem d1002_49 : decode (mb 1002) 49 = .ok (.ireturn, 1) := by decide +kernel
theorem d1002_50 : decode (mb 1002) 50 = .ok (.aload_n 0, 1) := by decide +kernel
theorem d1002_51 : decode (mb 1002) 51 = .ok (.getfield 10, 3) := by decide +kernel
theorem d1002_54 : decode (mb 1002) 54 = .ok (.invokevirtual 34, 3) := by decide +kernel
theorem d1002_57 : decode (mb 1002) 57 = .ok (.ifCond .eq 6, 3) := by decide +kernel
theorem d1002_60 : decode (mb 1002) 60 = .ok (.bipush (-3), 2) := by decide +kernel
theorem d1002_62 : decode (mb 1002) 62 = .ok (.ireturn, 1) := by decide +kernel
theorem d1002_63 : decode (mb 1002) 63 = .ok (.aload_n 0, 1) := by decide +kernel
theorem d1002_64 : decode (mb 1002) 64 = .ok (.getfield 10, 3) := by decide +kernel
theorem d1002_67 : decode (mb 1002) 67 = .ok (.getfield 42, 3) := by decide +kernel
theorem d1002_70 : decode (mb 1002) 70 = .ok (.iload_n 1, 1) := by decide +kernel
theorem d1002_71 : decode (mb 1002) 71 = .ok (.aaload, 1) := by decide +kernel
theorem d1002_72 : decode (mb 1002) 72 = .ok (.astore 6, 2) := by decide +kernel
theorem d1002_74 : decode (mb 1002) 74 = .ok (.aload 6, 2) := by decide +kernel
theorem d1002_76 : decode (mb 1002) 76 = .ok (.getfield 62, 3) := by decide +kernel
theorem d1002_79 : decode (mb 1002) 79 = .ok (.bipush 40, 2) := by decide +kernel
theorem d1002_81 : decode (mb 1002) 81 = .ok (.if_icmp .lt 8, 3) := by decide +kernel
theorem d1002_84 : decode (mb 1002) 84 = .ok (.bipush (-4), 2) := by decide +kernel
theorem d1002_86 : decode (mb 1002) 86 = .ok (.goto 14, 3) := by decide +kernel
theorem d1002_89 : decode (mb 1002) 89 = .ok (.aload 6, 2) := by decide +kernel
theorem d1002_91 : decode (mb 1002) 91 = .ok (.iload_n 2, 1) := by decide +kernel
theorem d1002_92 : decode (mb 1002) 92 = .ok (.iload_n 3, 1) := by decide +kernel
theorem d1002_93 : decode (mb 1002) 93 = .ok (.iload 4, 2) := by decide +kernel
theorem d1002_95 : decode (mb 1002) 95 = .ok (.iload 5, 2) := by decide +kernel
theorem d1002_97 : decode (mb 1002) 97 = .ok (.invokevirtual 65, 3) := by decide +kernel
theorem d1002_100 : decode (mb 1002) 100 = .ok (.ireturn, 1) := by decide +kernel
theorem x1002_0 {S : List Value} {h : HP} {l1 l2 l3 l4 l5 l6 : Value} {a0 : Nat} : pX 1002 0 [.ref a0, l1, l2, l3, l4, l5, l6] S h = pX 1002 1 [.ref a0, l1, l2, l3, l4, l5, l6] (.ref a0 :: S) h := pX_stp d1002_0 rfl rfl rfl
theorem x1002_1 {L S : List Value} {h : HP} {a : Nat} (hk : hp_k h a = 11) : pX 1002 1 L (.ref a :: S) h = pX 1002 4 L (.ref (hp_a h a 0) :: S) h := pX_get d1002_1 rfl rfl hk
theorem x1002_4 {S : List Value} {h : HP} {l0 l2 l3 l4 l5 l6 : Value} {x0 : Int32} : pX 1002 4 [l0, .int x0, l2, l3, l4, l5, l6] S h = pX 1002 5 [l0, .int x0, l2, l3, l4, l5, l6] (.int x0 :: S) h := pX_stp d1002_4 rfl rfl rfl
theorem x1002_5 {L : List Value} {h : HP} {x0 : Int32} {a0 : Nat} (hk : hp_k h a0 = 4) : pX 1002 5 L [.int x0, .ref a0] h = (pX 301 0 [.ref a0, .int x0] [] h).bind (fun q => pX 1002 8 L (q.1.toList ++ []) q.2) := pX_inv (a := a0) (t := 4) 301 [.ref a0, .int x0] [] d1002_5 rfl rfl rfl hk
theorem x1002_8 {L S : List Value} {h : HP} {x : Int32} : pX 1002 8 L (.int x :: S) h = if x = 0 then pX 1002 13 L S h else pX 1002 11 L S h := pX_if_eq d1002_8 (by decide)
theorem x1002_11 {L S : List Value} {h : HP} : pX 1002 11 L S h = pX 1002 12 L (.int (-1) :: S) h := pX_iconst d1002_11 (by decide)
theorem x1002_12 {L : List Value} {h : HP} {x : Int32} : pX 1002 12 L [.int x] h = some (some (.int x), h) := pX_ret d1002_12 rfl
theorem x1002_13 {S : List Value} {h : HP} {l0 l1 l3 l4 l5 l6 : Value} {x0 : Int32} : pX 1002 13 [l0, l1, .int x0, l3, l4, l5, l6] S h = pX 1002 14 [l0, l1, .int x0, l3, l4, l5, l6] (.int x0 :: S) h := pX_stp d1002_13 rfl rfl rfl
theorem x1002_14 {L S : List Value} {h : HP} : pX 1002 14 L S h = pX 1002 15 L (.int 0 :: S) h := pX_iconst d1002_14 (by decide)
theorem x1002_15 {L S : List Value} {h : HP} : pX 1002 15 L S h = pX 1002 17 L (.int 27 :: S) h := pX_bipush d1002_15 (by decide)
theorem x1002_17 {L : List Value} {h : HP} {x0 : Int32} {x1 : Int32} {x2 : Int32} : pX 1002 17 L [.int x0, .int x1, .int x2] h = (pX 1025 0 [.int x2, .int x1, .int x0] [] h).bind (fun q => pX 1002 20 L (q.1.toList ++ []) q.2) := pX_ins 1025 [.int x2, .int x1, .int x0] [] d1002_17 rfl rfl rfl
theorem x1002_20 {L S : List Value} {h : HP} {x : Int32} : pX 1002 20 L (.int x :: S) h = if x = 0 then pX 1002 23 L S h else pX 1002 47 L S h := pX_if_ne d1002_20 (by decide)
theorem x1002_23 {S : List Value} {h : HP} {l0 l1 l3 l4 l5 l6 : Value} {x0 : Int32} : pX 1002 23 [l0, l1, .int x0, l3, l4, l5, l6] S h = pX 1002 24 [l0, l1, .int x0, l3, l4, l5, l6] (.int x0 :: S) h := pX_stp d1002_23 rfl rfl rfl
theorem x1002_24 {S : List Value} {h : HP} {l0 l1 l2 l4 l5 l6 : Value} {x0 : Int32} : pX 1002 24 [l0, l1, l2, .int x0, l4, l5, l6] S h = pX 1002 25 [l0, l1, l2, .int x0, l4, l5, l6] (.int x0 :: S) h := pX_stp d1002_24 rfl rfl rfl
theorem x1002_25 {S : List Value} {h : HP} {l0 l1 l2 l3 l5 l6 : Value} {x0 : Int32} : pX 1002 25 [l0, l1, l2, l3, .int x0, l5, l6] S h = pX 1002 27 [l0, l1, l2, l3, .int x0, l5, l6] (.int x0 :: S) h := pX_stp d1002_25 rfl rfl rfl
theorem x1002_27 {S : List Value} {h : HP} {l0 l1 l2 l3 l4 l6 : Value} {x0 : Int32} : pX 1002 27 [l0, l1, l2, l3, l4, .int x0, l6] S h = pX 1002 29 [l0, l1, l2, l3, l4, .int x0, l6] (.int x0 :: S) h := pX_stp d1002_27 rfl rfl rfl
theorem x1002_29 {L : List Value} {h : HP} {x0 : Int32} {x1 : Int32} {x2 : Int32} {x3 : Int32} : pX 1002 29 L [.int x0, .int x1, .int x2, .int x3] h = (pX 1026 0 [.int x3, .int x2, .int x1, .int x0, .retAddr 0] [] h).bind (fun q => pX 1002 32 L (q.1.toList ++ []) q.2) := pX_ins 1026 [.int x3, .int x2, .int x1, .int x0] [] d1002_29 rfl rfl rfl
theorem x1002_32 {L S : List Value} {h : HP} {x : Int32} : pX 1002 32 L (.int x :: S) h = if x = 0 then pX 1002 35 L S h else pX 1002 47 L S h := pX_if_ne d1002_32 (by decide)
theorem x1002_35 {S : List Value} {h : HP} {l0 l1 l3 l4 l5 l6 : Value} {x0 : Int32} : pX 1002 35 [l0, l1, .int x0, l3, l4, l5, l6] S h = pX 1002 36 [l0, l1, .int x0, l3, l4, l5, l6] (.int x0 :: S) h := pX_stp d1002_35 rfl rfl rfl
theorem x1002_36 {S : List Value} {h : HP} {l0 l1 l2 l4 l5 l6 : Value} {x0 : Int32} : pX 1002 36 [l0, l1, l2, .int x0, l4, l5, l6] S h = pX 1002 37 [l0, l1, l2, .int x0, l4, l5, l6] (.int x0 :: S) h := pX_stp d1002_36 rfl rfl rfl
theorem x1002_37 {S : List Value} {h : HP} {l0 l1 l2 l3 l5 l6 : Value} {x0 : Int32} : pX 1002 37 [l0, l1, l2, l3, .int x0, l5, l6] S h = pX 1002 39 [l0, l1, l2, l3, .int x0, l5, l6] (.int x0 :: S) h := pX_stp d1002_37 rfl rfl rfl
theorem x1002_39 {S : List Value} {h : HP} {l0 l1 l2 l3 l4 l6 : Value} {x0 : Int32} : pX 1002 39 [l0, l1, l2, l3, l4, .int x0, l6] S h = pX 1002 41 [l0, l1, l2, l3, l4, .int x0, l6] (.int x0 :: S) h := pX_stp d1002_39 rfl rfl rfl
theorem x1002_41 {L : List Value} {h : HP} {x0 : Int32} {x1 : Int32} {x2 : Int32} {x3 : Int32} : pX 1002 41 L [.int x0, .int x1, .int x2, .int x3] h = (pX 1027 0 [.int x3, .int x2, .int x1, .int x0] [] h).bind (fun q => pX 1002 44 L (q.1.toList ++ []) q.2) := pX_ins 1027 [.int x3, .int x2, .int x1, .int x0] [] d1002_41 rfl rfl rfl
theorem x1002_44 {L S : List Value} {h : HP} {x : Int32} : pX 1002 44 L (.int x :: S) h = if x = 0 then pX 1002 50 L S h else pX 1002 47 L S h := pX_if_eq d1002_44 (by decide)
theorem x1002_47 {L S : List Value} {h : HP} : pX 1002 47 L S h = pX 1002 49 L (.int (-2) :: S) h := pX_bipush d1002_47 (by decide)
theorem x1002_49 {L : List Value} {h : HP} {x : Int32} : pX 1002 49 L [.int x] h = some (some (.int x), h) := pX_ret d1002_49 rfl
theorem x1002_50 {S : List Value} {h : HP} {l1 l2 l3 l4 l5 l6 : Value} {a0 : Nat} : pX 1002 50 [.ref a0, l1, l2, l3, l4, l5, l6] S h = pX 1002 51 [.ref a0, l1, l2, l3, l4, l5, l6] (.ref a0 :: S) h := pX_stp d1002_50 rfl rfl rfl
theorem x1002_51 {L S : List Value} {h : HP} {a : Nat} (hk : hp_k h a = 11) : pX 1002 51 L (.ref a :: S) h = pX 1002 54 L (.ref (hp_a h a 0) :: S) h := pX_get d1002_51 rfl rfl hk
theorem x1002_54 {L : List Value} {h : HP} {a0 : Nat} (hk : hp_k h a0 = 4) : pX 1002 54 L [.ref a0] h = (pX 302 0 [.ref a0] [] h).bind (fun q => pX 1002 57 L (q.1.toList ++ []) q.2) := pX_inv (a := a0) (t := 4) 302 [.ref a0] [] d1002_54 rfl rfl rfl hk
theorem x1002_57 {L S : List Value} {h : HP} {x : Int32} : pX 1002 57 L (.int x :: S) h = if x = 0 then pX 1002 63 L S h else pX 1002 60 L S h := pX_if_eq d1002_57 (by decide)
theorem x1002_60 {L S : List Value} {h : HP} : pX 1002 60 L S h = pX 1002 62 L (.int (-3) :: S) h := pX_bipush d1002_60 (by decide)
theorem x1002_62 {L : List Value} {h : HP} {x : Int32} : pX 1002 62 L [.int x] h = some (some (.int x), h) := pX_ret d1002_62 rfl
theorem x1002_63 {S : List Value} {h : HP} {l1 l2 l3 l4 l5 l6 : Value} {a0 : Nat} : pX 1002 63 [.ref a0, l1, l2, l3, l4, l5, l6] S h = pX 1002 64 [.ref a0, l1, l2, l3, l4, l5, l6] (.ref a0 :: S) h := pX_stp d1002_63 rfl rfl rfl
theorem x1002_64 {L S : List Value} {h : HP} {a : Nat} (hk : hp_k h a = 11) : pX 1002 64 L (.ref a :: S) h = pX 1002 67 L (.ref (hp_a h a 0) :: S) h := pX_get d1002_64 rfl rfl hk
theorem x1002_67 {L S : List Value} {h : HP} {a : Nat} (hk : hp_k h a = 4) : pX 1002 67 L (.ref a :: S) h = pX 1002 70 L (.ref (hp_a h a 0) :: S) h := pX_get d1002_67 rfl rfl hk
theorem x1002_70 {S : List Value} {h : HP} {l0 l2 l3 l4 l5 l6 : Value} {x0 : Int32} : pX 1002 70 [l0, .int x0, l2, l3, l4, l5, l6] S h = pX 1002 71 [l0, .int x0, l2, l3, l4, l5, l6] (.int x0 :: S) h := pX_stp d1002_70 rfl rfl rfl
theorem x1002_71 {L S : List Value} {h : HP} {a : Nat} {j : Int32} (hk : 200 ≤ hp_k h a) (hj : inb j (hp_l h a) = true) : pX 1002 71 L (.int j :: .ref a :: S) h = pX 1002 72 L (.ref (hp_a h a (ix j)) :: S) h := pX_ald d1002_71 hk hj
theorem x1002_72 {S : List Value} {h : HP} {l0 l1 l2 l3 l4 l5 l6 : Value} {a0 : Nat} : pX 1002 72 [l0, l1, l2, l3, l4, l5, l6] (.ref a0 :: S) h = pX 1002 74 [l0, l1, l2, l3, l4, l5, .ref a0] S h := pX_stp d1002_72 rfl rfl rfl
theorem x1002_74 {S : List Value} {h : HP} {l0 l1 l2 l3 l4 l5 : Value} {a0 : Nat} : pX 1002 74 [l0, l1, l2, l3, l4, l5, .ref a0] S h = pX 1002 76 [l0, l1, l2, l3, l4, l5, .ref a0] (.ref a0 :: S) h := pX_stp d1002_74 rfl rfl rfl
theorem x1002_76 {L S : List Value} {h : HP} {a : Nat} (hk : hp_k h a = 5) : pX 1002 76 L (.ref a :: S) h = pX 1002 79 L (.int (hp_i h a 2) :: S) h := pX_get d1002_76 rfl rfl hk
theorem x1002_79 {L S : List Value} {h : HP} : pX 1002 79 L S h = pX 1002 81 L (.int 40 :: S) h := pX_bipush d1002_79 (by decide)
theorem x1002_81 {L S : List Value} {h : HP} {x y : Int32} : pX 1002 81 L (.int y :: .int x :: S) h = if x < y then pX 1002 89 L S h else pX 1002 84 L S h := pX_icmp_lt d1002_81 (by decide)
theorem x1002_84 {L S : List Value} {h : HP} : pX 1002 84 L S h = pX 1002 86 L (.int (-4) :: S) h := pX_bipush d1002_84 (by decide)
theorem x1002_86 {L S : List Value} {h : HP} : pX 1002 86 L S h = pX 1002 100 L S h := pX_goto d1002_86 (by decide)
theorem x1002_89 {S : List Value} {h : HP} {l0 l1 l2 l3 l4 l5 : Value} {a0 : Nat} : pX 1002 89 [l0, l1, l2, l3, l4, l5, .ref a0] S h = pX 1002 91 [l0, l1, l2, l3, l4, l5, .ref a0] (.ref a0 :: S) h := pX_stp d1002_89 rfl rfl rfl
theorem x1002_91 {S : List Value} {h : HP} {l0 l1 l3 l4 l5 l6 : Value} {x0 : Int32} : pX 1002 91 [l0, l1, .int x0, l3, l4, l5, l6] S h = pX 1002 92 [l0, l1, .int x0, l3, l4, l5, l6] (.int x0 :: S) h := pX_stp d1002_91 rfl rfl rfl
theorem x1002_92 {S : List Value} {h : HP} {l0 l1 l2 l4 l5 l6 : Value} {x0 : Int32} : pX 1002 92 [l0, l1, l2, .int x0, l4, l5, l6] S h = pX 1002 93 [l0, l1, l2, .int x0, l4, l5, l6] (.int x0 :: S) h := pX_stp d1002_92 rfl rfl rfl
theorem x1002_93 {S : List Value} {h : HP} {l0 l1 l2 l3 l5 l6 : Value} {x0 : Int32} : pX 1002 93 [l0, l1, l2, l3, .int x0, l5, l6] S h = pX 1002 95 [l0, l1, l2, l3, .int x0, l5, l6] (.int x0 :: S) h := pX_stp d1002_93 rfl rfl rfl
theorem x1002_95 {S : List Value} {h : HP} {l0 l1 l2 l3 l4 l6 : Value} {x0 : Int32} : pX 1002 95 [l0, l1, l2, l3, l4, .int x0, l6] S h = pX 1002 97 [l0, l1, l2, l3, l4, .int x0, l6] (.int x0 :: S) h := pX_stp d1002_95 rfl rfl rfl
theorem x1002_97 {L : List Value} {h : HP} {x0 : Int32} {x1 : Int32} {x2 : Int32} {x3 : Int32} {a0 : Nat} (hk : hp_k h a0 = 5) : pX 1002 97 L [.int x0, .int x1, .int x2, .int x3, .ref a0] h = (pX 401 0 [.ref a0, .int x3, .int x2, .int x1, .int x0] [] h).bind (fun q => pX 1002 100 L (q.1.toList ++ []) q.2) := pX_inv (a := a0) (t := 5) 401 [.ref a0, .int x3, .int x2, .int x1, .int x0] [] d1002_97 rfl rfl rfl hk
theorem x1002_100 {L : List Value} {h : HP} {x : Int32} : pX 1002 100 L [.int x] h = some (some (.int x), h) := pX_ret d1002_100 rfl
theorem d1003_0 : decode (mb 1003) 0 = .ok (.aload_n 0, 1) := by decide +kernel
theorem d1003_1 : decode (mb 1003) 1 = .ok (.getfield 10, 3) := by decide +kernel
theorem d1003_4 : decode (mb 1003) 4 = .ok (.iload_n 1, 1) := by decide +kernel
theorem d1003_5 : decode (mb 1003) 5 = .ok (.invokevirtual 51, 3) := by decide +kernel
theorem d1003_8 : decode (mb 1003) 8 = .ok (.ifCond .eq 5, 3) := by decide +kernel
theorem d1003_11 : decode (mb 1003) 11 = .ok (.iconst (-1), 1) := by decide +kernel
theorem d1003_12 : decode (mb 1003) 12 = .ok (.ireturn, 1) := by decide +kernel
theorem d1003_13 : decode (mb 1003) 13 = .ok (.iload_n 2, 1) := by decide +kernel
theorem d1003_14 : decode (mb 1003) 14 = .ok (.iconst 0, 1) := by decide +kernel
theorem d1003_15 : decode (mb 1003) 15 = .ok (.bipush 40, 2) := by decide +kernel
theorem d1003_17 : decode (mb 1003) 17 = .ok (.invokestatic 30, 3) := by decide +kernel
theorem d1003_20 : decode (mb 1003) 20 = .ok (.ifCond .ne 35, 3) := by decide +kernel
theorem d1003_23 : decode (mb 1003) 23 = .ok (.iload_n 3, 1) := by decide +kernel
theorem d1003_24 : decode (mb 1003) 24 = .ok (.iconst 0, 1) := by decide +kernel
theorem d1003_25 : decode (mb 1003) 25 = .ok (.bipush 40, 2) := by decide +kernel
theorem d1003_27 : decode (mb 1003) 27 = .ok (.invokestatic 30, 3) := by decide +kernel
theorem d1003_30 : decode (mb 1003) 30 = .ok (.ifCond .ne 25, 3) := by decide +kernel
theorem d1003_33 : decode (mb 1003) 33 = .ok (.iload 4, 2) := by decide +kernel
theorem d1003_35 : decode (mb 1003) 35 = .ok (.iconst 0, 1) := by decide +kernel
theorem d1003_36 : decode (mb 1003) 36 = .ok (.bipush 9, 2) := by decide +kernel
theorem d1003_38 : decode (mb 1003) 38 = .ok (.invokestatic 30, 3) := by decide +kernel
theorem d1003_41 : decode (mb 1003) 41 = .ok (.ifCond .ne 14, 3) := by decide +kernel
theorem d1003_44 : decode (mb 1003) 44 = .ok (.iload 5, 2) := by decide +kernel
theorem d1003_46 : decode (mb 1003) 46 = .ok (.iconst 0, 1) := by decide +kernel
theorem d1003_47 : decode (mb 1003) 47 = .ok (.bipush 40, 2) := by decide +kernel
theorem d1003_49 : decode (mb 1003) 49 = .ok (.invokestatic 30, 3) := by decide +kernel
theorem d1003_52 : decode (mb 1003) 52 = .ok (.ifCond .eq 6, 3) := by decide +kernel
theorem d1003_55 : decode (mb 1003) 55 = .ok (.bipush (-2), 2) := by decide +kernel
theorem d1003_57 : decode (mb 1003) 57 = .ok (.ireturn, 1) := by decide +kernel
theorem d1003_58 : decode (mb 1003) 58 = .ok (.aload_n 0, 1) := by decide +kernel
theorem d1003_59 : decode (mb 1003) 59 = .ok (.getfield 10, 3) := by decide +kernel
theorem d1003_62 : decode (mb 1003) 62 = .ok (.invokevirtual 34, 3) := by decide +kernel
theorem d1003_65 : decode (mb 1003) 65 = .ok (.ifCond .eq 6, 3) := by decide +kernel
theorem d1003_68 : decode (mb 1003) 68 = .ok (.bipush (-3), 2) := by decide +kernel
theorem d1003_70 : decode (mb 1003) 70 = .ok (.ireturn, 1) := by decide +kernel
theorem d1003_71 : decode (mb 1003) 71 = .ok (.aload_n 0, 1) := by decide +kernel
theorem d1003_72 : decode (mb 1003) 72 = .ok (.getfield 10, 3) := by decide +kernel
theorem d1003_75 : decode (mb 1003) 75 = .ok (.getfield 42, 3) := by decide +kernel
theorem d1003_78 : decode (mb 1003) 78 = .ok (.iload_n 1, 1) := by decide +kernel
theorem d1003_79 : decode (mb 1003) 79 = .ok (.aaload, 1) := by decide +kernel
theorem d1003_80 : decode (mb 1003) 80 = .ok (.astore 6, 2) := by decide +kernel
theorem d1003_82 : decode (mb 1003) 82 = .ok (.aload 6, 2) := by decide +kernel
theorem d1003_84 : decode (mb 1003) 84 = .ok (.getfield 69, 3) := by decide +kernel
theorem d1003_87 : decode (mb 1003) 87 = .ok (.bipush 6, 2) := by decide +kernel
theorem d1003_89 : decode (mb 1003) 89 = .ok (.if_icmp .lt 8, 3) := by decide +kernel
theorem d1003_92 : decode (mb 1003) 92 = .ok (.bipush (-4), 2) := by decide +kernel
theorem d1003_94 : decode (mb 1003) 94 = .ok (.goto 14, 3) := by decide +kernel
theorem d1003_97 : decode (mb 1003) 97 = .ok (.aload 6, 2) := by decide +kernel
theorem d1003_99 : decode (mb 1003) 99 = .ok (.iload_n 2, 1) := by decide +kernel
theorem d1003_100 : decode (mb 1003) 100 = .ok (.iload_n 3, 1) := by decide +kernel
theorem d1003_101 : decode (mb 1003) 101 = .ok (.iload 4, 2) := by decide +kernel
theorem d1003_103 : decode (mb 1003) 103 = .ok (.iload 5, 2) := by decide +kernel
theorem d1003_105 : decode (mb 1003) 105 = .ok (.invokevirtual 72, 3) := by decide +kernel
theorem d1003_108 : decode (mb 1003) 108 = .ok (.ireturn, 1) := by decide +kernel
theorem x1003_0 {S : List Value} {h : HP} {l1 l2 l3 l4 l5 l6 : Value} {a0 : Nat} : pX 1003 0 [.ref a0, l1, l2, l3, l4, l5, l6] S h = pX 1003 1 [.ref a0, l1, l2, l3, l4, l5, l6] (.ref a0 :: S) h := pX_stp d1003_0 rfl rfl rfl
theorem x1003_1 {L S : List Value} {h : HP} {a : Nat} (hk : hp_k h a = 11) : pX 1003 1 L (.ref a :: S) h = pX 1003 4 L (.ref (hp_a h a 0) :: S) h := pX_get d1003_1 rfl rfl hk
theorem x1003_4 {S : List Value} {h : HP} {l0 l2 l3 l4 l5 l6 : Value} {x0 : Int32} : pX 1003 4 [l0, .int x0, l2, l3, l4, l5, l6] S h = pX 1003 5 [l0, .int x0, l2, l3, l4, l5, l6] (.int x0 :: S) h := pX_stp d1003_4 rfl rfl rfl
theorem x1003_5 {L : List Value} {h : HP} {x0 : Int32} {a0 : Nat} (hk : hp_k h a0 = 4) : pX 1003 5 L [.int x0, .ref a0] h = (pX 301 0 [.ref a0, .int x0] [] h).bind (fun q => pX 1003 8 L (q.1.toList ++ []) q.2) := pX_inv (a := a0) (t := 4) 301 [.ref a0, .int x0] [] d1003_5 rfl rfl rfl hk
theorem x1003_8 {L S : List Value} {h : HP} {x : Int32} : pX 1003 8 L (.int x :: S) h = if x = 0 then pX 1003 13 L S h else pX 1003 11 L S h := pX_if_eq d1003_8 (by decide)
theorem x1003_11 {L S : List Value} {h : HP} : pX 1003 11 L S h = pX 1003 12 L (.int (-1) :: S) h := pX_iconst d1003_11 (by decide)
theorem x1003_12 {L : List Value} {h : HP} {x : Int32} : pX 1003 12 L [.int x] h = some (some (.int x), h) := pX_ret d1003_12 rfl
theorem x1003_13 {S : List Value} {h : HP} {l0 l1 l3 l4 l5 l6 : Value} {x0 : Int32} : pX 1003 13 [l0, l1, .int x0, l3, l4, l5, l6] S h = pX 1003 14 [l0, l1, .int x0, l3, l4, l5, l6] (.int x0 :: S) h := pX_stp d1003_13 rfl rfl rfl
theorem x1003_14 {L S : List Value} {h : HP} : pX 1003 14 L S h = pX 1003 15 L (.int 0 :: S) h := pX_iconst d1003_14 (by decide)
theorem x1003_15 {L S : List Value} {h : HP} : pX 1003 15 L S h = pX 1003 17 L (.int 40 :: S) h := pX_bipush d1003_15 (by decide)
theorem x1003_17 {L : List Value} {h : HP} {x0 : Int32} {x1 : Int32} {x2 : Int32} : pX 1003 17 L [.int x0, .int x1, .int x2] h = (pX 1025 0 [.int x2, .int x1, .int x0] [] h).bind (fun q => pX 1003 20 L (q.1.toList ++ []) q.2) := pX_ins 1025 [.int x2, .int x1, .int x0] [] d1003_17 rfl rfl rfl
theorem x1003_20 {L S : List Value} {h : HP} {x : Int32} : pX 1003 20 L (.int x :: S) h = if x = 0 then pX 1003 23 L S h else pX 1003 55 L S h := pX_if_ne d1003_20 (by decide)
theorem x1003_23 {S : List Value} {h : HP} {l0 l1 l2 l4 l5 l6 : Value} {x0 : Int32} : pX 1003 23 [l0, l1, l2, .int x0, l4, l5, l6] S h = pX 1003 24 [l0, l1, l2, .int x0, l4, l5, l6] (.int x0 :: S) h := pX_stp d1003_23 rfl rfl rfl
theorem x1003_24 {L S : List Value} {h : HP} : pX 1003 24 L S h = pX 1003 25 L (.int 0 :: S) h := pX_iconst d1003_24 (by decide)
theorem x1003_25 {L S : List Value} {h : HP} : pX 1003 25 L S h = pX 1003 27 L (.int 40 :: S) h := pX_bipush d1003_25 (by decide)
theorem x1003_27 {L : List Value} {h : HP} {x0 : Int32} {x1 : Int32} {x2 : Int32} : pX 1003 27 L [.int x0, .int x1, .int x2] h = (pX 1025 0 [.int x2, .int x1, .int x0] [] h).bind (fun q => pX 1003 30 L (q.1.toList ++ []) q.2) := pX_ins 1025 [.int x2, .int x1, .int x0] [] d1003_27 rfl rfl rfl
theorem x1003_30 {L S : List Value} {h : HP} {x : Int32} : pX 1003 30 L (.int x :: S) h = if x = 0 then pX 1003 33 L S h else pX 1003 55 L S h := pX_if_ne d1003_30 (by decide)
theorem x1003_33 {S : List Value} {h : HP} {l0 l1 l2 l3 l5 l6 : Value} {x0 : Int32} : pX 1003 33 [l0, l1, l2, l3, .int x0, l5, l6] S h = pX 1003 35 [l0, l1, l2, l3, .int x0, l5, l6] (.int x0 :: S) h := pX_stp d1003_33 rfl rfl rfl
theorem x1003_35 {L S : List Value} {h : HP} : pX 1003 35 L S h = pX 1003 36 L (.int 0 :: S) h := pX_iconst d1003_35 (by decide)
theorem x1003_36 {L S : List Value} {h : HP} : pX 1003 36 L S h = pX 1003 38 L (.int 9 :: S) h := pX_bipush d1003_36 (by decide)
theorem x1003_38 {L : List Value} {h : HP} {x0 : Int32} {x1 : Int32} {x2 : Int32} : pX 1003 38 L [.int x0, .int x1, .int x2] h = (pX 1025 0 [.int x2, .int x1, .int x0] [] h).bind (fun q => pX 1003 41 L (q.1.toList ++ []) q.2) := pX_ins 1025 [.int x2, .int x1, .int x0] [] d1003_38 rfl rfl rfl
theorem x1003_41 {L S : List Value} {h : HP} {x : Int32} : pX 1003 41 L (.int x :: S) h = if x = 0 then pX 1003 44 L S h else pX 1003 55 L S h := pX_if_ne d1003_41 (by decide)
theorem x1003_44 {S : List Value} {h : HP} {l0 l1 l2 l3 l4 l6 : Value} {x0 : Int32} : pX 1003 44 [l0, l1, l2, l3, l4, .int x0, l6] S h = pX 1003 46 [l0, l1, l2, l3, l4, .int x0, l6] (.int x0 :: S) h := pX_stp d1003_44 rfl rfl rfl
theorem x1003_46 {L S : List Value} {h : HP} : pX 1003 46 L S h = pX 1003 47 L (.int 0 :: S) h := pX_iconst d1003_46 (by decide)
theorem x1003_47 {L S : List Value} {h : HP} : pX 1003 47 L S h = pX 1003 49 L (.int 40 :: S) h := pX_bipush d1003_47 (by decide)
theorem x1003_49 {L : List Value} {h : HP} {x0 : Int32} {x1 : Int32} {x2 : Int32} : pX 1003 49 L [.int x0, .int x1, .int x2] h = (pX 1025 0 [.int x2, .int x1, .int x0] [] h).bind (fun q => pX 1003 52 L (q.1.toList ++ []) q.2) := pX_ins 1025 [.int x2, .int x1, .int x0] [] d1003_49 rfl rfl rfl
theorem x1003_52 {L S : List Value} {h : HP} {x : Int32} : pX 1003 52 L (.int x :: S) h = if x = 0 then pX 1003 58 L S h else pX 1003 55 L S h := pX_if_eq d1003_52 (by decide)
theorem x1003_55 {L S : List Value} {h : HP} : pX 1003 55 L S h = pX 1003 57 L (.int (-2) :: S) h := pX_bipush d1003_55 (by decide)
theorem x1003_57 {L : List Value} {h : HP} {x : Int32} : pX 1003 57 L [.int x] h = some (some (.int x), h) := pX_ret d1003_57 rfl
theorem x1003_58 {S : List Value} {h : HP} {l1 l2 l3 l4 l5 l6 : Value} {a0 : Nat} : pX 1003 58 [.ref a0, l1, l2, l3, l4, l5, l6] S h = pX 1003 59 [.ref a0, l1, l2, l3, l4, l5, l6] (.ref a0 :: S) h := pX_stp d1003_58 rfl rfl rfl
theorem x1003_59 {L S : List Value} {h : HP} {a : Nat} (hk : hp_k h a = 11) : pX 1003 59 L (.ref a :: S) h = pX 1003 62 L (.ref (hp_a h a 0) :: S) h := pX_get d1003_59 rfl rfl hk
theorem x1003_62 {L : List Value} {h : HP} {a0 : Nat} (hk : hp_k h a0 = 4) : pX 1003 62 L [.ref a0] h = (pX 302 0 [.ref a0] [] h).bind (fun q => pX 1003 65 L (q.1.toList ++ []) q.2) := pX_inv (a := a0) (t := 4) 302 [.ref a0] [] d1003_62 rfl rfl rfl hk
theorem x1003_65 {L S : List Value} {h : HP} {x : Int32} : pX 1003 65 L (.int x :: S) h = if x = 0 then pX 1003 71 L S h else pX 1003 68 L S h := pX_if_eq d1003_65 (by decide)
theorem x1003_68 {L S : List Value} {h : HP} : pX 1003 68 L S h = pX 1003 70 L (.int (-3) :: S) h := pX_bipush d1003_68 (by decide)
theorem x1003_70 {L : List Value} {h : HP} {x : Int32} : pX 1003 70 L [.int x] h = some (some (.int x), h) := pX_ret d1003_70 rfl
theorem x1003_71 {S : List Value} {h : HP} {l1 l2 l3 l4 l5 l6 : Value} {a0 : Nat} : pX 1003 71 [.ref a0, l1, l2, l3, l4, l5, l6] S h = pX 1003 72 [.ref a0, l1, l2, l3, l4, l5, l6] (.ref a0 :: S) h := pX_stp d1003_71 rfl rfl rfl
theorem x1003_72 {L S : List Value} {h : HP} {a : Nat} (hk : hp_k h a = 11) : pX 1003 72 L (.ref a :: S) h = pX 1003 75 L (.ref (hp_a h a 0) :: S) h := pX_get d1003_72 rfl rfl hk
theorem x1003_75 {L S : List Value} {h : HP} {a : Nat} (hk : hp_k h a = 4) : pX 1003 75 L (.ref a :: S) h = pX 1003 78 L (.ref (hp_a h a 0) :: S) h := pX_get d1003_75 rfl rfl hk
theorem x1003_78 {S : List Value} {h : HP} {l0 l2 l3 l4 l5 l6 : Value} {x0 : Int32} : pX 1003 78 [l0, .int x0, l2, l3, l4, l5, l6] S h = pX 1003 79 [l0, .int x0, l2, l3, l4, l5, l6] (.int x0 :: S) h := pX_stp d1003_78 rfl rfl rfl
theorem x1003_79 {L S : List Value} {h : HP} {a : Nat} {j : Int32} (hk : 200 ≤ hp_k h a) (hj : inb j (hp_l h a) = true) : pX 1003 79 L (.int j :: .ref a :: S) h = pX 1003 80 L (.ref (hp_a h a (ix j)) :: S) h := pX_ald d1003_79 hk hj
theorem x1003_80 {S : List Value} {h : HP} {l0 l1 l2 l3 l4 l5 l6 : Value} {a0 : Nat} : pX 1003 80 [l0, l1, l2, l3, l4, l5, l6] (.ref a0 :: S) h = pX 1003 82 [l0, l1, l2, l3, l4, l5, .ref a0] S h := pX_stp d1003_80 rfl rfl rfl
theorem x1003_82 {S : List Value} {h : HP} {l0 l1 l2 l3 l4 l5 : Value} {a0 : Nat} : pX 1003 82 [l0, l1, l2, l3, l4, l5, .ref a0] S h = pX 1003 84 [l0, l1, l2, l3, l4, l5, .ref a0] (.ref a0 :: S) h := pX_stp d1003_82 rfl rfl rfl
theorem x1003_84 {L S : List Value} {h : HP} {a : Nat} (hk : hp_k h a = 5) : pX 1003 84 L (.ref a :: S) h = pX 1003 87 L (.int (hp_i h a 7) :: S) h := pX_get d1003_84 rfl rfl hk
theorem x1003_87 {L S : List Value} {h : HP} : pX 1003 87 L S h = pX 1003 89 L (.int 6 :: S) h := pX_bipush d1003_87 (by decide)
theorem x1003_89 {L S : List Value} {h : HP} {x y : Int32} : pX 1003 89 L (.int y :: .int x :: S) h = if x < y then pX 1003 97 L S h else pX 1003 92 L S h := pX_icmp_lt d1003_89 (by decide)
theorem x1003_92 {L S : List Value} {h : HP} : pX 1003 92 L S h = pX 1003 94 L (.int (-4) :: S) h := pX_bipush d1003_92 (by decide)
theorem x1003_94 {L S : List Value} {h : HP} : pX 1003 94 L S h = pX 1003 108 L S h := pX_goto d1003_94 (by decide)
theorem x1003_97 {S : List Value} {h : HP} {l0 l1 l2 l3 l4 l5 : Value} {a0 : Nat} : pX 1003 97 [l0, l1, l2, l3, l4, l5, .ref a0] S h = pX 1003 99 [l0, l1, l2, l3, l4, l5, .ref a0] (.ref a0 :: S) h := pX_stp d1003_97 rfl rfl rfl
theorem x1003_99 {S : List Value} {h : HP} {l0 l1 l3 l4 l5 l6 : Value} {x0 : Int32} : pX 1003 99 [l0, l1, .int x0, l3, l4, l5, l6] S h = pX 1003 100 [l0, l1, .int x0, l3, l4, l5, l6] (.int x0 :: S) h := pX_stp d1003_99 rfl rfl rfl
theorem x1003_100 {S : List Value} {h : HP} {l0 l1 l2 l4 l5 l6 : Value} {x0 : Int32} : pX 1003 100 [l0, l1, l2, .int x0, l4, l5, l6] S h = pX 1003 101 [l0, l1, l2, .int x0, l4, l5, l6] (.int x0 :: S) h := pX_stp d1003_100 rfl rfl rfl
theorem x1003_101 {S : List Value} {h : HP} {l0 l1 l2 l3 l5 l6 : Value} {x0 : Int32} : pX 1003 101 [l0, l1, l2, l3, .int x0, l5, l6] S h = pX 1003 103 [l0, l1, l2, l3, .int x0, l5, l6] (.int x0 :: S) h := pX_stp d1003_101 rfl rfl rfl
theorem x1003_103 {S : List Value} {h : HP} {l0 l1 l2 l3 l4 l6 : Value} {x0 : Int32} : pX 1003 103 [l0, l1, l2, l3, l4, .int x0, l6] S h = pX 1003 105 [l0, l1, l2, l3, l4, .int x0, l6] (.int x0 :: S) h := pX_stp d1003_103 rfl rfl rfl
theorem x1003_105 {L : List Value} {h : HP} {x0 : Int32} {x1 : Int32} {x2 : Int32} {x3 : Int32} {a0 : Nat} (hk : hp_k h a0 = 5) : pX 1003 105 L [.int x0, .int x1, .int x2, .int x3, .ref a0] h = (pX 402 0 [.ref a0, .int x3, .int x2, .int x1, .int x0] [] h).bind (fun q => pX 1003 108 L (q.1.toList ++ []) q.2) := pX_inv (a := a0) (t := 5) 402 [.ref a0, .int x3, .int x2, .int x1, .int x0] [] d1003_105 rfl rfl rfl hk
theorem x1003_108 {L : List Value} {h : HP} {x : Int32} : pX 1003 108 L [.int x] h = some (some (.int x), h) := pX_ret d1003_108 rfl
theorem d1004_0 : decode (mb 1004) 0 = .ok (.aload_n 0, 1) := by decide +kernel
theorem d1004_1 : decode (mb 1004) 1 = .ok (.getfield 10, 3) := by decide +kernel
theorem d1004_4 : decode (mb 1004) 4 = .ok (.iload_n 1, 1) := by decide +kernel
theorem d1004_5 : decode (mb 1004) 5 = .ok (.invokevirtual 51, 3) := by decide +kernel
theorem d1004_8 : decode (mb 1004) 8 = .ok (.ifCond .eq 5, 3) := by decide +kernel
theorem d1004_11 : decode (mb 1004) 11 = .ok (.iconst (-1), 1) := by decide +kernel
theorem d1004_12 : decode (mb 1004) 12 = .ok (.ireturn, 1) := by decide +kernel
theorem d1004_13 : decode (mb 1004) 13 = .ok (.aload_n 0, 1) := by decide +kernel
theorem d1004_14 : decode (mb 1004) 14 = .ok (.getfield 10, 3) := by decide +kernel
theorem d1004_17 : decode (mb 1004) 17 = .ok (.getfield 42, 3) := by decide +kernel
theorem d1004_20 : decode (mb 1004) 20 = .ok (.iload_n 1, 1) := by decide +kernel
theorem d1004_21 : decode (mb 1004) 21 = .ok (.aaload, 1) := by decide +kernel
theorem d1004_22 : decode (mb 1004) 22 = .ok (.astore_n 2, 1) := by decide +kernel
theorem d1004_23 : decode (mb 1004) 23 = .ok (.aload_n 0, 1) := by decide +kernel
theorem d1004_24 : decode (mb 1004) 24 = .ok (.getfield 10, 3) := by decide +kernel
theorem d1004_27 : decode (mb 1004) 27 = .ok (.invokevirtual 34, 3) := by decide +kernel
theorem d1004_30 : decode (mb 1004) 30 = .ok (.ifCond .ne 10, 3) := by decide +kernel
theorem d1004_33 : decode (mb 1004) 33 = .ok (.aload_n 2, 1) := by decide +kernel
theorem d1004_34 : decode (mb 1004) 34 = .ok (.getfield 62, 3) := by decide +kernel
theorem d1004_37 : decode (mb 1004) 37 = .ok (.ifCond .ne 6, 3) := by decide +kernel
theorem d1004_40 : decode (mb 1004) 40 = .ok (.bipush (-3), 2) := by decide +kernel
theorem d1004_42 : decode (mb 1004) 42 = .ok (.ireturn, 1) := by decide +kernel
theorem d1004_43 : decode (mb 1004) 43 = .ok (.aload_n 2, 1) := by decide +kernel
theorem d1004_44 : decode (mb 1004) 44 = .ok (.dup, 1) := by decide +kernel
theorem d1004_45 : decode (mb 1004) 45 = .ok (.getfield 62, 3) := by decide +kernel
theorem d1004_48 : decode (mb 1004) 48 = .ok (.iconst 1, 1) := by decide +kernel
theorem d1004_49 : decode (mb 1004) 49 = .ok (.isub, 1) := by decide +kernel
theorem d1004_50 : decode (mb 1004) 50 = .ok (.putfield 62, 3) := by decide +kernel
theorem d1004_53 : decode (mb 1004) 53 = .ok (.aload_n 2, 1) := by decide +kernel
theorem d1004_54 : decode (mb 1004) 54 = .ok (.getfield 62, 3) := by decide +kernel
theorem d1004_57 : decode (mb 1004) 57 = .ok (.ireturn, 1) := by decide +kernel
theorem x1004_0 {S : List Value} {h : HP} {l1 l2 : Value} {a0 : Nat} : pX 1004 0 [.ref a0, l1, l2] S h = pX 1004 1 [.ref a0, l1, l2] (.ref a0 :: S) h := pX_stp d1004_0 rfl rfl rfl
theorem x1004_1 {L S : List Value} {h : HP} {a : Nat} (hk : hp_k h a = 11) : pX 1004 1 L (.ref a :: S) h = pX 1004 4 L (.ref (hp_a h a 0) :: S) h := pX_get d1004_1 rfl rfl hk
theorem x1004_4 {S : List Value} {h : HP} {l0 l2 : Value} {x0 : Int32} : pX 1004 4 [l0, .int x0, l2] S h = pX 1004 5 [l0, .int x0, l2] (.int x0 :: S) h := pX_stp d1004_4 rfl rfl rfl
theorem x1004_5 {L : List Value} {h : HP} {x0 : Int32} {a0 : Nat} (hk : hp_k h a0 = 4) : pX 1004 5 L [.int x0, .ref a0] h = (pX 301 0 [.ref a0, .int x0] [] h).bind (fun q => pX 1004 8 L (q.1.toList ++ []) q.2) := pX_inv (a := a0) (t := 4) 301 [.ref a0, .int x0] [] d1004_5 rfl rfl rfl hk
theorem x1004_8 {L S : List Value} {h : HP} {x : Int32} : pX 1004 8 L (.int x :: S) h = if x = 0 then pX 1004 13 L S h else pX 1004 11 L S h := pX_if_eq d1004_8 (by decide)
theorem x1004_11 {L S : List Value} {h : HP} : pX 1004 11 L S h = pX 1004 12 L (.int (-1) :: S) h := pX_iconst d1004_11 (by decide)
theorem x1004_12 {L : List Value} {h : HP} {x : Int32} : pX 1004 12 L [.int x] h = some (some (.int x), h) := pX_ret d1004_12 rfl
theorem x1004_13 {S : List Value} {h : HP} {l1 l2 : Value} {a0 : Nat} : pX 1004 13 [.ref a0, l1, l2] S h = pX 1004 14 [.ref a0, l1, l2] (.ref a0 :: S) h := pX_stp d1004_13 rfl rfl rfl
theorem x1004_14 {L S : List Value} {h : HP} {a : Nat} (hk : hp_k h a = 11) : pX 1004 14 L (.ref a :: S) h = pX 1004 17 L (.ref (hp_a h a 0) :: S) h := pX_get d1004_14 rfl rfl hk
theorem x1004_17 {L S : List Value} {h : HP} {a : Nat} (hk : hp_k h a = 4) : pX 1004 17 L (.ref a :: S) h = pX 1004 20 L (.ref (hp_a h a 0) :: S) h := pX_get d1004_17 rfl rfl hk
theorem x1004_20 {S : List Value} {h : HP} {l0 l2 : Value} {x0 : Int32} : pX 1004 20 [l0, .int x0, l2] S h = pX 1004 21 [l0, .int x0, l2] (.int x0 :: S) h := pX_stp d1004_20 rfl rfl rfl
theorem x1004_21 {L S : List Value} {h : HP} {a : Nat} {j : Int32} (hk : 200 ≤ hp_k h a) (hj : inb j (hp_l h a) = true) : pX 1004 21 L (.int j :: .ref a :: S) h = pX 1004 22 L (.ref (hp_a h a (ix j)) :: S) h := pX_ald d1004_21 hk hj
theorem x1004_22 {S : List Value} {h : HP} {l0 l1 l2 : Value} {a0 : Nat} : pX 1004 22 [l0, l1, l2] (.ref a0 :: S) h = pX 1004 23 [l0, l1, .ref a0] S h := pX_stp d1004_22 rfl rfl rfl
theorem x1004_23 {S : List Value} {h : HP} {l1 l2 : Value} {a0 : Nat} : pX 1004 23 [.ref a0, l1, l2] S h = pX 1004 24 [.ref a0, l1, l2] (.ref a0 :: S) h := pX_stp d1004_23 rfl rfl rfl
theorem x1004_24 {L S : List Value} {h : HP} {a : Nat} (hk : hp_k h a = 11) : pX 1004 24 L (.ref a :: S) h = pX 1004 27 L (.ref (hp_a h a 0) :: S) h := pX_get d1004_24 rfl rfl hk
theorem x1004_27 {L : List Value} {h : HP} {a0 : Nat} (hk : hp_k h a0 = 4) : pX 1004 27 L [.ref a0] h = (pX 302 0 [.ref a0] [] h).bind (fun q => pX 1004 30 L (q.1.toList ++ []) q.2) := pX_inv (a := a0) (t := 4) 302 [.ref a0] [] d1004_27 rfl rfl rfl hk
theorem x1004_30 {L S : List Value} {h : HP} {x : Int32} : pX 1004 30 L (.int x :: S) h = if x = 0 then pX 1004 33 L S h else pX 1004 40 L S h := pX_if_ne d1004_30 (by decide)
theorem x1004_33 {S : List Value} {h : HP} {l0 l1 : Value} {a0 : Nat} : pX 1004 33 [l0, l1, .ref a0] S h = pX 1004 34 [l0, l1, .ref a0] (.ref a0 :: S) h := pX_stp d1004_33 rfl rfl rfl
theorem x1004_34 {L S : List Value} {h : HP} {a : Nat} (hk : hp_k h a = 5) : pX 1004 34 L (.ref a :: S) h = pX 1004 37 L (.int (hp_i h a 2) :: S) h := pX_get d1004_34 rfl rfl hk
theorem x1004_37 {L S : List Value} {h : HP} {x : Int32} : pX 1004 37 L (.int x :: S) h = if x = 0 then pX 1004 40 L S h else pX 1004 43 L S h := pX_if_ne d1004_37 (by decide)
theorem x1004_40 {L S : List Value} {h : HP} : pX 1004 40 L S h = pX 1004 42 L (.int (-3) :: S) h := pX_bipush d1004_40 (by decide)
theorem x1004_42 {L : List Value} {h : HP} {x : Int32} : pX 1004 42 L [.int x] h = some (some (.int x), h) := pX_ret d1004_42 rfl
theorem x1004_43 {S : List Value} {h : HP} {l0 l1 : Value} {a0 : Nat} : pX 1004 43 [l0, l1, .ref a0] S h = pX 1004 44 [l0, l1, .ref a0] (.ref a0 :: S) h := pX_stp d1004_43 rfl rfl rfl
theorem x1004_44 {L S : List Value} {h : HP} {a0 : Nat} : pX 1004 44 L (.ref a0 :: S) h = pX 1004 45 L (.ref a0 :: .ref a0 :: S) h := pX_stp d1004_44 rfl rfl rfl
theorem x1004_45 {L S : List Value} {h : HP} {a : Nat} (hk : hp_k h a = 5) : pX 1004 45 L (.ref a :: S) h = pX 1004 48 L (.int (hp_i h a 2) :: S) h := pX_get d1004_45 rfl rfl hk
theorem x1004_48 {L S : List Value} {h : HP} : pX 1004 48 L S h = pX 1004 49 L (.int 1 :: S) h := pX_iconst d1004_48 (by decide)
theorem x1004_49 {L S : List Value} {h : HP} {x y : Int32} : pX 1004 49 L (.int y :: .int x :: S) h = pX 1004 50 L (.int (x - y) :: S) h := pX_stp d1004_49 rfl rfl rfl
theorem x1004_50 {L S : List Value} {h : HP} {a : Nat} {x : Int32} (hk : hp_k h a = 5) : pX 1004 50 L (.int x :: .ref a :: S) h = pX 1004 53 L S (hp_wi h a 2 x) := pX_put d1004_50 rfl rfl rfl hk
theorem x1004_53 {S : List Value} {h : HP} {l0 l1 : Value} {a0 : Nat} : pX 1004 53 [l0, l1, .ref a0] S h = pX 1004 54 [l0, l1, .ref a0] (.ref a0 :: S) h := pX_stp d1004_53 rfl rfl rfl
theorem x1004_54 {L S : List Value} {h : HP} {a : Nat} (hk : hp_k h a = 5) : pX 1004 54 L (.ref a :: S) h = pX 1004 57 L (.int (hp_i h a 2) :: S) h := pX_get d1004_54 rfl rfl hk
theorem x1004_57 {L : List Value} {h : HP} {x : Int32} : pX 1004 57 L [.int x] h = some (some (.int x), h) := pX_ret d1004_57 rfl
theorem d1005_0 : decode (mb 1005) 0 = .ok (.iload_n 1, 1) := by decide +kernel
theorem d1005_1 : decode (mb 1005) 1 = .ok (.iconst 0, 1) := by decide +kernel
theorem d1005_2 : decode (mb 1005) 2 = .ok (.iconst 4, 1) := by decide +kernel
theorem d1005_3 : decode (mb 1005) 3 = .ok (.invokestatic 30, 3) := by decide +kernel
theorem d1005_6 : decode (mb 1005) 6 = .ok (.ifCond .ne 13, 3) := by decide +kernel
theorem d1005_9 : decode (mb 1005) 9 = .ok (.iload_n 2, 1) := by decide +kernel
theorem d1005_10 : decode (mb 1005) 10 = .ok (.iconst 1, 1) := by decide +kernel
theorem d1005_11 : decode (mb 1005) 11 = .ok (.bipush 9, 2) := by decide +kernel
theorem d1005_13 : decode (mb 1005) 13 = .ok (.invokestatic 30, 3) := by decide +kernel
theorem d1005_16 : decode (mb 1005) 16 = .ok (.ifCond .eq 6, 3) := by decide +kernel
theorem d1005_19 : decode (mb 1005) 19 = .ok (.bipush (-2), 2) := by decide +kernel
theorem d1005_21 : decode (mb 1005) 21 = .ok (.ireturn, 1) := by decide +kernel
theorem d1005_22 : decode (mb 1005) 22 = .ok (.aload_n 0, 1) := by decide +kernel
theorem d1005_23 : decode (mb 1005) 23 = .ok (.getfield 10, 3) := by decide +kernel
theorem d1005_26 : decode (mb 1005) 26 = .ok (.invokevirtual 34, 3) := by decide +kernel
theorem d1005_29 : decode (mb 1005) 29 = .ok (.ifCond .eq 6, 3) := by decide +kernel
theorem d1005_32 : decode (mb 1005) 32 = .ok (.bipush (-3), 2) := by decide +kernel
theorem d1005_34 : decode (mb 1005) 34 = .ok (.ireturn, 1) := by decide +kernel
theorem d1005_35 : decode (mb 1005) 35 = .ok (.aload_n 0, 1) := by decide +kernel
theorem d1005_36 : decode (mb 1005) 36 = .ok (.getfield 10, 3) := by decide +kernel
theorem d1005_39 : decode (mb 1005) 39 = .ok (.getfield 75, 3) := by decide +kernel
theorem d1005_42 : decode (mb 1005) 42 = .ok (.getfield 79, 3) := by decide +kernel
theorem d1005_45 : decode (mb 1005) 45 = .ok (.iload_n 1, 1) := by decide +kernel
theorem d1005_46 : decode (mb 1005) 46 = .ok (.iaload, 1) := by decide +kernel
theorem d1005_47 : decode (mb 1005) 47 = .ok (.istore_n 3, 1) := by decide +kernel
theorem d1005_48 : decode (mb 1005) 48 = .ok (.aload_n 0, 1) := by decide +kernel
theorem d1005_49 : decode (mb 1005) 49 = .ok (.getfield 10, 3) := by decide +kernel
theorem d1005_52 : decode (mb 1005) 52 = .ok (.getfield 75, 3) := by decide +kernel
theorem d1005_55 : decode (mb 1005) 55 = .ok (.getfield 79, 3) := by decide +kernel
theorem d1005_58 : decode (mb 1005) 58 = .ok (.iload_n 1, 1) := by decide +kernel
theorem d1005_59 : decode (mb 1005) 59 = .ok (.iload_n 2, 1) := by decide +kernel
theorem d1005_60 : decode (mb 1005) 60 = .ok (.iastore, 1) := by decide +kernel
theorem d1005_61 : decode (mb 1005) 61 = .ok (.iload_n 3, 1) := by decide +kernel
theorem d1005_62 : decode (mb 1005) 62 = .ok (.ireturn, 1) := by decide +kernel
theorem x1005_0 {S : List Value} {h : HP} {l0 l2 l3 : Value} {x0 : Int32} : pX 1005 0 [l0, .int x0, l2, l3] S h = pX 1005 1 [l0, .int x0, l2, l3] (.int x0 :: S) h := pX_stp d1005_0 rfl rfl rfl
theorem x1005_1 {L S : List Value} {h : HP} : pX 1005 1 L S h = pX 1005 2 L (.int 0 :: S) h := pX_iconst d1005_1 (by decide)
theorem x1005_2 {L S : List Value} {h : HP} : pX 1005 2 L S h = pX 1005 3 L (.int 4 :: S) h := pX_iconst d1005_2 (by decide)
theorem x1005_3 {L : List Value} {h : HP} {x0 : Int32} {x1 : Int32} {x2 : Int32} : pX 1005 3 L [.int x0, .int x1, .int x2] h = (pX 1025 0 [.int x2, .int x1, .int x0] [] h).bind (fun q => pX 1005 6 L (q.1.toList ++ []) q.2) := pX_ins 1025 [.int x2, .int x1, .int x0] [] d1005_3 rfl rfl rfl
theorem x1005_6 {L S : List Value} {h : HP} {x : Int32} : pX 1005 6 L (.int x :: S) h = if x = 0 then pX 1005 9 L S h else pX 1005 19 L S h := pX_if_ne d1005_6 (by decide)
theorem x1005_9 {S : List Value} {h : HP} {l0 l1 l3 : Value} {x0 : Int32} : pX 1005 9 [l0, l1, .int x0, l3] S h = pX 1005 10 [l0, l1, .int x0, l3] (.int x0 :: S) h := pX_stp d1005_9 rfl rfl rfl
theorem x1005_10 {L S : List Value} {h : HP} : pX 1005 10 L S h = pX 1005 11 L (.int 1 :: S) h := pX_iconst d1005_10 (by decide)
theorem x1005_11 {L S : List Value} {h : HP} : pX 1005 11 L S h = pX 1005 13 L (.int 9 :: S) h := pX_bipush d1005_11 (by decide)
theorem x1005_13 {L : List Value} {h : HP} {x0 : Int32} {x1 : Int32} {x2 : Int32} : pX 1005 13 L [.int x0, .int x1, .int x2] h = (pX 1025 0 [.int x2, .int x1, .int x0] [] h).bind (fun q => pX 1005 16 L (q.1.toList ++ []) q.2) := pX_ins 1025 [.int x2, .int x1, .int x0] [] d1005_13 rfl rfl rfl
theorem x1005_16 {L S : List Value} {h : HP} {x : Int32} : pX 1005 16 L (.int x :: S) h = if x = 0 then pX 1005 22 L S h else pX 1005 19 L S h := pX_if_eq d1005_16 (by decide)
theorem x1005_19 {L S : List Value} {h : HP} : pX 1005 19 L S h = pX 1005 21 L (.int (-2) :: S) h := pX_bipush d1005_19 (by decide)
theorem x1005_21 {L : List Value} {h : HP} {x : Int32} : pX 1005 21 L [.int x] h = some (some (.int x), h) := pX_ret d1005_21 rfl
theorem x1005_22 {S : List Value} {h : HP} {l1 l2 l3 : Value} {a0 : Nat} : pX 1005 22 [.ref a0, l1, l2, l3] S h = pX 1005 23 [.ref a0, l1, l2, l3] (.ref a0 :: S) h := pX_stp d1005_22 rfl rfl rfl
theorem x1005_23 {L S : List Value} {h : HP} {a : Nat} (hk : hp_k h a = 11) : pX 1005 23 L (.ref a :: S) h = pX 1005 26 L (.ref (hp_a h a 0) :: S) h := pX_get d1005_23 rfl rfl hk
theorem x1005_26 {L : List Value} {h : HP} {a0 : Nat} (hk : hp_k h a0 = 4) : pX 1005 26 L [.ref a0] h = (pX 302 0 [.ref a0] [] h).bind (fun q => pX 1005 29 L (q.1.toList ++ []) q.2) := pX_inv (a := a0) (t := 4) 302 [.ref a0] [] d1005_26 rfl rfl rfl hk
theorem x1005_29 {L S : List Value} {h : HP} {x : Int32} : pX 1005 29 L (.int x :: S) h = if x = 0 then pX 1005 35 L S h else pX 1005 32 L S h := pX_if_eq d1005_29 (by decide)
theorem x1005_32 {L S : List Value} {h : HP} : pX 1005 32 L S h = pX 1005 34 L (.int (-3) :: S) h := pX_bipush d1005_32 (by decide)
theorem x1005_34 {L : List Value} {h : HP} {x : Int32} : pX 1005 34 L [.int x] h = some (some (.int x), h) := pX_ret d1005_34 rfl
theorem x1005_35 {S : List Value} {h : HP} {l1 l2 l3 : Value} {a0 : Nat} : pX 1005 35 [.ref a0, l1, l2, l3] S h = pX 1005 36 [.ref a0, l1, l2, l3] (.ref a0 :: S) h := pX_stp d1005_35 rfl rfl rfl
theorem x1005_36 {L S : List Value} {h : HP} {a : Nat} (hk : hp_k h a = 11) : pX 1005 36 L (.ref a :: S) h = pX 1005 39 L (.ref (hp_a h a 0) :: S) h := pX_get d1005_36 rfl rfl hk
theorem x1005_39 {L S : List Value} {h : HP} {a : Nat} (hk : hp_k h a = 4) : pX 1005 39 L (.ref a :: S) h = pX 1005 42 L (.ref (hp_a h a 2) :: S) h := pX_get d1005_39 rfl rfl hk
theorem x1005_42 {L S : List Value} {h : HP} {a : Nat} (hk : hp_k h a = 7) : pX 1005 42 L (.ref a :: S) h = pX 1005 45 L (.ref (hp_a h a 0) :: S) h := pX_get d1005_42 rfl rfl hk
theorem x1005_45 {S : List Value} {h : HP} {l0 l2 l3 : Value} {x0 : Int32} : pX 1005 45 [l0, .int x0, l2, l3] S h = pX 1005 46 [l0, .int x0, l2, l3] (.int x0 :: S) h := pX_stp d1005_45 rfl rfl rfl
theorem x1005_46 {L S : List Value} {h : HP} {a : Nat} {j : Int32} (hk : hp_k h a = 100) (hj : inb j (hp_l h a) = true) : pX 1005 46 L (.int j :: .ref a :: S) h = pX 1005 47 L (.int (hp_i h a (ix j)) :: S) h := pX_ild d1005_46 hk hj
theorem x1005_46R {L S : List Value} {h : HP} {a : Nat} {j : Int32} (hk : hp_k h a = 99) (hj : inb j (hp_l h a) = true) : pX 1005 46 L (.int j :: .ref a :: S) h = pX 1005 47 L (.int (hp_i h a (ix j)) :: S) h := pX_ildR d1005_46 hk hj
theorem x1005_47 {S : List Value} {h : HP} {l0 l1 l2 l3 : Value} {x0 : Int32} : pX 1005 47 [l0, l1, l2, l3] (.int x0 :: S) h = pX 1005 48 [l0, l1, l2, .int x0] S h := pX_stp d1005_47 rfl rfl rfl
theorem x1005_48 {S : List Value} {h : HP} {l1 l2 l3 : Value} {a0 : Nat} : pX 1005 48 [.ref a0, l1, l2, l3] S h = pX 1005 49 [.ref a0, l1, l2, l3] (.ref a0 :: S) h := pX_stp d1005_48 rfl rfl rfl
theorem x1005_49 {L S : List Value} {h : HP} {a : Nat} (hk : hp_k h a = 11) : pX 1005 49 L (.ref a :: S) h = pX 1005 52 L (.ref (hp_a h a 0) :: S) h := pX_get d1005_49 rfl rfl hk
theorem x1005_52 {L S : List Value} {h : HP} {a : Nat} (hk : hp_k h a = 4) : pX 1005 52 L (.ref a :: S) h = pX 1005 55 L (.ref (hp_a h a 2) :: S) h := pX_get d1005_52 rfl rfl hk
theorem x1005_55 {L S : List Value} {h : HP} {a : Nat} (hk : hp_k h a = 7) : pX 1005 55 L (.ref a :: S) h = pX 1005 58 L (.ref (hp_a h a 0) :: S) h := pX_get d1005_55 rfl rfl hk
theorem x1005_58 {S : List Value} {h : HP} {l0 l2 l3 : Value} {x0 : Int32} : pX 1005 58 [l0, .int x0, l2, l3] S h = pX 1005 59 [l0, .int x0, l2, l3] (.int x0 :: S) h := pX_stp d1005_58 rfl rfl rfl
theorem x1005_59 {S : List Value} {h : HP} {l0 l1 l3 : Value} {x0 : Int32} : pX 1005 59 [l0, l1, .int x0, l3] S h = pX 1005 60 [l0, l1, .int x0, l3] (.int x0 :: S) h := pX_stp d1005_59 rfl rfl rfl
theorem x1005_60 {L S : List Value} {h : HP} {a : Nat} {j x : Int32} (hk : hp_k h a = 100) (hj : inb j (hp_l h a) = true) : pX 1005 60 L (.int x :: .int j :: .ref a :: S) h = pX 1005 61 L S (hp_wi h a (ix j) x) := pX_ist d1005_60 hk hj
theorem x1005_61 {S : List Value} {h : HP} {l0 l1 l2 : Value} {x0 : Int32} : pX 1005 61 [l0, l1, l2, .int x0] S h = pX 1005 62 [l0, l1, l2, .int x0] (.int x0 :: S) h := pX_stp d1005_61 rfl rfl rfl
theorem x1005_62 {L : List Value} {h : HP} {x : Int32} : pX 1005 62 L [.int x] h = some (some (.int x), h) := pX_ret d1005_62 rfl
theorem d1006_0 : decode (mb 1006) 0 = .ok (.aload_n 0, 1) := by decide +kernel
theorem d1006_1 : decode (mb 1006) 1 = .ok (.getfield 10, 3) := by decide +kernel
theorem d1006_4 : decode (mb 1006) 4 = .ok (.iload_n 1, 1) := by decide +kernel
theorem d1006_5 : decode (mb 1006) 5 = .ok (.invokevirtual 51, 3) := by decide +kernel
theorem d1006_8 : decode (mb 1006) 8 = .ok (.ifCond .eq 5, 3) := by decide +kernel
theorem d1006_11 : decode (mb 1006) 11 = .ok (.iconst (-1), 1) := by decide +kernel
theorem d1006_12 : decode (mb 1006) 12 = .ok (.ireturn, 1) := by decide +kernel
theorem d1006_13 : decode (mb 1006) 13 = .ok (.aload_n 0, 1) := by decide +kernel
theorem d1006_14 : decode (mb 1006) 14 = .ok (.getfield 19, 3) := by decide +kernel
theorem d1006_17 : decode (mb 1006) 17 = .ok (.aload_n 0, 1) := by decide +kernel
theorem d1006_18 : decode (mb 1006) 18 = .ok (.getfield 10, 3) := by decide +kernel
theorem d1006_21 : decode (mb 1006) 21 = .ok (.aload_n 0, 1) := by decide +kernel
theorem d1006_22 : decode (mb 1006) 22 = .ok (.getfield 10, 3) := by decide +kernel
theorem d1006_25 : decode (mb 1006) 25 = .ok (.getfield 42, 3) := by decide +kernel
theorem d1006_28 : decode (mb 1006) 28 = .ok (.iload_n 1, 1) := by decide +kernel
theorem d1006_29 : decode (mb 1006) 29 = .ok (.aaload, 1) := by decide +kernel
theorem d1006_30 : decode (mb 1006) 30 = .ok (.invokevirtual 85, 3) := by decide +kernel
theorem d1006_33 : decode (mb 1006) 33 = .ok (.ireturn, 1) := by decide +kernel
theorem x1006_0 {S : List Value} {h : HP} {l1 : Value} {a0 : Nat} : pX 1006 0 [.ref a0, l1] S h = pX 1006 1 [.ref a0, l1] (.ref a0 :: S) h := pX_stp d1006_0 rfl rfl rfl
theorem x1006_1 {L S : List Value} {h : HP} {a : Nat} (hk : hp_k h a = 11) : pX 1006 1 L (.ref a :: S) h = pX 1006 4 L (.ref (hp_a h a 0) :: S) h := pX_get d1006_1 rfl rfl hk
theorem x1006_4 {S : List Value} {h : HP} {l0 : Value} {x0 : Int32} : pX 1006 4 [l0, .int x0] S h = pX 1006 5 [l0, .int x0] (.int x0 :: S) h := pX_stp d1006_4 rfl rfl rfl
theorem x1006_5 {L : List Value} {h : HP} {x0 : Int32} {a0 : Nat} (hk : hp_k h a0 = 4) : pX 1006 5 L [.int x0, .ref a0] h = (pX 301 0 [.ref a0, .int x0] [] h).bind (fun q => pX 1006 8 L (q.1.toList ++ []) q.2) := pX_inv (a := a0) (t := 4) 301 [.ref a0, .int x0] [] d1006_5 rfl rfl rfl hk
theorem x1006_8 {L S : List Value} {h : HP} {x : Int32} : pX 1006 8 L (.int x :: S) h = if x = 0 then pX 1006 13 L S h else pX 1006 11 L S h := pX_if_eq d1006_8 (by decide)
theorem x1006_11 {L S : List Value} {h : HP} : pX 1006 11 L S h = pX 1006 12 L (.int (-1) :: S) h := pX_iconst d1006_11 (by decide)
theorem x1006_12 {L : List Value} {h : HP} {x : Int32} : pX 1006 12 L [.int x] h = some (some (.int x), h) := pX_ret d1006_12 rfl
theorem x1006_13 {S : List Value} {h : HP} {l1 : Value} {a0 : Nat} : pX 1006 13 [.ref a0, l1] S h = pX 1006 14 [.ref a0, l1] (.ref a0 :: S) h := pX_stp d1006_13 rfl rfl rfl
theorem x1006_14 {L S : List Value} {h : HP} {a : Nat} (hk : hp_k h a = 11) : pX 1006 14 L (.ref a :: S) h = pX 1006 17 L (.ref (hp_a h a 1) :: S) h := pX_get d1006_14 rfl rfl hk
theorem x1006_17 {S : List Value} {h : HP} {l1 : Value} {a0 : Nat} : pX 1006 17 [.ref a0, l1] S h = pX 1006 18 [.ref a0, l1] (.ref a0 :: S) h := pX_stp d1006_17 rfl rfl rfl
theorem x1006_18 {L S : List Value} {h : HP} {a : Nat} (hk : hp_k h a = 11) : pX 1006 18 L (.ref a :: S) h = pX 1006 21 L (.ref (hp_a h a 0) :: S) h := pX_get d1006_18 rfl rfl hk
theorem x1006_21 {S : List Value} {h : HP} {l1 : Value} {a0 : Nat} : pX 1006 21 [.ref a0, l1] S h = pX 1006 22 [.ref a0, l1] (.ref a0 :: S) h := pX_stp d1006_21 rfl rfl rfl
theorem x1006_22 {L S : List Value} {h : HP} {a : Nat} (hk : hp_k h a = 11) : pX 1006 22 L (.ref a :: S) h = pX 1006 25 L (.ref (hp_a h a 0) :: S) h := pX_get d1006_22 rfl rfl hk
theorem x1006_25 {L S : List Value} {h : HP} {a : Nat} (hk : hp_k h a = 4) : pX 1006 25 L (.ref a :: S) h = pX 1006 28 L (.ref (hp_a h a 0) :: S) h := pX_get d1006_25 rfl rfl hk
theorem x1006_28 {S : List Value} {h : HP} {l0 : Value} {x0 : Int32} : pX 1006 28 [l0, .int x0] S h = pX 1006 29 [l0, .int x0] (.int x0 :: S) h := pX_stp d1006_28 rfl rfl rfl
theorem x1006_29 {L S : List Value} {h : HP} {a : Nat} {j : Int32} (hk : 200 ≤ hp_k h a) (hj : inb j (hp_l h a) = true) : pX 1006 29 L (.int j :: .ref a :: S) h = pX 1006 30 L (.ref (hp_a h a (ix j)) :: S) h := pX_ald d1006_29 hk hj
theorem x1006_30 {L : List Value} {h : HP} {a0 : Nat} {a1 : Nat} {a2 : Nat} (hk : hp_k h a2 = 10) : pX 1006 30 L [.ref a0, .ref a1, .ref a2] h = (pX 901 0 [.ref a2, .ref a1, .ref a0, .retAddr 0] [] h).bind (fun q => pX 1006 33 L (q.1.toList ++ []) q.2) := pX_inv (a := a2) (t := 10) 901 [.ref a2, .ref a1, .ref a0] [] d1006_30 rfl rfl rfl hk
theorem x1006_33 {L : List Value} {h : HP} {x : Int32} : pX 1006 33 L [.int x] h = some (some (.int x), h) := pX_ret d1006_33 rfl
theorem d1007_0 : decode (mb 1007) 0 = .ok (.aload_n 0, 1) := by decide +kernel
theorem d1007_1 : decode (mb 1007) 1 = .ok (.getfield 10, 3) := by decide +kernel
theorem d1007_4 : decode (mb 1007) 4 = .ok (.iload_n 1, 1) := by decide +kernel
theorem d1007_5 : decode (mb 1007) 5 = .ok (.invokevirtual 51, 3) := by decide +kernel
theorem d1007_8 : decode (mb 1007) 8 = .ok (.ifCond .eq 5, 3) := by decide +kernel
theorem d1007_11 : decode (mb 1007) 11 = .ok (.iconst (-1), 1) := by decide +kernel
theorem d1007_12 : decode (mb 1007) 12 = .ok (.ireturn, 1) := by decide +kernel
theorem d1007_13 : decode (mb 1007) 13 = .ok (.aload_n 0, 1) := by decide +kernel
theorem d1007_14 : decode (mb 1007) 14 = .ok (.getfield 10, 3) := by decide +kernel
theorem d1007_17 : decode (mb 1007) 17 = .ok (.getfield 42, 3) := by decide +kernel
theorem d1007_20 : decode (mb 1007) 20 = .ok (.iload_n 1, 1) := by decide +kernel
theorem d1007_21 : decode (mb 1007) 21 = .ok (.aaload, 1) := by decide +kernel
theorem d1007_22 : decode (mb 1007) 22 = .ok (.astore_n 3, 1) := by decide +kernel
theorem d1007_23 : decode (mb 1007) 23 = .ok (.iload_n 2, 1) := by decide +kernel
theorem d1007_24 : decode (mb 1007) 24 = .ok (.tableswitch 52 0 3 #[32, 37, 42, 47], 32) := by decide +kernel
theorem d1007_56 : decode (mb 1007) 56 = .ok (.aload_n 3, 1) := by decide +kernel
theorem d1007_57 : decode (mb 1007) 57 = .ok (.getfield 46, 3) := by decide +kernel
theorem d1007_60 : decode (mb 1007) 60 = .ok (.ireturn, 1) := by decide +kernel
theorem d1007_61 : decode (mb 1007) 61 = .ok (.aload_n 3, 1) := by decide +kernel
theorem d1007_62 : decode (mb 1007) 62 = .ok (.getfield 62, 3) := by decide +kernel
theorem d1007_65 : decode (mb 1007) 65 = .ok (.ireturn, 1) := by decide +kernel
theorem d1007_66 : decode (mb 1007) 66 = .ok (.aload_n 3, 1) := by decide +kernel
theorem d1007_67 : decode (mb 1007) 67 = .ok (.getfield 69, 3) := by decide +kernel
theorem d1007_70 : decode (mb 1007) 70 = .ok (.ireturn, 1) := by decide +kernel
theorem d1007_71 : decode (mb 1007) 71 = .ok (.aload_n 3, 1) := by decide +kernel
theorem d1007_72 : decode (mb 1007) 72 = .ok (.getfield 89, 3) := by decide +kernel
theorem d1007_75 : decode (mb 1007) 75 = .ok (.ireturn, 1) := by decide +kernel
theorem d1007_76 : decode (mb 1007) 76 = .ok (.bipush (-2), 2) := by decide +kernel
theorem d1007_78 : decode (mb 1007) 78 = .ok (.ireturn, 1) := by decide +kernel
theorem x1007_0 {S : List Value} {h : HP} {l1 l2 l3 : Value} {a0 : Nat} : pX 1007 0 [.ref a0, l1, l2, l3] S h = pX 1007 1 [.ref a0, l1, l2, l3] (.ref a0 :: S) h := pX_stp d1007_0 rfl rfl rfl
theorem x1007_1 {L S : List Value} {h : HP} {a : Nat} (hk : hp_k h a = 11) : pX 1007 1 L (.ref a :: S) h = pX 1007 4 L (.ref (hp_a h a 0) :: S) h := pX_get d1007_1 rfl rfl hk
theorem x1007_4 {S : List Value} {h : HP} {l0 l2 l3 : Value} {x0 : Int32} : pX 1007 4 [l0, .int x0, l2, l3] S h = pX 1007 5 [l0, .int x0, l2, l3] (.int x0 :: S) h := pX_stp d1007_4 rfl rfl rfl
theorem x1007_5 {L : List Value} {h : HP} {x0 : Int32} {a0 : Nat} (hk : hp_k h a0 = 4) : pX 1007 5 L [.int x0, .ref a0] h = (pX 301 0 [.ref a0, .int x0] [] h).bind (fun q => pX 1007 8 L (q.1.toList ++ []) q.2) := pX_inv (a := a0) (t := 4) 301 [.ref a0, .int x0] [] d1007_5 rfl rfl rfl hk
theorem x1007_8 {L S : List Value} {h : HP} {x : Int32} : pX 1007 8 L (.int x :: S) h = if x = 0 then pX 1007 13 L S h else pX 1007 11 L S h := pX_if_eq d1007_8 (by decide)
theorem x1007_11 {L S : List Value} {h : HP} : pX 1007 11 L S h = pX 1007 12 L (.int (-1) :: S) h := pX_iconst d1007_11 (by decide)
theorem x1007_12 {L : List Value} {h : HP} {x : Int32} : pX 1007 12 L [.int x] h = some (some (.int x), h) := pX_ret d1007_12 rfl
theorem x1007_13 {S : List Value} {h : HP} {l1 l2 l3 : Value} {a0 : Nat} : pX 1007 13 [.ref a0, l1, l2, l3] S h = pX 1007 14 [.ref a0, l1, l2, l3] (.ref a0 :: S) h := pX_stp d1007_13 rfl rfl rfl
theorem x1007_14 {L S : List Value} {h : HP} {a : Nat} (hk : hp_k h a = 11) : pX 1007 14 L (.ref a :: S) h = pX 1007 17 L (.ref (hp_a h a 0) :: S) h := pX_get d1007_14 rfl rfl hk
theorem x1007_17 {L S : List Value} {h : HP} {a : Nat} (hk : hp_k h a = 4) : pX 1007 17 L (.ref a :: S) h = pX 1007 20 L (.ref (hp_a h a 0) :: S) h := pX_get d1007_17 rfl rfl hk
theorem x1007_20 {S : List Value} {h : HP} {l0 l2 l3 : Value} {x0 : Int32} : pX 1007 20 [l0, .int x0, l2, l3] S h = pX 1007 21 [l0, .int x0, l2, l3] (.int x0 :: S) h := pX_stp d1007_20 rfl rfl rfl
theorem x1007_21 {L S : List Value} {h : HP} {a : Nat} {j : Int32} (hk : 200 ≤ hp_k h a) (hj : inb j (hp_l h a) = true) : pX 1007 21 L (.int j :: .ref a :: S) h = pX 1007 22 L (.ref (hp_a h a (ix j)) :: S) h := pX_ald d1007_21 hk hj
theorem x1007_22 {S : List Value} {h : HP} {l0 l1 l2 l3 : Value} {a0 : Nat} : pX 1007 22 [l0, l1, l2, l3] (.ref a0 :: S) h = pX 1007 23 [l0, l1, l2, .ref a0] S h := pX_stp d1007_22 rfl rfl rfl
theorem x1007_23 {S : List Value} {h : HP} {l0 l1 l3 : Value} {x0 : Int32} : pX 1007 23 [l0, l1, .int x0, l3] S h = pX 1007 24 [l0, l1, .int x0, l3] (.int x0 :: S) h := pX_stp d1007_23 rfl rfl rfl
theorem x1007_24_0 {L S : List Value} {h : HP} : pX 1007 24 L (.int 0 :: S) h = pX 1007 56 L S h := pX_tabIn (off := 32) d1007_24 (by decide) (by decide) (by decide) (by decide)
theorem x1007_24_1 {L S : List Value} {h : HP} : pX 1007 24 L (.int 1 :: S) h = pX 1007 61 L S h := pX_tabIn (off := 37) d1007_24 (by decide) (by decide) (by decide) (by decide)
theorem x1007_24_2 {L S : List Value} {h : HP} : pX 1007 24 L (.int 2 :: S) h = pX 1007 66 L S h := pX_tabIn (off := 42) d1007_24 (by decide) (by decide) (by decide) (by decide)
theorem x1007_24_3 {L S : List Value} {h : HP} : pX 1007 24 L (.int 3 :: S) h = pX 1007 71 L S h := pX_tabIn (off := 47) d1007_24 (by decide) (by decide) (by decide) (by decide)
theorem x1007_24_d {L S : List Value} {h : HP} {x : Int32} (hx : x.toInt < 0 ∨ 3 < x.toInt) : pX 1007 24 L (.int x :: S) h = pX 1007 76 L S h := pX_tabOut d1007_24 hx (by decide)
theorem x1007_56 {S : List Value} {h : HP} {l0 l1 l2 : Value} {a0 : Nat} : pX 1007 56 [l0, l1, l2, .ref a0] S h = pX 1007 57 [l0, l1, l2, .ref a0] (.ref a0 :: S) h := pX_stp d1007_56 rfl rfl rfl
theorem x1007_57 {L S : List Value} {h : HP} {a : Nat} (hk : hp_k h a = 5) : pX 1007 57 L (.ref a :: S) h = pX 1007 60 L (.int (hp_i h a 0) :: S) h := pX_get d1007_57 rfl rfl hk
theorem x1007_60 {L : List Value} {h : HP} {x : Int32} : pX 1007 60 L [.int x] h = some (some (.int x), h) := pX_ret d1007_60 rfl
theorem x1007_61 {S : List Value} {h : HP} {l0 l1 l2 : Value} {a0 : Nat} : pX 1007 61 [l0, l1, l2, .ref a0] S h = pX 1007 62 [l0, l1, l2, .ref a0] (.ref a0 :: S) h := pX_stp d1007_61 rfl rfl rfl
theorem x1007_62 {L S : List Value} {h : HP} {a : Nat} (hk : hp_k h a = 5) : pX 1007 62 L (.ref a :: S) h = pX 1007 65 L (.int (hp_i h a 2) :: S) h := pX_get d1007_62 rfl rfl hk
theorem x1007_65 {L : List Value} {h : HP} {x : Int32} : pX 1007 65 L [.int x] h = some (some (.int x), h) := pX_ret d1007_65 rfl
theorem x1007_66 {S : List Value} {h : HP} {l0 l1 l2 : Value} {a0 : Nat} : pX 1007 66 [l0, l1, l2, .ref a0] S h = pX 1007 67 [l0, l1, l2, .ref a0] (.ref a0 :: S) h := pX_stp d1007_66 rfl rfl rfl
theorem x1007_67 {L S : List Value} {h : HP} {a : Nat} (hk : hp_k h a = 5) : pX 1007 67 L (.ref a :: S) h = pX 1007 70 L (.int (hp_i h a 7) :: S) h := pX_get d1007_67 rfl rfl hk
theorem x1007_70 {L : List Value} {h : HP} {x : Int32} : pX 1007 70 L [.int x] h = some (some (.int x), h) := pX_ret d1007_70 rfl
theorem x1007_71 {S : List Value} {h : HP} {l0 l1 l2 : Value} {a0 : Nat} : pX 1007 71 [l0, l1, l2, .ref a0] S h = pX 1007 72 [l0, l1, l2, .ref a0] (.ref a0 :: S) h := pX_stp d1007_71 rfl rfl rfl
theorem x1007_72 {L S : List Value} {h : HP} {a : Nat} (hk : hp_k h a = 5) : pX 1007 72 L (.ref a :: S) h = pX 1007 75 L (.int (hp_i h a 1) :: S) h := pX_get d1007_72 rfl rfl hk
theorem x1007_75 {L : List Value} {h : HP} {x : Int32} : pX 1007 75 L [.int x] h = some (some (.int x), h) := pX_ret d1007_75 rfl
theorem x1007_76 {L S : List Value} {h : HP} : pX 1007 76 L S h = pX 1007 78 L (.int (-2) :: S) h := pX_bipush d1007_76 (by decide)
theorem x1007_78 {L : List Value} {h : HP} {x : Int32} : pX 1007 78 L [.int x] h = some (some (.int x), h) := pX_ret d1007_78 rfl
theorem d1008_0 : decode (mb 1008) 0 = .ok (.iload_n 1, 1) := by decide +kernel
theorem d1008_1 : decode (mb 1008) 1 = .ok (.iconst 0, 1) := by decide +kernel
theorem d1008_2 : decode (mb 1008) 2 = .ok (.bipush 11, 2) := by decide +kernel
theorem d1008_4 : decode (mb 1008) 4 = .ok (.invokestatic 30, 3) := by decide +kernel
theorem d1008_7 : decode (mb 1008) 7 = .ok (.ifCond .eq 6, 3) := by decide +kernel
theorem d1008_10 : decode (mb 1008) 10 = .ok (.bipush (-2), 2) := by decide +kernel
theorem d1008_12 : decode (mb 1008) 12 = .ok (.ireturn, 1) := by decide +kernel
theorem d1008_13 : decode (mb 1008) 13 = .ok (.aload_n 0, 1) := by decide +kernel
theorem d1008_14 : decode (mb 1008) 14 = .ok (.getfield 10, 3) := by decide +kernel
theorem d1008_17 : decode (mb 1008) 17 = .ok (.invokevirtual 34, 3) := by decide +kernel
theorem d1008_20 : decode (mb 1008) 20 = .ok (.ifCond .eq 6, 3) := by decide +kernel
theorem d1008_23 : decode (mb 1008) 23 = .ok (.bipush (-3), 2) := by decide +kernel
theorem d1008_25 : decode (mb 1008) 25 = .ok (.ireturn, 1) := by decide +kernel
theorem d1008_26 : decode (mb 1008) 26 = .ok (.aload_n 0, 1) := by decide +kernel
theorem d1008_27 : decode (mb 1008) 27 = .ok (.getfield 10, 3) := by decide +kernel
theorem d1008_30 : decode (mb 1008) 30 = .ok (.getfield 92, 3) := by decide +kernel
theorem d1008_33 : decode (mb 1008) 33 = .ok (.iload_n 1, 1) := by decide +kernel
theorem d1008_34 : decode (mb 1008) 34 = .ok (.iaload, 1) := by decide +kernel
theorem d1008_35 : decode (mb 1008) 35 = .ok (.istore_n 3, 1) := by decide +kernel
theorem d1008_36 : decode (mb 1008) 36 = .ok (.aload_n 0, 1) := by decide +kernel
theorem d1008_37 : decode (mb 1008) 37 = .ok (.getfield 10, 3) := by decide +kernel
theorem d1008_40 : decode (mb 1008) 40 = .ok (.getfield 92, 3) := by decide +kernel
theorem d1008_43 : decode (mb 1008) 43 = .ok (.iload_n 1, 1) := by decide +kernel
theorem d1008_44 : decode (mb 1008) 44 = .ok (.iload_n 2, 1) := by decide +kernel
theorem d1008_45 : decode (mb 1008) 45 = .ok (.iastore, 1) := by decide +kernel
theorem d1008_46 : decode (mb 1008) 46 = .ok (.iload_n 3, 1) := by decide +kernel
theorem d1008_47 : decode (mb 1008) 47 = .ok (.ireturn, 1) := by decide +kernel
theorem x1008_0 {S : List Value} {h : HP} {l0 l2 l3 : Value} {x0 : Int32} : pX 1008 0 [l0, .int x0, l2, l3] S h = pX 1008 1 [l0, .int x0, l2, l3] (.int x0 :: S) h := pX_stp d1008_0 rfl rfl rfl
theorem x1008_1 {L S : List Value} {h : HP} : pX 1008 1 L S h = pX 1008 2 L (.int 0 :: S) h := pX_iconst d1008_1 (by decide)
theorem x1008_2 {L S : List Value} {h : HP} : pX 1008 2 L S h = pX 1008 4 L (.int 11 :: S) h := pX_bipush d1008_2 (by decide)
theorem x1008_4 {L : List Value} {h : HP} {x0 : Int32} {x1 : Int32} {x2 : Int32} : pX 1008 4 L [.int x0, .int x1, .int x2] h = (pX 1025 0 [.int x2, .int x1, .int x0] [] h).bind (fun q => pX 1008 7 L (q.1.toList ++ []) q.2) := pX_ins 1025 [.int x2, .int x1, .int x0] [] d1008_4 rfl rfl rfl
theorem x1008_7 {L S : List Value} {h : HP} {x : Int32} : pX 1008 7 L (.int x :: S) h = if x = 0 then pX 1008 13 L S h else pX 1008 10 L S h := pX_if_eq d1008_7 (by decide)
theorem x1008_10 {L S : List Value} {h : HP} : pX 1008 10 L S h = pX 1008 12 L (.int (-2) :: S) h := pX_bipush d1008_10 (by decide)
theorem x1008_12 {L : List Value} {h : HP} {x : Int32} : pX 1008 12 L [.int x] h = some (some (.int x), h) := pX_ret d1008_12 rfl
theorem x1008_13 {S : List Value} {h : HP} {l1 l2 l3 : Value} {a0 : Nat} : pX 1008 13 [.ref a0, l1, l2, l3] S h = pX 1008 14 [.ref a0, l1, l2, l3] (.ref a0 :: S) h := pX_stp d1008_13 rfl rfl rfl
theorem x1008_14 {L S : List Value} {h : HP} {a : Nat} (hk : hp_k h a = 11) : pX 1008 14 L (.ref a :: S) h = pX 1008 17 L (.ref (hp_a h a 0) :: S) h := pX_get d1008_14 rfl rfl hk
theorem x1008_17 {L : List Value} {h : HP} {a0 : Nat} (hk : hp_k h a0 = 4) : pX 1008 17 L [.ref a0] h = (pX 302 0 [.ref a0] [] h).bind (fun q => pX 1008 20 L (q.1.toList ++ []) q.2) := pX_inv (a := a0) (t := 4) 302 [.ref a0] [] d1008_17 rfl rfl rfl hk
theorem x1008_20 {L S : List Value} {h : HP} {x : Int32} : pX 1008 20 L (.int x :: S) h = if x = 0 then pX 1008 26 L S h else pX 1008 23 L S h := pX_if_eq d1008_20 (by decide)
theorem x1008_23 {L S : List Value} {h : HP} : pX 1008 23 L S h = pX 1008 25 L (.int (-3) :: S) h := pX_bipush d1008_23 (by decide)
theorem x1008_25 {L : List Value} {h : HP} {x : Int32} : pX 1008 25 L [.int x] h = some (some (.int x), h) := pX_ret d1008_25 rfl
theorem x1008_26 {S : List Value} {h : HP} {l1 l2 l3 : Value} {a0 : Nat} : pX 1008 26 [.ref a0, l1, l2, l3] S h = pX 1008 27 [.ref a0, l1, l2, l3] (.ref a0 :: S) h := pX_stp d1008_26 rfl rfl rfl
theorem x1008_27 {L S : List Value} {h : HP} {a : Nat} (hk : hp_k h a = 11) : pX 1008 27 L (.ref a :: S) h = pX 1008 30 L (.ref (hp_a h a 0) :: S) h := pX_get d1008_27 rfl rfl hk
theorem x1008_30 {L S : List Value} {h : HP} {a : Nat} (hk : hp_k h a = 4) : pX 1008 30 L (.ref a :: S) h = pX 1008 33 L (.ref (hp_a h a 4) :: S) h := pX_get d1008_30 rfl rfl hk
theorem x1008_33 {S : List Value} {h : HP} {l0 l2 l3 : Value} {x0 : Int32} : pX 1008 33 [l0, .int x0, l2, l3] S h = pX 1008 34 [l0, .int x0, l2, l3] (.int x0 :: S) h := pX_stp d1008_33 rfl rfl rfl
theorem x1008_34 {L S : List Value} {h : HP} {a : Nat} {j : Int32} (hk : hp_k h a = 100) (hj : inb j (hp_l h a) = true) : pX 1008 34 L (.int j :: .ref a :: S) h = pX 1008 35 L (.int (hp_i h a (ix j)) :: S) h := pX_ild d1008_34 hk hj
theorem x1008_34R {L S : List Value} {h : HP} {a : Nat} {j : Int32} (hk : hp_k h a = 99) (hj : inb j (hp_l h a) = true) : pX 1008 34 L (.int j :: .ref a :: S) h = pX 1008 35 L (.int (hp_i h a (ix j)) :: S) h := pX_ildR d1008_34 hk hj
theorem x1008_35 {S : List Value} {h : HP} {l0 l1 l2 l3 : Value} {x0 : Int32} : pX 1008 35 [l0, l1, l2, l3] (.int x0 :: S) h = pX 1008 36 [l0, l1, l2, .int x0] S h := pX_stp d1008_35 rfl rfl rfl
theorem x1008_36 {S : List Value} {h : HP} {l1 l2 l3 : Value} {a0 : Nat} : pX 1008 36 [.ref a0, l1, l2, l3] S h = pX 1008 37 [.ref a0, l1, l2, l3] (.ref a0 :: S) h := pX_stp d1008_36 rfl rfl rfl
theorem x1008_37 {L S : List Value} {h : HP} {a : Nat} (hk : hp_k h a = 11) : pX 1008 37 L (.ref a :: S) h = pX 1008 40 L (.ref (hp_a h a 0) :: S) h := pX_get d1008_37 rfl rfl hk
theorem x1008_40 {L S : List Value} {h : HP} {a : Nat} (hk : hp_k h a = 4) : pX 1008 40 L (.ref a :: S) h = pX 1008 43 L (.ref (hp_a h a 4) :: S) h := pX_get d1008_40 rfl rfl hk
theorem x1008_43 {S : List Value} {h : HP} {l0 l2 l3 : Value} {x0 : Int32} : pX 1008 43 [l0, .int x0, l2, l3] S h = pX 1008 44 [l0, .int x0, l2, l3] (.int x0 :: S) h := pX_stp d1008_43 rfl rfl rfl
theorem x1008_44 {S : List Value} {h : HP} {l0 l1 l3 : Value} {x0 : Int32} : pX 1008 44 [l0, l1, .int x0, l3] S h = pX 1008 45 [l0, l1, .int x0, l3] (.int x0 :: S) h := pX_stp d1008_44 rfl rfl rfl
theorem x1008_45 {L S : List Value} {h : HP} {a : Nat} {j x : Int32} (hk : hp_k h a = 100) (hj : inb j (hp_l h a) = true) : pX 1008 45 L (.int x :: .int j :: .ref a :: S) h = pX 1008 46 L S (hp_wi h a (ix j) x) := pX_ist d1008_45 hk hj
theorem x1008_46 {S : List Value} {h : HP} {l0 l1 l2 : Value} {x0 : Int32} : pX 1008 46 [l0, l1, l2, .int x0] S h = pX 1008 47 [l0, l1, l2, .int x0] (.int x0 :: S) h := pX_stp d1008_46 rfl rfl rfl
theorem x1008_47 {L : List Value} {h : HP} {x : Int32} : pX 1008 47 L [.int x] h = some (some (.int x), h) := pX_ret d1008_47 rfl
theorem d1009_0 : decode (mb 1009) 0 = .ok (.iload_n 1, 1) := by decide +kernel
theorem d1009_1 : decode (mb 1009) 1 = .ok (.iconst 0, 1) := by decide +kernel
theorem d1009_2 : decode (mb 1009) 2 = .ok (.bipush 11, 2) := by decide +kernel
theorem d1009_4 : decode (mb 1009) 4 = .ok (.invokestatic 30, 3) := by decide +kernel
theorem d1009_7 : decode (mb 1009) 7 = .ok (.ifCond .eq 8, 3) := by decide +kernel
theorem d1009_10 : decode (mb 1009) 10 = .ok (.bipush (-2), 2) := by decide +kernel
theorem d1009_12 : decode (mb 1009) 12 = .ok (.goto 12, 3) := by decide +kernel
theorem d1009_15 : decode (mb 1009) 15 = .ok (.aload_n 0, 1) := by decide +kernel
theorem d1009_16 : decode (mb 1009) 16 = .ok (.getfield 10, 3) := by decide +kernel
theorem d1009_19 : decode (mb 1009) 19 = .ok (.getfield 92, 3) := by decide +kernel
theorem d1009_22 : decode (mb 1009) 22 = .ok (.iload_n 1, 1) := by decide +kernel
theorem d1009_23 : decode (mb 1009) 23 = .ok (.iaload, 1) := by decide +kernel
theorem d1009_24 : decode (mb 1009) 24 = .ok (.ireturn, 1) := by decide +kernel
theorem x1009_0 {S : List Value} {h : HP} {l0 : Value} {x0 : Int32} : pX 1009 0 [l0, .int x0] S h = pX 1009 1 [l0, .int x0] (.int x0 :: S) h := pX_stp d1009_0 rfl rfl rfl
theorem x1009_1 {L S : List Value} {h : HP} : pX 1009 1 L S h = pX 1009 2 L (.int 0 :: S) h := pX_iconst d1009_1 (by decide)
theorem x1009_2 {L S : List Value} {h : HP} : pX 1009 2 L S h = pX 1009 4 L (.int 11 :: S) h := pX_bipush d1009_2 (by decide)
theorem x1009_4 {L : List Value} {h : HP} {x0 : Int32} {x1 : Int32} {x2 : Int32} : pX 1009 4 L [.int x0, .int x1, .int x2] h = (pX 1025 0 [.int x2, .int x1, .int x0] [] h).bind (fun q => pX 1009 7 L (q.1.toList ++ []) q.2) := pX_ins 1025 [.int x2, .int x1, .int x0] [] d1009_4 rfl rfl rfl
theorem x1009_7 {L S : List Value} {h : HP} {x : Int32} : pX 1009 7 L (.int x :: S) h = if x = 0 then pX 1009 15 L S h else pX 1009 10 L S h := pX_if_eq d1009_7 (by decide)
theorem x1009_10 {L S : List Value} {h : HP} : pX 1009 10 L S h = pX 1009 12 L (.int (-2) :: S) h := pX_bipush d1009_10 (by decide)
theorem x1009_12 {L S : List Value} {h : HP} : pX 1009 12 L S h = pX 1009 24 L S h := pX_goto d1009_12 (by decide)
theorem x1009_15 {S : List Value} {h : HP} {l1 : Value} {a0 : Nat} : pX 1009 15 [.ref a0, l1] S h = pX 1009 16 [.ref a0, l1] (.ref a0 :: S) h := pX_stp d1009_15 rfl rfl rfl
theorem x1009_16 {L S : List Value} {h : HP} {a : Nat} (hk : hp_k h a = 11) : pX 1009 16 L (.ref a :: S) h = pX 1009 19 L (.ref (hp_a h a 0) :: S) h := pX_get d1009_16 rfl rfl hk
theorem x1009_19 {L S : List Value} {h : HP} {a : Nat} (hk : hp_k h a = 4) : pX 1009 19 L (.ref a :: S) h = pX 1009 22 L (.ref (hp_a h a 4) :: S) h := pX_get d1009_19 rfl rfl hk
theorem x1009_22 {S : List Value} {h : HP} {l0 : Value} {x0 : Int32} : pX 1009 22 [l0, .int x0] S h = pX 1009 23 [l0, .int x0] (.int x0 :: S) h := pX_stp d1009_22 rfl rfl rfl
theorem x1009_23 {L S : List Value} {h : HP} {a : Nat} {j : Int32} (hk : hp_k h a = 100) (hj : inb j (hp_l h a) = true) : pX 1009 23 L (.int j :: .ref a :: S) h = pX 1009 24 L (.int (hp_i h a (ix j)) :: S) h := pX_ild d1009_23 hk hj
theorem x1009_23R {L S : List Value} {h : HP} {a : Nat} {j : Int32} (hk : hp_k h a = 99) (hj : inb j (hp_l h a) = true) : pX 1009 23 L (.int j :: .ref a :: S) h = pX 1009 24 L (.int (hp_i h a (ix j)) :: S) h := pX_ildR d1009_23 hk hj
theorem x1009_24 {L : List Value} {h : HP} {x : Int32} : pX 1009 24 L [.int x] h = some (some (.int x), h) := pX_ret d1009_24 rfl
theorem d1010_0 : decode (mb 1010) 0 = .ok (.iload_n 1, 1) := by decide +kernel
theorem d1010_1 : decode (mb 1010) 1 = .ok (.iconst 0, 1) := by decide +kernel
theorem d1010_2 : decode (mb 1010) 2 = .ok (.iconst 2, 1) := by decide +kernel
theorem d1010_3 : decode (mb 1010) 3 = .ok (.invokestatic 30, 3) := by decide +kernel
theorem d1010_6 : decode (mb 1010) 6 = .ok (.ifCond .eq 6, 3) := by decide +kernel
theorem d1010_9 : decode (mb 1010) 9 = .ok (.bipush (-2), 2) := by decide +kernel
theorem d1010_11 : decode (mb 1010) 11 = .ok (.ireturn, 1) := by decide +kernel
theorem d1010_12 : decode (mb 1010) 12 = .ok (.iload_n 2, 1) := by decide +kernel
theorem d1010_13 : decode (mb 1010) 13 = .ok (.tableswitch 68 0 2 #[27, 38, 50], 27) := by decide +kernel
theorem d1010_40 : decode (mb 1010) 40 = .ok (.aload_n 0, 1) := by decide +kernel
theorem d1010_41 : decode (mb 1010) 41 = .ok (.getfield 25, 3) := by decide +kernel
theorem d1010_44 : decode (mb 1010) 44 = .ok (.iload_n 1, 1) := by decide +kernel
theorem d1010_45 : decode (mb 1010) 45 = .ok (.aaload, 1) := by decide +kernel
theorem d1010_46 : decode (mb 1010) 46 = .ok (.invokevirtual 95, 3) := by decide +kernel
theorem d1010_49 : decode (mb 1010) 49 = .ok (.iconst 1, 1) := by decide +kernel
theorem d1010_50 : decode (mb 1010) 50 = .ok (.ireturn, 1) := by decide +kernel
theorem d1010_51 : decode (mb 1010) 51 = .ok (.aload_n 0, 1) := by decide +kernel
theorem d1010_52 : decode (mb 1010) 52 = .ok (.getfield 25, 3) := by decide +kernel
theorem d1010_55 : decode (mb 1010) 55 = .ok (.iload_n 1, 1) := by decide +kernel
theorem d1010_56 : decode (mb 1010) 56 = .ok (.aaload, 1) := by decide +kernel
theorem d1010_57 : decode (mb 1010) 57 = .ok (.iload_n 3, 1) := by decide +kernel
theorem d1010_58 : decode (mb 1010) 58 = .ok (.invokevirtual 98, 3) := by decide +kernel
theorem d1010_61 : decode (mb 1010) 61 = .ok (.iconst 1, 1) := by decide +kernel
theorem d1010_62 : decode (mb 1010) 62 = .ok (.ireturn, 1) := by decide +kernel
theorem d1010_63 : decode (mb 1010) 63 = .ok (.aload_n 0, 1) := by decide +kernel
theorem d1010_64 : decode (mb 1010) 64 = .ok (.getfield 25, 3) := by decide +kernel
theorem d1010_67 : decode (mb 1010) 67 = .ok (.iload_n 1, 1) := by decide +kernel
theorem d1010_68 : decode (mb 1010) 68 = .ok (.aaload, 1) := by decide +kernel
theorem d1010_69 : decode (mb 1010) 69 = .ok (.aload_n 0, 1) := by decide +kernel
theorem d1010_70 : decode (mb 1010) 70 = .ok (.getfield 10, 3) := by decide +kernel
theorem d1010_73 : decode (mb 1010) 73 = .ok (.getfield 102, 3) := by decide +kernel
theorem d1010_76 : decode (mb 1010) 76 = .ok (.invokevirtual 106, 3) := by decide +kernel
theorem d1010_79 : decode (mb 1010) 79 = .ok (.iconst 1, 1) := by decide +kernel
theorem d1010_80 : decode (mb 1010) 80 = .ok (.ireturn, 1) := by decide +kernel
theorem d1010_81 : decode (mb 1010) 81 = .ok (.bipush (-2), 2) := by decide +kernel
theorem d1010_83 : decode (mb 1010) 83 = .ok (.ireturn, 1) := by decide +kernel
theorem x1010_0 {S : List Value} {h : HP} {l0 l2 l3 : Value} {x0 : Int32} : pX 1010 0 [l0, .int x0, l2, l3] S h = pX 1010 1 [l0, .int x0, l2, l3] (.int x0 :: S) h := pX_stp d1010_0 rfl rfl rfl
theorem x1010_1 {L S : List Value} {h : HP} : pX 1010 1 L S h = pX 1010 2 L (.int 0 :: S) h := pX_iconst d1010_1 (by decide)
theorem x1010_2 {L S : List Value} {h : HP} : pX 1010 2 L S h = pX 1010 3 L (.int 2 :: S) h := pX_iconst d1010_2 (by decide)
theorem x1010_3 {L : List Value} {h : HP} {x0 : Int32} {x1 : Int32} {x2 : Int32} : pX 1010 3 L [.int x0, .int x1, .int x2] h = (pX 1025 0 [.int x2, .int x1, .int x0] [] h).bind (fun q => pX 1010 6 L (q.1.toList ++ []) q.2) := pX_ins 1025 [.int x2, .int x1, .int x0] [] d1010_3 rfl rfl rfl
theorem x1010_6 {L S : List Value} {h : HP} {x : Int32} : pX 1010 6 L (.int x :: S) h = if x = 0 then pX 1010 12 L S h else pX 1010 9 L S h := pX_if_eq d1010_6 (by decide)
theorem x1010_9 {L S : List Value} {h : HP} : pX 1010 9 L S h = pX 1010 11 L (.int (-2) :: S) h := pX_bipush d1010_9 (by decide)
theorem x1010_11 {L : List Value} {h : HP} {x : Int32} : pX 1010 11 L [.int x] h = some (some (.int x), h) := pX_ret d1010_11 rfl
theorem x1010_12 {S : List Value} {h : HP} {l0 l1 l3 : Value} {x0 : Int32} : pX 1010 12 [l0, l1, .int x0, l3] S h = pX 1010 13 [l0, l1, .int x0, l3] (.int x0 :: S) h := pX_stp d1010_12 rfl rfl rfl
theorem x1010_13_0 {L S : List Value} {h : HP} : pX 1010 13 L (.int 0 :: S) h = pX 1010 40 L S h := pX_tabIn (off := 27) d1010_13 (by decide) (by decide) (by decide) (by decide)
theorem x1010_13_1 {L S : List Value} {h : HP} : pX 1010 13 L (.int 1 :: S) h = pX 1010 51 L S h := pX_tabIn (off := 38) d1010_13 (by decide) (by decide) (by decide) (by decide)
theorem x1010_13_2 {L S : List Value} {h : HP} : pX 1010 13 L (.int 2 :: S) h = pX 1010 63 L S h := pX_tabIn (off := 50) d1010_13 (by decide) (by decide) (by decide) (by decide)
theorem x1010_13_d {L S : List Value} {h : HP} {x : Int32} (hx : x.toInt < 0 ∨ 2 < x.toInt) : pX 1010 13 L (.int x :: S) h = pX 1010 81 L S h := pX_tabOut d1010_13 hx (by decide)
theorem x1010_40 {S : List Value} {h : HP} {l1 l2 l3 : Value} {a0 : Nat} : pX 1010 40 [.ref a0, l1, l2, l3] S h = pX 1010 41 [.ref a0, l1, l2, l3] (.ref a0 :: S) h := pX_stp d1010_40 rfl rfl rfl
theorem x1010_41 {L S : List Value} {h : HP} {a : Nat} (hk : hp_k h a = 11) : pX 1010 41 L (.ref a :: S) h = pX 1010 44 L (.ref (hp_a h a 2) :: S) h := pX_get d1010_41 rfl rfl hk
theorem x1010_44 {S : List Value} {h : HP} {l0 l2 l3 : Value} {x0 : Int32} : pX 1010 44 [l0, .int x0, l2, l3] S h = pX 1010 45 [l0, .int x0, l2, l3] (.int x0 :: S) h := pX_stp d1010_44 rfl rfl rfl
theorem x1010_45 {L S : List Value} {h : HP} {a : Nat} {j : Int32} (hk : 200 ≤ hp_k h a) (hj : inb j (hp_l h a) = true) : pX 1010 45 L (.int j :: .ref a :: S) h = pX 1010 46 L (.ref (hp_a h a (ix j)) :: S) h := pX_ald d1010_45 hk hj
theorem x1010_46 {L : List Value} {h : HP} {a0 : Nat} (hk : hp_k h a0 = 9) : pX 1010 46 L [.ref a0] h = (pX 801 0 [.ref a0] [] h).bind (fun q => pX 1010 49 L (q.1.toList ++ []) q.2) := pX_inv (a := a0) (t := 9) 801 [.ref a0] [] d1010_46 rfl rfl rfl hk
theorem x1010_49 {L S : List Value} {h : HP} : pX 1010 49 L S h = pX 1010 50 L (.int 1 :: S) h := pX_iconst d1010_49 (by decide)
theorem x1010_50 {L : List Value} {h : HP} {x : Int32} : pX 1010 50 L [.int x] h = some (some (.int x), h) := pX_ret d1010_50 rfl
theorem x1010_51 {S : List Value} {h : HP} {l1 l2 l3 : Value} {a0 : Nat} : pX 1010 51 [.ref a0, l1, l2, l3] S h = pX 1010 52 [.ref a0, l1, l2, l3] (.ref a0 :: S) h := pX_stp d1010_51 rfl rfl rfl
theorem x1010_52 {L S : List Value} {h : HP} {a : Nat} (hk : hp_k h a = 11) : pX 1010 52 L (.ref a :: S) h = pX 1010 55 L (.ref (hp_a h a 2) :: S) h := pX_get d1010_52 rfl rfl hk
theorem x1010_55 {S : List Value} {h : HP} {l0 l2 l3 : Value} {x0 : Int32} : pX 1010 55 [l0, .int x0, l2, l3] S h = pX 1010 56 [l0, .int x0, l2, l3] (.int x0 :: S) h := pX_stp d1010_55 rfl rfl rfl
theorem x1010_56 {L S : List Value} {h : HP} {a : Nat} {j : Int32} (hk : 200 ≤ hp_k h a) (hj : inb j (hp_l h a) = true) : pX 1010 56 L (.int j :: .ref a :: S) h = pX 1010 57 L (.ref (hp_a h a (ix j)) :: S) h := pX_ald d1010_56 hk hj
theorem x1010_57 {S : List Value} {h : HP} {l0 l1 l2 : Value} {x0 : Int32} : pX 1010 57 [l0, l1, l2, .int x0] S h = pX 1010 58 [l0, l1, l2, .int x0] (.int x0 :: S) h := pX_stp d1010_57 rfl rfl rfl
theorem x1010_58 {L : List Value} {h : HP} {x0 : Int32} {a0 : Nat} (hk : hp_k h a0 = 9) : pX 1010 58 L [.int x0, .ref a0] h = (pX 802 0 [.ref a0, .int x0] [] h).bind (fun q => pX 1010 61 L (q.1.toList ++ []) q.2) := pX_inv (a := a0) (t := 9) 802 [.ref a0, .int x0] [] d1010_58 rfl rfl rfl hk
theorem x1010_61 {L S : List Value} {h : HP} : pX 1010 61 L S h = pX 1010 62 L (.int 1 :: S) h := pX_iconst d1010_61 (by decide)
theorem x1010_62 {L : List Value} {h : HP} {x : Int32} : pX 1010 62 L [.int x] h = some (some (.int x), h) := pX_ret d1010_62 rfl
theorem x1010_63 {S : List Value} {h : HP} {l1 l2 l3 : Value} {a0 : Nat} : pX 1010 63 [.ref a0, l1, l2, l3] S h = pX 1010 64 [.ref a0, l1, l2, l3] (.ref a0 :: S) h := pX_stp d1010_63 rfl rfl rfl
theorem x1010_64 {L S : List Value} {h : HP} {a : Nat} (hk : hp_k h a = 11) : pX 1010 64 L (.ref a :: S) h = pX 1010 67 L (.ref (hp_a h a 2) :: S) h := pX_get d1010_64 rfl rfl hk
theorem x1010_67 {S : List Value} {h : HP} {l0 l2 l3 : Value} {x0 : Int32} : pX 1010 67 [l0, .int x0, l2, l3] S h = pX 1010 68 [l0, .int x0, l2, l3] (.int x0 :: S) h := pX_stp d1010_67 rfl rfl rfl
theorem x1010_68 {L S : List Value} {h : HP} {a : Nat} {j : Int32} (hk : 200 ≤ hp_k h a) (hj : inb j (hp_l h a) = true) : pX 1010 68 L (.int j :: .ref a :: S) h = pX 1010 69 L (.ref (hp_a h a (ix j)) :: S) h := pX_ald d1010_68 hk hj
theorem x1010_69 {S : List Value} {h : HP} {l1 l2 l3 : Value} {a0 : Nat} : pX 1010 69 [.ref a0, l1, l2, l3] S h = pX 1010 70 [.ref a0, l1, l2, l3] (.ref a0 :: S) h := pX_stp d1010_69 rfl rfl rfl
theorem x1010_70 {L S : List Value} {h : HP} {a : Nat} (hk : hp_k h a = 11) : pX 1010 70 L (.ref a :: S) h = pX 1010 73 L (.ref (hp_a h a 0) :: S) h := pX_get d1010_70 rfl rfl hk
theorem x1010_73 {L S : List Value} {h : HP} {a : Nat} (hk : hp_k h a = 4) : pX 1010 73 L (.ref a :: S) h = pX 1010 76 L (.ref (hp_a h a 8) :: S) h := pX_get d1010_73 rfl rfl hk
theorem x1010_76 {L : List Value} {h : HP} {a0 : Nat} {a1 : Nat} (hk : hp_k h a1 = 9) : pX 1010 76 L [.ref a0, .ref a1] h = (pX 805 0 [.ref a1, .ref a0] [] h).bind (fun q => pX 1010 79 L (q.1.toList ++ []) q.2) := pX_inv (a := a1) (t := 9) 805 [.ref a1, .ref a0] [] d1010_76 rfl rfl rfl hk
theorem x1010_79 {L S : List Value} {h : HP} : pX 1010 79 L S h = pX 1010 80 L (.int 1 :: S) h := pX_iconst d1010_79 (by decide)
theorem x1010_80 {L : List Value} {h : HP} {x : Int32} : pX 1010 80 L [.int x] h = some (some (.int x), h) := pX_ret d1010_80 rfl
theorem x1010_81 {L S : List Value} {h : HP} : pX 1010 81 L S h = pX 1010 83 L (.int (-2) :: S) h := pX_bipush d1010_81 (by decide)
theorem x1010_83 {L : List Value} {h : HP} {x : Int32} : pX 1010 83 L [.int x] h = some (some (.int x), h) := pX_ret d1010_83 rfl
theorem d1011_0 : decode (mb 1011) 0 = .ok (.aload_n 0, 1) := by decide +kernel
theorem d1011_1 : decode (mb 1011) 1 = .ok (.iload_n 1, 1) := by decide +kernel
theorem d1011_2 : decode (mb 1011) 2 = .ok (.iload_n 2, 1) := by decide +kernel
theorem d1011_3 : decode (mb 1011) 3 = .ok (.invokevirtual 110, 3) := by decide +kernel
theorem d1011_6 : decode (mb 1011) 6 = .ok (.istore_n 3, 1) := by decide +kernel
theorem d1011_7 : decode (mb 1011) 7 = .ok (.iload_n 3, 1) := by decide +kernel
theorem d1011_8 : decode (mb 1011) 8 = .ok (.ifCond .eq 5, 3) := by decide +kernel
theorem d1011_11 : decode (mb 1011) 11 = .ok (.iload_n 3, 1) := by decide +kernel
theorem d1011_12 : decode (mb 1011) 12 = .ok (.ireturn, 1) := by decide +kernel
theorem d1011_13 : decode (mb 1011) 13 = .ok (.aload_n 0, 1) := by decide +kernel
theorem d1011_14 : decode (mb 1011) 14 = .ok (.getfield 10, 3) := by decide +kernel
theorem d1011_17 : decode (mb 1011) 17 = .ok (.iload_n 1, 1) := by decide +kernel
theorem d1011_18 : decode (mb 1011) 18 = .ok (.iload_n 2, 1) := by decide +kernel
theorem d1011_19 : decode (mb 1011) 19 = .ok (.aload_n 0, 1) := by decide +kernel
theorem d1011_20 : decode (mb 1011) 20 = .ok (.getfield 25, 3) := by decide +kernel
theorem d1011_23 : decode (mb 1011) 23 = .ok (.invokevirtual 114, 3) := by decide +kernel
theorem d1011_26 : decode (mb 1011) 26 = .ok (.istore 4, 2) := by decide +kernel
theorem d1011_28 : decode (mb 1011) 28 = .ok (.iload 4, 2) := by decide +kernel
theorem d1011_30 : decode (mb 1011) 30 = .ok (.iconst 1, 1) := by decide +kernel
theorem d1011_31 : decode (mb 1011) 31 = .ok (.if_icmp .ne 15, 3) := by decide +kernel
theorem d1011_34 : decode (mb 1011) 34 = .ok (.aload_n 0, 1) := by decide +kernel
theorem d1011_35 : decode (mb 1011) 35 = .ok (.getfield 10, 3) := by decide +kernel
theorem d1011_38 : decode (mb 1011) 38 = .ok (.ldc 118, 2) := by decide +kernel
theorem d1011_40 : decode (mb 1011) 40 = .ok (.invokevirtual 119, 3) := by decide +kernel
theorem d1011_43 : decode (mb 1011) 43 = .ok (.goto 5, 3) := by decide +kernel
theorem d1011_46 : decode (mb 1011) 46 = .ok (.iload 4, 2) := by decide +kernel
theorem d1011_48 : decode (mb 1011) 48 = .ok (.ireturn, 1) := by decide +kernel
theorem x1011_0 {S : List Value} {h : HP} {l1 l2 l3 l4 : Value} {a0 : Nat} : pX 1011 0 [.ref a0, l1, l2, l3, l4] S h = pX 1011 1 [.ref a0, l1, l2, l3, l4] (.ref a0 :: S) h := pX_stp d1011_0 rfl rfl rfl
theorem x1011_1 {S : List Value} {h : HP} {l0 l2 l3 l4 : Value} {x0 : Int32} : pX 1011 1 [l0, .int x0, l2, l3, l4] S h = pX 1011 2 [l0, .int x0, l2, l3, l4] (.int x0 :: S) h := pX_stp d1011_1 rfl rfl rfl
theorem x1011_2 {S : List Value} {h : HP} {l0 l1 l3 l4 : Value} {x0 : Int32} : pX 1011 2 [l0, l1, .int x0, l3, l4] S h = pX 1011 3 [l0, l1, .int x0, l3, l4] (.int x0 :: S) h := pX_stp d1011_2 rfl rfl rfl
theorem x1011_3 {L : List Value} {h : HP} {x0 : Int32} {x1 : Int32} {a0 : Nat} (hk : hp_k h a0 = 11) : pX 1011 3 L [.int x0, .int x1, .ref a0] h = (pX 1024 0 [.ref a0, .int x1, .int x0] [] h).bind (fun q => pX 1011 6 L (q.1.toList ++ []) q.2) := pX_inv (a := a0) (t := 11) 1024 [.ref a0, .int x1, .int x0] [] d1011_3 rfl rfl rfl hk
theorem x1011_6 {S : List Value} {h : HP} {l0 l1 l2 l3 l4 : Value} {x0 : Int32} : pX 1011 6 [l0, l1, l2, l3, l4] (.int x0 :: S) h = pX 1011 7 [l0, l1, l2, .int x0, l4] S h := pX_stp d1011_6 rfl rfl rfl
theorem x1011_7 {S : List Value} {h : HP} {l0 l1 l2 l4 : Value} {x0 : Int32} : pX 1011 7 [l0, l1, l2, .int x0, l4] S h = pX 1011 8 [l0, l1, l2, .int x0, l4] (.int x0 :: S) h := pX_stp d1011_7 rfl rfl rfl
theorem x1011_8 {L S : List Value} {h : HP} {x : Int32} : pX 1011 8 L (.int x :: S) h = if x = 0 then pX 1011 13 L S h else pX 1011 11 L S h := pX_if_eq d1011_8 (by decide)
theorem x1011_11 {S : List Value} {h : HP} {l0 l1 l2 l4 : Value} {x0 : Int32} : pX 1011 11 [l0, l1, l2, .int x0, l4] S h = pX 1011 12 [l0, l1, l2, .int x0, l4] (.int x0 :: S) h := pX_stp d1011_11 rfl rfl rfl
theorem x1011_12 {L : List Value} {h : HP} {x : Int32} : pX 1011 12 L [.int x] h = some (some (.int x), h) := pX_ret d1011_12 rfl
theorem x1011_13 {S : List Value} {h : HP} {l1 l2 l3 l4 : Value} {a0 : Nat} : pX 1011 13 [.ref a0, l1, l2, l3, l4] S h = pX 1011 14 [.ref a0, l1, l2, l3, l4] (.ref a0 :: S) h := pX_stp d1011_13 rfl rfl rfl
theorem x1011_14 {L S : List Value} {h : HP} {a : Nat} (hk : hp_k h a = 11) : pX 1011 14 L (.ref a :: S) h = pX 1011 17 L (.ref (hp_a h a 0) :: S) h := pX_get d1011_14 rfl rfl hk
theorem x1011_17 {S : List Value} {h : HP} {l0 l2 l3 l4 : Value} {x0 : Int32} : pX 1011 17 [l0, .int x0, l2, l3, l4] S h = pX 1011 18 [l0, .int x0, l2, l3, l4] (.int x0 :: S) h := pX_stp d1011_17 rfl rfl rfl
theorem x1011_18 {S : List Value} {h : HP} {l0 l1 l3 l4 : Value} {x0 : Int32} : pX 1011 18 [l0, l1, .int x0, l3, l4] S h = pX 1011 19 [l0, l1, .int x0, l3, l4] (.int x0 :: S) h := pX_stp d1011_18 rfl rfl rfl
theorem x1011_19 {S : List Value} {h : HP} {l1 l2 l3 l4 : Value} {a0 : Nat} : pX 1011 19 [.ref a0, l1, l2, l3, l4] S h = pX 1011 20 [.ref a0, l1, l2, l3, l4] (.ref a0 :: S) h := pX_stp d1011_19 rfl rfl rfl
theorem x1011_20 {L S : List Value} {h : HP} {a : Nat} (hk : hp_k h a = 11) : pX 1011 20 L (.ref a :: S) h = pX 1011 23 L (.ref (hp_a h a 2) :: S) h := pX_get d1011_20 rfl rfl hk
theorem x1011_23 {L : List Value} {h : HP} {a0 : Nat} {x0 : Int32} {x1 : Int32} {a1 : Nat} (hk : hp_k h a1 = 4) : pX 1011 23 L [.ref a0, .int x0, .int x1, .ref a1] h = (pX 305 0 [.ref a1, .int x1, .int x0, .ref a0] [] h).bind (fun q => pX 1011 26 L (q.1.toList ++ []) q.2) := pX_inv (a := a1) (t := 4) 305 [.ref a1, .int x1, .int x0, .ref a0] [] d1011_23 rfl rfl rfl hk
theorem x1011_26 {S : List Value} {h : HP} {l0 l1 l2 l3 l4 : Value} {x0 : Int32} : pX 1011 26 [l0, l1, l2, l3, l4] (.int x0 :: S) h = pX 1011 28 [l0, l1, l2, l3, .int x0] S h := pX_stp d1011_26 rfl rfl rfl
theorem x1011_28 {S : List Value} {h : HP} {l0 l1 l2 l3 : Value} {x0 : Int32} : pX 1011 28 [l0, l1, l2, l3, .int x0] S h = pX 1011 30 [l0, l1, l2, l3, .int x0] (.int x0 :: S) h := pX_stp d1011_28 rfl rfl rfl
theorem x1011_30 {L S : List Value} {h : HP} : pX 1011 30 L S h = pX 1011 31 L (.int 1 :: S) h := pX_iconst d1011_30 (by decide)
theorem x1011_31 {L S : List Value} {h : HP} {x y : Int32} : pX 1011 31 L (.int y :: .int x :: S) h = if x = y then pX 1011 34 L S h else pX 1011 46 L S h := pX_icmp_ne d1011_31 (by decide)
theorem x1011_34 {S : List Value} {h : HP} {l1 l2 l3 l4 : Value} {a0 : Nat} : pX 1011 34 [.ref a0, l1, l2, l3, l4] S h = pX 1011 35 [.ref a0, l1, l2, l3, l4] (.ref a0 :: S) h := pX_stp d1011_34 rfl rfl rfl
theorem x1011_35 {L S : List Value} {h : HP} {a : Nat} (hk : hp_k h a = 11) : pX 1011 35 L (.ref a :: S) h = pX 1011 38 L (.ref (hp_a h a 0) :: S) h := pX_get d1011_35 rfl rfl hk
theorem x1011_38 {L S : List Value} {h : HP} : pX 1011 38 L S h = pX 1011 40 L (.int 1000000 :: S) h := pX_ldc d1011_38 rfl
theorem x1011_40 {L : List Value} {h : HP} {x0 : Int32} {a0 : Nat} (hk : hp_k h a0 = 4) : pX 1011 40 L [.int x0, .ref a0] h = (pX 306 0 [.ref a0, .int x0, .retAddr 0, .retAddr 0] [] h).bind (fun q => pX 1011 43 L (q.1.toList ++ []) q.2) := pX_inv (a := a0) (t := 4) 306 [.ref a0, .int x0] [] d1011_40 rfl rfl rfl hk
theorem x1011_43 {L S : List Value} {h : HP} : pX 1011 43 L S h = pX 1011 48 L S h := pX_goto d1011_43 (by decide)
theorem x1011_46 {S : List Value} {h : HP} {l0 l1 l2 l3 : Value} {x0 : Int32} : pX 1011 46 [l0, l1, l2, l3, .int x0] S h = pX 1011 48 [l0, l1, l2, l3, .int x0] (.int x0 :: S) h := pX_stp d1011_46 rfl rfl rfl
theorem x1011_48 {L : List Value} {h : HP} {x : Int32} : pX 1011 48 L [.int x] h = some (some (.int x), h) := pX_ret d1011_48 rfl
theorem d1012_0 : decode (mb 1012) 0 = .ok (.aload_n 0, 1) := by decide +kernel
theorem d1012_1 : decode (mb 1012) 1 = .ok (.getfield 10, 3) := by decide +kernel
theorem d1012_4 : decode (mb 1012) 4 = .ok (.getfield 102, 3) := by decide +kernel
theorem d1012_7 : decode (mb 1012) 7 = .ok (.astore_n 2, 1) := by decide +kernel
theorem d1012_8 : decode (mb 1012) 8 = .ok (.iload_n 1, 1) := by decide +kernel
theorem d1012_9 : decode (mb 1012) 9 = .ok (.tableswitch 56 0 2 #[27, 32, 37], 27) := by decide +kernel
theorem d1012_36 : decode (mb 1012) 36 = .ok (.aload_n 2, 1) := by decide +kernel
theorem d1012_37 : decode (mb 1012) 37 = .ok (.getfield 123, 3) := by decide +kernel
theorem d1012_40 : decode (mb 1012) 40 = .ok (.ireturn, 1) := by decide +kernel
theorem d1012_41 : decode (mb 1012) 41 = .ok (.aload_n 2, 1) := by decide +kernel
theorem d1012_42 : decode (mb 1012) 42 = .ok (.invokevirtual 126, 3) := by decide +kernel
theorem d1012_45 : decode (mb 1012) 45 = .ok (.ireturn, 1) := by decide +kernel
theorem d1012_46 : decode (mb 1012) 46 = .ok (.aload_n 2, 1) := by decide +kernel
theorem d1012_47 : decode (mb 1012) 47 = .ok (.getfield 130, 3) := by decide +kernel
theorem d1012_50 : decode (mb 1012) 50 = .ok (.ifnonnull 7, 3) := by decide +kernel
theorem d1012_53 : decode (mb 1012) 53 = .ok (.iconst 0, 1) := by decide +kernel
theorem d1012_54 : decode (mb 1012) 54 = .ok (.goto 10, 3) := by decide +kernel
theorem d1012_57 : decode (mb 1012) 57 = .ok (.aload_n 2, 1) := by decide +kernel
theorem d1012_58 : decode (mb 1012) 58 = .ok (.getfield 130, 3) := by decide +kernel
theorem d1012_61 : decode (mb 1012) 61 = .ok (.invokevirtual 134, 3) := by decide +kernel
theorem d1012_64 : decode (mb 1012) 64 = .ok (.ireturn, 1) := by decide +kernel
theorem d1012_65 : decode (mb 1012) 65 = .ok (.bipush (-2), 2) := by decide +kernel
theorem d1012_67 : decode (mb 1012) 67 = .ok (.ireturn, 1) := by decide +kernel
theorem x1012_0 {S : List Value} {h : HP} {l1 l2 : Value} {a0 : Nat} : pX 1012 0 [.ref a0, l1, l2] S h = pX 1012 1 [.ref a0, l1, l2] (.ref a0 :: S) h := pX_stp d1012_0 rfl rfl rfl
theorem x1012_1 {L S : List Value} {h : HP} {a : Nat} (hk : hp_k h a = 11) : pX 1012 1 L (.ref a :: S) h = pX 1012 4 L (.ref (hp_a h a 0) :: S) h := pX_get d1012_1 rfl rfl hk
theorem x1012_4 {L S : List Value} {h : HP} {a : Nat} (hk : hp_k h a = 4) : pX 1012 4 L (.ref a :: S) h = pX 1012 7 L (.ref (hp_a h a 8) :: S) h := pX_get d1012_4 rfl rfl hk
theorem x1012_7 {S : List Value} {h : HP} {l0 l1 l2 : Value} {a0 : Nat} : pX 1012 7 [l0, l1, l2] (.ref a0 :: S) h = pX 1012 8 [l0, l1, .ref a0] S h := pX_stp d1012_7 rfl rfl rfl
theorem x1012_8 {S : List Value} {h : HP} {l0 l2 : Value} {x0 : Int32} : pX 1012 8 [l0, .int x0, l2] S h = pX 1012 9 [l0, .int x0, l2] (.int x0 :: S) h := pX_stp d1012_8 rfl rfl rfl
theorem x1012_9_0 {L S : List Value} {h : HP} : pX 1012 9 L (.int 0 :: S) h = pX 1012 36 L S h := pX_tabIn (off := 27) d1012_9 (by decide) (by decide) (by decide) (by decide)
theorem x1012_9_1 {L S : List Value} {h : HP} : pX 1012 9 L (.int 1 :: S) h = pX 1012 41 L S h := pX_tabIn (off := 32) d1012_9 (by decide) (by decide) (by decide) (by decide)
theorem x1012_9_2 {L S : List Value} {h : HP} : pX 1012 9 L (.int 2 :: S) h = pX 1012 46 L S h := pX_tabIn (off := 37) d1012_9 (by decide) (by decide) (by decide) (by decide)
theorem x1012_9_d {L S : List Value} {h : HP} {x : Int32} (hx : x.toInt < 0 ∨ 2 < x.toInt) : pX 1012 9 L (.int x :: S) h = pX 1012 65 L S h := pX_tabOut d1012_9 hx (by decide)
theorem x1012_36 {S : List Value} {h : HP} {l0 l1 : Value} {a0 : Nat} : pX 1012 36 [l0, l1, .ref a0] S h = pX 1012 37 [l0, l1, .ref a0] (.ref a0 :: S) h := pX_stp d1012_36 rfl rfl rfl
theorem x1012_37 {L S : List Value} {h : HP} {a : Nat} (hk : hp_k h a = 9) : pX 1012 37 L (.ref a :: S) h = pX 1012 40 L (.int (hp_i h a 0) :: S) h := pX_get d1012_37 rfl rfl hk
theorem x1012_40 {L : List Value} {h : HP} {x : Int32} : pX 1012 40 L [.int x] h = some (some (.int x), h) := pX_ret d1012_40 rfl
theorem x1012_41 {S : List Value} {h : HP} {l0 l1 : Value} {a0 : Nat} : pX 1012 41 [l0, l1, .ref a0] S h = pX 1012 42 [l0, l1, .ref a0] (.ref a0 :: S) h := pX_stp d1012_41 rfl rfl rfl
theorem x1012_42 {L : List Value} {h : HP} {a0 : Nat} (hk : hp_k h a0 = 9) : pX 1012 42 L [.ref a0] h = (pX 809 0 [.ref a0] [] h).bind (fun q => pX 1012 45 L (q.1.toList ++ []) q.2) := pX_inv (a := a0) (t := 9) 809 [.ref a0] [] d1012_42 rfl rfl rfl hk
theorem x1012_45 {L : List Value} {h : HP} {x : Int32} : pX 1012 45 L [.int x] h = some (some (.int x), h) := pX_ret d1012_45 rfl
theorem x1012_46 {S : List Value} {h : HP} {l0 l1 : Value} {a0 : Nat} : pX 1012 46 [l0, l1, .ref a0] S h = pX 1012 47 [l0, l1, .ref a0] (.ref a0 :: S) h := pX_stp d1012_46 rfl rfl rfl
theorem x1012_47 {L S : List Value} {h : HP} {a : Nat} (hk : hp_k h a = 9) : pX 1012 47 L (.ref a :: S) h = pX 1012 50 L (.ref (hp_a h a 2) :: S) h := pX_get d1012_47 rfl rfl hk
theorem x1012_50 {L S : List Value} {h : HP} {a : Nat} : pX 1012 50 L (.ref a :: S) h = if a = 0 then pX 1012 53 L S h else pX 1012 57 L S h := pX_ifnonnull d1012_50 (by decide)
theorem x1012_53 {L S : List Value} {h : HP} : pX 1012 53 L S h = pX 1012 54 L (.int 0 :: S) h := pX_iconst d1012_53 (by decide)
theorem x1012_54 {L S : List Value} {h : HP} : pX 1012 54 L S h = pX 1012 64 L S h := pX_goto d1012_54 (by decide)
theorem x1012_57 {S : List Value} {h : HP} {l0 l1 : Value} {a0 : Nat} : pX 1012 57 [l0, l1, .ref a0] S h = pX 1012 58 [l0, l1, .ref a0] (.ref a0 :: S) h := pX_stp d1012_57 rfl rfl rfl
theorem x1012_58 {L S : List Value} {h : HP} {a : Nat} (hk : hp_k h a = 9) : pX 1012 58 L (.ref a :: S) h = pX 1012 61 L (.ref (hp_a h a 2) :: S) h := pX_get d1012_58 rfl rfl hk
theorem x1012_61 {L : List Value} {h : HP} {a0 : Nat} (hk : hp_k h a0 = 1) : pX 1012 61 L [.ref a0] h = (pX 2 0 [.ref a0, .retAddr 0, .retAddr 0] [] h).bind (fun q => pX 1012 64 L (q.1.toList ++ []) q.2) := pX_inv (a := a0) (t := 1) 2 [.ref a0] [] d1012_61 rfl rfl rfl hk
theorem x1012_64 {L : List Value} {h : HP} {x : Int32} : pX 1012 64 L [.int x] h = some (some (.int x), h) := pX_ret d1012_64 rfl
theorem x1012_65 {L S : List Value} {h : HP} : pX 1012 65 L S h = pX 1012 67 L (.int (-2) :: S) h := pX_bipush d1012_65 (by decide)
theorem x1012_67 {L : List Value} {h : HP} {x : Int32} : pX 1012 67 L [.int x] h = some (some (.int x), h) := pX_ret d1012_67 rfl
theorem d1013_0 : decode (mb 1013) 0 = .ok (.aload_n 0, 1) := by decide +kernel
theorem d1013_1 : decode (mb 1013) 1 = .ok (.getfield 10, 3) := by decide +kernel
theorem d1013_4 : decode (mb 1013) 4 = .ok (.getfield 102, 3) := by decide +kernel
theorem d1013_7 : decode (mb 1013) 7 = .ok (.astore_n 2, 1) := by decide +kernel
theorem d1013_8 : decode (mb 1013) 8 = .ok (.aload_n 2, 1) := by decide +kernel
theorem d1013_9 : decode (mb 1013) 9 = .ok (.getfield 130, 3) := by decide +kernel
theorem d1013_12 : decode (mb 1013) 12 = .ok (.astore_n 3, 1) := by decide +kernel
theorem d1013_13 : decode (mb 1013) 13 = .ok (.aload_n 3, 1) := by decide +kernel
theorem d1013_14 : decode (mb 1013) 14 = .ok (.ifnull 16, 3) := by decide +kernel
theorem d1013_17 : decode (mb 1013) 17 = .ok (.aload_n 2, 1) := by decide +kernel
theorem d1013_18 : decode (mb 1013) 18 = .ok (.aload_n 3, 1) := by decide +kernel
theorem d1013_19 : decode (mb 1013) 19 = .ok (.getfield 139, 3) := by decide +kernel
theorem d1013_22 : decode (mb 1013) 22 = .ok (.invokevirtual 106, 3) := by decide +kernel
theorem d1013_25 : decode (mb 1013) 25 = .ok (.aload_n 2, 1) := by decide +kernel
theorem d1013_26 : decode (mb 1013) 26 = .ok (.getfield 123, 3) := by decide +kernel
theorem d1013_29 : decode (mb 1013) 29 = .ok (.ireturn, 1) := by decide +kernel
theorem d1013_30 : decode (mb 1013) 30 = .ok (.aload_n 2, 1) := by decide +kernel
theorem d1013_31 : decode (mb 1013) 31 = .ok (.getfield 142, 3) := by decide +kernel
theorem d1013_34 : decode (mb 1013) 34 = .ok (.astore 4, 2) := by decide +kernel
theorem d1013_36 : decode (mb 1013) 36 = .ok (.aload 4, 2) := by decide +kernel
theorem d1013_38 : decode (mb 1013) 38 = .ok (.ifnull 12, 3) := by decide +kernel
theorem d1013_41 : decode (mb 1013) 41 = .ok (.aload 4, 2) := by decide +kernel
theorem d1013_43 : decode (mb 1013) 43 = .ok (.getfield 146, 3) := by decide +kernel
theorem d1013_46 : decode (mb 1013) 46 = .ok (.iconst 4, 1) := by decide +kernel
theorem d1013_47 : decode (mb 1013) 47 = .ok (.if_icmp .eq 6, 3) := by decide +kernel
theorem d1013_50 : decode (mb 1013) 50 = .ok (.bipush (-3), 2) := by decide +kernel
theorem d1013_52 : decode (mb 1013) 52 = .ok (.ireturn, 1) := by decide +kernel
theorem d1013_53 : decode (mb 1013) 53 = .ok (.aload 4, 2) := by decide +kernel
theorem d1013_55 : decode (mb 1013) 55 = .ok (.iload_n 1, 1) := by decide +kernel
theorem d1013_56 : decode (mb 1013) 56 = .ok (.invokevirtual 151, 3) := by decide +kernel
theorem d1013_59 : decode (mb 1013) 59 = .ok (.ifCond .eq 6, 3) := by decide +kernel
theorem d1013_62 : decode (mb 1013) 62 = .ok (.bipush (-2), 2) := by decide +kernel
theorem d1013_64 : decode (mb 1013) 64 = .ok (.ireturn, 1) := by decide +kernel
theorem d1013_65 : decode (mb 1013) 65 = .ok (.aload 4, 2) := by decide +kernel
theorem d1013_67 : decode (mb 1013) 67 = .ok (.aload_n 2, 1) := by decide +kernel
theorem d1013_68 : decode (mb 1013) 68 = .ok (.iload_n 1, 1) := by decide +kernel
theorem d1013_69 : decode (mb 1013) 69 = .ok (.invokevirtual 154, 3) := by decide +kernel
theorem d1013_72 : decode (mb 1013) 72 = .ok (.aload_n 2, 1) := by decide +kernel
theorem d1013_73 : decode (mb 1013) 73 = .ok (.getfield 123, 3) := by decide +kernel
theorem d1013_76 : decode (mb 1013) 76 = .ok (.ireturn, 1) := by decide +kernel
theorem x1013_0 {S : List Value} {h : HP} {l1 l2 l3 l4 : Value} {a0 : Nat} : pX 1013 0 [.ref a0, l1, l2, l3, l4] S h = pX 1013 1 [.ref a0, l1, l2, l3, l4] (.ref a0 :: S) h := pX_stp d1013_0 rfl rfl rfl
theorem x1013_1 {L S : List Value} {h : HP} {a : Nat} (hk : hp_k h a = 11) : pX 1013 1 L (.ref a :: S) h = pX 1013 4 L (.ref (hp_a h a 0) :: S) h := pX_get d1013_1 rfl rfl hk
theorem x1013_4 {L S : List Value} {h : HP} {a : Nat} (hk : hp_k h a = 4) : pX 1013 4 L (.ref a :: S) h = pX 1013 7 L (.ref (hp_a h a 8) :: S) h := pX_get d1013_4 rfl rfl hk
theorem x1013_7 {S : List Value} {h : HP} {l0 l1 l2 l3 l4 : Value} {a0 : Nat} : pX 1013 7 [l0, l1, l2, l3, l4] (.ref a0 :: S) h = pX 1013 8 [l0, l1, .ref a0, l3, l4] S h := pX_stp d1013_7 rfl rfl rfl
theorem x1013_8 {S : List Value} {h : HP} {l0 l1 l3 l4 : Value} {a0 : Nat} : pX 1013 8 [l0, l1, .ref a0, l3, l4] S h = pX 1013 9 [l0, l1, .ref a0, l3, l4] (.ref a0 :: S) h := pX_stp d1013_8 rfl rfl rfl
theorem x1013_9 {L S : List Value} {h : HP} {a : Nat} (hk : hp_k h a = 9) : pX 1013 9 L (.ref a :: S) h = pX 1013 12 L (.ref (hp_a h a 2) :: S) h := pX_get d1013_9 rfl rfl hk
theorem x1013_12 {S : List Value} {h : HP} {l0 l1 l2 l3 l4 : Value} {a0 : Nat} : pX 1013 12 [l0, l1, l2, l3, l4] (.ref a0 :: S) h = pX 1013 13 [l0, l1, l2, .ref a0, l4] S h := pX_stp d1013_12 rfl rfl rfl
theorem x1013_13 {S : List Value} {h : HP} {l0 l1 l2 l4 : Value} {a0 : Nat} : pX 1013 13 [l0, l1, l2, .ref a0, l4] S h = pX 1013 14 [l0, l1, l2, .ref a0, l4] (.ref a0 :: S) h := pX_stp d1013_13 rfl rfl rfl
theorem x1013_14 {L S : List Value} {h : HP} {a : Nat} : pX 1013 14 L (.ref a :: S) h = if a = 0 then pX 1013 30 L S h else pX 1013 17 L S h := pX_ifnull d1013_14 (by decide)
theorem x1013_17 {S : List Value} {h : HP} {l0 l1 l3 l4 : Value} {a0 : Nat} : pX 1013 17 [l0, l1, .ref a0, l3, l4] S h = pX 1013 18 [l0, l1, .ref a0, l3, l4] (.ref a0 :: S) h := pX_stp d1013_17 rfl rfl rfl
theorem x1013_18 {S : List Value} {h : HP} {l0 l1 l2 l4 : Value} {a0 : Nat} : pX 1013 18 [l0, l1, l2, .ref a0, l4] S h = pX 1013 19 [l0, l1, l2, .ref a0, l4] (.ref a0 :: S) h := pX_stp d1013_18 rfl rfl rfl
theorem x1013_19 {L S : List Value} {h : HP} {a : Nat} (hk : hp_k h a = 1) : pX 1013 19 L (.ref a :: S) h = pX 1013 22 L (.ref (hp_a h a 1) :: S) h := pX_get d1013_19 rfl rfl hk
theorem x1013_22 {L : List Value} {h : HP} {a0 : Nat} {a1 : Nat} (hk : hp_k h a1 = 9) : pX 1013 22 L [.ref a0, .ref a1] h = (pX 805 0 [.ref a1, .ref a0] [] h).bind (fun q => pX 1013 25 L (q.1.toList ++ []) q.2) := pX_inv (a := a1) (t := 9) 805 [.ref a1, .ref a0] [] d1013_22 rfl rfl rfl hk
theorem x1013_25 {S : List Value} {h : HP} {l0 l1 l3 l4 : Value} {a0 : Nat} : pX 1013 25 [l0, l1, .ref a0, l3, l4] S h = pX 1013 26 [l0, l1, .ref a0, l3, l4] (.ref a0 :: S) h := pX_stp d1013_25 rfl rfl rfl
theorem x1013_26 {L S : List Value} {h : HP} {a : Nat} (hk : hp_k h a = 9) : pX 1013 26 L (.ref a :: S) h = pX 1013 29 L (.int (hp_i h a 0) :: S) h := pX_get d1013_26 rfl rfl hk
theorem x1013_29 {L : List Value} {h : HP} {x : Int32} : pX 1013 29 L [.int x] h = some (some (.int x), h) := pX_ret d1013_29 rfl
theorem x1013_30 {S : List Value} {h : HP} {l0 l1 l3 l4 : Value} {a0 : Nat} : pX 1013 30 [l0, l1, .ref a0, l3, l4] S h = pX 1013 31 [l0, l1, .ref a0, l3, l4] (.ref a0 :: S) h := pX_stp d1013_30 rfl rfl rfl
theorem x1013_31 {L S : List Value} {h : HP} {a : Nat} (hk : hp_k h a = 9) : pX 1013 31 L (.ref a :: S) h = pX 1013 34 L (.ref (hp_a h a 3) :: S) h := pX_get d1013_31 rfl rfl hk
theorem x1013_34 {S : List Value} {h : HP} {l0 l1 l2 l3 l4 : Value} {a0 : Nat} : pX 1013 34 [l0, l1, l2, l3, l4] (.ref a0 :: S) h = pX 1013 36 [l0, l1, l2, l3, .ref a0] S h := pX_stp d1013_34 rfl rfl rfl
theorem x1013_36 {S : List Value} {h : HP} {l0 l1 l2 l3 : Value} {a0 : Nat} : pX 1013 36 [l0, l1, l2, l3, .ref a0] S h = pX 1013 38 [l0, l1, l2, l3, .ref a0] (.ref a0 :: S) h := pX_stp d1013_36 rfl rfl rfl
theorem x1013_38 {L S : List Value} {h : HP} {a : Nat} : pX 1013 38 L (.ref a :: S) h = if a = 0 then pX 1013 50 L S h else pX 1013 41 L S h := pX_ifnull d1013_38 (by decide)
theorem x1013_41 {S : List Value} {h : HP} {l0 l1 l2 l3 : Value} {a0 : Nat} : pX 1013 41 [l0, l1, l2, l3, .ref a0] S h = pX 1013 43 [l0, l1, l2, l3, .ref a0] (.ref a0 :: S) h := pX_stp d1013_41 rfl rfl rfl
theorem x1013_43 {L S : List Value} {h : HP} {a : Nat} (hk : hp_k h a = 8) : pX 1013 43 L (.ref a :: S) h = pX 1013 46 L (.int (hp_i h a 0) :: S) h := pX_get d1013_43 rfl rfl hk
theorem x1013_46 {L S : List Value} {h : HP} : pX 1013 46 L S h = pX 1013 47 L (.int 4 :: S) h := pX_iconst d1013_46 (by decide)
theorem x1013_47 {L S : List Value} {h : HP} {x y : Int32} : pX 1013 47 L (.int y :: .int x :: S) h = if x = y then pX 1013 53 L S h else pX 1013 50 L S h := pX_icmp_eq d1013_47 (by decide)
theorem x1013_50 {L S : List Value} {h : HP} : pX 1013 50 L S h = pX 1013 52 L (.int (-3) :: S) h := pX_bipush d1013_50 (by decide)
theorem x1013_52 {L : List Value} {h : HP} {x : Int32} : pX 1013 52 L [.int x] h = some (some (.int x), h) := pX_ret d1013_52 rfl
theorem x1013_53 {S : List Value} {h : HP} {l0 l1 l2 l3 : Value} {a0 : Nat} : pX 1013 53 [l0, l1, l2, l3, .ref a0] S h = pX 1013 55 [l0, l1, l2, l3, .ref a0] (.ref a0 :: S) h := pX_stp d1013_53 rfl rfl rfl
theorem x1013_55 {S : List Value} {h : HP} {l0 l2 l3 l4 : Value} {x0 : Int32} : pX 1013 55 [l0, .int x0, l2, l3, l4] S h = pX 1013 56 [l0, .int x0, l2, l3, l4] (.int x0 :: S) h := pX_stp d1013_55 rfl rfl rfl
theorem x1013_56 {L : List Value} {h : HP} {x0 : Int32} {a0 : Nat} (hk : hp_k h a0 = 8) : pX 1013 56 L [.int x0, .ref a0] h = (pX 701 0 [.ref a0, .int x0] [] h).bind (fun q => pX 1013 59 L (q.1.toList ++ []) q.2) := pX_inv (a := a0) (t := 8) 701 [.ref a0, .int x0] [] d1013_56 rfl rfl rfl hk
theorem x1013_59 {L S : List Value} {h : HP} {x : Int32} : pX 1013 59 L (.int x :: S) h = if x = 0 then pX 1013 65 L S h else pX 1013 62 L S h := pX_if_eq d1013_59 (by decide)
theorem x1013_62 {L S : List Value} {h : HP} : pX 1013 62 L S h = pX 1013 64 L (.int (-2) :: S) h := pX_bipush d1013_62 (by decide)
theorem x1013_64 {L : List Value} {h : HP} {x : Int32} : pX 1013 64 L [.int x] h = some (some (.int x), h) := pX_ret d1013_64 rfl
theorem x1013_65 {S : List Value} {h : HP} {l0 l1 l2 l3 : Value} {a0 : Nat} : pX 1013 65 [l0, l1, l2, l3, .ref a0] S h = pX 1013 67 [l0, l1, l2, l3, .ref a0] (.ref a0 :: S) h := pX_stp d1013_65 rfl rfl rfl
theorem x1013_67 {S : List Value} {h : HP} {l0 l1 l3 l4 : Value} {a0 : Nat} : pX 1013 67 [l0, l1, .ref a0, l3, l4] S h = pX 1013 68 [l0, l1, .ref a0, l3, l4] (.ref a0 :: S) h := pX_stp d1013_67 rfl rfl rfl
theorem x1013_68 {S : List Value} {h : HP} {l0 l2 l3 l4 : Value} {x0 : Int32} : pX 1013 68 [l0, .int x0, l2, l3, l4] S h = pX 1013 69 [l0, .int x0, l2, l3, l4] (.int x0 :: S) h := pX_stp d1013_68 rfl rfl rfl
theorem x1013_69 {L : List Value} {h : HP} {x0 : Int32} {a0 : Nat} {a1 : Nat} (hk : hp_k h a1 = 8) : pX 1013 69 L [.int x0, .ref a0, .ref a1] h = (pX 705 0 [.ref a1, .ref a0, .int x0] [] h).bind (fun q => pX 1013 72 L (q.1.toList ++ []) q.2) := pX_inv (a := a1) (t := 8) 705 [.ref a1, .ref a0, .int x0] [] d1013_69 rfl rfl rfl hk
theorem x1013_72 {S : List Value} {h : HP} {l0 l1 l3 l4 : Value} {a0 : Nat} : pX 1013 72 [l0, l1, .ref a0, l3, l4] S h = pX 1013 73 [l0, l1, .ref a0, l3, l4] (.ref a0 :: S) h := pX_stp d1013_72 rfl rfl rfl
theorem x1013_73 {L S : List Value} {h : HP} {a : Nat} (hk : hp_k h a = 9) : pX 1013 73 L (.ref a :: S) h = pX 1013 76 L (.int (hp_i h a 0) :: S) h := pX_get d1013_73 rfl rfl hk
theorem x1013_76 {L : List Value} {h : HP} {x : Int32} : pX 1013 76 L [.int x] h = some (some (.int x), h) := pX_ret d1013_76 rfl
theorem d1014_0 : decode (mb 1014) 0 = .ok (.aload_n 0, 1) := by decide +kernel
theorem d1014_1 : decode (mb 1014) 1 = .ok (.getfield 10, 3) := by decide +kernel
theorem d1014_4 : decode (mb 1014) 4 = .ok (.getfield 102, 3) := by decide +kernel
theorem d1014_7 : decode (mb 1014) 7 = .ok (.getfield 142, 3) := by decide +kernel
theorem d1014_10 : decode (mb 1014) 10 = .ok (.astore_n 2, 1) := by decide +kernel
theorem d1014_11 : decode (mb 1014) 11 = .ok (.aload_n 2, 1) := by decide +kernel
theorem d1014_12 : decode (mb 1014) 12 = .ok (.ifnull 19, 3) := by decide +kernel
theorem d1014_15 : decode (mb 1014) 15 = .ok (.aload_n 2, 1) := by decide +kernel
theorem d1014_16 : decode (mb 1014) 16 = .ok (.getfield 146, 3) := by decide +kernel
theorem d1014_19 : decode (mb 1014) 19 = .ok (.iconst 4, 1) := by decide +kernel
theorem d1014_20 : decode (mb 1014) 20 = .ok (.if_icmp .eq 11, 3) := by decide +kernel
theorem d1014_23 : decode (mb 1014) 23 = .ok (.aload_n 2, 1) := by decide +kernel
theorem d1014_24 : decode (mb 1014) 24 = .ok (.iload_n 1, 1) := by decide +kernel
theorem d1014_25 : decode (mb 1014) 25 = .ok (.invokevirtual 151, 3) := by decide +kernel
theorem d1014_28 : decode (mb 1014) 28 = .ok (.ifCond .eq 7, 3) := by decide +kernel
theorem d1014_31 : decode (mb 1014) 31 = .ok (.iconst 0, 1) := by decide +kernel
theorem d1014_32 : decode (mb 1014) 32 = .ok (.goto 9, 3) := by decide +kernel
theorem d1014_35 : decode (mb 1014) 35 = .ok (.aload_n 2, 1) := by decide +kernel
theorem d1014_36 : decode (mb 1014) 36 = .ok (.getfield 158, 3) := by decide +kernel
theorem d1014_39 : decode (mb 1014) 39 = .ok (.iload_n 1, 1) := by decide +kernel
theorem d1014_40 : decode (mb 1014) 40 = .ok (.iaload, 1) := by decide +kernel
theorem d1014_41 : decode (mb 1014) 41 = .ok (.ireturn, 1) := by decide +kernel
theorem x1014_0 {S : List Value} {h : HP} {l1 l2 : Value} {a0 : Nat} : pX 1014 0 [.ref a0, l1, l2] S h = pX 1014 1 [.ref a0, l1, l2] (.ref a0 :: S) h := pX_stp d1014_0 rfl rfl rfl
theorem x1014_1 {L S : List Value} {h : HP} {a : Nat} (hk : hp_k h a = 11) : pX 1014 1 L (.ref a :: S) h = pX 1014 4 L (.ref (hp_a h a 0) :: S) h := pX_get d1014_1 rfl rfl hk
theorem x1014_4 {L S : List Value} {h : HP} {a : Nat} (hk : hp_k h a = 4) : pX 1014 4 L (.ref a :: S) h = pX 1014 7 L (.ref (hp_a h a 8) :: S) h := pX_get d1014_4 rfl rfl hk
theorem x1014_7 {L S : List Value} {h : HP} {a : Nat} (hk : hp_k h a = 9) : pX 1014 7 L (.ref a :: S) h = pX 1014 10 L (.ref (hp_a h a 3) :: S) h := pX_get d1014_7 rfl rfl hk
theorem x1014_10 {S : List Value} {h : HP} {l0 l1 l2 : Value} {a0 : Nat} : pX 1014 10 [l0, l1, l2] (.ref a0 :: S) h = pX 1014 11 [l0, l1, .ref a0] S h := pX_stp d1014_10 rfl rfl rfl
theorem x1014_11 {S : List Value} {h : HP} {l0 l1 : Value} {a0 : Nat} : pX 1014 11 [l0, l1, .ref a0] S h = pX 1014 12 [l0, l1, .ref a0] (.ref a0 :: S) h := pX_stp d1014_11 rfl rfl rfl
theorem x1014_12 {L S : List Value} {h : HP} {a : Nat} : pX 1014 12 L (.ref a :: S) h = if a = 0 then pX 1014 31 L S h else pX 1014 15 L S h := pX_ifnull d1014_12 (by decide)
theorem x1014_15 {S : List Value} {h : HP} {l0 l1 : Value} {a0 : Nat} : pX 1014 15 [l0, l1, .ref a0] S h = pX 1014 16 [l0, l1, .ref a0] (.ref a0 :: S) h := pX_stp d1014_15 rfl rfl rfl
theorem x1014_16 {L S : List Value} {h : HP} {a : Nat} (hk : hp_k h a = 8) : pX 1014 16 L (.ref a :: S) h = pX 1014 19 L (.int (hp_i h a 0) :: S) h := pX_get d1014_16 rfl rfl hk
theorem x1014_19 {L S : List Value} {h : HP} : pX 1014 19 L S h = pX 1014 20 L (.int 4 :: S) h := pX_iconst d1014_19 (by decide)
theorem x1014_20 {L S : List Value} {h : HP} {x y : Int32} : pX 1014 20 L (.int y :: .int x :: S) h = if x = y then pX 1014 31 L S h else pX 1014 23 L S h := pX_icmp_eq d1014_20 (by decide)
theorem x1014_23 {S : List Value} {h : HP} {l0 l1 : Value} {a0 : Nat} : pX 1014 23 [l0, l1, .ref a0] S h = pX 1014 24 [l0, l1, .ref a0] (.ref a0 :: S) h := pX_stp d1014_23 rfl rfl rfl
theorem x1014_24 {S : List Value} {h : HP} {l0 l2 : Value} {x0 : Int32} : pX 1014 24 [l0, .int x0, l2] S h = pX 1014 25 [l0, .int x0, l2] (.int x0 :: S) h := pX_stp d1014_24 rfl rfl rfl
theorem x1014_25 {L : List Value} {h : HP} {x0 : Int32} {a0 : Nat} (hk : hp_k h a0 = 8) : pX 1014 25 L [.int x0, .ref a0] h = (pX 701 0 [.ref a0, .int x0] [] h).bind (fun q => pX 1014 28 L (q.1.toList ++ []) q.2) := pX_inv (a := a0) (t := 8) 701 [.ref a0, .int x0] [] d1014_25 rfl rfl rfl hk
theorem x1014_28 {L S : List Value} {h : HP} {x : Int32} : pX 1014 28 L (.int x :: S) h = if x = 0 then pX 1014 35 L S h else pX 1014 31 L S h := pX_if_eq d1014_28 (by decide)
theorem x1014_31 {L S : List Value} {h : HP} : pX 1014 31 L S h = pX 1014 32 L (.int 0 :: S) h := pX_iconst d1014_31 (by decide)
theorem x1014_32 {L S : List Value} {h : HP} : pX 1014 32 L S h = pX 1014 41 L S h := pX_goto d1014_32 (by decide)
theorem x1014_35 {S : List Value} {h : HP} {l0 l1 : Value} {a0 : Nat} : pX 1014 35 [l0, l1, .ref a0] S h = pX 1014 36 [l0, l1, .ref a0] (.ref a0 :: S) h := pX_stp d1014_35 rfl rfl rfl
theorem x1014_36 {L S : List Value} {h : HP} {a : Nat} (hk : hp_k h a = 8) : pX 1014 36 L (.ref a :: S) h = pX 1014 39 L (.ref (hp_a h a 2) :: S) h := pX_get d1014_36 rfl rfl hk
theorem x1014_39 {S : List Value} {h : HP} {l0 l2 : Value} {x0 : Int32} : pX 1014 39 [l0, .int x0, l2] S h = pX 1014 40 [l0, .int x0, l2] (.int x0 :: S) h := pX_stp d1014_39 rfl rfl rfl
theorem x1014_40 {L S : List Value} {h : HP} {a : Nat} {j : Int32} (hk : hp_k h a = 100) (hj : inb j (hp_l h a) = true) : pX 1014 40 L (.int j :: .ref a :: S) h = pX 1014 41 L (.int (hp_i h a (ix j)) :: S) h := pX_ild d1014_40 hk hj
theorem x1014_40R {L S : List Value} {h : HP} {a : Nat} {j : Int32} (hk : hp_k h a = 99) (hj : inb j (hp_l h a) = true) : pX 1014 40 L (.int j :: .ref a :: S) h = pX 1014 41 L (.int (hp_i h a (ix j)) :: S) h := pX_ildR d1014_40 hk hj
theorem x1014_41 {L : List Value} {h : HP} {x : Int32} : pX 1014 41 L [.int x] h = some (some (.int x), h) := pX_ret d1014_41 rfl
theorem d1015_0 : decode (mb 1015) 0 = .ok (.iload_n 1, 1) := by decide +kernel
theorem d1015_1 : decode (mb 1015) 1 = .ok (.iconst 0, 1) := by decide +kernel
theorem d1015_2 : decode (mb 1015) 2 = .ok (.bipush 8, 2) := by decide +kernel
theorem d1015_4 : decode (mb 1015) 4 = .ok (.invokestatic 30, 3) := by decide +kernel
theorem d1015_7 : decode (mb 1015) 7 = .ok (.ifCond .eq 8, 3) := by decide +kernel
theorem d1015_10 : decode (mb 1015) 10 = .ok (.bipush (-2), 2) := by decide +kernel
theorem d1015_12 : decode (mb 1015) 12 = .ok (.goto 15, 3) := by decide +kernel
theorem d1015_15 : decode (mb 1015) 15 = .ok (.aload_n 0, 1) := by decide +kernel
theorem d1015_16 : decode (mb 1015) 16 = .ok (.getfield 10, 3) := by decide +kernel
theorem d1015_19 : decode (mb 1015) 19 = .ok (.getfield 75, 3) := by decide +kernel
theorem d1015_22 : decode (mb 1015) 22 = .ok (.getfield 161, 3) := by decide +kernel
theorem d1015_25 : decode (mb 1015) 25 = .ok (.iload_n 1, 1) := by decide +kernel
theorem d1015_26 : decode (mb 1015) 26 = .ok (.iaload, 1) := by decide +kernel
theorem d1015_27 : decode (mb 1015) 27 = .ok (.ireturn, 1) := by decide +kernel
theorem x1015_0 {S : List Value} {h : HP} {l0 : Value} {x0 : Int32} : pX 1015 0 [l0, .int x0] S h = pX 1015 1 [l0, .int x0] (.int x0 :: S) h := pX_stp d1015_0 rfl rfl rfl
theorem x1015_1 {L S : List Value} {h : HP} : pX 1015 1 L S h = pX 1015 2 L (.int 0 :: S) h := pX_iconst d1015_1 (by decide)
theorem x1015_2 {L S : List Value} {h : HP} : pX 1015 2 L S h = pX 1015 4 L (.int 8 :: S) h := pX_bipush d1015_2 (by decide)
theorem x1015_4 {L : List Value} {h : HP} {x0 : Int32} {x1 : Int32} {x2 : Int32} : pX 1015 4 L [.int x0, .int x1, .int x2] h = (pX 1025 0 [.int x2, .int x1, .int x0] [] h).bind (fun q => pX 1015 7 L (q.1.toList ++ []) q.2) := pX_ins 1025 [.int x2, .int x1, .int x0] [] d1015_4 rfl rfl rfl
theorem x1015_7 {L S : List Value} {h : HP} {x : Int32} : pX 1015 7 L (.int x :: S) h = if x = 0 then pX 1015 15 L S h else pX 1015 10 L S h := pX_if_eq d1015_7 (by decide)
theorem x1015_10 {L S : List Value} {h : HP} : pX 1015 10 L S h = pX 1015 12 L (.int (-2) :: S) h := pX_bipush d1015_10 (by decide)
theorem x1015_12 {L S : List Value} {h : HP} : pX 1015 12 L S h = pX 1015 27 L S h := pX_goto d1015_12 (by decide)
theorem x1015_15 {S : List Value} {h : HP} {l1 : Value} {a0 : Nat} : pX 1015 15 [.ref a0, l1] S h = pX 1015 16 [.ref a0, l1] (.ref a0 :: S) h := pX_stp d1015_15 rfl rfl rfl
theorem x1015_16 {L S : List Value} {h : HP} {a : Nat} (hk : hp_k h a = 11) : pX 1015 16 L (.ref a :: S) h = pX 1015 19 L (.ref (hp_a h a 0) :: S) h := pX_get d1015_16 rfl rfl hk
theorem x1015_19 {L S : List Value} {h : HP} {a : Nat} (hk : hp_k h a = 4) : pX 1015 19 L (.ref a :: S) h = pX 1015 22 L (.ref (hp_a h a 2) :: S) h := pX_get d1015_19 rfl rfl hk
theorem x1015_22 {L S : List Value} {h : HP} {a : Nat} (hk : hp_k h a = 7) : pX 1015 22 L (.ref a :: S) h = pX 1015 25 L (.ref (hp_a h a 1) :: S) h := pX_get d1015_22 rfl rfl hk
theorem x1015_25 {S : List Value} {h : HP} {l0 : Value} {x0 : Int32} : pX 1015 25 [l0, .int x0] S h = pX 1015 26 [l0, .int x0] (.int x0 :: S) h := pX_stp d1015_25 rfl rfl rfl
theorem x1015_26 {L S : List Value} {h : HP} {a : Nat} {j : Int32} (hk : hp_k h a = 100) (hj : inb j (hp_l h a) = true) : pX 1015 26 L (.int j :: .ref a :: S) h = pX 1015 27 L (.int (hp_i h a (ix j)) :: S) h := pX_ild d1015_26 hk hj
theorem x1015_26R {L S : List Value} {h : HP} {a : Nat} {j : Int32} (hk : hp_k h a = 99) (hj : inb j (hp_l h a) = true) : pX 1015 26 L (.int j :: .ref a :: S) h = pX 1015 27 L (.int (hp_i h a (ix j)) :: S) h := pX_ildR d1015_26 hk hj
theorem x1015_27 {L : List Value} {h : HP} {x : Int32} : pX 1015 27 L [.int x] h = some (some (.int x), h) := pX_ret d1015_27 rfl
theorem d1016_0 : decode (mb 1016) 0 = .ok (.iload_n 1, 1) := by decide +kernel
theorem d1016_1 : decode (mb 1016) 1 = .ok (.ifCond .lt 14, 3) := by decide +kernel
theorem d1016_4 : decode (mb 1016) 4 = .ok (.iload_n 1, 1) := by decide +kernel
theorem d1016_5 : decode (mb 1016) 5 = .ok (.aload_n 0, 1) := by decide +kernel
theorem d1016_6 : decode (mb 1016) 6 = .ok (.getfield 10, 3) := by decide +kernel
theorem d1016_9 : decode (mb 1016) 9 = .ok (.getfield 164, 3) := by decide +kernel
theorem d1016_12 : decode (mb 1016) 12 = .ok (.if_icmp .lt 8, 3) := by decide +kernel
theorem d1016_15 : decode (mb 1016) 15 = .ok (.bipush (-5), 2) := by decide +kernel
theorem d1016_17 : decode (mb 1016) 17 = .ok (.goto 12, 3) := by decide +kernel
theorem d1016_20 : decode (mb 1016) 20 = .ok (.aload_n 0, 1) := by decide +kernel
theorem d1016_21 : decode (mb 1016) 21 = .ok (.getfield 10, 3) := by decide +kernel
theorem d1016_24 : decode (mb 1016) 24 = .ok (.getfield 167, 3) := by decide +kernel
theorem d1016_27 : decode (mb 1016) 27 = .ok (.iload_n 1, 1) := by decide +kernel
theorem d1016_28 : decode (mb 1016) 28 = .ok (.iaload, 1) := by decide +kernel
theorem d1016_29 : decode (mb 1016) 29 = .ok (.ireturn, 1) := by decide +kernel
theorem x1016_0 {S : List Value} {h : HP} {l0 : Value} {x0 : Int32} : pX 1016 0 [l0, .int x0] S h = pX 1016 1 [l0, .int x0] (.int x0 :: S) h := pX_stp d1016_0 rfl rfl rfl
theorem x1016_1 {L S : List Value} {h : HP} {x : Int32} : pX 1016 1 L (.int x :: S) h = if x < 0 then pX 1016 15 L S h else pX 1016 4 L S h := pX_if_lt d1016_1 (by decide)
theorem x1016_4 {S : List Value} {h : HP} {l0 : Value} {x0 : Int32} : pX 1016 4 [l0, .int x0] S h = pX 1016 5 [l0, .int x0] (.int x0 :: S) h := pX_stp d1016_4 rfl rfl rfl
theorem x1016_5 {S : List Value} {h : HP} {l1 : Value} {a0 : Nat} : pX 1016 5 [.ref a0, l1] S h = pX 1016 6 [.ref a0, l1] (.ref a0 :: S) h := pX_stp d1016_5 rfl rfl rfl
theorem x1016_6 {L S : List Value} {h : HP} {a : Nat} (hk : hp_k h a = 11) : pX 1016 6 L (.ref a :: S) h = pX 1016 9 L (.ref (hp_a h a 0) :: S) h := pX_get d1016_6 rfl rfl hk
theorem x1016_9 {L S : List Value} {h : HP} {a : Nat} (hk : hp_k h a = 4) : pX 1016 9 L (.ref a :: S) h = pX 1016 12 L (.int (hp_i h a 11) :: S) h := pX_get d1016_9 rfl rfl hk
theorem x1016_12 {L S : List Value} {h : HP} {x y : Int32} : pX 1016 12 L (.int y :: .int x :: S) h = if x < y then pX 1016 20 L S h else pX 1016 15 L S h := pX_icmp_lt d1016_12 (by decide)
theorem x1016_15 {L S : List Value} {h : HP} : pX 1016 15 L S h = pX 1016 17 L (.int (-5) :: S) h := pX_bipush d1016_15 (by decide)
theorem x1016_17 {L S : List Value} {h : HP} : pX 1016 17 L S h = pX 1016 29 L S h := pX_goto d1016_17 (by decide)
theorem x1016_20 {S : List Value} {h : HP} {l1 : Value} {a0 : Nat} : pX 1016 20 [.ref a0, l1] S h = pX 1016 21 [.ref a0, l1] (.ref a0 :: S) h := pX_stp d1016_20 rfl rfl rfl
theorem x1016_21 {L S : List Value} {h : HP} {a : Nat} (hk : hp_k h a = 11) : pX 1016 21 L (.ref a :: S) h = pX 1016 24 L (.ref (hp_a h a 0) :: S) h := pX_get d1016_21 rfl rfl hk
theorem x1016_24 {L S : List Value} {h : HP} {a : Nat} (hk : hp_k h a = 4) : pX 1016 24 L (.ref a :: S) h = pX 1016 27 L (.ref (hp_a h a 10) :: S) h := pX_get d1016_24 rfl rfl hk
theorem x1016_27 {S : List Value} {h : HP} {l0 : Value} {x0 : Int32} : pX 1016 27 [l0, .int x0] S h = pX 1016 28 [l0, .int x0] (.int x0 :: S) h := pX_stp d1016_27 rfl rfl rfl
theorem x1016_28 {L S : List Value} {h : HP} {a : Nat} {j : Int32} (hk : hp_k h a = 100) (hj : inb j (hp_l h a) = true) : pX 1016 28 L (.int j :: .ref a :: S) h = pX 1016 29 L (.int (hp_i h a (ix j)) :: S) h := pX_ild d1016_28 hk hj
theorem x1016_28R {L S : List Value} {h : HP} {a : Nat} {j : Int32} (hk : hp_k h a = 99) (hj : inb j (hp_l h a) = true) : pX 1016 28 L (.int j :: .ref a :: S) h = pX 1016 29 L (.int (hp_i h a (ix j)) :: S) h := pX_ildR d1016_28 hk hj
theorem x1016_29 {L : List Value} {h : HP} {x : Int32} : pX 1016 29 L [.int x] h = some (some (.int x), h) := pX_ret d1016_29 rfl
theorem d1017_0 : decode (mb 1017) 0 = .ok (.aload_n 0, 1) := by decide +kernel
theorem d1017_1 : decode (mb 1017) 1 = .ok (.getfield 10, 3) := by decide +kernel
theorem d1017_4 : decode (mb 1017) 4 = .ok (.getfield 75, 3) := by decide +kernel
theorem d1017_7 : decode (mb 1017) 7 = .ok (.getfield 170, 3) := by decide +kernel
theorem d1017_10 : decode (mb 1017) 10 = .ok (.ireturn, 1) := by decide +kernel
theorem x1017_0 {S : List Value} {h : HP}  {a0 : Nat} : pX 1017 0 [.ref a0] S h = pX 1017 1 [.ref a0] (.ref a0 :: S) h := pX_stp d1017_0 rfl rfl rfl
theorem x1017_1 {L S : List Value} {h : HP} {a : Nat} (hk : hp_k h a = 11) : pX 1017 1 L (.ref a :: S) h = pX 1017 4 L (.ref (hp_a h a 0) :: S) h := pX_get d1017_1 rfl rfl hk
theorem x1017_4 {L S : List Value} {h : HP} {a : Nat} (hk : hp_k h a = 4) : pX 1017 4 L (.ref a :: S) h = pX 1017 7 L (.ref (hp_a h a 2) :: S) h := pX_get d1017_4 rfl rfl hk
theorem x1017_7 {L S : List Value} {h : HP} {a : Nat} (hk : hp_k h a = 7) : pX 1017 7 L (.ref a :: S) h = pX 1017 10 L (.int (hp_i h a 3) :: S) h := pX_get d1017_7 rfl rfl hk
theorem x1017_10 {L : List Value} {h : HP} {x : Int32} : pX 1017 10 L [.int x] h = some (some (.int x), h) := pX_ret d1017_10 rfl
theorem d1018_0 : decode (mb 1018) 0 = .ok (.aload_n 0, 1) := by decide +kernel
theorem d1018_1 : decode (mb 1018) 1 = .ok (.iload_n 1, 1) := by decide +kernel
theorem d1018_2 : decode (mb 1018) 2 = .ok (.iload_n 2, 1) := by decide +kernel
theorem d1018_3 : decode (mb 1018) 3 = .ok (.invokevirtual 110, 3) := by decide +kernel
theorem d1018_6 : decode (mb 1018) 6 = .ok (.istore_n 3, 1) := by decide +kernel
theorem d1018_7 : decode (mb 1018) 7 = .ok (.iload_n 3, 1) := by decide +kernel
theorem d1018_8 : decode (mb 1018) 8 = .ok (.ifCond .eq 7, 3) := by decide +kernel
theorem d1018_11 : decode (mb 1018) 11 = .ok (.iload_n 3, 1) := by decide +kernel
theorem d1018_12 : decode (mb 1018) 12 = .ok (.goto 16, 3) := by decide +kernel
theorem d1018_15 : decode (mb 1018) 15 = .ok (.aload_n 0, 1) := by decide +kernel
theorem d1018_16 : decode (mb 1018) 16 = .ok (.getfield 10, 3) := by decide +kernel
theorem d1018_19 : decode (mb 1018) 19 = .ok (.iload_n 1, 1) := by decide +kernel
theorem d1018_20 : decode (mb 1018) 20 = .ok (.iload_n 2, 1) := by decide +kernel
theorem d1018_21 : decode (mb 1018) 21 = .ok (.aload_n 0, 1) := by decide +kernel
theorem d1018_22 : decode (mb 1018) 22 = .ok (.getfield 25, 3) := by decide +kernel
theorem d1018_25 : decode (mb 1018) 25 = .ok (.invokevirtual 114, 3) := by decide +kernel
theorem d1018_28 : decode (mb 1018) 28 = .ok (.ireturn, 1) := by decide +kernel
theorem x1018_0 {S : List Value} {h : HP} {l1 l2 l3 : Value} {a0 : Nat} : pX 1018 0 [.ref a0, l1, l2, l3] S h = pX 1018 1 [.ref a0, l1, l2, l3] (.ref a0 :: S) h := pX_stp d1018_0 rfl rfl rfl
theorem x1018_1 {S : List Value} {h : HP} {l0 l2 l3 : Value} {x0 : Int32} : pX 1018 1 [l0, .int x0, l2, l3] S h = pX 1018 2 [l0, .int x0, l2, l3] (.int x0 :: S) h := pX_stp d1018_1 rfl rfl rfl
theorem x1018_2 {S : List Value} {h : HP} {l0 l1 l3 : Value} {x0 : Int32} : pX 1018 2 [l0, l1, .int x0, l3] S h = pX 1018 3 [l0, l1, .int x0, l3] (.int x0 :: S) h := pX_stp d1018_2 rfl rfl rfl
theorem x1018_3 {L : List Value} {h : HP} {x0 : Int32} {x1 : Int32} {a0 : Nat} (hk : hp_k h a0 = 11) : pX 1018 3 L [.int x0, .int x1, .ref a0] h = (pX 1024 0 [.ref a0, .int x1, .int x0] [] h).bind (fun q => pX 1018 6 L (q.1.toList ++ []) q.2) := pX_inv (a := a0) (t := 11) 1024 [.ref a0, .int x1, .int x0] [] d1018_3 rfl rfl rfl hk
theorem x1018_6 {S : List Value} {h : HP} {l0 l1 l2 l3 : Value} {x0 : Int32} : pX 1018 6 [l0, l1, l2, l3] (.int x0 :: S) h = pX 1018 7 [l0, l1, l2, .int x0] S h := pX_stp d1018_6 rfl rfl rfl
theorem x1018_7 {S : List Value} {h : HP} {l0 l1 l2 : Value} {x0 : Int32} : pX 1018 7 [l0, l1, l2, .int x0] S h = pX 1018 8 [l0, l1, l2, .int x0] (.int x0 :: S) h := pX_stp d1018_7 rfl rfl rfl
theorem x1018_8 {L S : List Value} {h : HP} {x : Int32} : pX 1018 8 L (.int x :: S) h = if x = 0 then pX 1018 15 L S h else pX 1018 11 L S h := pX_if_eq d1018_8 (by decide)
theorem x1018_11 {S : List Value} {h : HP} {l0 l1 l2 : Value} {x0 : Int32} : pX 1018 11 [l0, l1, l2, .int x0] S h = pX 1018 12 [l0, l1, l2, .int x0] (.int x0 :: S) h := pX_stp d1018_11 rfl rfl rfl
theorem x1018_12 {L S : List Value} {h : HP} : pX 1018 12 L S h = pX 1018 28 L S h := pX_goto d1018_12 (by decide)
theorem x1018_15 {S : List Value} {h : HP} {l1 l2 l3 : Value} {a0 : Nat} : pX 1018 15 [.ref a0, l1, l2, l3] S h = pX 1018 16 [.ref a0, l1, l2, l3] (.ref a0 :: S) h := pX_stp d1018_15 rfl rfl rfl
theorem x1018_16 {L S : List Value} {h : HP} {a : Nat} (hk : hp_k h a = 11) : pX 1018 16 L (.ref a :: S) h = pX 1018 19 L (.ref (hp_a h a 0) :: S) h := pX_get d1018_16 rfl rfl hk
theorem x1018_19 {S : List Value} {h : HP} {l0 l2 l3 : Value} {x0 : Int32} : pX 1018 19 [l0, .int x0, l2, l3] S h = pX 1018 20 [l0, .int x0, l2, l3] (.int x0 :: S) h := pX_stp d1018_19 rfl rfl rfl
theorem x1018_20 {S : List Value} {h : HP} {l0 l1 l3 : Value} {x0 : Int32} : pX 1018 20 [l0, l1, .int x0, l3] S h = pX 1018 21 [l0, l1, .int x0, l3] (.int x0 :: S) h := pX_stp d1018_20 rfl rfl rfl
theorem x1018_21 {S : List Value} {h : HP} {l1 l2 l3 : Value} {a0 : Nat} : pX 1018 21 [.ref a0, l1, l2, l3] S h = pX 1018 22 [.ref a0, l1, l2, l3] (.ref a0 :: S) h := pX_stp d1018_21 rfl rfl rfl
theorem x1018_22 {L S : List Value} {h : HP} {a : Nat} (hk : hp_k h a = 11) : pX 1018 22 L (.ref a :: S) h = pX 1018 25 L (.ref (hp_a h a 2) :: S) h := pX_get d1018_22 rfl rfl hk
theorem x1018_25 {L : List Value} {h : HP} {a0 : Nat} {x0 : Int32} {x1 : Int32} {a1 : Nat} (hk : hp_k h a1 = 4) : pX 1018 25 L [.ref a0, .int x0, .int x1, .ref a1] h = (pX 305 0 [.ref a1, .int x1, .int x0, .ref a0] [] h).bind (fun q => pX 1018 28 L (q.1.toList ++ []) q.2) := pX_inv (a := a1) (t := 4) 305 [.ref a1, .int x1, .int x0, .ref a0] [] d1018_25 rfl rfl rfl hk
theorem x1018_28 {L : List Value} {h : HP} {x : Int32} : pX 1018 28 L [.int x] h = some (some (.int x), h) := pX_ret d1018_28 rfl
theorem d1019_0 : decode (mb 1019) 0 = .ok (.iload_n 1, 1) := by decide +kernel
theorem d1019_1 : decode (mb 1019) 1 = .ok (.iconst 1, 1) := by decide +kernel
theorem d1019_2 : decode (mb 1019) 2 = .ok (.sipush 1000, 3) := by decide +kernel
theorem d1019_5 : decode (mb 1019) 5 = .ok (.invokestatic 30, 3) := by decide +kernel
theorem d1019_8 : decode (mb 1019) 8 = .ok (.ifCond .eq 6, 3) := by decide +kernel
theorem d1019_11 : decode (mb 1019) 11 = .ok (.bipush (-2), 2) := by decide +kernel
theorem d1019_13 : decode (mb 1019) 13 = .ok (.ireturn, 1) := by decide +kernel
theorem d1019_14 : decode (mb 1019) 14 = .ok (.aload_n 0, 1) := by decide +kernel
theorem d1019_15 : decode (mb 1019) 15 = .ok (.getfield 10, 3) := by decide +kernel
theorem d1019_18 : decode (mb 1019) 18 = .ok (.invokevirtual 34, 3) := by decide +kernel
theorem d1019_21 : decode (mb 1019) 21 = .ok (.ifCond .eq 14, 3) := by decide +kernel
theorem d1019_24 : decode (mb 1019) 24 = .ok (.aload_n 0, 1) := by decide +kernel
theorem d1019_25 : decode (mb 1019) 25 = .ok (.getfield 10, 3) := by decide +kernel
theorem d1019_28 : decode (mb 1019) 28 = .ok (.iload_n 1, 1) := by decide +kernel
theorem d1019_29 : decode (mb 1019) 29 = .ok (.invokevirtual 119, 3) := by decide +kernel
theorem d1019_32 : decode (mb 1019) 32 = .ok (.goto 5, 3) := by decide +kernel
theorem d1019_35 : decode (mb 1019) 35 = .ok (.bipush (-3), 2) := by decide +kernel
theorem d1019_37 : decode (mb 1019) 37 = .ok (.ireturn, 1) := by decide +kernel
theorem x1019_0 {S : List Value} {h : HP} {l0 : Value} {x0 : Int32} : pX 1019 0 [l0, .int x0] S h = pX 1019 1 [l0, .int x0] (.int x0 :: S) h := pX_stp d1019_0 rfl rfl rfl
theorem x1019_1 {L S : List Value} {h : HP} : pX 1019 1 L S h = pX 1019 2 L (.int 1 :: S) h := pX_iconst d1019_1 (by decide)
theorem x1019_2 {L S : List Value} {h : HP} : pX 1019 2 L S h = pX 1019 5 L (.int 1000 :: S) h := pX_sipush d1019_2 (by decide)
theorem x1019_5 {L : List Value} {h : HP} {x0 : Int32} {x1 : Int32} {x2 : Int32} : pX 1019 5 L [.int x0, .int x1, .int x2] h = (pX 1025 0 [.int x2, .int x1, .int x0] [] h).bind (fun q => pX 1019 8 L (q.1.toList ++ []) q.2) := pX_ins 1025 [.int x2, .int x1, .int x0] [] d1019_5 rfl rfl rfl
theorem x1019_8 {L S : List Value} {h : HP} {x : Int32} : pX 1019 8 L (.int x :: S) h = if x = 0 then pX 1019 14 L S h else pX 1019 11 L S h := pX_if_eq d1019_8 (by decide)
theorem x1019_11 {L S : List Value} {h : HP} : pX 1019 11 L S h = pX 1019 13 L (.int (-2) :: S) h := pX_bipush d1019_11 (by decide)
theorem x1019_13 {L : List Value} {h : HP} {x : Int32} : pX 1019 13 L [.int x] h = some (some (.int x), h) := pX_ret d1019_13 rfl
theorem x1019_14 {S : List Value} {h : HP} {l1 : Value} {a0 : Nat} : pX 1019 14 [.ref a0, l1] S h = pX 1019 15 [.ref a0, l1] (.ref a0 :: S) h := pX_stp d1019_14 rfl rfl rfl
theorem x1019_15 {L S : List Value} {h : HP} {a : Nat} (hk : hp_k h a = 11) : pX 1019 15 L (.ref a :: S) h = pX 1019 18 L (.ref (hp_a h a 0) :: S) h := pX_get d1019_15 rfl rfl hk
theorem x1019_18 {L : List Value} {h : HP} {a0 : Nat} (hk : hp_k h a0 = 4) : pX 1019 18 L [.ref a0] h = (pX 302 0 [.ref a0] [] h).bind (fun q => pX 1019 21 L (q.1.toList ++ []) q.2) := pX_inv (a := a0) (t := 4) 302 [.ref a0] [] d1019_18 rfl rfl rfl hk
theorem x1019_21 {L S : List Value} {h : HP} {x : Int32} : pX 1019 21 L (.int x :: S) h = if x = 0 then pX 1019 35 L S h else pX 1019 24 L S h := pX_if_eq d1019_21 (by decide)
theorem x1019_24 {S : List Value} {h : HP} {l1 : Value} {a0 : Nat} : pX 1019 24 [.ref a0, l1] S h = pX 1019 25 [.ref a0, l1] (.ref a0 :: S) h := pX_stp d1019_24 rfl rfl rfl
theorem x1019_25 {L S : List Value} {h : HP} {a : Nat} (hk : hp_k h a = 11) : pX 1019 25 L (.ref a :: S) h = pX 1019 28 L (.ref (hp_a h a 0) :: S) h := pX_get d1019_25 rfl rfl hk
theorem x1019_28 {S : List Value} {h : HP} {l0 : Value} {x0 : Int32} : pX 1019 28 [l0, .int x0] S h = pX 1019 29 [l0, .int x0] (.int x0 :: S) h := pX_stp d1019_28 rfl rfl rfl
theorem x1019_29 {L : List Value} {h : HP} {x0 : Int32} {a0 : Nat} (hk : hp_k h a0 = 4) : pX 1019 29 L [.int x0, .ref a0] h = (pX 306 0 [.ref a0, .int x0, .retAddr 0, .retAddr 0] [] h).bind (fun q => pX 1019 32 L (q.1.toList ++ []) q.2) := pX_inv (a := a0) (t := 4) 306 [.ref a0, .int x0] [] d1019_29 rfl rfl rfl hk
theorem x1019_32 {L S : List Value} {h : HP} : pX 1019 32 L S h = pX 1019 37 L S h := pX_goto d1019_32 (by decide)
theorem x1019_35 {L S : List Value} {h : HP} : pX 1019 35 L S h = pX 1019 37 L (.int (-3) :: S) h := pX_bipush d1019_35 (by decide)
theorem x1019_37 {L : List Value} {h : HP} {x : Int32} : pX 1019 37 L [.int x] h = some (some (.int x), h) := pX_ret d1019_37 rfl
theorem d1020_0 : decode (mb 1020) 0 = .ok (.iload_n 1, 1) := by decide +kernel
theorem d1020_1 : decode (mb 1020) 1 = .ok (.iconst 0, 1) := by decide +kernel
theorem d1020_2 : decode (mb 1020) 2 = .ok (.iconst 3, 1) := by decide +kernel
theorem d1020_3 : decode (mb 1020) 3 = .ok (.invokestatic 30, 3) := by decide +kernel
theorem d1020_6 : decode (mb 1020) 6 = .ok (.ifCond .eq 6, 3) := by decide +kernel
theorem d1020_9 : decode (mb 1020) 9 = .ok (.bipush (-2), 2) := by decide +kernel
theorem d1020_11 : decode (mb 1020) 11 = .ok (.ireturn, 1) := by decide +kernel
theorem d1020_12 : decode (mb 1020) 12 = .ok (.aload_n 0, 1) := by decide +kernel
theorem d1020_13 : decode (mb 1020) 13 = .ok (.getfield 10, 3) := by decide +kernel
theorem d1020_16 : decode (mb 1020) 16 = .ok (.invokevirtual 34, 3) := by decide +kernel
theorem d1020_19 : decode (mb 1020) 19 = .ok (.ifCond .ne 6, 3) := by decide +kernel
theorem d1020_22 : decode (mb 1020) 22 = .ok (.bipush (-3), 2) := by decide +kernel
theorem d1020_24 : decode (mb 1020) 24 = .ok (.ireturn, 1) := by decide +kernel
theorem d1020_25 : decode (mb 1020) 25 = .ok (.aload_n 0, 1) := by decide +kernel
theorem d1020_26 : decode (mb 1020) 26 = .ok (.getfield 10, 3) := by decide +kernel
theorem d1020_29 : decode (mb 1020) 29 = .ok (.invokevirtual 173, 3) := by decide +kernel
theorem d1020_32 : decode (mb 1020) 32 = .ok (.astore_n 2, 1) := by decide +kernel
theorem d1020_33 : decode (mb 1020) 33 = .ok (.iload_n 1, 1) := by decide +kernel
theorem d1020_34 : decode (mb 1020) 34 = .ok (.tableswitch 44 0 2 #[26, 34, 39], 26) := by decide +kernel
theorem d1020_60 : decode (mb 1020) 60 = .ok (.aload_n 0, 1) := by decide +kernel
theorem d1020_61 : decode (mb 1020) 61 = .ok (.getfield 10, 3) := by decide +kernel
theorem d1020_64 : decode (mb 1020) 64 = .ok (.getfield 177, 3) := by decide +kernel
theorem d1020_67 : decode (mb 1020) 67 = .ok (.ireturn, 1) := by decide +kernel
theorem d1020_68 : decode (mb 1020) 68 = .ok (.aload_n 2, 1) := by decide +kernel
theorem d1020_69 : decode (mb 1020) 69 = .ok (.getfield 180, 3) := by decide +kernel
theorem d1020_72 : decode (mb 1020) 72 = .ok (.ireturn, 1) := by decide +kernel
theorem d1020_73 : decode (mb 1020) 73 = .ok (.aload_n 2, 1) := by decide +kernel
theorem d1020_74 : decode (mb 1020) 74 = .ok (.getfield 185, 3) := by decide +kernel
theorem d1020_77 : decode (mb 1020) 77 = .ok (.ireturn, 1) := by decide +kernel
theorem d1020_78 : decode (mb 1020) 78 = .ok (.aload_n 0, 1) := by decide +kernel
theorem d1020_79 : decode (mb 1020) 79 = .ok (.getfield 10, 3) := by decide +kernel
theorem d1020_82 : decode (mb 1020) 82 = .ok (.invokevirtual 188, 3) := by decide +kernel
theorem d1020_85 : decode (mb 1020) 85 = .ok (.ireturn, 1) := by decide +kernel
theorem x1020_0 {S : List Value} {h : HP} {l0 l2 : Value} {x0 : Int32} : pX 1020 0 [l0, .int x0, l2] S h = pX 1020 1 [l0, .int x0, l2] (.int x0 :: S) h := pX_stp d1020_0 rfl rfl rfl
theorem x1020_1 {L S : List Value} {h : HP} : pX 1020 1 L S h = pX 1020 2 L (.int 0 :: S) h := pX_iconst d1020_1 (by decide)
theorem x1020_2 {L S : List Value} {h : HP} : pX 1020 2 L S h = pX 1020 3 L (.int 3 :: S) h := pX_iconst d1020_2 (by decide)
theorem x1020_3 {L : List Value} {h : HP} {x0 : Int32} {x1 : Int32} {x2 : Int32} : pX 1020 3 L [.int x0, .int x1, .int x2] h = (pX 1025 0 [.int x2, .int x1, .int x0] [] h).bind (fun q => pX 1020 6 L (q.1.toList ++ []) q.2) := pX_ins 1025 [.int x2, .int x1, .int x0] [] d1020_3 rfl rfl rfl
theorem x1020_6 {L S : List Value} {h : HP} {x : Int32} : pX 1020 6 L (.int x :: S) h = if x = 0 then pX 1020 12 L S h else pX 1020 9 L S h := pX_if_eq d1020_6 (by decide)
theorem x1020_9 {L S : List Value} {h : HP} : pX 1020 9 L S h = pX 1020 11 L (.int (-2) :: S) h := pX_bipush d1020_9 (by decide)
theorem x1020_11 {L : List Value} {h : HP} {x : Int32} : pX 1020 11 L [.int x] h = some (some (.int x), h) := pX_ret d1020_11 rfl
theorem x1020_12 {S : List Value} {h : HP} {l1 l2 : Value} {a0 : Nat} : pX 1020 12 [.ref a0, l1, l2] S h = pX 1020 13 [.ref a0, l1, l2] (.ref a0 :: S) h := pX_stp d1020_12 rfl rfl rfl
theorem x1020_13 {L S : List Value} {h : HP} {a : Nat} (hk : hp_k h a = 11) : pX 1020 13 L (.ref a :: S) h = pX 1020 16 L (.ref (hp_a h a 0) :: S) h := pX_get d1020_13 rfl rfl hk
theorem x1020_16 {L : List Value} {h : HP} {a0 : Nat} (hk : hp_k h a0 = 4) : pX 1020 16 L [.ref a0] h = (pX 302 0 [.ref a0] [] h).bind (fun q => pX 1020 19 L (q.1.toList ++ []) q.2) := pX_inv (a := a0) (t := 4) 302 [.ref a0] [] d1020_16 rfl rfl rfl hk
theorem x1020_19 {L S : List Value} {h : HP} {x : Int32} : pX 1020 19 L (.int x :: S) h = if x = 0 then pX 1020 22 L S h else pX 1020 25 L S h := pX_if_ne d1020_19 (by decide)
theorem x1020_22 {L S : List Value} {h : HP} : pX 1020 22 L S h = pX 1020 24 L (.int (-3) :: S) h := pX_bipush d1020_22 (by decide)
theorem x1020_24 {L : List Value} {h : HP} {x : Int32} : pX 1020 24 L [.int x] h = some (some (.int x), h) := pX_ret d1020_24 rfl
theorem x1020_25 {S : List Value} {h : HP} {l1 l2 : Value} {a0 : Nat} : pX 1020 25 [.ref a0, l1, l2] S h = pX 1020 26 [.ref a0, l1, l2] (.ref a0 :: S) h := pX_stp d1020_25 rfl rfl rfl
theorem x1020_26 {L S : List Value} {h : HP} {a : Nat} (hk : hp_k h a = 11) : pX 1020 26 L (.ref a :: S) h = pX 1020 29 L (.ref (hp_a h a 0) :: S) h := pX_get d1020_26 rfl rfl hk
theorem x1020_29 {L : List Value} {h : HP} {a0 : Nat} (hk : hp_k h a0 = 4) : pX 1020 29 L [.ref a0] h = (pX 303 0 [.ref a0] [] h).bind (fun q => pX 1020 32 L (q.1.toList ++ []) q.2) := pX_inv (a := a0) (t := 4) 303 [.ref a0] [] d1020_29 rfl rfl rfl hk
theorem x1020_32 {S : List Value} {h : HP} {l0 l1 l2 : Value} {a0 : Nat} : pX 1020 32 [l0, l1, l2] (.ref a0 :: S) h = pX 1020 33 [l0, l1, .ref a0] S h := pX_stp d1020_32 rfl rfl rfl
theorem x1020_33 {S : List Value} {h : HP} {l0 l2 : Value} {x0 : Int32} : pX 1020 33 [l0, .int x0, l2] S h = pX 1020 34 [l0, .int x0, l2] (.int x0 :: S) h := pX_stp d1020_33 rfl rfl rfl
theorem x1020_34_0 {L S : List Value} {h : HP} : pX 1020 34 L (.int 0 :: S) h = pX 1020 60 L S h := pX_tabIn (off := 26) d1020_34 (by decide) (by decide) (by decide) (by decide)
theorem x1020_34_1 {L S : List Value} {h : HP} : pX 1020 34 L (.int 1 :: S) h = pX 1020 68 L S h := pX_tabIn (off := 34) d1020_34 (by decide) (by decide) (by decide) (by decide)
theorem x1020_34_2 {L S : List Value} {h : HP} : pX 1020 34 L (.int 2 :: S) h = pX 1020 73 L S h := pX_tabIn (off := 39) d1020_34 (by decide) (by decide) (by decide) (by decide)
theorem x1020_34_d {L S : List Value} {h : HP} {x : Int32} (hx : x.toInt < 0 ∨ 2 < x.toInt) : pX 1020 34 L (.int x :: S) h = pX 1020 78 L S h := pX_tabOut d1020_34 hx (by decide)
theorem x1020_60 {S : List Value} {h : HP} {l1 l2 : Value} {a0 : Nat} : pX 1020 60 [.ref a0, l1, l2] S h = pX 1020 61 [.ref a0, l1, l2] (.ref a0 :: S) h := pX_stp d1020_60 rfl rfl rfl
theorem x1020_61 {L S : List Value} {h : HP} {a : Nat} (hk : hp_k h a = 11) : pX 1020 61 L (.ref a :: S) h = pX 1020 64 L (.ref (hp_a h a 0) :: S) h := pX_get d1020_61 rfl rfl hk
theorem x1020_64 {L S : List Value} {h : HP} {a : Nat} (hk : hp_k h a = 4) : pX 1020 64 L (.ref a :: S) h = pX 1020 67 L (.int (hp_i h a 7) :: S) h := pX_get d1020_64 rfl rfl hk
theorem x1020_67 {L : List Value} {h : HP} {x : Int32} : pX 1020 67 L [.int x] h = some (some (.int x), h) := pX_ret d1020_67 rfl
theorem x1020_68 {S : List Value} {h : HP} {l0 l1 : Value} {a0 : Nat} : pX 1020 68 [l0, l1, .ref a0] S h = pX 1020 69 [l0, l1, .ref a0] (.ref a0 :: S) h := pX_stp d1020_68 rfl rfl rfl
theorem x1020_69 {L S : List Value} {h : HP} {a : Nat} (hk : hp_k h a = 2) : pX 1020 69 L (.ref a :: S) h = pX 1020 72 L (.int (hp_i h a 3) :: S) h := pX_get d1020_69 rfl rfl hk
theorem x1020_72 {L : List Value} {h : HP} {x : Int32} : pX 1020 72 L [.int x] h = some (some (.int x), h) := pX_ret d1020_72 rfl
theorem x1020_73 {S : List Value} {h : HP} {l0 l1 : Value} {a0 : Nat} : pX 1020 73 [l0, l1, .ref a0] S h = pX 1020 74 [l0, l1, .ref a0] (.ref a0 :: S) h := pX_stp d1020_73 rfl rfl rfl
theorem x1020_74 {L S : List Value} {h : HP} {a : Nat} (hk : hp_k h a = 2) : pX 1020 74 L (.ref a :: S) h = pX 1020 77 L (.int (hp_i h a 4) :: S) h := pX_get d1020_74 rfl rfl hk
theorem x1020_77 {L : List Value} {h : HP} {x : Int32} : pX 1020 77 L [.int x] h = some (some (.int x), h) := pX_ret d1020_77 rfl
theorem x1020_78 {S : List Value} {h : HP} {l1 l2 : Value} {a0 : Nat} : pX 1020 78 [.ref a0, l1, l2] S h = pX 1020 79 [.ref a0, l1, l2] (.ref a0 :: S) h := pX_stp d1020_78 rfl rfl rfl
theorem x1020_79 {L S : List Value} {h : HP} {a : Nat} (hk : hp_k h a = 11) : pX 1020 79 L (.ref a :: S) h = pX 1020 82 L (.ref (hp_a h a 0) :: S) h := pX_get d1020_79 rfl rfl hk
theorem x1020_82 {L : List Value} {h : HP} {a0 : Nat} (hk : hp_k h a0 = 4) : pX 1020 82 L [.ref a0] h = (pX 304 0 [.ref a0, .retAddr 0, .retAddr 0] [] h).bind (fun q => pX 1020 85 L (q.1.toList ++ []) q.2) := pX_inv (a := a0) (t := 4) 304 [.ref a0] [] d1020_82 rfl rfl rfl hk
theorem x1020_85 {L : List Value} {h : HP} {x : Int32} : pX 1020 85 L [.int x] h = some (some (.int x), h) := pX_ret d1020_85 rfl
theorem d1021_0 : decode (mb 1021) 0 = .ok (.iload_n 1, 1) := by decide +kernel
theorem d1021_1 : decode (mb 1021) 1 = .ok (.iconst 0, 1) := by decide +kernel
theorem d1021_2 : decode (mb 1021) 2 = .ok (.bipush 7, 2) := by decide +kernel
theorem d1021_4 : decode (mb 1021) 4 = .ok (.invokestatic 30, 3) := by decide +kernel
theorem d1021_7 : decode (mb 1021) 7 = .ok (.ifCond .ne 12, 3) := by decide +kernel
theorem d1021_10 : decode (mb 1021) 10 = .ok (.iload_n 2, 1) := by decide +kernel
theorem d1021_11 : decode (mb 1021) 11 = .ok (.iconst 0, 1) := by decide +kernel
theorem d1021_12 : decode (mb 1021) 12 = .ok (.iconst 1, 1) := by decide +kernel
theorem d1021_13 : decode (mb 1021) 13 = .ok (.invokestatic 30, 3) := by decide +kernel
theorem d1021_16 : decode (mb 1021) 16 = .ok (.ifCond .eq 6, 3) := by decide +kernel
theorem d1021_19 : decode (mb 1021) 19 = .ok (.bipush (-2), 2) := by decide +kernel
theorem d1021_21 : decode (mb 1021) 21 = .ok (.ireturn, 1) := by decide +kernel
theorem d1021_22 : decode (mb 1021) 22 = .ok (.aload_n 0, 1) := by decide +kernel
theorem d1021_23 : decode (mb 1021) 23 = .ok (.getfield 10, 3) := by decide +kernel
theorem d1021_26 : decode (mb 1021) 26 = .ok (.invokevirtual 34, 3) := by decide +kernel
theorem d1021_29 : decode (mb 1021) 29 = .ok (.ifCond .ne 6, 3) := by decide +kernel
theorem d1021_32 : decode (mb 1021) 32 = .ok (.bipush (-3), 2) := by decide +kernel
theorem d1021_34 : decode (mb 1021) 34 = .ok (.ireturn, 1) := by decide +kernel
theorem d1021_35 : decode (mb 1021) 35 = .ok (.aload_n 0, 1) := by decide +kernel
theorem d1021_36 : decode (mb 1021) 36 = .ok (.getfield 10, 3) := by decide +kernel
theorem d1021_39 : decode (mb 1021) 39 = .ok (.invokevirtual 173, 3) := by decide +kernel
theorem d1021_42 : decode (mb 1021) 42 = .ok (.getfield 191, 3) := by decide +kernel
theorem d1021_45 : decode (mb 1021) 45 = .ok (.iload_n 1, 1) := by decide +kernel
theorem d1021_46 : decode (mb 1021) 46 = .ok (.aaload, 1) := by decide +kernel
theorem d1021_47 : decode (mb 1021) 47 = .ok (.astore_n 3, 1) := by decide +kernel
theorem d1021_48 : decode (mb 1021) 48 = .ok (.iload_n 2, 1) := by decide +kernel
theorem d1021_49 : decode (mb 1021) 49 = .ok (.ifCond .ne 10, 3) := by decide +kernel
theorem d1021_52 : decode (mb 1021) 52 = .ok (.aload_n 3, 1) := by decide +kernel
theorem d1021_53 : decode (mb 1021) 53 = .ok (.getfield 123, 3) := by decide +kernel
theorem d1021_56 : decode (mb 1021) 56 = .ok (.goto 7, 3) := by decide +kernel
theorem d1021_59 : decode (mb 1021) 59 = .ok (.aload_n 3, 1) := by decide +kernel
theorem d1021_60 : decode (mb 1021) 60 = .ok (.invokevirtual 126, 3) := by decide +kernel
theorem d1021_63 : decode (mb 1021) 63 = .ok (.ireturn, 1) := by decide +kernel
theorem x1021_0 {S : List Value} {h : HP} {l0 l2 l3 : Value} {x0 : Int32} : pX 1021 0 [l0, .int x0, l2, l3] S h = pX 1021 1 [l0, .int x0, l2, l3] (.int x0 :: S) h := pX_stp d1021_0 rfl rfl rfl
theorem x1021_1 {L S : List Value} {h : HP} : pX 1021 1 L S h = pX 1021 2 L (.int 0 :: S) h := pX_iconst d1021_1 (by decide)
theorem x1021_2 {L S : List Value} {h : HP} : pX 1021 2 L S h = pX 1021 4 L (.int 7 :: S) h := pX_bipush d1021_2 (by decide)
theorem x1021_4 {L : List Value} {h : HP} {x0 : Int32} {x1 : Int32} {x2 : Int32} : pX 1021 4 L [.int x0, .int x1, .int x2] h = (pX 1025 0 [.int x2, .int x1, .int x0] [] h).bind (fun q => pX 1021 7 L (q.1.toList ++ []) q.2) := pX_ins 1025 [.int x2, .int x1, .int x0] [] d1021_4 rfl rfl rfl
theorem x1021_7 {L S : List Value} {h : HP} {x : Int32} : pX 1021 7 L (.int x :: S) h = if x = 0 then pX 1021 10 L S h else pX 1021 19 L S h := pX_if_ne d1021_7 (by decide)
theorem x1021_10 {S : List Value} {h : HP} {l0 l1 l3 : Value} {x0 : Int32} : pX 1021 10 [l0, l1, .int x0, l3] S h = pX 1021 11 [l0, l1, .int x0, l3] (.int x0 :: S) h := pX_stp d1021_10 rfl rfl rfl
theorem x1021_11 {L S : List Value} {h : HP} : pX 1021 11 L S h = pX 1021 12 L (.int 0 :: S) h := pX_iconst d1021_11 (by decide)
theorem x1021_12 {L S : List Value} {h : HP} : pX 1021 12 L S h = pX 1021 13 L (.int 1 :: S) h := pX_iconst d1021_12 (by decide)
theorem x1021_13 {L : List Value} {h : HP} {x0 : Int32} {x1 : Int32} {x2 : Int32} : pX 1021 13 L [.int x0, .int x1, .int x2] h = (pX 1025 0 [.int x2, .int x1, .int x0] [] h).bind (fun q => pX 1021 16 L (q.1.toList ++ []) q.2) := pX_ins 1025 [.int x2, .int x1, .int x0] [] d1021_13 rfl rfl rfl
theorem x1021_16 {L S : List Value} {h : HP} {x : Int32} : pX 1021 16 L (.int x :: S) h = if x = 0 then pX 1021 22 L S h else pX 1021 19 L S h := pX_if_eq d1021_16 (by decide)
theorem x1021_19 {L S : List Value} {h : HP} : pX 1021 19 L S h = pX 1021 21 L (.int (-2) :: S) h := pX_bipush d1021_19 (by decide)
theorem x1021_21 {L : List Value} {h : HP} {x : Int32} : pX 1021 21 L [.int x] h = some (some (.int x), h) := pX_ret d1021_21 rfl
theorem x1021_22 {S : List Value} {h : HP} {l1 l2 l3 : Value} {a0 : Nat} : pX 1021 22 [.ref a0, l1, l2, l3] S h = pX 1021 23 [.ref a0, l1, l2, l3] (.ref a0 :: S) h := pX_stp d1021_22 rfl rfl rfl
theorem x1021_23 {L S : List Value} {h : HP} {a : Nat} (hk : hp_k h a = 11) : pX 1021 23 L (.ref a :: S) h = pX 1021 26 L (.ref (hp_a h a 0) :: S) h := pX_get d1021_23 rfl rfl hk
theorem x1021_26 {L : List Value} {h : HP} {a0 : Nat} (hk : hp_k h a0 = 4) : pX 1021 26 L [.ref a0] h = (pX 302 0 [.ref a0] [] h).bind (fun q => pX 1021 29 L (q.1.toList ++ []) q.2) := pX_inv (a := a0) (t := 4) 302 [.ref a0] [] d1021_26 rfl rfl rfl hk
theorem x1021_29 {L S : List Value} {h : HP} {x : Int32} : pX 1021 29 L (.int x :: S) h = if x = 0 then pX 1021 32 L S h else pX 1021 35 L S h := pX_if_ne d1021_29 (by decide)
theorem x1021_32 {L S : List Value} {h : HP} : pX 1021 32 L S h = pX 1021 34 L (.int (-3) :: S) h := pX_bipush d1021_32 (by decide)
theorem x1021_34 {L : List Value} {h : HP} {x : Int32} : pX 1021 34 L [.int x] h = some (some (.int x), h) := pX_ret d1021_34 rfl
theorem x1021_35 {S : List Value} {h : HP} {l1 l2 l3 : Value} {a0 : Nat} : pX 1021 35 [.ref a0, l1, l2, l3] S h = pX 1021 36 [.ref a0, l1, l2, l3] (.ref a0 :: S) h := pX_stp d1021_35 rfl rfl rfl
theorem x1021_36 {L S : List Value} {h : HP} {a : Nat} (hk : hp_k h a = 11) : pX 1021 36 L (.ref a :: S) h = pX 1021 39 L (.ref (hp_a h a 0) :: S) h := pX_get d1021_36 rfl rfl hk
theorem x1021_39 {L : List Value} {h : HP} {a0 : Nat} (hk : hp_k h a0 = 4) : pX 1021 39 L [.ref a0] h = (pX 303 0 [.ref a0] [] h).bind (fun q => pX 1021 42 L (q.1.toList ++ []) q.2) := pX_inv (a := a0) (t := 4) 303 [.ref a0] [] d1021_39 rfl rfl rfl hk
theorem x1021_42 {L S : List Value} {h : HP} {a : Nat} (hk : hp_k h a = 2) : pX 1021 42 L (.ref a :: S) h = pX 1021 45 L (.ref (hp_a h a 0) :: S) h := pX_get d1021_42 rfl rfl hk
theorem x1021_45 {S : List Value} {h : HP} {l0 l2 l3 : Value} {x0 : Int32} : pX 1021 45 [l0, .int x0, l2, l3] S h = pX 1021 46 [l0, .int x0, l2, l3] (.int x0 :: S) h := pX_stp d1021_45 rfl rfl rfl
theorem x1021_46 {L S : List Value} {h : HP} {a : Nat} {j : Int32} (hk : 200 ≤ hp_k h a) (hj : inb j (hp_l h a) = true) : pX 1021 46 L (.int j :: .ref a :: S) h = pX 1021 47 L (.ref (hp_a h a (ix j)) :: S) h := pX_ald d1021_46 hk hj
theorem x1021_47 {S : List Value} {h : HP} {l0 l1 l2 l3 : Value} {a0 : Nat} : pX 1021 47 [l0, l1, l2, l3] (.ref a0 :: S) h = pX 1021 48 [l0, l1, l2, .ref a0] S h := pX_stp d1021_47 rfl rfl rfl
theorem x1021_48 {S : List Value} {h : HP} {l0 l1 l3 : Value} {x0 : Int32} : pX 1021 48 [l0, l1, .int x0, l3] S h = pX 1021 49 [l0, l1, .int x0, l3] (.int x0 :: S) h := pX_stp d1021_48 rfl rfl rfl
theorem x1021_49 {L S : List Value} {h : HP} {x : Int32} : pX 1021 49 L (.int x :: S) h = if x = 0 then pX 1021 52 L S h else pX 1021 59 L S h := pX_if_ne d1021_49 (by decide)
theorem x1021_52 {S : List Value} {h : HP} {l0 l1 l2 : Value} {a0 : Nat} : pX 1021 52 [l0, l1, l2, .ref a0] S h = pX 1021 53 [l0, l1, l2, .ref a0] (.ref a0 :: S) h := pX_stp d1021_52 rfl rfl rfl
theorem x1021_53 {L S : List Value} {h : HP} {a : Nat} (hk : hp_k h a = 9) : pX 1021 53 L (.ref a :: S) h = pX 1021 56 L (.int (hp_i h a 0) :: S) h := pX_get d1021_53 rfl rfl hk
theorem x1021_56 {L S : List Value} {h : HP} : pX 1021 56 L S h = pX 1021 63 L S h := pX_goto d1021_56 (by decide)
theorem x1021_59 {S : List Value} {h : HP} {l0 l1 l2 : Value} {a0 : Nat} : pX 1021 59 [l0, l1, l2, .ref a0] S h = pX 1021 60 [l0, l1, l2, .ref a0] (.ref a0 :: S) h := pX_stp d1021_59 rfl rfl rfl
theorem x1021_60 {L : List Value} {h : HP} {a0 : Nat} (hk : hp_k h a0 = 9) : pX 1021 60 L [.ref a0] h = (pX 809 0 [.ref a0] [] h).bind (fun q => pX 1021 63 L (q.1.toList ++ []) q.2) := pX_inv (a := a0) (t := 9) 809 [.ref a0] [] d1021_60 rfl rfl rfl hk
theorem x1021_63 {L : List Value} {h : HP} {x : Int32} : pX 1021 63 L [.int x] h = some (some (.int x), h) := pX_ret d1021_63 rfl
theorem d1022_0 : decode (mb 1022) 0 = .ok (.aload_n 0, 1) := by decide +kernel
theorem d1022_1 : decode (mb 1022) 1 = .ok (.getfield 10, 3) := by decide +kernel
theorem d1022_4 : decode (mb 1022) 4 = .ok (.invokevirtual 34, 3) := by decide +kernel
theorem d1022_7 : decode (mb 1022) 7 = .ok (.ifCond .ne 6, 3) := by decide +kernel
theorem d1022_10 : decode (mb 1022) 10 = .ok (.bipush (-3), 2) := by decide +kernel
theorem d1022_12 : decode (mb 1022) 12 = .ok (.ireturn, 1) := by decide +kernel
theorem d1022_13 : decode (mb 1022) 13 = .ok (.aload_n 0, 1) := by decide +kernel
theorem d1022_14 : decode (mb 1022) 14 = .ok (.getfield 10, 3) := by decide +kernel
theorem d1022_17 : decode (mb 1022) 17 = .ok (.invokevirtual 194, 3) := by decide +kernel
theorem d1022_20 : decode (mb 1022) 20 = .ok (.pop, 1) := by decide +kernel
theorem d1022_21 : decode (mb 1022) 21 = .ok (.iconst 1, 1) := by decide +kernel
theorem d1022_22 : decode (mb 1022) 22 = .ok (.ireturn, 1) := by decide +kernel
theorem x1022_0 {S : List Value} {h : HP}  {a0 : Nat} : pX 1022 0 [.ref a0] S h = pX 1022 1 [.ref a0] (.ref a0 :: S) h := pX_stp d1022_0 rfl rfl rfl
theorem x1022_1 {L S : List Value} {h : HP} {a : Nat} (hk : hp_k h a = 11) : pX 1022 1 L (.ref a :: S) h = pX 1022 4 L (.ref (hp_a h a 0) :: S) h := pX_get d1022_1 rfl rfl hk
theorem x1022_4 {L : List Value} {h : HP} {a0 : Nat} (hk : hp_k h a0 = 4) : pX 1022 4 L [.ref a0] h = (pX 302 0 [.ref a0] [] h).bind (fun q => pX 1022 7 L (q.1.toList ++ []) q.2) := pX_inv (a := a0) (t := 4) 302 [.ref a0] [] d1022_4 rfl rfl rfl hk
theorem x1022_7 {L S : List Value} {h : HP} {x : Int32} : pX 1022 7 L (.int x :: S) h = if x = 0 then pX 1022 10 L S h else pX 1022 13 L S h := pX_if_ne d1022_7 (by decide)
theorem x1022_10 {L S : List Value} {h : HP} : pX 1022 10 L S h = pX 1022 12 L (.int (-3) :: S) h := pX_bipush d1022_10 (by decide)
theorem x1022_12 {L : List Value} {h : HP} {x : Int32} : pX 1022 12 L [.int x] h = some (some (.int x), h) := pX_ret d1022_12 rfl
theorem x1022_13 {S : List Value} {h : HP}  {a0 : Nat} : pX 1022 13 [.ref a0] S h = pX 1022 14 [.ref a0] (.ref a0 :: S) h := pX_stp d1022_13 rfl rfl rfl
theorem x1022_14 {L S : List Value} {h : HP} {a : Nat} (hk : hp_k h a = 11) : pX 1022 14 L (.ref a :: S) h = pX 1022 17 L (.ref (hp_a h a 0) :: S) h := pX_get d1022_14 rfl rfl hk
theorem x1022_17 {L : List Value} {h : HP} {a0 : Nat} (hk : hp_k h a0 = 4) : pX 1022 17 L [.ref a0] h = (pX 313 0 [.ref a0, .retAddr 0] [] h).bind (fun q => pX 1022 20 L (q.1.toList ++ []) q.2) := pX_inv (a := a0) (t := 4) 313 [.ref a0] [] d1022_17 rfl rfl rfl hk
theorem x1022_20 {L S : List Value} {h : HP} {x0 : Int32} : pX 1022 20 L (.int x0 :: S) h = pX 1022 21 L S h := pX_stp d1022_20 rfl rfl rfl
theorem x1022_21 {L S : List Value} {h : HP} : pX 1022 21 L S h = pX 1022 22 L (.int 1 :: S) h := pX_iconst d1022_21 (by decide)
theorem x1022_22 {L : List Value} {h : HP} {x : Int32} : pX 1022 22 L [.int x] h = some (some (.int x), h) := pX_ret d1022_22 rfl
theorem d1023_0 : decode (mb 1023) 0 = .ok (.iload_n 1, 1) := by decide +kernel
theorem d1023_1 : decode (mb 1023) 1 = .ok (.tableswitch 95 0 5 #[39, 47, 55, 63, 71, 79], 39) := by decide +kernel
theorem d1023_40 : decode (mb 1023) 40 = .ok (.aload_n 0, 1) := by decide +kernel
theorem d1023_41 : decode (mb 1023) 41 = .ok (.getfield 10, 3) := by decide +kernel
theorem d1023_44 : decode (mb 1023) 44 = .ok (.getfield 38, 3) := by decide +kernel
theorem d1023_47 : decode (mb 1023) 47 = .ok (.ireturn, 1) := by decide +kernel
theorem d1023_48 : decode (mb 1023) 48 = .ok (.aload_n 0, 1) := by decide +kernel
theorem d1023_49 : decode (mb 1023) 49 = .ok (.getfield 10, 3) := by decide +kernel
theorem d1023_52 : decode (mb 1023) 52 = .ok (.getfield 197, 3) := by decide +kernel
theorem d1023_55 : decode (mb 1023) 55 = .ok (.ireturn, 1) := by decide +kernel
theorem d1023_56 : decode (mb 1023) 56 = .ok (.aload_n 0, 1) := by decide +kernel
theorem d1023_57 : decode (mb 1023) 57 = .ok (.getfield 10, 3) := by decide +kernel
theorem d1023_60 : decode (mb 1023) 60 = .ok (.getfield 200, 3) := by decide +kernel
theorem d1023_63 : decode (mb 1023) 63 = .ok (.ireturn, 1) := by decide +kernel
theorem d1023_64 : decode (mb 1023) 64 = .ok (.aload_n 0, 1) := by decide +kernel
theorem d1023_65 : decode (mb 1023) 65 = .ok (.getfield 10, 3) := by decide +kernel
theorem d1023_68 : decode (mb 1023) 68 = .ok (.getfield 203, 3) := by decide +kernel
theorem d1023_71 : decode (mb 1023) 71 = .ok (.ireturn, 1) := by decide +kernel
theorem d1023_72 : decode (mb 1023) 72 = .ok (.aload_n 0, 1) := by decide +kernel
theorem d1023_73 : decode (mb 1023) 73 = .ok (.getfield 10, 3) := by decide +kernel
theorem d1023_76 : decode (mb 1023) 76 = .ok (.getfield 206, 3) := by decide +kernel
theorem d1023_79 : decode (mb 1023) 79 = .ok (.ireturn, 1) := by decide +kernel
theorem d1023_80 : decode (mb 1023) 80 = .ok (.aload_n 0, 1) := by decide +kernel
theorem d1023_81 : decode (mb 1023) 81 = .ok (.getfield 10, 3) := by decide +kernel
theorem d1023_84 : decode (mb 1023) 84 = .ok (.invokevirtual 34, 3) := by decide +kernel
theorem d1023_87 : decode (mb 1023) 87 = .ok (.ifCond .eq 7, 3) := by decide +kernel
theorem d1023_90 : decode (mb 1023) 90 = .ok (.iconst 1, 1) := by decide +kernel
theorem d1023_91 : decode (mb 1023) 91 = .ok (.goto 4, 3) := by decide +kernel
theorem d1023_94 : decode (mb 1023) 94 = .ok (.iconst 0, 1) := by decide +kernel
theorem d1023_95 : decode (mb 1023) 95 = .ok (.ireturn, 1) := by decide +kernel
theorem d1023_96 : decode (mb 1023) 96 = .ok (.bipush (-2), 2) := by decide +kernel
theorem d1023_98 : decode (mb 1023) 98 = .ok (.ireturn, 1) := by decide +kernel
theorem x1023_0 {S : List Value} {h : HP} {l0 : Value} {x0 : Int32} : pX 1023 0 [l0, .int x0] S h = pX 1023 1 [l0, .int x0] (.int x0 :: S) h := pX_stp d1023_0 rfl rfl rfl
theorem x1023_1_0 {L S : List Value} {h : HP} : pX 1023 1 L (.int 0 :: S) h = pX 1023 40 L S h := pX_tabIn (off := 39) d1023_1 (by decide) (by decide) (by decide) (by decide)
theorem x1023_1_1 {L S : List Value} {h : HP} : pX 1023 1 L (.int 1 :: S) h = pX 1023 48 L S h := pX_tabIn (off := 47) d1023_1 (by decide) (by decide) (by decide) (by decide)
theorem x1023_1_2 {L S : List Value} {h : HP} : pX 1023 1 L (.int 2 :: S) h = pX 1023 56 L S h := pX_tabIn (off := 55) d1023_1 (by decide) (by decide) (by decide) (by decide)
theorem x1023_1_3 {L S : List Value} {h : HP} : pX 1023 1 L (.int 3 :: S) h = pX 1023 64 L S h := pX_tabIn (off := 63) d1023_1 (by decide) (by decide) (by decide) (by decide)
theorem x1023_1_4 {L S : List Value} {h : HP} : pX 1023 1 L (.int 4 :: S) h = pX 1023 72 L S h := pX_tabIn (off := 71) d1023_1 (by decide) (by decide) (by decide) (by decide)
theorem x1023_1_5 {L S : List Value} {h : HP} : pX 1023 1 L (.int 5 :: S) h = pX 1023 80 L S h := pX_tabIn (off := 79) d1023_1 (by decide) (by decide) (by decide) (by decide)
theorem x1023_1_d {L S : List Value} {h : HP} {x : Int32} (hx : x.toInt < 0 ∨ 5 < x.toInt) : pX 1023 1 L (.int x :: S) h = pX 1023 96 L S h := pX_tabOut d1023_1 hx (by decide)
theorem x1023_40 {S : List Value} {h : HP} {l1 : Value} {a0 : Nat} : pX 1023 40 [.ref a0, l1] S h = pX 1023 41 [.ref a0, l1] (.ref a0 :: S) h := pX_stp d1023_40 rfl rfl rfl
theorem x1023_41 {L S : List Value} {h : HP} {a : Nat} (hk : hp_k h a = 11) : pX 1023 41 L (.ref a :: S) h = pX 1023 44 L (.ref (hp_a h a 0) :: S) h := pX_get d1023_41 rfl rfl hk
theorem x1023_44 {L S : List Value} {h : HP} {a : Nat} (hk : hp_k h a = 4) : pX 1023 44 L (.ref a :: S) h = pX 1023 47 L (.int (hp_i h a 1) :: S) h := pX_get d1023_44 rfl rfl hk
theorem x1023_47 {L : List Value} {h : HP} {x : Int32} : pX 1023 47 L [.int x] h = some (some (.int x), h) := pX_ret d1023_47 rfl
theorem x1023_48 {S : List Value} {h : HP} {l1 : Value} {a0 : Nat} : pX 1023 48 [.ref a0, l1] S h = pX 1023 49 [.ref a0, l1] (.ref a0 :: S) h := pX_stp d1023_48 rfl rfl rfl
theorem x1023_49 {L S : List Value} {h : HP} {a : Nat} (hk : hp_k h a = 11) : pX 1023 49 L (.ref a :: S) h = pX 1023 52 L (.ref (hp_a h a 0) :: S) h := pX_get d1023_49 rfl rfl hk
theorem x1023_52 {L S : List Value} {h : HP} {a : Nat} (hk : hp_k h a = 4) : pX 1023 52 L (.ref a :: S) h = pX 1023 55 L (.int (hp_i h a 12) :: S) h := pX_get d1023_52 rfl rfl hk
theorem x1023_55 {L : List Value} {h : HP} {x : Int32} : pX 1023 55 L [.int x] h = some (some (.int x), h) := pX_ret d1023_55 rfl
theorem x1023_56 {S : List Value} {h : HP} {l1 : Value} {a0 : Nat} : pX 1023 56 [.ref a0, l1] S h = pX 1023 57 [.ref a0, l1] (.ref a0 :: S) h := pX_stp d1023_56 rfl rfl rfl
theorem x1023_57 {L S : List Value} {h : HP} {a : Nat} (hk : hp_k h a = 11) : pX 1023 57 L (.ref a :: S) h = pX 1023 60 L (.ref (hp_a h a 0) :: S) h := pX_get d1023_57 rfl rfl hk
theorem x1023_60 {L S : List Value} {h : HP} {a : Nat} (hk : hp_k h a = 4) : pX 1023 60 L (.ref a :: S) h = pX 1023 63 L (.int (hp_i h a 13) :: S) h := pX_get d1023_60 rfl rfl hk
theorem x1023_63 {L : List Value} {h : HP} {x : Int32} : pX 1023 63 L [.int x] h = some (some (.int x), h) := pX_ret d1023_63 rfl
theorem x1023_64 {S : List Value} {h : HP} {l1 : Value} {a0 : Nat} : pX 1023 64 [.ref a0, l1] S h = pX 1023 65 [.ref a0, l1] (.ref a0 :: S) h := pX_stp d1023_64 rfl rfl rfl
theorem x1023_65 {L S : List Value} {h : HP} {a : Nat} (hk : hp_k h a = 11) : pX 1023 65 L (.ref a :: S) h = pX 1023 68 L (.ref (hp_a h a 0) :: S) h := pX_get d1023_65 rfl rfl hk
theorem x1023_68 {L S : List Value} {h : HP} {a : Nat} (hk : hp_k h a = 4) : pX 1023 68 L (.ref a :: S) h = pX 1023 71 L (.int (hp_i h a 14) :: S) h := pX_get d1023_68 rfl rfl hk
theorem x1023_71 {L : List Value} {h : HP} {x : Int32} : pX 1023 71 L [.int x] h = some (some (.int x), h) := pX_ret d1023_71 rfl
theorem x1023_72 {S : List Value} {h : HP} {l1 : Value} {a0 : Nat} : pX 1023 72 [.ref a0, l1] S h = pX 1023 73 [.ref a0, l1] (.ref a0 :: S) h := pX_stp d1023_72 rfl rfl rfl
theorem x1023_73 {L S : List Value} {h : HP} {a : Nat} (hk : hp_k h a = 11) : pX 1023 73 L (.ref a :: S) h = pX 1023 76 L (.ref (hp_a h a 0) :: S) h := pX_get d1023_73 rfl rfl hk
theorem x1023_76 {L S : List Value} {h : HP} {a : Nat} (hk : hp_k h a = 4) : pX 1023 76 L (.ref a :: S) h = pX 1023 79 L (.int (hp_i h a 15) :: S) h := pX_get d1023_76 rfl rfl hk
theorem x1023_79 {L : List Value} {h : HP} {x : Int32} : pX 1023 79 L [.int x] h = some (some (.int x), h) := pX_ret d1023_79 rfl
theorem x1023_80 {S : List Value} {h : HP} {l1 : Value} {a0 : Nat} : pX 1023 80 [.ref a0, l1] S h = pX 1023 81 [.ref a0, l1] (.ref a0 :: S) h := pX_stp d1023_80 rfl rfl rfl
theorem x1023_81 {L S : List Value} {h : HP} {a : Nat} (hk : hp_k h a = 11) : pX 1023 81 L (.ref a :: S) h = pX 1023 84 L (.ref (hp_a h a 0) :: S) h := pX_get d1023_81 rfl rfl hk
theorem x1023_84 {L : List Value} {h : HP} {a0 : Nat} (hk : hp_k h a0 = 4) : pX 1023 84 L [.ref a0] h = (pX 302 0 [.ref a0] [] h).bind (fun q => pX 1023 87 L (q.1.toList ++ []) q.2) := pX_inv (a := a0) (t := 4) 302 [.ref a0] [] d1023_84 rfl rfl rfl hk
theorem x1023_87 {L S : List Value} {h : HP} {x : Int32} : pX 1023 87 L (.int x :: S) h = if x = 0 then pX 1023 94 L S h else pX 1023 90 L S h := pX_if_eq d1023_87 (by decide)
theorem x1023_90 {L S : List Value} {h : HP} : pX 1023 90 L S h = pX 1023 91 L (.int 1 :: S) h := pX_iconst d1023_90 (by decide)
theorem x1023_91 {L S : List Value} {h : HP} : pX 1023 91 L S h = pX 1023 95 L S h := pX_goto d1023_91 (by decide)
theorem x1023_94 {L S : List Value} {h : HP} : pX 1023 94 L S h = pX 1023 95 L (.int 0 :: S) h := pX_iconst d1023_94 (by decide)
theorem x1023_95 {L : List Value} {h : HP} {x : Int32} : pX 1023 95 L [.int x] h = some (some (.int x), h) := pX_ret d1023_95 rfl
theorem x1023_96 {L S : List Value} {h : HP} : pX 1023 96 L S h = pX 1023 98 L (.int (-2) :: S) h := pX_bipush d1023_96 (by decide)
theorem x1023_98 {L : List Value} {h : HP} {x : Int32} : pX 1023 98 L [.int x] h = some (some (.int x), h) := pX_ret d1023_98 rfl
theorem d1024_0 : decode (mb 1024) 0 = .ok (.aload_n 0, 1) := by decide +kernel
theorem d1024_1 : decode (mb 1024) 1 = .ok (.getfield 10, 3) := by decide +kernel
theorem d1024_4 : decode (mb 1024) 4 = .ok (.iload_n 1, 1) := by decide +kernel
theorem d1024_5 : decode (mb 1024) 5 = .ok (.invokevirtual 51, 3) := by decide +kernel
theorem d1024_8 : decode (mb 1024) 8 = .ok (.ifCond .eq 5, 3) := by decide +kernel
theorem d1024_11 : decode (mb 1024) 11 = .ok (.iconst (-1), 1) := by decide +kernel
theorem d1024_12 : decode (mb 1024) 12 = .ok (.ireturn, 1) := by decide +kernel
theorem d1024_13 : decode (mb 1024) 13 = .ok (.iload_n 2, 1) := by decide +kernel
theorem d1024_14 : decode (mb 1024) 14 = .ok (.iconst 0, 1) := by decide +kernel
theorem d1024_15 : decode (mb 1024) 15 = .ok (.sipush 1000, 3) := by decide +kernel
theorem d1024_18 : decode (mb 1024) 18 = .ok (.invokestatic 30, 3) := by decide +kernel
theorem d1024_21 : decode (mb 1024) 21 = .ok (.ifCond .eq 6, 3) := by decide +kernel
theorem d1024_24 : decode (mb 1024) 24 = .ok (.bipush (-2), 2) := by decide +kernel
theorem d1024_26 : decode (mb 1024) 26 = .ok (.ireturn, 1) := by decide +kernel
theorem d1024_27 : decode (mb 1024) 27 = .ok (.aload_n 0, 1) := by decide +kernel
theorem d1024_28 : decode (mb 1024) 28 = .ok (.getfield 10, 3) := by decide +kernel
theorem d1024_31 : decode (mb 1024) 31 = .ok (.invokevirtual 34, 3) := by decide +kernel
theorem d1024_34 : decode (mb 1024) 34 = .ok (.ifCond .eq 8, 3) := by decide +kernel
theorem d1024_37 : decode (mb 1024) 37 = .ok (.bipush (-3), 2) := by decide +kernel
theorem d1024_39 : decode (mb 1024) 39 = .ok (.goto 4, 3) := by decide +kernel
theorem d1024_42 : decode (mb 1024) 42 = .ok (.iconst 0, 1) := by decide +kernel
theorem d1024_43 : decode (mb 1024) 43 = .ok (.ireturn, 1) := by decide +kernel
theorem x1024_0 {S : List Value} {h : HP} {l1 l2 : Value} {a0 : Nat} : pX 1024 0 [.ref a0, l1, l2] S h = pX 1024 1 [.ref a0, l1, l2] (.ref a0 :: S) h := pX_stp d1024_0 rfl rfl rfl
theorem x1024_1 {L S : List Value} {h : HP} {a : Nat} (hk : hp_k h a = 11) : pX 1024 1 L (.ref a :: S) h = pX 1024 4 L (.ref (hp_a h a 0) :: S) h := pX_get d1024_1 rfl rfl hk
theorem x1024_4 {S : List Value} {h : HP} {l0 l2 : Value} {x0 : Int32} : pX 1024 4 [l0, .int x0, l2] S h = pX 1024 5 [l0, .int x0, l2] (.int x0 :: S) h := pX_stp d1024_4 rfl rfl rfl
theorem x1024_5 {L : List Value} {h : HP} {x0 : Int32} {a0 : Nat} (hk : hp_k h a0 = 4) : pX 1024 5 L [.int x0, .ref a0] h = (pX 301 0 [.ref a0, .int x0] [] h).bind (fun q => pX 1024 8 L (q.1.toList ++ []) q.2) := pX_inv (a := a0) (t := 4) 301 [.ref a0, .int x0] [] d1024_5 rfl rfl rfl hk
theorem x1024_8 {L S : List Value} {h : HP} {x : Int32} : pX 1024 8 L (.int x :: S) h = if x = 0 then pX 1024 13 L S h else pX 1024 11 L S h := pX_if_eq d1024_8 (by decide)
theorem x1024_11 {L S : List Value} {h : HP} : pX 1024 11 L S h = pX 1024 12 L (.int (-1) :: S) h := pX_iconst d1024_11 (by decide)
theorem x1024_12 {L : List Value} {h : HP} {x : Int32} : pX 1024 12 L [.int x] h = some (some (.int x), h) := pX_ret d1024_12 rfl
theorem x1024_13 {S : List Value} {h : HP} {l0 l1 : Value} {x0 : Int32} : pX 1024 13 [l0, l1, .int x0] S h = pX 1024 14 [l0, l1, .int x0] (.int x0 :: S) h := pX_stp d1024_13 rfl rfl rfl
theorem x1024_14 {L S : List Value} {h : HP} : pX 1024 14 L S h = pX 1024 15 L (.int 0 :: S) h := pX_iconst d1024_14 (by decide)
theorem x1024_15 {L S : List Value} {h : HP} : pX 1024 15 L S h = pX 1024 18 L (.int 1000 :: S) h := pX_sipush d1024_15 (by decide)
theorem x1024_18 {L : List Value} {h : HP} {x0 : Int32} {x1 : Int32} {x2 : Int32} : pX 1024 18 L [.int x0, .int x1, .int x2] h = (pX 1025 0 [.int x2, .int x1, .int x0] [] h).bind (fun q => pX 1024 21 L (q.1.toList ++ []) q.2) := pX_ins 1025 [.int x2, .int x1, .int x0] [] d1024_18 rfl rfl rfl
theorem x1024_21 {L S : List Value} {h : HP} {x : Int32} : pX 1024 21 L (.int x :: S) h = if x = 0 then pX 1024 27 L S h else pX 1024 24 L S h := pX_if_eq d1024_21 (by decide)
theorem x1024_24 {L S : List Value} {h : HP} : pX 1024 24 L S h = pX 1024 26 L (.int (-2) :: S) h := pX_bipush d1024_24 (by decide)
theorem x1024_26 {L : List Value} {h : HP} {x : Int32} : pX 1024 26 L [.int x] h = some (some (.int x), h) := pX_ret d1024_26 rfl
theorem x1024_27 {S : List Value} {h : HP} {l1 l2 : Value} {a0 : Nat} : pX 1024 27 [.ref a0, l1, l2] S h = pX 1024 28 [.ref a0, l1, l2] (.ref a0 :: S) h := pX_stp d1024_27 rfl rfl rfl
theorem x1024_28 {L S : List Value} {h : HP} {a : Nat} (hk : hp_k h a = 11) : pX 1024 28 L (.ref a :: S) h = pX 1024 31 L (.ref (hp_a h a 0) :: S) h := pX_get d1024_28 rfl rfl hk
theorem x1024_31 {L : List Value} {h : HP} {a0 : Nat} (hk : hp_k h a0 = 4) : pX 1024 31 L [.ref a0] h = (pX 302 0 [.ref a0] [] h).bind (fun q => pX 1024 34 L (q.1.toList ++ []) q.2) := pX_inv (a := a0) (t := 4) 302 [.ref a0] [] d1024_31 rfl rfl rfl hk
theorem x1024_34 {L S : List Value} {h : HP} {x : Int32} : pX 1024 34 L (.int x :: S) h = if x = 0 then pX 1024 42 L S h else pX 1024 37 L S h := pX_if_eq d1024_34 (by decide)
theorem x1024_37 {L S : List Value} {h : HP} : pX 1024 37 L S h = pX 1024 39 L (.int (-3) :: S) h := pX_bipush d1024_37 (by decide)
theorem x1024_39 {L S : List Value} {h : HP} : pX 1024 39 L S h = pX 1024 43 L S h := pX_goto d1024_39 (by decide)
theorem x1024_42 {L S : List Value} {h : HP} : pX 1024 42 L S h = pX 1024 43 L (.int 0 :: S) h := pX_iconst d1024_42 (by decide)
theorem x1024_43 {L : List Value} {h : HP} {x : Int32} : pX 1024 43 L [.int x] h = some (some (.int x), h) := pX_ret d1024_43 rfl
theorem d1025_0 : decode (mb 1025) 0 = .ok (.iload_n 0, 1) := by decide +kernel
theorem d1025_1 : decode (mb 1025) 1 = .ok (.iload_n 1, 1) := by decide +kernel
theorem d1025_2 : decode (mb 1025) 2 = .ok (.if_icmp .lt 8, 3) := by decide +kernel
theorem d1025_5 : decode (mb 1025) 5 = .ok (.iload_n 0, 1) := by decide +kernel
theorem d1025_6 : decode (mb 1025) 6 = .ok (.iload_n 2, 1) := by decide +kernel
theorem d1025_7 : decode (mb 1025) 7 = .ok (.if_icmp .le 7, 3) := by decide +kernel
theorem d1025_10 : decode (mb 1025) 10 = .ok (.iconst 1, 1) := by decide +kernel
theorem d1025_11 : decode (mb 1025) 11 = .ok (.goto 4, 3) := by decide +kernel
theorem d1025_14 : decode (mb 1025) 14 = .ok (.iconst 0, 1) := by decide +kernel
theorem d1025_15 : decode (mb 1025) 15 = .ok (.ireturn, 1) := by decide +kernel
theorem x1025_0 {S : List Value} {h : HP} {l1 l2 : Value} {x0 : Int32} : pX 1025 0 [.int x0, l1, l2] S h = pX 1025 1 [.int x0, l1, l2] (.int x0 :: S) h := pX_stp d1025_0 rfl rfl rfl
theorem x1025_1 {S : List Value} {h : HP} {l0 l2 : Value} {x0 : Int32} : pX 1025 1 [l0, .int x0, l2] S h = pX 1025 2 [l0, .int x0, l2] (.int x0 :: S) h := pX_stp d1025_1 rfl rfl rfl
theorem x1025_2 {L S : List Value} {h : HP} {x y : Int32} : pX 1025 2 L (.int y :: .int x :: S) h = if x < y then pX 1025 10 L S h else pX 1025 5 L S h := pX_icmp_lt d1025_2 (by decide)
theorem x1025_5 {S : List Value} {h : HP} {l1 l2 : Value} {x0 : Int32} : pX 1025 5 [.int x0, l1, l2] S h = pX 1025 6 [.int x0, l1, l2] (.int x0 :: S) h := pX_stp d1025_5 rfl rfl rfl
theorem x1025_6 {S : List Value} {h : HP} {l0 l1 : Value} {x0 : Int32} : pX 1025 6 [l0, l1, .int x0] S h = pX 1025 7 [l0, l1, .int x0] (.int x0 :: S) h := pX_stp d1025_6 rfl rfl rfl
theorem x1025_7 {L S : List Value} {h : HP} {x y : Int32} : pX 1025 7 L (.int y :: .int x :: S) h = if x ≤ y then pX 1025 14 L S h else pX 1025 10 L S h := pX_icmp_le d1025_7 (by decide)
theorem x1025_10 {L S : List Value} {h : HP} : pX 1025 10 L S h = pX 1025 11 L (.int 1 :: S) h := pX_iconst d1025_10 (by decide)
theorem x1025_11 {L S : List Value} {h : HP} : pX 1025 11 L S h = pX 1025 15 L S h := pX_goto d1025_11 (by decide)
theorem x1025_14 {L S : List Value} {h : HP} : pX 1025 14 L S h = pX 1025 15 L (.int 0 :: S) h := pX_iconst d1025_14 (by decide)
theorem x1025_15 {L : List Value} {h : HP} {x : Int32} (hx : x = 0 ∨ x = 1) : pX 1025 15 L [.int x] h = some (some (.int x), h) := pX_ret d1025_15 (by rcases hx with rfl | rfl <;> rfl)
theorem d1026_0 : decode (mb 1026) 0 = .ok (.getstatic 209, 3) := by decide +kernel
theorem d1026_3 : decode (mb 1026) 3 = .ok (.iload_n 0, 1) := by decide +kernel
theorem d1026_4 : decode (mb 1026) 4 = .ok (.iaload, 1) := by decide +kernel
theorem d1026_5 : decode (mb 1026) 5 = .ok (.getstatic 212, 3) := by decide +kernel
theorem d1026_8 : decode (mb 1026) 8 = .ok (.iload_n 0, 1) := by decide +kernel
theorem d1026_9 : decode (mb 1026) 9 = .ok (.iaload, 1) := by decide +kernel
theorem d1026_10 : decode (mb 1026) 10 = .ok (.ior, 1) := by decide +kernel
theorem d1026_11 : decode (mb 1026) 11 = .ok (.istore 4, 2) := by decide +kernel
theorem d1026_13 : decode (mb 1026) 13 = .ok (.iload 4, 2) := by decide +kernel
theorem d1026_15 : decode (mb 1026) 15 = .ok (.iconst 1, 1) := by decide +kernel
theorem d1026_16 : decode (mb 1026) 16 = .ok (.iand, 1) := by decide +kernel
theorem d1026_17 : decode (mb 1026) 17 = .ok (.ifCond .eq 13, 3) := by decide +kernel
theorem d1026_20 : decode (mb 1026) 20 = .ok (.iload_n 1, 1) := by decide +kernel
theorem d1026_21 : decode (mb 1026) 21 = .ok (.iconst 0, 1) := by decide +kernel
theorem d1026_22 : decode (mb 1026) 22 = .ok (.bipush 7, 2) := by decide +kernel
theorem d1026_24 : decode (mb 1026) 24 = .ok (.invokestatic 30, 3) := by decide +kernel
theorem d1026_27 : decode (mb 1026) 27 = .ok (.ifCond .ne 37, 3) := by decide +kernel
theorem d1026_30 : decode (mb 1026) 30 = .ok (.iload 4, 2) := by decide +kernel
theorem d1026_32 : decode (mb 1026) 32 = .ok (.iconst 2, 1) := by decide +kernel
theorem d1026_33 : decode (mb 1026) 33 = .ok (.iand, 1) := by decide +kernel
theorem d1026_34 : decode (mb 1026) 34 = .ok (.ifCond .eq 13, 3) := by decide +kernel
theorem d1026_37 : decode (mb 1026) 37 = .ok (.iload_n 2, 1) := by decide +kernel
theorem d1026_38 : decode (mb 1026) 38 = .ok (.iconst 0, 1) := by decide +kernel
theorem d1026_39 : decode (mb 1026) 39 = .ok (.bipush 7, 2) := by decide +kernel
theorem d1026_41 : decode (mb 1026) 41 = .ok (.invokestatic 30, 3) := by decide +kernel
theorem d1026_44 : decode (mb 1026) 44 = .ok (.ifCond .ne 20, 3) := by decide +kernel
theorem d1026_47 : decode (mb 1026) 47 = .ok (.iload 4, 2) := by decide +kernel
theorem d1026_49 : decode (mb 1026) 49 = .ok (.iconst 4, 1) := by decide +kernel
theorem d1026_50 : decode (mb 1026) 50 = .ok (.iand, 1) := by decide +kernel
theorem d1026_51 : decode (mb 1026) 51 = .ok (.ifCond .eq 17, 3) := by decide +kernel
theorem d1026_54 : decode (mb 1026) 54 = .ok (.iload_n 3, 1) := by decide +kernel
theorem d1026_55 : decode (mb 1026) 55 = .ok (.iconst 0, 1) := by decide +kernel
theorem d1026_56 : decode (mb 1026) 56 = .ok (.bipush 7, 2) := by decide +kernel
theorem d1026_58 : decode (mb 1026) 58 = .ok (.invokestatic 30, 3) := by decide +kernel
theorem d1026_61 : decode (mb 1026) 61 = .ok (.ifCond .eq 7, 3) := by decide +kernel
theorem d1026_64 : decode (mb 1026) 64 = .ok (.iconst 1, 1) := by decide +kernel
theorem d1026_65 : decode (mb 1026) 65 = .ok (.goto 4, 3) := by decide +kernel
theorem d1026_68 : decode (mb 1026) 68 = .ok (.iconst 0, 1) := by decide +kernel
theorem d1026_69 : decode (mb 1026) 69 = .ok (.ireturn, 1) := by decide +kernel
theorem x1026_0 {L S : List Value} {h : HP} : pX 1026 0 L S h = pX 1026 3 L (.ref 2 :: S) h := pX_gets d1026_0 rfl
theorem x1026_3 {S : List Value} {h : HP} {l1 l2 l3 l4 : Value} {x0 : Int32} : pX 1026 3 [.int x0, l1, l2, l3, l4] S h = pX 1026 4 [.int x0, l1, l2, l3, l4] (.int x0 :: S) h := pX_stp d1026_3 rfl rfl rfl
theorem x1026_4 {L S : List Value} {h : HP} {a : Nat} {j : Int32} (hk : hp_k h a = 100) (hj : inb j (hp_l h a) = true) : pX 1026 4 L (.int j :: .ref a :: S) h = pX 1026 5 L (.int (hp_i h a (ix j)) :: S) h := pX_ild d1026_4 hk hj
theorem x1026_4R {L S : List Value} {h : HP} {a : Nat} {j : Int32} (hk : hp_k h a = 99) (hj : inb j (hp_l h a) = true) : pX 1026 4 L (.int j :: .ref a :: S) h = pX 1026 5 L (.int (hp_i h a (ix j)) :: S) h := pX_ildR d1026_4 hk hj
theorem x1026_5 {L S : List Value} {h : HP} : pX 1026 5 L S h = pX 1026 8 L (.ref 3 :: S) h := pX_gets d1026_5 rfl
theorem x1026_8 {S : List Value} {h : HP} {l1 l2 l3 l4 : Value} {x0 : Int32} : pX 1026 8 [.int x0, l1, l2, l3, l4] S h = pX 1026 9 [.int x0, l1, l2, l3, l4] (.int x0 :: S) h := pX_stp d1026_8 rfl rfl rfl
theorem x1026_9 {L S : List Value} {h : HP} {a : Nat} {j : Int32} (hk : hp_k h a = 100) (hj : inb j (hp_l h a) = true) : pX 1026 9 L (.int j :: .ref a :: S) h = pX 1026 10 L (.int (hp_i h a (ix j)) :: S) h := pX_ild d1026_9 hk hj
theorem x1026_9R {L S : List Value} {h : HP} {a : Nat} {j : Int32} (hk : hp_k h a = 99) (hj : inb j (hp_l h a) = true) : pX 1026 9 L (.int j :: .ref a :: S) h = pX 1026 10 L (.int (hp_i h a (ix j)) :: S) h := pX_ildR d1026_9 hk hj
theorem x1026_10 {L S : List Value} {h : HP} {x y : Int32} : pX 1026 10 L (.int y :: .int x :: S) h = pX 1026 11 L (.int (x ||| y) :: S) h := pX_stp d1026_10 rfl rfl rfl
theorem x1026_11 {S : List Value} {h : HP} {l0 l1 l2 l3 l4 : Value} {x0 : Int32} : pX 1026 11 [l0, l1, l2, l3, l4] (.int x0 :: S) h = pX 1026 13 [l0, l1, l2, l3, .int x0] S h := pX_stp d1026_11 rfl rfl rfl
theorem x1026_13 {S : List Value} {h : HP} {l0 l1 l2 l3 : Value} {x0 : Int32} : pX 1026 13 [l0, l1, l2, l3, .int x0] S h = pX 1026 15 [l0, l1, l2, l3, .int x0] (.int x0 :: S) h := pX_stp d1026_13 rfl rfl rfl
theorem x1026_15 {L S : List Value} {h : HP} : pX 1026 15 L S h = pX 1026 16 L (.int 1 :: S) h := pX_iconst d1026_15 (by decide)
theorem x1026_16 {L S : List Value} {h : HP} {x y : Int32} : pX 1026 16 L (.int y :: .int x :: S) h = pX 1026 17 L (.int (x &&& y) :: S) h := pX_stp d1026_16 rfl rfl rfl
theorem x1026_17 {L S : List Value} {h : HP} {x : Int32} : pX 1026 17 L (.int x :: S) h = if x = 0 then pX 1026 30 L S h else pX 1026 20 L S h := pX_if_eq d1026_17 (by decide)
theorem x1026_20 {S : List Value} {h : HP} {l0 l2 l3 l4 : Value} {x0 : Int32} : pX 1026 20 [l0, .int x0, l2, l3, l4] S h = pX 1026 21 [l0, .int x0, l2, l3, l4] (.int x0 :: S) h := pX_stp d1026_20 rfl rfl rfl
theorem x1026_21 {L S : List Value} {h : HP} : pX 1026 21 L S h = pX 1026 22 L (.int 0 :: S) h := pX_iconst d1026_21 (by decide)
theorem x1026_22 {L S : List Value} {h : HP} : pX 1026 22 L S h = pX 1026 24 L (.int 7 :: S) h := pX_bipush d1026_22 (by decide)
theorem x1026_24 {L : List Value} {h : HP} {x0 : Int32} {x1 : Int32} {x2 : Int32} : pX 1026 24 L [.int x0, .int x1, .int x2] h = (pX 1025 0 [.int x2, .int x1, .int x0] [] h).bind (fun q => pX 1026 27 L (q.1.toList ++ []) q.2) := pX_ins 1025 [.int x2, .int x1, .int x0] [] d1026_24 rfl rfl rfl
theorem x1026_27 {L S : List Value} {h : HP} {x : Int32} : pX 1026 27 L (.int x :: S) h = if x = 0 then pX 1026 30 L S h else pX 1026 64 L S h := pX_if_ne d1026_27 (by decide)
theorem x1026_30 {S : List Value} {h : HP} {l0 l1 l2 l3 : Value} {x0 : Int32} : pX 1026 30 [l0, l1, l2, l3, .int x0] S h = pX 1026 32 [l0, l1, l2, l3, .int x0] (.int x0 :: S) h := pX_stp d1026_30 rfl rfl rfl
theorem x1026_32 {L S : List Value} {h : HP} : pX 1026 32 L S h = pX 1026 33 L (.int 2 :: S) h := pX_iconst d1026_32 (by decide)
theorem x1026_33 {L S : List Value} {h : HP} {x y : Int32} : pX 1026 33 L (.int y :: .int x :: S) h = pX 1026 34 L (.int (x &&& y) :: S) h := pX_stp d1026_33 rfl rfl rfl
theorem x1026_34 {L S : List Value} {h : HP} {x : Int32} : pX 1026 34 L (.int x :: S) h = if x = 0 then pX 1026 47 L S h else pX 1026 37 L S h := pX_if_eq d1026_34 (by decide)
theorem x1026_37 {S : List Value} {h : HP} {l0 l1 l3 l4 : Value} {x0 : Int32} : pX 1026 37 [l0, l1, .int x0, l3, l4] S h = pX 1026 38 [l0, l1, .int x0, l3, l4] (.int x0 :: S) h := pX_stp d1026_37 rfl rfl rfl
theorem x1026_38 {L S : List Value} {h : HP} : pX 1026 38 L S h = pX 1026 39 L (.int 0 :: S) h := pX_iconst d1026_38 (by decide)
theorem x1026_39 {L S : List Value} {h : HP} : pX 1026 39 L S h = pX 1026 41 L (.int 7 :: S) h := pX_bipush d1026_39 (by decide)
theorem x1026_41 {L : List Value} {h : HP} {x0 : Int32} {x1 : Int32} {x2 : Int32} : pX 1026 41 L [.int x0, .int x1, .int x2] h = (pX 1025 0 [.int x2, .int x1, .int x0] [] h).bind (fun q => pX 1026 44 L (q.1.toList ++ []) q.2) := pX_ins 1025 [.int x2, .int x1, .int x0] [] d1026_41 rfl rfl rfl
theorem x1026_44 {L S : List Value} {h : HP} {x : Int32} : pX 1026 44 L (.int x :: S) h = if x = 0 then pX 1026 47 L S h else pX 1026 64 L S h := pX_if_ne d1026_44 (by decide)
theorem x1026_47 {S : List Value} {h : HP} {l0 l1 l2 l3 : Value} {x0 : Int32} : pX 1026 47 [l0, l1, l2, l3, .int x0] S h = pX 1026 49 [l0, l1, l2, l3, .int x0] (.int x0 :: S) h := pX_stp d1026_47 rfl rfl rfl
theorem x1026_49 {L S : List Value} {h : HP} : pX 1026 49 L S h = pX 1026 50 L (.int 4 :: S) h := pX_iconst d1026_49 (by decide)
theorem x1026_50 {L S : List Value} {h : HP} {x y : Int32} : pX 1026 50 L (.int y :: .int x :: S) h = pX 1026 51 L (.int (x &&& y) :: S) h := pX_stp d1026_50 rfl rfl rfl
theorem x1026_51 {L S : List Value} {h : HP} {x : Int32} : pX 1026 51 L (.int x :: S) h = if x = 0 then pX 1026 68 L S h else pX 1026 54 L S h := pX_if_eq d1026_51 (by decide)
theorem x1026_54 {S : List Value} {h : HP} {l0 l1 l2 l4 : Value} {x0 : Int32} : pX 1026 54 [l0, l1, l2, .int x0, l4] S h = pX 1026 55 [l0, l1, l2, .int x0, l4] (.int x0 :: S) h := pX_stp d1026_54 rfl rfl rfl
theorem x1026_55 {L S : List Value} {h : HP} : pX 1026 55 L S h = pX 1026 56 L (.int 0 :: S) h := pX_iconst d1026_55 (by decide)
theorem x1026_56 {L S : List Value} {h : HP} : pX 1026 56 L S h = pX 1026 58 L (.int 7 :: S) h := pX_bipush d1026_56 (by decide)
theorem x1026_58 {L : List Value} {h : HP} {x0 : Int32} {x1 : Int32} {x2 : Int32} : pX 1026 58 L [.int x0, .int x1, .int x2] h = (pX 1025 0 [.int x2, .int x1, .int x0] [] h).bind (fun q => pX 1026 61 L (q.1.toList ++ []) q.2) := pX_ins 1025 [.int x2, .int x1, .int x0] [] d1026_58 rfl rfl rfl
theorem x1026_61 {L S : List Value} {h : HP} {x : Int32} : pX 1026 61 L (.int x :: S) h = if x = 0 then pX 1026 68 L S h else pX 1026 64 L S h := pX_if_eq d1026_61 (by decide)
theorem x1026_64 {L S : List Value} {h : HP} : pX 1026 64 L S h = pX 1026 65 L (.int 1 :: S) h := pX_iconst d1026_64 (by decide)
theorem x1026_65 {L S : List Value} {h : HP} : pX 1026 65 L S h = pX 1026 69 L S h := pX_goto d1026_65 (by decide)
theorem x1026_68 {L S : List Value} {h : HP} : pX 1026 68 L S h = pX 1026 69 L (.int 0 :: S) h := pX_iconst d1026_68 (by decide)
theorem x1026_69 {L : List Value} {h : HP} {x : Int32} (hx : x = 0 ∨ x = 1) : pX 1026 69 L [.int x] h = some (some (.int x), h) := pX_ret d1026_69 (by rcases hx with rfl | rfl <;> rfl)
theorem d1027_0 : decode (mb 1027) 0 = .ok (.iload_n 0, 1) := by decide +kernel
theorem d1027_1 : decode (mb 1027) 1 = .ok (.tableswitch 119 9 19 #[59, 67, 75, 82, 119, 119, 119, 89, 96, 103, 111], 59) := by decide +kernel
theorem d1027_60 : decode (mb 1027) 60 = .ok (.iload_n 1, 1) := by decide +kernel
theorem d1027_61 : decode (mb 1027) 61 = .ok (.iconst 0, 1) := by decide +kernel
theorem d1027_62 : decode (mb 1027) 62 = .ok (.bipush 40, 2) := by decide +kernel
theorem d1027_64 : decode (mb 1027) 64 = .ok (.invokestatic 30, 3) := by decide +kernel
theorem d1027_67 : decode (mb 1027) 67 = .ok (.ireturn, 1) := by decide +kernel
theorem d1027_68 : decode (mb 1027) 68 = .ok (.iload_n 2, 1) := by decide +kernel
theorem d1027_69 : decode (mb 1027) 69 = .ok (.iconst 0, 1) := by decide +kernel
theorem d1027_70 : decode (mb 1027) 70 = .ok (.bipush 40, 2) := by decide +kernel
theorem d1027_72 : decode (mb 1027) 72 = .ok (.invokestatic 30, 3) := by decide +kernel
theorem d1027_75 : decode (mb 1027) 75 = .ok (.ireturn, 1) := by decide +kernel
theorem d1027_76 : decode (mb 1027) 76 = .ok (.iload_n 3, 1) := by decide +kernel
theorem d1027_77 : decode (mb 1027) 77 = .ok (.iconst 0, 1) := by decide +kernel
theorem d1027_78 : decode (mb 1027) 78 = .ok (.iconst 4, 1) := by decide +kernel
theorem d1027_79 : decode (mb 1027) 79 = .ok (.invokestatic 30, 3) := by decide +kernel
theorem d1027_82 : decode (mb 1027) 82 = .ok (.ireturn, 1) := by decide +kernel
theorem d1027_83 : decode (mb 1027) 83 = .ok (.iload_n 2, 1) := by decide +kernel
theorem d1027_84 : decode (mb 1027) 84 = .ok (.iconst 0, 1) := by decide +kernel
theorem d1027_85 : decode (mb 1027) 85 = .ok (.iconst 3, 1) := by decide +kernel
theorem d1027_86 : decode (mb 1027) 86 = .ok (.invokestatic 30, 3) := by decide +kernel
theorem d1027_89 : decode (mb 1027) 89 = .ok (.ireturn, 1) := by decide +kernel
theorem d1027_90 : decode (mb 1027) 90 = .ok (.iload_n 3, 1) := by decide +kernel
theorem d1027_91 : decode (mb 1027) 91 = .ok (.iconst 0, 1) := by decide +kernel
theorem d1027_92 : decode (mb 1027) 92 = .ok (.iconst 3, 1) := by decide +kernel
theorem d1027_93 : decode (mb 1027) 93 = .ok (.invokestatic 30, 3) := by decide +kernel
theorem d1027_96 : decode (mb 1027) 96 = .ok (.ireturn, 1) := by decide +kernel
theorem d1027_97 : decode (mb 1027) 97 = .ok (.iload_n 2, 1) := by decide +kernel
theorem d1027_98 : decode (mb 1027) 98 = .ok (.iconst 0, 1) := by decide +kernel
theorem d1027_99 : decode (mb 1027) 99 = .ok (.iconst 1, 1) := by decide +kernel
theorem d1027_100 : decode (mb 1027) 100 = .ok (.invokestatic 30, 3) := by decide +kernel
theorem d1027_103 : decode (mb 1027) 103 = .ok (.ireturn, 1) := by decide +kernel
theorem d1027_104 : decode (mb 1027) 104 = .ok (.iload_n 3, 1) := by decide +kernel
theorem d1027_105 : decode (mb 1027) 105 = .ok (.iconst 0, 1) := by decide +kernel
theorem d1027_106 : decode (mb 1027) 106 = .ok (.bipush 11, 2) := by decide +kernel
theorem d1027_108 : decode (mb 1027) 108 = .ok (.invokestatic 30, 3) := by decide +kernel
theorem d1027_111 : decode (mb 1027) 111 = .ok (.ireturn, 1) := by decide +kernel
theorem d1027_112 : decode (mb 1027) 112 = .ok (.iload_n 2, 1) := by decide +kernel
theorem d1027_113 : decode (mb 1027) 113 = .ok (.iconst 0, 1) := by decide +kernel
theorem d1027_114 : decode (mb 1027) 114 = .ok (.bipush 11, 2) := by decide +kernel
theorem d1027_116 : decode (mb 1027) 116 = .ok (.invokestatic 30, 3) := by decide +kernel
theorem d1027_119 : decode (mb 1027) 119 = .ok (.ireturn, 1) := by decide +kernel
theorem d1027_120 : decode (mb 1027) 120 = .ok (.iconst 0, 1) := by decide +kernel
theorem d1027_121 : decode (mb 1027) 121 = .ok (.ireturn, 1) := by decide +kernel
theorem x1027_0 {S : List Value} {h : HP} {l1 l2 l3 : Value} {x0 : Int32} : pX 1027 0 [.int x0, l1, l2, l3] S h = pX 1027 1 [.int x0, l1, l2, l3] (.int x0 :: S) h := pX_stp d1027_0 rfl rfl rfl
theorem x1027_1_9 {L S : List Value} {h : HP} : pX 1027 1 L (.int 9 :: S) h = pX 1027 60 L S h := pX_tabIn (off := 59) d1027_1 (by decide) (by decide) (by decide) (by decide)
theorem x1027_1_10 {L S : List Value} {h : HP} : pX 1027 1 L (.int 10 :: S) h = pX 1027 68 L S h := pX_tabIn (off := 67) d1027_1 (by decide) (by decide) (by decide) (by decide)
theorem x1027_1_11 {L S : List Value} {h : HP} : pX 1027 1 L (.int 11 :: S) h = pX 1027 76 L S h := pX_tabIn (off := 75) d1027_1 (by decide) (by decide) (by decide) (by decide)
theorem x1027_1_12 {L S : List Value} {h : HP} : pX 1027 1 L (.int 12 :: S) h = pX 1027 83 L S h := pX_tabIn (off := 82) d1027_1 (by decide) (by decide) (by decide) (by decide)
theorem x1027_1_13 {L S : List Value} {h : HP} : pX 1027 1 L (.int 13 :: S) h = pX 1027 120 L S h := pX_tabIn (off := 119) d1027_1 (by decide) (by decide) (by decide) (by decide)
theorem x1027_1_14 {L S : List Value} {h : HP} : pX 1027 1 L (.int 14 :: S) h = pX 1027 120 L S h := pX_tabIn (off := 119) d1027_1 (by decide) (by decide) (by decide) (by decide)
theorem x1027_1_15 {L S : List Value} {h : HP} : pX 1027 1 L (.int 15 :: S) h = pX 1027 120 L S h := pX_tabIn (off := 119) d1027_1 (by decide) (by decide) (by decide) (by decide)
theorem x1027_1_16 {L S : List Value} {h : HP} : pX 1027 1 L (.int 16 :: S) h = pX 1027 90 L S h := pX_tabIn (off := 89) d1027_1 (by decide) (by decide) (by decide) (by decide)
theorem x1027_1_17 {L S : List Value} {h : HP} : pX 1027 1 L (.int 17 :: S) h = pX 1027 97 L S h := pX_tabIn (off := 96) d1027_1 (by decide) (by decide) (by decide) (by decide)
theorem x1027_1_18 {L S : List Value} {h : HP} : pX 1027 1 L (.int 18 :: S) h = pX 1027 104 L S h := pX_tabIn (off := 103) d1027_1 (by decide) (by decide) (by decide) (by decide)
theorem x1027_1_19 {L S : List Value} {h : HP} : pX 1027 1 L (.int 19 :: S) h = pX 1027 112 L S h := pX_tabIn (off := 111) d1027_1 (by decide) (by decide) (by decide) (by decide)
theorem x1027_1_d {L S : List Value} {h : HP} {x : Int32} (hx : x.toInt < 9 ∨ 19 < x.toInt) : pX 1027 1 L (.int x :: S) h = pX 1027 120 L S h := pX_tabOut d1027_1 hx (by decide)
theorem x1027_60 {S : List Value} {h : HP} {l0 l2 l3 : Value} {x0 : Int32} : pX 1027 60 [l0, .int x0, l2, l3] S h = pX 1027 61 [l0, .int x0, l2, l3] (.int x0 :: S) h := pX_stp d1027_60 rfl rfl rfl
theorem x1027_61 {L S : List Value} {h : HP} : pX 1027 61 L S h = pX 1027 62 L (.int 0 :: S) h := pX_iconst d1027_61 (by decide)
theorem x1027_62 {L S : List Value} {h : HP} : pX 1027 62 L S h = pX 1027 64 L (.int 40 :: S) h := pX_bipush d1027_62 (by decide)
theorem x1027_64 {L : List Value} {h : HP} {x0 : Int32} {x1 : Int32} {x2 : Int32} : pX 1027 64 L [.int x0, .int x1, .int x2] h = (pX 1025 0 [.int x2, .int x1, .int x0] [] h).bind (fun q => pX 1027 67 L (q.1.toList ++ []) q.2) := pX_ins 1025 [.int x2, .int x1, .int x0] [] d1027_64 rfl rfl rfl
theorem x1027_67 {L : List Value} {h : HP} {x : Int32} (hx : x = 0 ∨ x = 1) : pX 1027 67 L [.int x] h = some (some (.int x), h) := pX_ret d1027_67 (by rcases hx with rfl | rfl <;> rfl)
theorem x1027_68 {S : List Value} {h : HP} {l0 l1 l3 : Value} {x0 : Int32} : pX 1027 68 [l0, l1, .int x0, l3] S h = pX 1027 69 [l0, l1, .int x0, l3] (.int x0 :: S) h := pX_stp d1027_68 rfl rfl rfl
theorem x1027_69 {L S : List Value} {h : HP} : pX 1027 69 L S h = pX 1027 70 L (.int 0 :: S) h := pX_iconst d1027_69 (by decide)
theorem x1027_70 {L S : List Value} {h : HP} : pX 1027 70 L S h = pX 1027 72 L (.int 40 :: S) h := pX_bipush d1027_70 (by decide)
theorem x1027_72 {L : List Value} {h : HP} {x0 : Int32} {x1 : Int32} {x2 : Int32} : pX 1027 72 L [.int x0, .int x1, .int x2] h = (pX 1025 0 [.int x2, .int x1, .int x0] [] h).bind (fun q => pX 1027 75 L (q.1.toList ++ []) q.2) := pX_ins 1025 [.int x2, .int x1, .int x0] [] d1027_72 rfl rfl rfl
theorem x1027_75 {L : List Value} {h : HP} {x : Int32} (hx : x = 0 ∨ x = 1) : pX 1027 75 L [.int x] h = some (some (.int x), h) := pX_ret d1027_75 (by rcases hx with rfl | rfl <;> rfl)
theorem x1027_76 {S : List Value} {h : HP} {l0 l1 l2 : Value} {x0 : Int32} : pX 1027 76 [l0, l1, l2, .int x0] S h = pX 1027 77 [l0, l1, l2, .int x0] (.int x0 :: S) h := pX_stp d1027_76 rfl rfl rfl
theorem x1027_77 {L S : List Value} {h : HP} : pX 1027 77 L S h = pX 1027 78 L (.int 0 :: S) h := pX_iconst d1027_77 (by decide)
theorem x1027_78 {L S : List Value} {h : HP} : pX 1027 78 L S h = pX 1027 79 L (.int 4 :: S) h := pX_iconst d1027_78 (by decide)
theorem x1027_79 {L : List Value} {h : HP} {x0 : Int32} {x1 : Int32} {x2 : Int32} : pX 1027 79 L [.int x0, .int x1, .int x2] h = (pX 1025 0 [.int x2, .int x1, .int x0] [] h).bind (fun q => pX 1027 82 L (q.1.toList ++ []) q.2) := pX_ins 1025 [.int x2, .int x1, .int x0] [] d1027_79 rfl rfl rfl
theorem x1027_82 {L : List Value} {h : HP} {x : Int32} (hx : x = 0 ∨ x = 1) : pX 1027 82 L [.int x] h = some (some (.int x), h) := pX_ret d1027_82 (by rcases hx with rfl | rfl <;> rfl)
theorem x1027_83 {S : List Value} {h : HP} {l0 l1 l3 : Value} {x0 : Int32} : pX 1027 83 [l0, l1, .int x0, l3] S h = pX 1027 84 [l0, l1, .int x0, l3] (.int x0 :: S) h := pX_stp d1027_83 rfl rfl rfl
theorem x1027_84 {L S : List Value} {h : HP} : pX 1027 84 L S h = pX 1027 85 L (.int 0 :: S) h := pX_iconst d1027_84 (by decide)
theorem x1027_85 {L S : List Value} {h : HP} : pX 1027 85 L S h = pX 1027 86 L (.int 3 :: S) h := pX_iconst d1027_85 (by decide)
theorem x1027_86 {L : List Value} {h : HP} {x0 : Int32} {x1 : Int32} {x2 : Int32} : pX 1027 86 L [.int x0, .int x1, .int x2] h = (pX 1025 0 [.int x2, .int x1, .int x0] [] h).bind (fun q => pX 1027 89 L (q.1.toList ++ []) q.2) := pX_ins 1025 [.int x2, .int x1, .int x0] [] d1027_86 rfl rfl rfl
theorem x1027_89 {L : List Value} {h : HP} {x : Int32} (hx : x = 0 ∨ x = 1) : pX 1027 89 L [.int x] h = some (some (.int x), h) := pX_ret d1027_89 (by rcases hx with rfl | rfl <;> rfl)
theorem x1027_90 {S : List Value} {h : HP} {l0 l1 l2 : Value} {x0 : Int32} : pX 1027 90 [l0, l1, l2, .int x0] S h = pX 1027 91 [l0, l1, l2, .int x0] (.int x0 :: S) h := pX_stp d1027_90 rfl rfl rfl
theorem x1027_91 {L S : List Value} {h : HP} : pX 1027 91 L S h = pX 1027 92 L (.int 0 :: S) h := pX_iconst d1027_91 (by decide)
theorem x1027_92 {L S : List Value} {h : HP} : pX 1027 92 L S h = pX 1027 93 L (.int 3 :: S) h := pX_iconst d1027_92 (by decide)
theorem x1027_93 {L : List Value} {h : HP} {x0 : Int32} {x1 : Int32} {x2 : Int32} : pX 1027 93 L [.int x0, .int x1, .int x2] h = (pX 1025 0 [.int x2, .int x1, .int x0] [] h).bind (fun q => pX 1027 96 L (q.1.toList ++ []) q.2) := pX_ins 1025 [.int x2, .int x1, .int x0] [] d1027_93 rfl rfl rfl
theorem x1027_96 {L : List Value} {h : HP} {x : Int32} (hx : x = 0 ∨ x = 1) : pX 1027 96 L [.int x] h = some (some (.int x), h) := pX_ret d1027_96 (by rcases hx with rfl | rfl <;> rfl)
theorem x1027_97 {S : List Value} {h : HP} {l0 l1 l3 : Value} {x0 : Int32} : pX 1027 97 [l0, l1, .int x0, l3] S h = pX 1027 98 [l0, l1, .int x0, l3] (.int x0 :: S) h := pX_stp d1027_97 rfl rfl rfl
theorem x1027_98 {L S : List Value} {h : HP} : pX 1027 98 L S h = pX 1027 99 L (.int 0 :: S) h := pX_iconst d1027_98 (by decide)
theorem x1027_99 {L S : List Value} {h : HP} : pX 1027 99 L S h = pX 1027 100 L (.int 1 :: S) h := pX_iconst d1027_99 (by decide)
theorem x1027_100 {L : List Value} {h : HP} {x0 : Int32} {x1 : Int32} {x2 : Int32} : pX 1027 100 L [.int x0, .int x1, .int x2] h = (pX 1025 0 [.int x2, .int x1, .int x0] [] h).bind (fun q => pX 1027 103 L (q.1.toList ++ []) q.2) := pX_ins 1025 [.int x2, .int x1, .int x0] [] d1027_100 rfl rfl rfl
theorem x1027_103 {L : List Value} {h : HP} {x : Int32} (hx : x = 0 ∨ x = 1) : pX 1027 103 L [.int x] h = some (some (.int x), h) := pX_ret d1027_103 (by rcases hx with rfl | rfl <;> rfl)
theorem x1027_104 {S : List Value} {h : HP} {l0 l1 l2 : Value} {x0 : Int32} : pX 1027 104 [l0, l1, l2, .int x0] S h = pX 1027 105 [l0, l1, l2, .int x0] (.int x0 :: S) h := pX_stp d1027_104 rfl rfl rfl
theorem x1027_105 {L S : List Value} {h : HP} : pX 1027 105 L S h = pX 1027 106 L (.int 0 :: S) h := pX_iconst d1027_105 (by decide)
theorem x1027_106 {L S : List Value} {h : HP} : pX 1027 106 L S h = pX 1027 108 L (.int 11 :: S) h := pX_bipush d1027_106 (by decide)
theorem x1027_108 {L : List Value} {h : HP} {x0 : Int32} {x1 : Int32} {x2 : Int32} : pX 1027 108 L [.int x0, .int x1, .int x2] h = (pX 1025 0 [.int x2, .int x1, .int x0] [] h).bind (fun q => pX 1027 111 L (q.1.toList ++ []) q.2) := pX_ins 1025 [.int x2, .int x1, .int x0] [] d1027_108 rfl rfl rfl
theorem x1027_111 {L : List Value} {h : HP} {x : Int32} (hx : x = 0 ∨ x = 1) : pX 1027 111 L [.int x] h = some (some (.int x), h) := pX_ret d1027_111 (by rcases hx with rfl | rfl <;> rfl)
theorem x1027_112 {S : List Value} {h : HP} {l0 l1 l3 : Value} {x0 : Int32} : pX 1027 112 [l0, l1, .int x0, l3] S h = pX 1027 113 [l0, l1, .int x0, l3] (.int x0 :: S) h := pX_stp d1027_112 rfl rfl rfl
theorem x1027_113 {L S : List Value} {h : HP} : pX 1027 113 L S h = pX 1027 114 L (.int 0 :: S) h := pX_iconst d1027_113 (by decide)
theorem x1027_114 {L S : List Value} {h : HP} : pX 1027 114 L S h = pX 1027 116 L (.int 11 :: S) h := pX_bipush d1027_114 (by decide)
theorem x1027_116 {L : List Value} {h : HP} {x0 : Int32} {x1 : Int32} {x2 : Int32} : pX 1027 116 L [.int x0, .int x1, .int x2] h = (pX 1025 0 [.int x2, .int x1, .int x0] [] h).bind (fun q => pX 1027 119 L (q.1.toList ++ []) q.2) := pX_ins 1025 [.int x2, .int x1, .int x0] [] d1027_116 rfl rfl rfl
theorem x1027_119 {L : List Value} {h : HP} {x : Int32} (hx : x = 0 ∨ x = 1) : pX 1027 119 L [.int x] h = some (some (.int x), h) := pX_ret d1027_119 (by rcases hx with rfl | rfl <;> rfl)
theorem x1027_120 {L S : List Value} {h : HP} : pX 1027 120 L S h = pX 1027 121 L (.int 0 :: S) h := pX_iconst d1027_120 (by decide)
theorem x1027_121 {L : List Value} {h : HP} {x : Int32} (hx : x = 0 ∨ x = 1) : pX 1027 121 L [.int x] h = some (some (.int x), h) := pX_ret d1027_121 (by rcases hx with rfl | rfl <;> rfl)
