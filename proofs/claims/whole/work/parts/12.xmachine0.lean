theorem d300_0 : decode (mb 300) 0 = .ok (.aload_n 0, 1) := by decide +kernel
theorem d300_1 : decode (mb 300) 1 = .ok (.invokespecial 3, 3) := by decide +kernel
theorem d300_4 : decode (mb 300) 4 = .ok (.aload_n 0, 1) := by decide +kernel
theorem d300_5 : decode (mb 300) 5 = .ok (.bipush 10, 2) := by decide +kernel
theorem d300_7 : decode (mb 300) 7 = .ok (.anewarray 9, 3) := by decide +kernel
theorem d300_10 : decode (mb 300) 10 = .ok (.putfield 11, 3) := by decide +kernel
theorem d300_13 : decode (mb 300) 13 = .ok (.aload_n 0, 1) := by decide +kernel
theorem d300_14 : decode (mb 300) 14 = .ok (.new 17, 3) := by decide +kernel
theorem d300_17 : decode (mb 300) 17 = .ok (.dup, 1) := by decide +kernel
theorem d300_18 : decode (mb 300) 18 = .ok (.invokespecial 19, 3) := by decide +kernel
theorem d300_21 : decode (mb 300) 21 = .ok (.putfield 20, 3) := by decide +kernel
theorem d300_24 : decode (mb 300) 24 = .ok (.aload_n 0, 1) := by decide +kernel
theorem d300_25 : decode (mb 300) 25 = .ok (.new 24, 3) := by decide +kernel
theorem d300_28 : decode (mb 300) 28 = .ok (.dup, 1) := by decide +kernel
theorem d300_29 : decode (mb 300) 29 = .ok (.invokespecial 26, 3) := by decide +kernel
theorem d300_32 : decode (mb 300) 32 = .ok (.putfield 27, 3) := by decide +kernel
theorem d300_35 : decode (mb 300) 35 = .ok (.aload_n 0, 1) := by decide +kernel
theorem d300_36 : decode (mb 300) 36 = .ok (.bipush 12, 2) := by decide +kernel
theorem d300_38 : decode (mb 300) 38 = .ok (.newarray .int, 2) := by decide +kernel
theorem d300_40 : decode (mb 300) 40 = .ok (.putfield 31, 3) := by decide +kernel
theorem d300_43 : decode (mb 300) 43 = .ok (.aload_n 0, 1) := by decide +kernel
theorem d300_44 : decode (mb 300) 44 = .ok (.bipush 12, 2) := by decide +kernel
theorem d300_46 : decode (mb 300) 46 = .ok (.newarray .int, 2) := by decide +kernel
theorem d300_48 : decode (mb 300) 48 = .ok (.putfield 35, 3) := by decide +kernel
theorem d300_51 : decode (mb 300) 51 = .ok (.aload_n 0, 1) := by decide +kernel
theorem d300_52 : decode (mb 300) 52 = .ok (.bipush 12, 2) := by decide +kernel
theorem d300_54 : decode (mb 300) 54 = .ok (.anewarray 38, 3) := by decide +kernel
theorem d300_57 : decode (mb 300) 57 = .ok (.putfield 40, 3) := by decide +kernel
theorem d300_60 : decode (mb 300) 60 = .ok (.aload_n 0, 1) := by decide +kernel
theorem d300_61 : decode (mb 300) 61 = .ok (.new 44, 3) := by decide +kernel
theorem d300_64 : decode (mb 300) 64 = .ok (.dup, 1) := by decide +kernel
theorem d300_65 : decode (mb 300) 65 = .ok (.invokespecial 46, 3) := by decide +kernel
theorem d300_68 : decode (mb 300) 68 = .ok (.putfield 47, 3) := by decide +kernel
theorem d300_71 : decode (mb 300) 71 = .ok (.aload_n 0, 1) := by decide +kernel
theorem d300_72 : decode (mb 300) 72 = .ok (.bipush 100, 2) := by decide +kernel
theorem d300_74 : decode (mb 300) 74 = .ok (.newarray .int, 2) := by decide +kernel
theorem d300_76 : decode (mb 300) 76 = .ok (.putfield 51, 3) := by decide +kernel
theorem d300_79 : decode (mb 300) 79 = .ok (.iconst 0, 1) := by decide +kernel
theorem d300_80 : decode (mb 300) 80 = .ok (.istore_n 1, 1) := by decide +kernel
theorem d300_81 : decode (mb 300) 81 = .ok (.iload_n 1, 1) := by decide +kernel
theorem d300_82 : decode (mb 300) 82 = .ok (.bipush 10, 2) := by decide +kernel
theorem d300_84 : decode (mb 300) 84 = .ok (.if_icmp .ge 22, 3) := by decide +kernel
theorem d300_87 : decode (mb 300) 87 = .ok (.aload_n 0, 1) := by decide +kernel
theorem d300_88 : decode (mb 300) 88 = .ok (.getfield 11, 3) := by decide +kernel
theorem d300_91 : decode (mb 300) 91 = .ok (.iload_n 1, 1) := by decide +kernel
theorem d300_92 : decode (mb 300) 92 = .ok (.new 9, 3) := by decide +kernel
theorem d300_95 : decode (mb 300) 95 = .ok (.dup, 1) := by decide +kernel
theorem d300_96 : decode (mb 300) 96 = .ok (.invokespecial 54, 3) := by decide +kernel
theorem d300_99 : decode (mb 300) 99 = .ok (.aastore, 1) := by decide +kernel
theorem d300_100 : decode (mb 300) 100 = .ok (.iinc 1 1, 3) := by decide +kernel
theorem d300_103 : decode (mb 300) 103 = .ok (.goto (-22), 3) := by decide +kernel
theorem d300_106 : decode (mb 300) 106 = .ok (.iconst 0, 1) := by decide +kernel
theorem d300_107 : decode (mb 300) 107 = .ok (.istore_n 1, 1) := by decide +kernel
theorem d300_108 : decode (mb 300) 108 = .ok (.iload_n 1, 1) := by decide +kernel
theorem d300_109 : decode (mb 300) 109 = .ok (.bipush 12, 2) := by decide +kernel
theorem d300_111 : decode (mb 300) 111 = .ok (.if_icmp .ge 28, 3) := by decide +kernel
theorem d300_114 : decode (mb 300) 114 = .ok (.aload_n 0, 1) := by decide +kernel
theorem d300_115 : decode (mb 300) 115 = .ok (.getfield 40, 3) := by decide +kernel
theorem d300_118 : decode (mb 300) 118 = .ok (.iload_n 1, 1) := by decide +kernel
theorem d300_119 : decode (mb 300) 119 = .ok (.new 38, 3) := by decide +kernel
theorem d300_122 : decode (mb 300) 122 = .ok (.dup, 1) := by decide +kernel
theorem d300_123 : decode (mb 300) 123 = .ok (.aload_n 0, 1) := by decide +kernel
theorem d300_124 : decode (mb 300) 124 = .ok (.getfield 11, 3) := by decide +kernel
theorem d300_127 : decode (mb 300) 127 = .ok (.iconst 0, 1) := by decide +kernel
theorem d300_128 : decode (mb 300) 128 = .ok (.aaload, 1) := by decide +kernel
theorem d300_129 : decode (mb 300) 129 = .ok (.invokespecial 55, 3) := by decide +kernel
theorem d300_132 : decode (mb 300) 132 = .ok (.aastore, 1) := by decide +kernel
theorem d300_133 : decode (mb 300) 133 = .ok (.iinc 1 1, 3) := by decide +kernel
theorem d300_136 : decode (mb 300) 136 = .ok (.goto (-28), 3) := by decide +kernel
theorem d300_139 : decode (mb 300) 139 = .ok (.return_, 1) := by decide +kernel
theorem x300_0 {S : List Value} {h : HP} {l1 : Value} {a0 : Nat} : pX 300 0 [.ref a0, l1] S h = pX 300 1 [.ref a0, l1] (.ref a0 :: S) h := pX_stp d300_0 rfl rfl rfl
theorem x300_1 {L : List Value} {h : HP} {a0 : Nat} (ha : ¬ a0 = 0) : pX 300 1 L [.ref a0] h = pX 300 4 L [] h := pX_oinit d300_1 rfl (Nat.le_of_ble_eq_true rfl) ha
theorem x300_4 {S : List Value} {h : HP} {l1 : Value} {a0 : Nat} : pX 300 4 [.ref a0, l1] S h = pX 300 5 [.ref a0, l1] (.ref a0 :: S) h := pX_stp d300_4 rfl rfl rfl
theorem x300_5 {L S : List Value} {h : HP} : pX 300 5 L S h = pX 300 7 L (.int 10 :: S) h := pX_bipush d300_5 (by decide)
theorem x300_7 {L S : List Value} {h : HP} {j : Int32} (h0 : 0 ≤ j) (h1 : ix j ≤ 134217728) : pX 300 7 L (.int j :: S) h = pX 300 10 L (.ref (hp_n h) :: S) (hp_mk h 204 (ix j) (ix j)) := pX_anew d300_7 rfl rfl h0 h1
theorem x300_10 {L S : List Value} {h : HP} {a b : Nat} (hk : hp_k h a = 4) : pX 300 10 L (.ref b :: .ref a :: S) h = pX 300 13 L S (hp_wa h a 0 b) := pX_put d300_10 rfl rfl rfl hk
theorem x300_13 {S : List Value} {h : HP} {l1 : Value} {a0 : Nat} : pX 300 13 [.ref a0, l1] S h = pX 300 14 [.ref a0, l1] (.ref a0 :: S) h := pX_stp d300_13 rfl rfl rfl
theorem x300_14 {L S : List Value} {h : HP} : pX 300 14 L S h = pX 300 17 L (.ref (hp_n h) :: S) (hp_mk h 7 0 4) := pX_new d300_14 rfl
theorem x300_17 {L S : List Value} {h : HP} {a0 : Nat} : pX 300 17 L (.ref a0 :: S) h = pX 300 18 L (.ref a0 :: .ref a0 :: S) h := pX_stp d300_17 rfl rfl rfl
theorem x300_18 {L : List Value} {h : HP} {a0 : Nat} {a1 : Nat} {a2 : Nat} (hk : hp_k h a0 = 7) : pX 300 18 L [.ref a0, .ref a1, .ref a2] h = (pX 600 0 [.ref a0] [] h).bind (fun q => pX 300 21 L (q.1.toList ++ [.ref a1, .ref a2]) q.2) := pX_inv (a := a0) (t := 7) 600 [.ref a0] [.ref a1, .ref a2] d300_18 rfl rfl rfl hk
theorem x300_21 {L S : List Value} {h : HP} {a b : Nat} (hk : hp_k h a = 4) : pX 300 21 L (.ref b :: .ref a :: S) h = pX 300 24 L S (hp_wa h a 2 b) := pX_put d300_21 rfl rfl rfl hk
theorem x300_24 {S : List Value} {h : HP} {l1 : Value} {a0 : Nat} : pX 300 24 [.ref a0, l1] S h = pX 300 25 [.ref a0, l1] (.ref a0 :: S) h := pX_stp d300_24 rfl rfl rfl
theorem x300_25 {L S : List Value} {h : HP} : pX 300 25 L S h = pX 300 28 L (.ref (hp_n h) :: S) (hp_mk h 6 0 1) := pX_new d300_25 rfl
theorem x300_28 {L S : List Value} {h : HP} {a0 : Nat} : pX 300 28 L (.ref a0 :: S) h = pX 300 29 L (.ref a0 :: .ref a0 :: S) h := pX_stp d300_28 rfl rfl rfl
theorem x300_29 {L : List Value} {h : HP} {a0 : Nat} {a1 : Nat} {a2 : Nat} (hk : hp_k h a0 = 6) : pX 300 29 L [.ref a0, .ref a1, .ref a2] h = (pX 500 0 [.ref a0] [] h).bind (fun q => pX 300 32 L (q.1.toList ++ [.ref a1, .ref a2]) q.2) := pX_inv (a := a0) (t := 6) 500 [.ref a0] [.ref a1, .ref a2] d300_29 rfl rfl rfl hk
theorem x300_32 {L S : List Value} {h : HP} {a b : Nat} (hk : hp_k h a = 4) : pX 300 32 L (.ref b :: .ref a :: S) h = pX 300 35 L S (hp_wa h a 3 b) := pX_put d300_32 rfl rfl rfl hk
theorem x300_35 {S : List Value} {h : HP} {l1 : Value} {a0 : Nat} : pX 300 35 [.ref a0, l1] S h = pX 300 36 [.ref a0, l1] (.ref a0 :: S) h := pX_stp d300_35 rfl rfl rfl
theorem x300_36 {L S : List Value} {h : HP} : pX 300 36 L S h = pX 300 38 L (.int 12 :: S) h := pX_bipush d300_36 (by decide)
theorem x300_38 {L S : List Value} {h : HP} {j : Int32} (h0 : 0 ≤ j) (h1 : ix j ≤ 134217728) : pX 300 38 L (.int j :: S) h = pX 300 40 L (.ref (hp_n h) :: S) (hp_mk h 100 (ix j) (ix j)) := pX_newa d300_38 h0 h1
theorem x300_40 {L S : List Value} {h : HP} {a b : Nat} (hk : hp_k h a = 4) : pX 300 40 L (.ref b :: .ref a :: S) h = pX 300 43 L S (hp_wa h a 4 b) := pX_put d300_40 rfl rfl rfl hk
theorem x300_43 {S : List Value} {h : HP} {l1 : Value} {a0 : Nat} : pX 300 43 [.ref a0, l1] S h = pX 300 44 [.ref a0, l1] (.ref a0 :: S) h := pX_stp d300_43 rfl rfl rfl
theorem x300_44 {L S : List Value} {h : HP} : pX 300 44 L S h = pX 300 46 L (.int 12 :: S) h := pX_bipush d300_44 (by decide)
theorem x300_46 {L S : List Value} {h : HP} {j : Int32} (h0 : 0 ≤ j) (h1 : ix j ≤ 134217728) : pX 300 46 L (.int j :: S) h = pX 300 48 L (.ref (hp_n h) :: S) (hp_mk h 100 (ix j) (ix j)) := pX_newa d300_46 h0 h1
theorem x300_48 {L S : List Value} {h : HP} {a b : Nat} (hk : hp_k h a = 4) : pX 300 48 L (.ref b :: .ref a :: S) h = pX 300 51 L S (hp_wa h a 5 b) := pX_put d300_48 rfl rfl rfl hk
theorem x300_51 {S : List Value} {h : HP} {l1 : Value} {a0 : Nat} : pX 300 51 [.ref a0, l1] S h = pX 300 52 [.ref a0, l1] (.ref a0 :: S) h := pX_stp d300_51 rfl rfl rfl
theorem x300_52 {L S : List Value} {h : HP} : pX 300 52 L S h = pX 300 54 L (.int 12 :: S) h := pX_bipush d300_52 (by decide)
theorem x300_54 {L S : List Value} {h : HP} {j : Int32} (h0 : 0 ≤ j) (h1 : ix j ≤ 134217728) : pX 300 54 L (.int j :: S) h = pX 300 57 L (.ref (hp_n h) :: S) (hp_mk h 201 (ix j) (ix j)) := pX_anew d300_54 rfl rfl h0 h1
theorem x300_57 {L S : List Value} {h : HP} {a b : Nat} (hk : hp_k h a = 4) : pX 300 57 L (.ref b :: .ref a :: S) h = pX 300 60 L S (hp_wa h a 6 b) := pX_put d300_57 rfl rfl rfl hk
theorem x300_60 {S : List Value} {h : HP} {l1 : Value} {a0 : Nat} : pX 300 60 [.ref a0, l1] S h = pX 300 61 [.ref a0, l1] (.ref a0 :: S) h := pX_stp d300_60 rfl rfl rfl
theorem x300_61 {L S : List Value} {h : HP} : pX 300 61 L S h = pX 300 64 L (.ref (hp_n h) :: S) (hp_mk h 9 0 4) := pX_new d300_61 rfl
theorem x300_64 {L S : List Value} {h : HP} {a0 : Nat} : pX 300 64 L (.ref a0 :: S) h = pX 300 65 L (.ref a0 :: .ref a0 :: S) h := pX_stp d300_64 rfl rfl rfl
theorem x300_65 {L : List Value} {h : HP} {a0 : Nat} {a1 : Nat} {a2 : Nat} (hk : hp_k h a0 = 9) : pX 300 65 L [.ref a0, .ref a1, .ref a2] h = (pX 800 0 [.ref a0] [] h).bind (fun q => pX 300 68 L (q.1.toList ++ [.ref a1, .ref a2]) q.2) := pX_inv (a := a0) (t := 9) 800 [.ref a0] [.ref a1, .ref a2] d300_65 rfl rfl rfl hk
theorem x300_68 {L S : List Value} {h : HP} {a b : Nat} (hk : hp_k h a = 4) : pX 300 68 L (.ref b :: .ref a :: S) h = pX 300 71 L S (hp_wa h a 8 b) := pX_put d300_68 rfl rfl rfl hk
theorem x300_71 {S : List Value} {h : HP} {l1 : Value} {a0 : Nat} : pX 300 71 [.ref a0, l1] S h = pX 300 72 [.ref a0, l1] (.ref a0 :: S) h := pX_stp d300_71 rfl rfl rfl
theorem x300_72 {L S : List Value} {h : HP} : pX 300 72 L S h = pX 300 74 L (.int 100 :: S) h := pX_bipush d300_72 (by decide)
theorem x300_74 {L S : List Value} {h : HP} {j : Int32} (h0 : 0 ≤ j) (h1 : ix j ≤ 134217728) : pX 300 74 L (.int j :: S) h = pX 300 76 L (.ref (hp_n h) :: S) (hp_mk h 100 (ix j) (ix j)) := pX_newa d300_74 h0 h1
theorem x300_76 {L S : List Value} {h : HP} {a b : Nat} (hk : hp_k h a = 4) : pX 300 76 L (.ref b :: .ref a :: S) h = pX 300 79 L S (hp_wa h a 10 b) := pX_put d300_76 rfl rfl rfl hk
theorem x300_79 {L S : List Value} {h : HP} : pX 300 79 L S h = pX 300 80 L (.int 0 :: S) h := pX_iconst d300_79 (by decide)
theorem x300_80 {S : List Value} {h : HP} {l0 l1 : Value} {x0 : Int32} : pX 300 80 [l0, l1] (.int x0 :: S) h = pX 300 81 [l0, .int x0] S h := pX_stp d300_80 rfl rfl rfl
theorem x300_81 {S : List Value} {h : HP} {l0 : Value} {x0 : Int32} : pX 300 81 [l0, .int x0] S h = pX 300 82 [l0, .int x0] (.int x0 :: S) h := pX_stp d300_81 rfl rfl rfl
theorem x300_82 {L S : List Value} {h : HP} : pX 300 82 L S h = pX 300 84 L (.int 10 :: S) h := pX_bipush d300_82 (by decide)
theorem x300_84 {L S : List Value} {h : HP} {x y : Int32} : pX 300 84 L (.int y :: .int x :: S) h = if y ≤ x then pX 300 106 L S h else pX 300 87 L S h := pX_icmp_ge d300_84 (by decide)
theorem x300_87 {S : List Value} {h : HP} {l1 : Value} {a0 : Nat} : pX 300 87 [.ref a0, l1] S h = pX 300 88 [.ref a0, l1] (.ref a0 :: S) h := pX_stp d300_87 rfl rfl rfl
theorem x300_88 {L S : List Value} {h : HP} {a : Nat} (hk : hp_k h a = 4) : pX 300 88 L (.ref a :: S) h = pX 300 91 L (.ref (hp_a h a 0) :: S) h := pX_get d300_88 rfl rfl hk
theorem x300_91 {S : List Value} {h : HP} {l0 : Value} {x0 : Int32} : pX 300 91 [l0, .int x0] S h = pX 300 92 [l0, .int x0] (.int x0 :: S) h := pX_stp d300_91 rfl rfl rfl
theorem x300_92 {L S : List Value} {h : HP} : pX 300 92 L S h = pX 300 95 L (.ref (hp_n h) :: S) (hp_mk h 5 0 12) := pX_new d300_92 rfl
theorem x300_95 {L S : List Value} {h : HP} {a0 : Nat} : pX 300 95 L (.ref a0 :: S) h = pX 300 96 L (.ref a0 :: .ref a0 :: S) h := pX_stp d300_95 rfl rfl rfl
theorem x300_96 {L : List Value} {h : HP} {a0 : Nat} {a1 : Nat} {x0 : Int32} {a2 : Nat} (hk : hp_k h a0 = 5) : pX 300 96 L [.ref a0, .ref a1, .int x0, .ref a2] h = (pX 400 0 [.ref a0] [] h).bind (fun q => pX 300 99 L (q.1.toList ++ [.ref a1, .int x0, .ref a2]) q.2) := pX_inv (a := a0) (t := 5) 400 [.ref a0] [.ref a1, .int x0, .ref a2] d300_96 rfl rfl rfl hk
theorem x300_99 {L S : List Value} {h : HP} {a b : Nat} {j : Int32} (hk : 200 ≤ hp_k h a) (hb : b = 0 ∨ hp_k h b + 199 = hp_k h a) (hj : inb j (hp_l h a) = true) : pX 300 99 L (.ref b :: .int j :: .ref a :: S) h = pX 300 100 L S (hp_wa h a (ix j) b) := pX_ast d300_99 hk hb hj
theorem x300_100 {S : List Value} {h : HP} {x0 : Int32} {l0 : Value} : pX 300 100 [l0, .int x0] S h = pX 300 103 [l0, .int (x0 + 1)] S h := pX_iinc (x := x0) d300_100 (by decide) rfl (Nat.le_of_ble_eq_true rfl) rfl rfl
theorem x300_103 {L S : List Value} {h : HP} : pX 300 103 L S h = pX 300 81 L S h := pX_goto d300_103 (by decide)
theorem x300_106 {L S : List Value} {h : HP} : pX 300 106 L S h = pX 300 107 L (.int 0 :: S) h := pX_iconst d300_106 (by decide)
theorem x300_107 {S : List Value} {h : HP} {l0 l1 : Value} {x0 : Int32} : pX 300 107 [l0, l1] (.int x0 :: S) h = pX 300 108 [l0, .int x0] S h := pX_stp d300_107 rfl rfl rfl
theorem x300_108 {S : List Value} {h : HP} {l0 : Value} {x0 : Int32} : pX 300 108 [l0, .int x0] S h = pX 300 109 [l0, .int x0] (.int x0 :: S) h := pX_stp d300_108 rfl rfl rfl
theorem x300_109 {L S : List Value} {h : HP} : pX 300 109 L S h = pX 300 111 L (.int 12 :: S) h := pX_bipush d300_109 (by decide)
theorem x300_111 {L S : List Value} {h : HP} {x y : Int32} : pX 300 111 L (.int y :: .int x :: S) h = if y ≤ x then pX 300 139 L S h else pX 300 114 L S h := pX_icmp_ge d300_111 (by decide)
theorem x300_114 {S : List Value} {h : HP} {l1 : Value} {a0 : Nat} : pX 300 114 [.ref a0, l1] S h = pX 300 115 [.ref a0, l1] (.ref a0 :: S) h := pX_stp d300_114 rfl rfl rfl
theorem x300_115 {L S : List Value} {h : HP} {a : Nat} (hk : hp_k h a = 4) : pX 300 115 L (.ref a :: S) h = pX 300 118 L (.ref (hp_a h a 6) :: S) h := pX_get d300_115 rfl rfl hk
theorem x300_118 {S : List Value} {h : HP} {l0 : Value} {x0 : Int32} : pX 300 118 [l0, .int x0] S h = pX 300 119 [l0, .int x0] (.int x0 :: S) h := pX_stp d300_118 rfl rfl rfl
theorem x300_119 {L S : List Value} {h : HP} : pX 300 119 L S h = pX 300 122 L (.ref (hp_n h) :: S) (hp_mk h 2 0 7) := pX_new d300_119 rfl
theorem x300_122 {L S : List Value} {h : HP} {a0 : Nat} : pX 300 122 L (.ref a0 :: S) h = pX 300 123 L (.ref a0 :: .ref a0 :: S) h := pX_stp d300_122 rfl rfl rfl
theorem x300_123 {S : List Value} {h : HP} {l1 : Value} {a0 : Nat} : pX 300 123 [.ref a0, l1] S h = pX 300 124 [.ref a0, l1] (.ref a0 :: S) h := pX_stp d300_123 rfl rfl rfl
theorem x300_124 {L S : List Value} {h : HP} {a : Nat} (hk : hp_k h a = 4) : pX 300 124 L (.ref a :: S) h = pX 300 127 L (.ref (hp_a h a 0) :: S) h := pX_get d300_124 rfl rfl hk
theorem x300_127 {L S : List Value} {h : HP} : pX 300 127 L S h = pX 300 128 L (.int 0 :: S) h := pX_iconst d300_127 (by decide)
theorem x300_128 {L S : List Value} {h : HP} {a : Nat} {j : Int32} (hk : 200 ≤ hp_k h a) (hj : inb j (hp_l h a) = true) : pX 300 128 L (.int j :: .ref a :: S) h = pX 300 129 L (.ref (hp_a h a (ix j)) :: S) h := pX_ald d300_128 hk hj
theorem x300_129 {L : List Value} {h : HP} {a0 : Nat} {a1 : Nat} {a2 : Nat} {x0 : Int32} {a3 : Nat} (hk : hp_k h a1 = 2) : pX 300 129 L [.ref a0, .ref a1, .ref a2, .int x0, .ref a3] h = (pX 100 0 [.ref a1, .ref a0, .retAddr 0] [] h).bind (fun q => pX 300 132 L (q.1.toList ++ [.ref a2, .int x0, .ref a3]) q.2) := pX_inv (a := a1) (t := 2) 100 [.ref a1, .ref a0] [.ref a2, .int x0, .ref a3] d300_129 rfl rfl rfl hk
theorem x300_132 {L S : List Value} {h : HP} {a b : Nat} {j : Int32} (hk : 200 ≤ hp_k h a) (hb : b = 0 ∨ hp_k h b + 199 = hp_k h a) (hj : inb j (hp_l h a) = true) : pX 300 132 L (.ref b :: .int j :: .ref a :: S) h = pX 300 133 L S (hp_wa h a (ix j) b) := pX_ast d300_132 hk hb hj
theorem x300_133 {S : List Value} {h : HP} {x0 : Int32} {l0 : Value} : pX 300 133 [l0, .int x0] S h = pX 300 136 [l0, .int (x0 + 1)] S h := pX_iinc (x := x0) d300_133 (by decide) rfl (Nat.le_of_ble_eq_true rfl) rfl rfl
theorem x300_136 {L S : List Value} {h : HP} : pX 300 136 L S h = pX 300 108 L S h := pX_goto d300_136 (by decide)
theorem x300_139 {L : List Value} {h : HP} : pX 300 139 L [] h = some (none, h) := pX_ret d300_139 rfl
theorem d301_0 : decode (mb 301) 0 = .ok (.iload_n 1, 1) := by decide +kernel
theorem d301_1 : decode (mb 301) 1 = .ok (.ifCond .lt 11, 3) := by decide +kernel
theorem d301_4 : decode (mb 301) 4 = .ok (.iload_n 1, 1) := by decide +kernel
theorem d301_5 : decode (mb 301) 5 = .ok (.aload_n 0, 1) := by decide +kernel
theorem d301_6 : decode (mb 301) 6 = .ok (.getfield 58, 3) := by decide +kernel
theorem d301_9 : decode (mb 301) 9 = .ok (.if_icmp .lt 7, 3) := by decide +kernel
theorem d301_12 : decode (mb 301) 12 = .ok (.iconst 1, 1) := by decide +kernel
theorem d301_13 : decode (mb 301) 13 = .ok (.goto 4, 3) := by decide +kernel
theorem d301_16 : decode (mb 301) 16 = .ok (.iconst 0, 1) := by decide +kernel
theorem d301_17 : decode (mb 301) 17 = .ok (.ireturn, 1) := by decide +kernel
theorem x301_0 {S : List Value} {h : HP} {l0 : Value} {x0 : Int32} : pX 301 0 [l0, .int x0] S h = pX 301 1 [l0, .int x0] (.int x0 :: S) h := pX_stp d301_0 rfl rfl rfl
theorem x301_1 {L S : List Value} {h : HP} {x : Int32} : pX 301 1 L (.int x :: S) h = if x < 0 then pX 301 12 L S h else pX 301 4 L S h := pX_if_lt d301_1 (by decide)
theorem x301_4 {S : List Value} {h : HP} {l0 : Value} {x0 : Int32} : pX 301 4 [l0, .int x0] S h = pX 301 5 [l0, .int x0] (.int x0 :: S) h := pX_stp d301_4 rfl rfl rfl
theorem x301_5 {S : List Value} {h : HP} {l1 : Value} {a0 : Nat} : pX 301 5 [.ref a0, l1] S h = pX 301 6 [.ref a0, l1] (.ref a0 :: S) h := pX_stp d301_5 rfl rfl rfl
theorem x301_6 {L S : List Value} {h : HP} {a : Nat} (hk : hp_k h a = 4) : pX 301 6 L (.ref a :: S) h = pX 301 9 L (.int (hp_i h a 1) :: S) h := pX_get d301_6 rfl rfl hk
theorem x301_9 {L S : List Value} {h : HP} {x y : Int32} : pX 301 9 L (.int y :: .int x :: S) h = if x < y then pX 301 16 L S h else pX 301 12 L S h := pX_icmp_lt d301_9 (by decide)
theorem x301_12 {L S : List Value} {h : HP} : pX 301 12 L S h = pX 301 13 L (.int 1 :: S) h := pX_iconst d301_12 (by decide)
theorem x301_13 {L S : List Value} {h : HP} : pX 301 13 L S h = pX 301 17 L S h := pX_goto d301_13 (by decide)
theorem x301_16 {L S : List Value} {h : HP} : pX 301 16 L S h = pX 301 17 L (.int 0 :: S) h := pX_iconst d301_16 (by decide)
theorem x301_17 {L : List Value} {h : HP} {x : Int32} (hx : x = 0 ∨ x = 1) : pX 301 17 L [.int x] h = some (some (.int x), h) := pX_ret d301_17 (by rcases hx with rfl | rfl <;> rfl)
theorem d302_0 : decode (mb 302) 0 = .ok (.aload_n 0, 1) := by decide +kernel
theorem d302_1 : decode (mb 302) 1 = .ok (.getfield 62, 3) := by decide +kernel
theorem d302_4 : decode (mb 302) 4 = .ok (.ifCond .le 7, 3) := by decide +kernel
theorem d302_7 : decode (mb 302) 7 = .ok (.iconst 1, 1) := by decide +kernel
theorem d302_8 : decode (mb 302) 8 = .ok (.goto 4, 3) := by decide +kernel
theorem d302_11 : decode (mb 302) 11 = .ok (.iconst 0, 1) := by decide +kernel
theorem d302_12 : decode (mb 302) 12 = .ok (.ireturn, 1) := by decide +kernel
theorem x302_0 {S : List Value} {h : HP}  {a0 : Nat} : pX 302 0 [.ref a0] S h = pX 302 1 [.ref a0] (.ref a0 :: S) h := pX_stp d302_0 rfl rfl rfl
theorem x302_1 {L S : List Value} {h : HP} {a : Nat} (hk : hp_k h a = 4) : pX 302 1 L (.ref a :: S) h = pX 302 4 L (.int (hp_i h a 7) :: S) h := pX_get d302_1 rfl rfl hk
theorem x302_4 {L S : List Value} {h : HP} {x : Int32} : pX 302 4 L (.int x :: S) h = if x ≤ 0 then pX 302 11 L S h else pX 302 7 L S h := pX_if_le d302_4 (by decide)
theorem x302_7 {L S : List Value} {h : HP} : pX 302 7 L S h = pX 302 8 L (.int 1 :: S) h := pX_iconst d302_7 (by decide)
theorem x302_8 {L S : List Value} {h : HP} : pX 302 8 L S h = pX 302 12 L S h := pX_goto d302_8 (by decide)
theorem x302_11 {L S : List Value} {h : HP} : pX 302 11 L S h = pX 302 12 L (.int 0 :: S) h := pX_iconst d302_11 (by decide)
theorem x302_12 {L : List Value} {h : HP} {x : Int32} (hx : x = 0 ∨ x = 1) : pX 302 12 L [.int x] h = some (some (.int x), h) := pX_ret d302_12 (by rcases hx with rfl | rfl <;> rfl)
theorem d303_0 : decode (mb 303) 0 = .ok (.aload_n 0, 1) := by decide +kernel
theorem d303_1 : decode (mb 303) 1 = .ok (.getfield 40, 3) := by decide +kernel
theorem d303_4 : decode (mb 303) 4 = .ok (.aload_n 0, 1) := by decide +kernel
theorem d303_5 : decode (mb 303) 5 = .ok (.getfield 62, 3) := by decide +kernel
theorem d303_8 : decode (mb 303) 8 = .ok (.iconst 1, 1) := by decide +kernel
theorem d303_9 : decode (mb 303) 9 = .ok (.isub, 1) := by decide +kernel
theorem d303_10 : decode (mb 303) 10 = .ok (.iconst 0, 1) := by decide +kernel
theorem d303_11 : decode (mb 303) 11 = .ok (.invokestatic 65, 3) := by decide +kernel
theorem d303_14 : decode (mb 303) 14 = .ok (.aaload, 1) := by decide +kernel
theorem d303_15 : decode (mb 303) 15 = .ok (.areturn, 1) := by decide +kernel
theorem x303_0 {S : List Value} {h : HP}  {a0 : Nat} : pX 303 0 [.ref a0] S h = pX 303 1 [.ref a0] (.ref a0 :: S) h := pX_stp d303_0 rfl rfl rfl
theorem x303_1 {L S : List Value} {h : HP} {a : Nat} (hk : hp_k h a = 4) : pX 303 1 L (.ref a :: S) h = pX 303 4 L (.ref (hp_a h a 6) :: S) h := pX_get d303_1 rfl rfl hk
theorem x303_4 {S : List Value} {h : HP}  {a0 : Nat} : pX 303 4 [.ref a0] S h = pX 303 5 [.ref a0] (.ref a0 :: S) h := pX_stp d303_4 rfl rfl rfl
theorem x303_5 {L S : List Value} {h : HP} {a : Nat} (hk : hp_k h a = 4) : pX 303 5 L (.ref a :: S) h = pX 303 8 L (.int (hp_i h a 7) :: S) h := pX_get d303_5 rfl rfl hk
theorem x303_8 {L S : List Value} {h : HP} : pX 303 8 L S h = pX 303 9 L (.int 1 :: S) h := pX_iconst d303_8 (by decide)
theorem x303_9 {L S : List Value} {h : HP} {x y : Int32} : pX 303 9 L (.int y :: .int x :: S) h = pX 303 10 L (.int (x - y) :: S) h := pX_stp d303_9 rfl rfl rfl
theorem x303_10 {L S : List Value} {h : HP} : pX 303 10 L S h = pX 303 11 L (.int 0 :: S) h := pX_iconst d303_10 (by decide)
theorem x303_11 {L : List Value} {h : HP} {x0 : Int32} {x1 : Int32} {a0 : Nat} : pX 303 11 L [.int x0, .int x1, .ref a0] h = pX 303 14 L [.int (if x1 < x0 then x0 else x1), .ref a0] h := pX_max d303_11 rfl (Nat.le_of_ble_eq_true rfl)
theorem x303_14 {L S : List Value} {h : HP} {a : Nat} {j : Int32} (hk : 200 ≤ hp_k h a) (hj : inb j (hp_l h a) = true) : pX 303 14 L (.int j :: .ref a :: S) h = pX 303 15 L (.ref (hp_a h a (ix j)) :: S) h := pX_ald d303_14 hk hj
theorem x303_15 {L : List Value} {h : HP} {a : Nat} : pX 303 15 L [.ref a] h = some (some (.ref a), h) := pX_ret d303_15 rfl
theorem d304_0 : decode (mb 304) 0 = .ok (.iconst 0, 1) := by decide +kernel
theorem d304_1 : decode (mb 304) 1 = .ok (.istore_n 1, 1) := by decide +kernel
theorem d304_2 : decode (mb 304) 2 = .ok (.iconst 0, 1) := by decide +kernel
theorem d304_3 : decode (mb 304) 3 = .ok (.istore_n 2, 1) := by decide +kernel
theorem d304_4 : decode (mb 304) 4 = .ok (.iload_n 2, 1) := by decide +kernel
theorem d304_5 : decode (mb 304) 5 = .ok (.bipush 12, 2) := by decide +kernel
theorem d304_7 : decode (mb 304) 7 = .ok (.if_icmp .ge 29, 3) := by decide +kernel
theorem d304_10 : decode (mb 304) 10 = .ok (.iload_n 2, 1) := by decide +kernel
theorem d304_11 : decode (mb 304) 11 = .ok (.aload_n 0, 1) := by decide +kernel
theorem d304_12 : decode (mb 304) 12 = .ok (.getfield 62, 3) := by decide +kernel
theorem d304_15 : decode (mb 304) 15 = .ok (.if_icmp .ge 21, 3) := by decide +kernel
theorem d304_18 : decode (mb 304) 18 = .ok (.iload_n 1, 1) := by decide +kernel
theorem d304_19 : decode (mb 304) 19 = .ok (.aload_n 0, 1) := by decide +kernel
theorem d304_20 : decode (mb 304) 20 = .ok (.getfield 40, 3) := by decide +kernel
theorem d304_23 : decode (mb 304) 23 = .ok (.iload_n 2, 1) := by decide +kernel
theorem d304_24 : decode (mb 304) 24 = .ok (.aaload, 1) := by decide +kernel
theorem d304_25 : decode (mb 304) 25 = .ok (.getfield 71, 3) := by decide +kernel
theorem d304_28 : decode (mb 304) 28 = .ok (.iadd, 1) := by decide +kernel
theorem d304_29 : decode (mb 304) 29 = .ok (.istore_n 1, 1) := by decide +kernel
theorem d304_30 : decode (mb 304) 30 = .ok (.iinc 2 1, 3) := by decide +kernel
theorem d304_33 : decode (mb 304) 33 = .ok (.goto (-29), 3) := by decide +kernel
theorem d304_36 : decode (mb 304) 36 = .ok (.iload_n 1, 1) := by decide +kernel
theorem d304_37 : decode (mb 304) 37 = .ok (.ireturn, 1) := by decide +kernel
theorem x304_0 {L S : List Value} {h : HP} : pX 304 0 L S h = pX 304 1 L (.int 0 :: S) h := pX_iconst d304_0 (by decide)
theorem x304_1 {S : List Value} {h : HP} {l0 l1 l2 : Value} {x0 : Int32} : pX 304 1 [l0, l1, l2] (.int x0 :: S) h = pX 304 2 [l0, .int x0, l2] S h := pX_stp d304_1 rfl rfl rfl
theorem x304_2 {L S : List Value} {h : HP} : pX 304 2 L S h = pX 304 3 L (.int 0 :: S) h := pX_iconst d304_2 (by decide)
theorem x304_3 {S : List Value} {h : HP} {l0 l1 l2 : Value} {x0 : Int32} : pX 304 3 [l0, l1, l2] (.int x0 :: S) h = pX 304 4 [l0, l1, .int x0] S h := pX_stp d304_3 rfl rfl rfl
theorem x304_4 {S : List Value} {h : HP} {l0 l1 : Value} {x0 : Int32} : pX 304 4 [l0, l1, .int x0] S h = pX 304 5 [l0, l1, .int x0] (.int x0 :: S) h := pX_stp d304_4 rfl rfl rfl
theorem x304_5 {L S : List Value} {h : HP} : pX 304 5 L S h = pX 304 7 L (.int 12 :: S) h := pX_bipush d304_5 (by decide)
theorem x304_7 {L S : List Value} {h : HP} {x y : Int32} : pX 304 7 L (.int y :: .int x :: S) h = if y ≤ x then pX 304 36 L S h else pX 304 10 L S h := pX_icmp_ge d304_7 (by decide)
theorem x304_10 {S : List Value} {h : HP} {l0 l1 : Value} {x0 : Int32} : pX 304 10 [l0, l1, .int x0] S h = pX 304 11 [l0, l1, .int x0] (.int x0 :: S) h := pX_stp d304_10 rfl rfl rfl
theorem x304_11 {S : List Value} {h : HP} {l1 l2 : Value} {a0 : Nat} : pX 304 11 [.ref a0, l1, l2] S h = pX 304 12 [.ref a0, l1, l2] (.ref a0 :: S) h := pX_stp d304_11 rfl rfl rfl
theorem x304_12 {L S : List Value} {h : HP} {a : Nat} (hk : hp_k h a = 4) : pX 304 12 L (.ref a :: S) h = pX 304 15 L (.int (hp_i h a 7) :: S) h := pX_get d304_12 rfl rfl hk
theorem x304_15 {L S : List Value} {h : HP} {x y : Int32} : pX 304 15 L (.int y :: .int x :: S) h = if y ≤ x then pX 304 36 L S h else pX 304 18 L S h := pX_icmp_ge d304_15 (by decide)
theorem x304_18 {S : List Value} {h : HP} {l0 l2 : Value} {x0 : Int32} : pX 304 18 [l0, .int x0, l2] S h = pX 304 19 [l0, .int x0, l2] (.int x0 :: S) h := pX_stp d304_18 rfl rfl rfl
theorem x304_19 {S : List Value} {h : HP} {l1 l2 : Value} {a0 : Nat} : pX 304 19 [.ref a0, l1, l2] S h = pX 304 20 [.ref a0, l1, l2] (.ref a0 :: S) h := pX_stp d304_19 rfl rfl rfl
theorem x304_20 {L S : List Value} {h : HP} {a : Nat} (hk : hp_k h a = 4) : pX 304 20 L (.ref a :: S) h = pX 304 23 L (.ref (hp_a h a 6) :: S) h := pX_get d304_20 rfl rfl hk
theorem x304_23 {S : List Value} {h : HP} {l0 l1 : Value} {x0 : Int32} : pX 304 23 [l0, l1, .int x0] S h = pX 304 24 [l0, l1, .int x0] (.int x0 :: S) h := pX_stp d304_23 rfl rfl rfl
theorem x304_24 {L S : List Value} {h : HP} {a : Nat} {j : Int32} (hk : 200 ≤ hp_k h a) (hj : inb j (hp_l h a) = true) : pX 304 24 L (.int j :: .ref a :: S) h = pX 304 25 L (.ref (hp_a h a (ix j)) :: S) h := pX_ald d304_24 hk hj
theorem x304_25 {L S : List Value} {h : HP} {a : Nat} (hk : hp_k h a = 2) : pX 304 25 L (.ref a :: S) h = pX 304 28 L (.int (hp_i h a 6) :: S) h := pX_get d304_25 rfl rfl hk
theorem x304_28 {L S : List Value} {h : HP} {x y : Int32} : pX 304 28 L (.int y :: .int x :: S) h = pX 304 29 L (.int (x + y) :: S) h := pX_stp d304_28 rfl rfl rfl
theorem x304_29 {S : List Value} {h : HP} {l0 l1 l2 : Value} {x0 : Int32} : pX 304 29 [l0, l1, l2] (.int x0 :: S) h = pX 304 30 [l0, .int x0, l2] S h := pX_stp d304_29 rfl rfl rfl
theorem x304_30 {S : List Value} {h : HP} {x0 : Int32} {l0 l1 : Value} : pX 304 30 [l0, l1, .int x0] S h = pX 304 33 [l0, l1, .int (x0 + 1)] S h := pX_iinc (x := x0) d304_30 (by decide) rfl (Nat.le_of_ble_eq_true rfl) rfl rfl
theorem x304_33 {L S : List Value} {h : HP} : pX 304 33 L S h = pX 304 4 L S h := pX_goto d304_33 (by decide)
theorem x304_36 {S : List Value} {h : HP} {l0 l2 : Value} {x0 : Int32} : pX 304 36 [l0, .int x0, l2] S h = pX 304 37 [l0, .int x0, l2] (.int x0 :: S) h := pX_stp d304_36 rfl rfl rfl
theorem x304_37 {L : List Value} {h : HP} {x : Int32} : pX 304 37 L [.int x] h = some (some (.int x), h) := pX_ret d304_37 rfl
theorem d305_0 : decode (mb 305) 0 = .ok (.aload_n 0, 1) := by decide +kernel
theorem d305_1 : decode (mb 305) 1 = .ok (.dup, 1) := by decide +kernel
theorem d305_2 : decode (mb 305) 2 = .ok (.getfield 74, 3) := by decide +kernel
theorem d305_5 : decode (mb 305) 5 = .ok (.iconst 1, 1) := by decide +kernel
theorem d305_6 : decode (mb 305) 6 = .ok (.iadd, 1) := by decide +kernel
theorem d305_7 : decode (mb 305) 7 = .ok (.putfield 74, 3) := by decide +kernel
theorem d305_10 : decode (mb 305) 10 = .ok (.aload_n 0, 1) := by decide +kernel
theorem d305_11 : decode (mb 305) 11 = .ok (.getfield 20, 3) := by decide +kernel
theorem d305_14 : decode (mb 305) 14 = .ok (.iload_n 2, 1) := by decide +kernel
theorem d305_15 : decode (mb 305) 15 = .ok (.invokevirtual 77, 3) := by decide +kernel
theorem d305_18 : decode (mb 305) 18 = .ok (.aload_n 0, 1) := by decide +kernel
theorem d305_19 : decode (mb 305) 19 = .ok (.iconst 0, 1) := by decide +kernel
theorem d305_20 : decode (mb 305) 20 = .ok (.putfield 81, 3) := by decide +kernel
theorem d305_23 : decode (mb 305) 23 = .ok (.aload_n 0, 1) := by decide +kernel
theorem d305_24 : decode (mb 305) 24 = .ok (.getfield 47, 3) := by decide +kernel
theorem d305_27 : decode (mb 305) 27 = .ok (.invokevirtual 84, 3) := by decide +kernel
theorem d305_30 : decode (mb 305) 30 = .ok (.aload_n 0, 1) := by decide +kernel
theorem d305_31 : decode (mb 305) 31 = .ok (.getfield 31, 3) := by decide +kernel
theorem d305_34 : decode (mb 305) 34 = .ok (.iconst 0, 1) := by decide +kernel
theorem d305_35 : decode (mb 305) 35 = .ok (.aload_n 0, 1) := by decide +kernel
theorem d305_36 : decode (mb 305) 36 = .ok (.getfield 35, 3) := by decide +kernel
theorem d305_39 : decode (mb 305) 39 = .ok (.iconst 0, 1) := by decide +kernel
theorem d305_40 : decode (mb 305) 40 = .ok (.bipush 12, 2) := by decide +kernel
theorem d305_42 : decode (mb 305) 42 = .ok (.invokestatic 87, 3) := by decide +kernel
theorem d305_45 : decode (mb 305) 45 = .ok (.aload_n 0, 1) := by decide +kernel
theorem d305_46 : decode (mb 305) 46 = .ok (.iload_n 1, 1) := by decide +kernel
theorem d305_47 : decode (mb 305) 47 = .ok (.aload_n 3, 1) := by decide +kernel
theorem d305_48 : decode (mb 305) 48 = .ok (.iconst 0, 1) := by decide +kernel
theorem d305_49 : decode (mb 305) 49 = .ok (.invokevirtual 93, 3) := by decide +kernel
theorem d305_52 : decode (mb 305) 52 = .ok (.ifCond .eq 10, 3) := by decide +kernel
theorem d305_55 : decode (mb 305) 55 = .ok (.aload_n 0, 1) := by decide +kernel
theorem d305_56 : decode (mb 305) 56 = .ok (.invokevirtual 97, 3) := by decide +kernel
theorem d305_59 : decode (mb 305) 59 = .ok (.goto 7, 3) := by decide +kernel
theorem d305_62 : decode (mb 305) 62 = .ok (.aload_n 0, 1) := by decide +kernel
theorem d305_63 : decode (mb 305) 63 = .ok (.invokevirtual 101, 3) := by decide +kernel
theorem d305_66 : decode (mb 305) 66 = .ok (.ireturn, 1) := by decide +kernel
theorem x305_0 {S : List Value} {h : HP} {l1 l2 l3 : Value} {a0 : Nat} : pX 305 0 [.ref a0, l1, l2, l3] S h = pX 305 1 [.ref a0, l1, l2, l3] (.ref a0 :: S) h := pX_stp d305_0 rfl rfl rfl
theorem x305_1 {L S : List Value} {h : HP} {a0 : Nat} : pX 305 1 L (.ref a0 :: S) h = pX 305 2 L (.ref a0 :: .ref a0 :: S) h := pX_stp d305_1 rfl rfl rfl
theorem x305_2 {L S : List Value} {h : HP} {a : Nat} (hk : hp_k h a = 4) : pX 305 2 L (.ref a :: S) h = pX 305 5 L (.int (hp_i h a 12) :: S) h := pX_get d305_2 rfl rfl hk
theorem x305_5 {L S : List Value} {h : HP} : pX 305 5 L S h = pX 305 6 L (.int 1 :: S) h := pX_iconst d305_5 (by decide)
theorem x305_6 {L S : List Value} {h : HP} {x y : Int32} : pX 305 6 L (.int y :: .int x :: S) h = pX 305 7 L (.int (x + y) :: S) h := pX_stp d305_6 rfl rfl rfl
theorem x305_7 {L S : List Value} {h : HP} {a : Nat} {x : Int32} (hk : hp_k h a = 4) : pX 305 7 L (.int x :: .ref a :: S) h = pX 305 10 L S (hp_wi h a 12 x) := pX_put d305_7 rfl rfl rfl hk
theorem x305_10 {S : List Value} {h : HP} {l1 l2 l3 : Value} {a0 : Nat} : pX 305 10 [.ref a0, l1, l2, l3] S h = pX 305 11 [.ref a0, l1, l2, l3] (.ref a0 :: S) h := pX_stp d305_10 rfl rfl rfl
theorem x305_11 {L S : List Value} {h : HP} {a : Nat} (hk : hp_k h a = 4) : pX 305 11 L (.ref a :: S) h = pX 305 14 L (.ref (hp_a h a 2) :: S) h := pX_get d305_11 rfl rfl hk
theorem x305_14 {S : List Value} {h : HP} {l0 l1 l3 : Value} {x0 : Int32} : pX 305 14 [l0, l1, .int x0, l3] S h = pX 305 15 [l0, l1, .int x0, l3] (.int x0 :: S) h := pX_stp d305_14 rfl rfl rfl
theorem x305_15 {L : List Value} {h : HP} {x0 : Int32} {a0 : Nat} (hk : hp_k h a0 = 7) : pX 305 15 L [.int x0, .ref a0] h = (pX 601 0 [.ref a0, .int x0, .retAddr 0] [] h).bind (fun q => pX 305 18 L (q.1.toList ++ []) q.2) := pX_inv (a := a0) (t := 7) 601 [.ref a0, .int x0] [] d305_15 rfl rfl rfl hk
theorem x305_18 {S : List Value} {h : HP} {l1 l2 l3 : Value} {a0 : Nat} : pX 305 18 [.ref a0, l1, l2, l3] S h = pX 305 19 [.ref a0, l1, l2, l3] (.ref a0 :: S) h := pX_stp d305_18 rfl rfl rfl
theorem x305_19 {L S : List Value} {h : HP} : pX 305 19 L S h = pX 305 20 L (.int 0 :: S) h := pX_iconst d305_19 (by decide)
theorem x305_20 {L S : List Value} {h : HP} {a : Nat} {x : Int32} (hk : hp_k h a = 4) : pX 305 20 L (.int x :: .ref a :: S) h = pX 305 23 L S (hp_wi h a 11 x) := pX_put d305_20 rfl rfl rfl hk
theorem x305_23 {S : List Value} {h : HP} {l1 l2 l3 : Value} {a0 : Nat} : pX 305 23 [.ref a0, l1, l2, l3] S h = pX 305 24 [.ref a0, l1, l2, l3] (.ref a0 :: S) h := pX_stp d305_23 rfl rfl rfl
theorem x305_24 {L S : List Value} {h : HP} {a : Nat} (hk : hp_k h a = 4) : pX 305 24 L (.ref a :: S) h = pX 305 27 L (.ref (hp_a h a 8) :: S) h := pX_get d305_24 rfl rfl hk
theorem x305_27 {L : List Value} {h : HP} {a0 : Nat} (hk : hp_k h a0 = 9) : pX 305 27 L [.ref a0] h = (pX 801 0 [.ref a0] [] h).bind (fun q => pX 305 30 L (q.1.toList ++ []) q.2) := pX_inv (a := a0) (t := 9) 801 [.ref a0] [] d305_27 rfl rfl rfl hk
theorem x305_30 {S : List Value} {h : HP} {l1 l2 l3 : Value} {a0 : Nat} : pX 305 30 [.ref a0, l1, l2, l3] S h = pX 305 31 [.ref a0, l1, l2, l3] (.ref a0 :: S) h := pX_stp d305_30 rfl rfl rfl
theorem x305_31 {L S : List Value} {h : HP} {a : Nat} (hk : hp_k h a = 4) : pX 305 31 L (.ref a :: S) h = pX 305 34 L (.ref (hp_a h a 4) :: S) h := pX_get d305_31 rfl rfl hk
theorem x305_34 {L S : List Value} {h : HP} : pX 305 34 L S h = pX 305 35 L (.int 0 :: S) h := pX_iconst d305_34 (by decide)
theorem x305_35 {S : List Value} {h : HP} {l1 l2 l3 : Value} {a0 : Nat} : pX 305 35 [.ref a0, l1, l2, l3] S h = pX 305 36 [.ref a0, l1, l2, l3] (.ref a0 :: S) h := pX_stp d305_35 rfl rfl rfl
theorem x305_36 {L S : List Value} {h : HP} {a : Nat} (hk : hp_k h a = 4) : pX 305 36 L (.ref a :: S) h = pX 305 39 L (.ref (hp_a h a 5) :: S) h := pX_get d305_36 rfl rfl hk
theorem x305_39 {L S : List Value} {h : HP} : pX 305 39 L S h = pX 305 40 L (.int 0 :: S) h := pX_iconst d305_39 (by decide)
theorem x305_40 {L S : List Value} {h : HP} : pX 305 40 L S h = pX 305 42 L (.int 12 :: S) h := pX_bipush d305_40 (by decide)
theorem x305_42 {L : List Value} {h : HP} {x0 : Int32} {x1 : Int32} {a0 : Nat} {x2 : Int32} {a1 : Nat} (ha : hp_k h a1 = 100) (hb : hp_k h a0 = 100) (h1 : 0 ≤ x2) (h2 : 0 ≤ x1) (h3 : 0 ≤ x0) (h4 : ix x2 + ix x0 ≤ hp_l h a1) (h5 : ix x1 + ix x0 ≤ hp_l h a0) : pX 305 42 L [.int x0, .int x1, .ref a0, .int x2, .ref a1] h = pX 305 45 L [] (hp_cp h a1 (ix x2) a0 (ix x1) (ix x0)) := pX_copy d305_42 rfl (Nat.le_of_ble_eq_true rfl) ha hb h1 h2 h3 h4 h5
theorem x305_45 {S : List Value} {h : HP} {l1 l2 l3 : Value} {a0 : Nat} : pX 305 45 [.ref a0, l1, l2, l3] S h = pX 305 46 [.ref a0, l1, l2, l3] (.ref a0 :: S) h := pX_stp d305_45 rfl rfl rfl
theorem x305_46 {S : List Value} {h : HP} {l0 l2 l3 : Value} {x0 : Int32} : pX 305 46 [l0, .int x0, l2, l3] S h = pX 305 47 [l0, .int x0, l2, l3] (.int x0 :: S) h := pX_stp d305_46 rfl rfl rfl
theorem x305_47 {S : List Value} {h : HP} {l0 l1 l2 : Value} {a0 : Nat} : pX 305 47 [l0, l1, l2, .ref a0] S h = pX 305 48 [l0, l1, l2, .ref a0] (.ref a0 :: S) h := pX_stp d305_47 rfl rfl rfl
theorem x305_48 {L S : List Value} {h : HP} : pX 305 48 L S h = pX 305 49 L (.int 0 :: S) h := pX_iconst d305_48 (by decide)
theorem x305_49 {L : List Value} {h : HP} {x0 : Int32} {a0 : Nat} {x1 : Int32} {a1 : Nat} (hk : hp_k h a1 = 4) : pX 305 49 L [.int x0, .ref a0, .int x1, .ref a1] h = (pX 308 0 [.ref a1, .int x1, .ref a0, .int x0, .retAddr 0] [] h).bind (fun q => pX 305 52 L (q.1.toList ++ []) q.2) := pX_inv (a := a1) (t := 4) 308 [.ref a1, .int x1, .ref a0, .int x0] [] d305_49 rfl rfl rfl hk
theorem x305_52 {L S : List Value} {h : HP} {x : Int32} : pX 305 52 L (.int x :: S) h = if x = 0 then pX 305 62 L S h else pX 305 55 L S h := pX_if_eq d305_52 (by decide)
theorem x305_55 {S : List Value} {h : HP} {l1 l2 l3 : Value} {a0 : Nat} : pX 305 55 [.ref a0, l1, l2, l3] S h = pX 305 56 [.ref a0, l1, l2, l3] (.ref a0 :: S) h := pX_stp d305_55 rfl rfl rfl
theorem x305_56 {L : List Value} {h : HP} {a0 : Nat} (hk : hp_k h a0 = 4) : pX 305 56 L [.ref a0] h = (pX 310 0 [.ref a0, .retAddr 0, .retAddr 0] [] h).bind (fun q => pX 305 59 L (q.1.toList ++ []) q.2) := pX_inv (a := a0) (t := 4) 310 [.ref a0] [] d305_56 rfl rfl rfl hk
theorem x305_59 {L S : List Value} {h : HP} : pX 305 59 L S h = pX 305 66 L S h := pX_goto d305_59 (by decide)
theorem x305_62 {S : List Value} {h : HP} {l1 l2 l3 : Value} {a0 : Nat} : pX 305 62 [.ref a0, l1, l2, l3] S h = pX 305 63 [.ref a0, l1, l2, l3] (.ref a0 :: S) h := pX_stp d305_62 rfl rfl rfl
theorem x305_63 {L : List Value} {h : HP} {a0 : Nat} (hk : hp_k h a0 = 4) : pX 305 63 L [.ref a0] h = (pX 313 0 [.ref a0, .retAddr 0] [] h).bind (fun q => pX 305 66 L (q.1.toList ++ []) q.2) := pX_inv (a := a0) (t := 4) 313 [.ref a0] [] d305_63 rfl rfl rfl hk
theorem x305_66 {L : List Value} {h : HP} {x : Int32} : pX 305 66 L [.int x] h = some (some (.int x), h) := pX_ret d305_66 rfl
theorem d306_0 : decode (mb 306) 0 = .ok (.iconst 1, 1) := by decide +kernel
theorem d306_1 : decode (mb 306) 1 = .ok (.istore_n 2, 1) := by decide +kernel
theorem d306_2 : decode (mb 306) 2 = .ok (.iconst 0, 1) := by decide +kernel
theorem d306_3 : decode (mb 306) 3 = .ok (.istore_n 3, 1) := by decide +kernel
theorem d306_4 : decode (mb 306) 4 = .ok (.iload_n 3, 1) := by decide +kernel
theorem d306_5 : decode (mb 306) 5 = .ok (.iload_n 1, 1) := by decide +kernel
theorem d306_6 : decode (mb 306) 6 = .ok (.if_icmp .ge 19, 3) := by decide +kernel
theorem d306_9 : decode (mb 306) 9 = .ok (.iload_n 2, 1) := by decide +kernel
theorem d306_10 : decode (mb 306) 10 = .ok (.iconst 1, 1) := by decide +kernel
theorem d306_11 : decode (mb 306) 11 = .ok (.if_icmp .ne 14, 3) := by decide +kernel
theorem d306_14 : decode (mb 306) 14 = .ok (.aload_n 0, 1) := by decide +kernel
theorem d306_15 : decode (mb 306) 15 = .ok (.invokevirtual 104, 3) := by decide +kernel
theorem d306_18 : decode (mb 306) 18 = .ok (.istore_n 2, 1) := by decide +kernel
theorem d306_19 : decode (mb 306) 19 = .ok (.iinc 3 1, 3) := by decide +kernel
theorem d306_22 : decode (mb 306) 22 = .ok (.goto (-18), 3) := by decide +kernel
theorem d306_25 : decode (mb 306) 25 = .ok (.iload_n 2, 1) := by decide +kernel
theorem d306_26 : decode (mb 306) 26 = .ok (.ireturn, 1) := by decide +kernel
theorem x306_0 {L S : List Value} {h : HP} : pX 306 0 L S h = pX 306 1 L (.int 1 :: S) h := pX_iconst d306_0 (by decide)
theorem x306_1 {S : List Value} {h : HP} {l0 l1 l2 l3 : Value} {x0 : Int32} : pX 306 1 [l0, l1, l2, l3] (.int x0 :: S) h = pX 306 2 [l0, l1, .int x0, l3] S h := pX_stp d306_1 rfl rfl rfl
theorem x306_2 {L S : List Value} {h : HP} : pX 306 2 L S h = pX 306 3 L (.int 0 :: S) h := pX_iconst d306_2 (by decide)
theorem x306_3 {S : List Value} {h : HP} {l0 l1 l2 l3 : Value} {x0 : Int32} : pX 306 3 [l0, l1, l2, l3] (.int x0 :: S) h = pX 306 4 [l0, l1, l2, .int x0] S h := pX_stp d306_3 rfl rfl rfl
theorem x306_4 {S : List Value} {h : HP} {l0 l1 l2 : Value} {x0 : Int32} : pX 306 4 [l0, l1, l2, .int x0] S h = pX 306 5 [l0, l1, l2, .int x0] (.int x0 :: S) h := pX_stp d306_4 rfl rfl rfl
theorem x306_5 {S : List Value} {h : HP} {l0 l2 l3 : Value} {x0 : Int32} : pX 306 5 [l0, .int x0, l2, l3] S h = pX 306 6 [l0, .int x0, l2, l3] (.int x0 :: S) h := pX_stp d306_5 rfl rfl rfl
theorem x306_6 {L S : List Value} {h : HP} {x y : Int32} : pX 306 6 L (.int y :: .int x :: S) h = if y ≤ x then pX 306 25 L S h else pX 306 9 L S h := pX_icmp_ge d306_6 (by decide)
theorem x306_9 {S : List Value} {h : HP} {l0 l1 l3 : Value} {x0 : Int32} : pX 306 9 [l0, l1, .int x0, l3] S h = pX 306 10 [l0, l1, .int x0, l3] (.int x0 :: S) h := pX_stp d306_9 rfl rfl rfl
theorem x306_10 {L S : List Value} {h : HP} : pX 306 10 L S h = pX 306 11 L (.int 1 :: S) h := pX_iconst d306_10 (by decide)
theorem x306_11 {L S : List Value} {h : HP} {x y : Int32} : pX 306 11 L (.int y :: .int x :: S) h = if x = y then pX 306 14 L S h else pX 306 25 L S h := pX_icmp_ne d306_11 (by decide)
theorem x306_14 {S : List Value} {h : HP} {l1 l2 l3 : Value} {a0 : Nat} : pX 306 14 [.ref a0, l1, l2, l3] S h = pX 306 15 [.ref a0, l1, l2, l3] (.ref a0 :: S) h := pX_stp d306_14 rfl rfl rfl
theorem x306_15 {L : List Value} {h : HP} {a0 : Nat} (hk : hp_k h a0 = 4) : pX 306 15 L [.ref a0] h = (pX 307 0 [.ref a0, .retAddr 0, .retAddr 0] [] h).bind (fun q => pX 306 18 L (q.1.toList ++ []) q.2) := pX_inv (a := a0) (t := 4) 307 [.ref a0] [] d306_15 rfl rfl rfl hk
theorem x306_18 {S : List Value} {h : HP} {l0 l1 l2 l3 : Value} {x0 : Int32} : pX 306 18 [l0, l1, l2, l3] (.int x0 :: S) h = pX 306 19 [l0, l1, .int x0, l3] S h := pX_stp d306_18 rfl rfl rfl
theorem x306_19 {S : List Value} {h : HP} {x0 : Int32} {l0 l1 l2 : Value} : pX 306 19 [l0, l1, l2, .int x0] S h = pX 306 22 [l0, l1, l2, .int (x0 + 1)] S h := pX_iinc (x := x0) d306_19 (by decide) rfl (Nat.le_of_ble_eq_true rfl) rfl rfl
theorem x306_22 {L S : List Value} {h : HP} : pX 306 22 L S h = pX 306 4 L S h := pX_goto d306_22 (by decide)
theorem x306_25 {S : List Value} {h : HP} {l0 l1 l3 : Value} {x0 : Int32} : pX 306 25 [l0, l1, .int x0, l3] S h = pX 306 26 [l0, l1, .int x0, l3] (.int x0 :: S) h := pX_stp d306_25 rfl rfl rfl
theorem x306_26 {L : List Value} {h : HP} {x : Int32} : pX 306 26 L [.int x] h = some (some (.int x), h) := pX_ret d306_26 rfl
theorem d307_0 : decode (mb 307) 0 = .ok (.aload_n 0, 1) := by decide +kernel
theorem d307_1 : decode (mb 307) 1 = .ok (.invokevirtual 107, 3) := by decide +kernel
theorem d307_4 : decode (mb 307) 4 = .ok (.astore_n 1, 1) := by decide +kernel
theorem d307_5 : decode (mb 307) 5 = .ok (.aload_n 0, 1) := by decide +kernel
theorem d307_6 : decode (mb 307) 6 = .ok (.aload_n 1, 1) := by decide +kernel
theorem d307_7 : decode (mb 307) 7 = .ok (.invokevirtual 111, 3) := by decide +kernel
theorem d307_10 : decode (mb 307) 10 = .ok (.istore_n 2, 1) := by decide +kernel
theorem d307_11 : decode (mb 307) 11 = .ok (.iload_n 2, 1) := by decide +kernel
theorem d307_12 : decode (mb 307) 12 = .ok (.ifCond .le 12, 3) := by decide +kernel
theorem d307_15 : decode (mb 307) 15 = .ok (.aload_n 0, 1) := by decide +kernel
theorem d307_16 : decode (mb 307) 16 = .ok (.iload_n 2, 1) := by decide +kernel
theorem d307_17 : decode (mb 307) 17 = .ok (.invokevirtual 115, 3) := by decide +kernel
theorem d307_20 : decode (mb 307) 20 = .ok (.istore_n 2, 1) := by decide +kernel
theorem d307_21 : decode (mb 307) 21 = .ok (.goto 17, 3) := by decide +kernel
theorem d307_24 : decode (mb 307) 24 = .ok (.iload_n 2, 1) := by decide +kernel
theorem d307_25 : decode (mb 307) 25 = .ok (.ifCond .ne 13, 3) := by decide +kernel
theorem d307_28 : decode (mb 307) 28 = .ok (.aload_n 1, 1) := by decide +kernel
theorem d307_29 : decode (mb 307) 29 = .ok (.dup, 1) := by decide +kernel
theorem d307_30 : decode (mb 307) 30 = .ok (.getfield 119, 3) := by decide +kernel
theorem d307_33 : decode (mb 307) 33 = .ok (.iconst 1, 1) := by decide +kernel
theorem d307_34 : decode (mb 307) 34 = .ok (.iadd, 1) := by decide +kernel
theorem d307_35 : decode (mb 307) 35 = .ok (.putfield 119, 3) := by decide +kernel
theorem d307_38 : decode (mb 307) 38 = .ok (.iload_n 2, 1) := by decide +kernel
theorem d307_39 : decode (mb 307) 39 = .ok (.bipush (-9), 2) := by decide +kernel
theorem d307_41 : decode (mb 307) 41 = .ok (.if_icmp .ne 8, 3) := by decide +kernel
theorem d307_44 : decode (mb 307) 44 = .ok (.aload_n 0, 1) := by decide +kernel
theorem d307_45 : decode (mb 307) 45 = .ok (.invokevirtual 101, 3) := by decide +kernel
theorem d307_48 : decode (mb 307) 48 = .ok (.ireturn, 1) := by decide +kernel
theorem d307_49 : decode (mb 307) 49 = .ok (.iload_n 2, 1) := by decide +kernel
theorem d307_50 : decode (mb 307) 50 = .ok (.bipush (-10), 2) := by decide +kernel
theorem d307_52 : decode (mb 307) 52 = .ok (.if_icmp .ge 7, 3) := by decide +kernel
theorem d307_55 : decode (mb 307) 55 = .ok (.iload_n 2, 1) := by decide +kernel
theorem d307_56 : decode (mb 307) 56 = .ok (.goto 7, 3) := by decide +kernel
theorem d307_59 : decode (mb 307) 59 = .ok (.aload_n 0, 1) := by decide +kernel
theorem d307_60 : decode (mb 307) 60 = .ok (.invokevirtual 97, 3) := by decide +kernel
theorem d307_63 : decode (mb 307) 63 = .ok (.ireturn, 1) := by decide +kernel
theorem x307_0 {S : List Value} {h : HP} {l1 l2 : Value} {a0 : Nat} : pX 307 0 [.ref a0, l1, l2] S h = pX 307 1 [.ref a0, l1, l2] (.ref a0 :: S) h := pX_stp d307_0 rfl rfl rfl
theorem x307_1 {L : List Value} {h : HP} {a0 : Nat} (hk : hp_k h a0 = 4) : pX 307 1 L [.ref a0] h = (pX 303 0 [.ref a0] [] h).bind (fun q => pX 307 4 L (q.1.toList ++ []) q.2) := pX_inv (a := a0) (t := 4) 303 [.ref a0] [] d307_1 rfl rfl rfl hk
theorem x307_4 {S : List Value} {h : HP} {l0 l1 l2 : Value} {a0 : Nat} : pX 307 4 [l0, l1, l2] (.ref a0 :: S) h = pX 307 5 [l0, .ref a0, l2] S h := pX_stp d307_4 rfl rfl rfl
theorem x307_5 {S : List Value} {h : HP} {l1 l2 : Value} {a0 : Nat} : pX 307 5 [.ref a0, l1, l2] S h = pX 307 6 [.ref a0, l1, l2] (.ref a0 :: S) h := pX_stp d307_5 rfl rfl rfl
theorem x307_6 {S : List Value} {h : HP} {l0 l2 : Value} {a0 : Nat} : pX 307 6 [l0, .ref a0, l2] S h = pX 307 7 [l0, .ref a0, l2] (.ref a0 :: S) h := pX_stp d307_6 rfl rfl rfl
theorem x307_7 {L : List Value} {h : HP} {a0 : Nat} {a1 : Nat} (hk : hp_k h a1 = 4) : pX 307 7 L [.ref a0, .ref a1] h = (pX 315 0 [.ref a1, .ref a0, .retAddr 0, .retAddr 0, .retAddr 0, .retAddr 0, .retAddr 0, .retAddr 0, .retAddr 0] [] h).bind (fun q => pX 307 10 L (q.1.toList ++ []) q.2) := pX_inv (a := a1) (t := 4) 315 [.ref a1, .ref a0] [] d307_7 rfl rfl rfl hk
theorem x307_10 {S : List Value} {h : HP} {l0 l1 l2 : Value} {x0 : Int32} : pX 307 10 [l0, l1, l2] (.int x0 :: S) h = pX 307 11 [l0, l1, .int x0] S h := pX_stp d307_10 rfl rfl rfl
theorem x307_11 {S : List Value} {h : HP} {l0 l1 : Value} {x0 : Int32} : pX 307 11 [l0, l1, .int x0] S h = pX 307 12 [l0, l1, .int x0] (.int x0 :: S) h := pX_stp d307_11 rfl rfl rfl
theorem x307_12 {L S : List Value} {h : HP} {x : Int32} : pX 307 12 L (.int x :: S) h = if x ≤ 0 then pX 307 24 L S h else pX 307 15 L S h := pX_if_le d307_12 (by decide)
theorem x307_15 {S : List Value} {h : HP} {l1 l2 : Value} {a0 : Nat} : pX 307 15 [.ref a0, l1, l2] S h = pX 307 16 [.ref a0, l1, l2] (.ref a0 :: S) h := pX_stp d307_15 rfl rfl rfl
theorem x307_16 {S : List Value} {h : HP} {l0 l1 : Value} {x0 : Int32} : pX 307 16 [l0, l1, .int x0] S h = pX 307 17 [l0, l1, .int x0] (.int x0 :: S) h := pX_stp d307_16 rfl rfl rfl
theorem x307_17 {L : List Value} {h : HP} {x0 : Int32} {a0 : Nat} (hk : hp_k h a0 = 4) : pX 307 17 L [.int x0, .ref a0] h = (pX 311 0 [.ref a0, .int x0, .retAddr 0, .retAddr 0, .retAddr 0] [] h).bind (fun q => pX 307 20 L (q.1.toList ++ []) q.2) := pX_inv (a := a0) (t := 4) 311 [.ref a0, .int x0] [] d307_17 rfl rfl rfl hk
theorem x307_20 {S : List Value} {h : HP} {l0 l1 l2 : Value} {x0 : Int32} : pX 307 20 [l0, l1, l2] (.int x0 :: S) h = pX 307 21 [l0, l1, .int x0] S h := pX_stp d307_20 rfl rfl rfl
theorem x307_21 {L S : List Value} {h : HP} : pX 307 21 L S h = pX 307 38 L S h := pX_goto d307_21 (by decide)
theorem x307_24 {S : List Value} {h : HP} {l0 l1 : Value} {x0 : Int32} : pX 307 24 [l0, l1, .int x0] S h = pX 307 25 [l0, l1, .int x0] (.int x0 :: S) h := pX_stp d307_24 rfl rfl rfl
theorem x307_25 {L S : List Value} {h : HP} {x : Int32} : pX 307 25 L (.int x :: S) h = if x = 0 then pX 307 28 L S h else pX 307 38 L S h := pX_if_ne d307_25 (by decide)
theorem x307_28 {S : List Value} {h : HP} {l0 l2 : Value} {a0 : Nat} : pX 307 28 [l0, .ref a0, l2] S h = pX 307 29 [l0, .ref a0, l2] (.ref a0 :: S) h := pX_stp d307_28 rfl rfl rfl
theorem x307_29 {L S : List Value} {h : HP} {a0 : Nat} : pX 307 29 L (.ref a0 :: S) h = pX 307 30 L (.ref a0 :: .ref a0 :: S) h := pX_stp d307_29 rfl rfl rfl
theorem x307_30 {L S : List Value} {h : HP} {a : Nat} (hk : hp_k h a = 2) : pX 307 30 L (.ref a :: S) h = pX 307 33 L (.int (hp_i h a 4) :: S) h := pX_get d307_30 rfl rfl hk
theorem x307_33 {L S : List Value} {h : HP} : pX 307 33 L S h = pX 307 34 L (.int 1 :: S) h := pX_iconst d307_33 (by decide)
theorem x307_34 {L S : List Value} {h : HP} {x y : Int32} : pX 307 34 L (.int y :: .int x :: S) h = pX 307 35 L (.int (x + y) :: S) h := pX_stp d307_34 rfl rfl rfl
theorem x307_35 {L S : List Value} {h : HP} {a : Nat} {x : Int32} (hk : hp_k h a = 2) : pX 307 35 L (.int x :: .ref a :: S) h = pX 307 38 L S (hp_wi h a 4 x) := pX_put d307_35 rfl rfl rfl hk
theorem x307_38 {S : List Value} {h : HP} {l0 l1 : Value} {x0 : Int32} : pX 307 38 [l0, l1, .int x0] S h = pX 307 39 [l0, l1, .int x0] (.int x0 :: S) h := pX_stp d307_38 rfl rfl rfl
theorem x307_39 {L S : List Value} {h : HP} : pX 307 39 L S h = pX 307 41 L (.int (-9) :: S) h := pX_bipush d307_39 (by decide)
theorem x307_41 {L S : List Value} {h : HP} {x y : Int32} : pX 307 41 L (.int y :: .int x :: S) h = if x = y then pX 307 44 L S h else pX 307 49 L S h := pX_icmp_ne d307_41 (by decide)
theorem x307_44 {S : List Value} {h : HP} {l1 l2 : Value} {a0 : Nat} : pX 307 44 [.ref a0, l1, l2] S h = pX 307 45 [.ref a0, l1, l2] (.ref a0 :: S) h := pX_stp d307_44 rfl rfl rfl
theorem x307_45 {L : List Value} {h : HP} {a0 : Nat} (hk : hp_k h a0 = 4) : pX 307 45 L [.ref a0] h = (pX 313 0 [.ref a0, .retAddr 0] [] h).bind (fun q => pX 307 48 L (q.1.toList ++ []) q.2) := pX_inv (a := a0) (t := 4) 313 [.ref a0] [] d307_45 rfl rfl rfl hk
theorem x307_48 {L : List Value} {h : HP} {x : Int32} : pX 307 48 L [.int x] h = some (some (.int x), h) := pX_ret d307_48 rfl
theorem x307_49 {S : List Value} {h : HP} {l0 l1 : Value} {x0 : Int32} : pX 307 49 [l0, l1, .int x0] S h = pX 307 50 [l0, l1, .int x0] (.int x0 :: S) h := pX_stp d307_49 rfl rfl rfl
theorem x307_50 {L S : List Value} {h : HP} : pX 307 50 L S h = pX 307 52 L (.int (-10) :: S) h := pX_bipush d307_50 (by decide)
theorem x307_52 {L S : List Value} {h : HP} {x y : Int32} : pX 307 52 L (.int y :: .int x :: S) h = if y ≤ x then pX 307 59 L S h else pX 307 55 L S h := pX_icmp_ge d307_52 (by decide)
theorem x307_55 {S : List Value} {h : HP} {l0 l1 : Value} {x0 : Int32} : pX 307 55 [l0, l1, .int x0] S h = pX 307 56 [l0, l1, .int x0] (.int x0 :: S) h := pX_stp d307_55 rfl rfl rfl
theorem x307_56 {L S : List Value} {h : HP} : pX 307 56 L S h = pX 307 63 L S h := pX_goto d307_56 (by decide)
theorem x307_59 {S : List Value} {h : HP} {l1 l2 : Value} {a0 : Nat} : pX 307 59 [.ref a0, l1, l2] S h = pX 307 60 [.ref a0, l1, l2] (.ref a0 :: S) h := pX_stp d307_59 rfl rfl rfl
theorem x307_60 {L : List Value} {h : HP} {a0 : Nat} (hk : hp_k h a0 = 4) : pX 307 60 L [.ref a0] h = (pX 310 0 [.ref a0, .retAddr 0, .retAddr 0] [] h).bind (fun q => pX 307 63 L (q.1.toList ++ []) q.2) := pX_inv (a := a0) (t := 4) 310 [.ref a0] [] d307_60 rfl rfl rfl hk
theorem x307_63 {L : List Value} {h : HP} {x : Int32} : pX 307 63 L [.int x] h = some (some (.int x), h) := pX_ret d307_63 rfl
theorem d308_0 : decode (mb 308) 0 = .ok (.aload_n 0, 1) := by decide +kernel
theorem d308_1 : decode (mb 308) 1 = .ok (.getfield 20, 3) := by decide +kernel
theorem d308_4 : decode (mb 308) 4 = .ok (.iconst 0, 1) := by decide +kernel
theorem d308_5 : decode (mb 308) 5 = .ok (.invokevirtual 122, 3) := by decide +kernel
theorem d308_8 : decode (mb 308) 8 = .ok (.ifCond .ne 5, 3) := by decide +kernel
theorem d308_11 : decode (mb 308) 11 = .ok (.iconst 0, 1) := by decide +kernel
theorem d308_12 : decode (mb 308) 12 = .ok (.ireturn, 1) := by decide +kernel
theorem d308_13 : decode (mb 308) 13 = .ok (.aload_n 0, 1) := by decide +kernel
theorem d308_14 : decode (mb 308) 14 = .ok (.getfield 11, 3) := by decide +kernel
theorem d308_17 : decode (mb 308) 17 = .ok (.iload_n 1, 1) := by decide +kernel
theorem d308_18 : decode (mb 308) 18 = .ok (.aaload, 1) := by decide +kernel
theorem d308_19 : decode (mb 308) 19 = .ok (.astore 4, 2) := by decide +kernel
theorem d308_21 : decode (mb 308) 21 = .ok (.aload_n 0, 1) := by decide +kernel
theorem d308_22 : decode (mb 308) 22 = .ok (.getfield 40, 3) := by decide +kernel
theorem d308_25 : decode (mb 308) 25 = .ok (.aload_n 0, 1) := by decide +kernel
theorem d308_26 : decode (mb 308) 26 = .ok (.getfield 62, 3) := by decide +kernel
theorem d308_29 : decode (mb 308) 29 = .ok (.aaload, 1) := by decide +kernel
theorem d308_30 : decode (mb 308) 30 = .ok (.aload 4, 2) := by decide +kernel
theorem d308_32 : decode (mb 308) 32 = .ok (.iload_n 1, 1) := by decide +kernel
theorem d308_33 : decode (mb 308) 33 = .ok (.aload_n 2, 1) := by decide +kernel
theorem d308_34 : decode (mb 308) 34 = .ok (.iload_n 3, 1) := by decide +kernel
theorem d308_35 : decode (mb 308) 35 = .ok (.invokevirtual 126, 3) := by decide +kernel
theorem d308_38 : decode (mb 308) 38 = .ok (.aload_n 0, 1) := by decide +kernel
theorem d308_39 : decode (mb 308) 39 = .ok (.dup, 1) := by decide +kernel
theorem d308_40 : decode (mb 308) 40 = .ok (.getfield 62, 3) := by decide +kernel
theorem d308_43 : decode (mb 308) 43 = .ok (.iconst 1, 1) := by decide +kernel
theorem d308_44 : decode (mb 308) 44 = .ok (.iadd, 1) := by decide +kernel
theorem d308_45 : decode (mb 308) 45 = .ok (.putfield 62, 3) := by decide +kernel
theorem d308_48 : decode (mb 308) 48 = .ok (.aload 4, 2) := by decide +kernel
theorem d308_50 : decode (mb 308) 50 = .ok (.dup, 1) := by decide +kernel
theorem d308_51 : decode (mb 308) 51 = .ok (.getfield 130, 3) := by decide +kernel
theorem d308_54 : decode (mb 308) 54 = .ok (.iconst 1, 1) := by decide +kernel
theorem d308_55 : decode (mb 308) 55 = .ok (.iadd, 1) := by decide +kernel
theorem d308_56 : decode (mb 308) 56 = .ok (.putfield 130, 3) := by decide +kernel
theorem d308_59 : decode (mb 308) 59 = .ok (.aload_n 0, 1) := by decide +kernel
theorem d308_60 : decode (mb 308) 60 = .ok (.getfield 20, 3) := by decide +kernel
theorem d308_63 : decode (mb 308) 63 = .ok (.getfield 133, 3) := by decide +kernel
theorem d308_66 : decode (mb 308) 66 = .ok (.bipush 6, 2) := by decide +kernel
theorem d308_68 : decode (mb 308) 68 = .ok (.aload_n 0, 1) := by decide +kernel
theorem d308_69 : decode (mb 308) 69 = .ok (.getfield 20, 3) := by decide +kernel
theorem d308_72 : decode (mb 308) 72 = .ok (.getfield 133, 3) := by decide +kernel
theorem d308_75 : decode (mb 308) 75 = .ok (.bipush 6, 2) := by decide +kernel
theorem d308_77 : decode (mb 308) 77 = .ok (.iaload, 1) := by decide +kernel
theorem d308_78 : decode (mb 308) 78 = .ok (.aload_n 0, 1) := by decide +kernel
theorem d308_79 : decode (mb 308) 79 = .ok (.getfield 62, 3) := by decide +kernel
theorem d308_82 : decode (mb 308) 82 = .ok (.invokestatic 65, 3) := by decide +kernel
theorem d308_85 : decode (mb 308) 85 = .ok (.iastore, 1) := by decide +kernel
theorem d308_86 : decode (mb 308) 86 = .ok (.aload_n 0, 1) := by decide +kernel
theorem d308_87 : decode (mb 308) 87 = .ok (.bipush 100, 2) := by decide +kernel
theorem d308_89 : decode (mb 308) 89 = .ok (.iload_n 1, 1) := by decide +kernel
theorem d308_90 : decode (mb 308) 90 = .ok (.iadd, 1) := by decide +kernel
theorem d308_91 : decode (mb 308) 91 = .ok (.invokevirtual 136, 3) := by decide +kernel
theorem d308_94 : decode (mb 308) 94 = .ok (.iconst 1, 1) := by decide +kernel
theorem d308_95 : decode (mb 308) 95 = .ok (.ireturn, 1) := by decide +kernel
theorem x308_0 {S : List Value} {h : HP} {l1 l2 l3 l4 : Value} {a0 : Nat} : pX 308 0 [.ref a0, l1, l2, l3, l4] S h = pX 308 1 [.ref a0, l1, l2, l3, l4] (.ref a0 :: S) h := pX_stp d308_0 rfl rfl rfl
theorem x308_1 {L S : List Value} {h : HP} {a : Nat} (hk : hp_k h a = 4) : pX 308 1 L (.ref a :: S) h = pX 308 4 L (.ref (hp_a h a 2) :: S) h := pX_get d308_1 rfl rfl hk
theorem x308_4 {L S : List Value} {h : HP} : pX 308 4 L S h = pX 308 5 L (.int 0 :: S) h := pX_iconst d308_4 (by decide)
theorem x308_5 {L : List Value} {h : HP} {x0 : Int32} {a0 : Nat} (hk : hp_k h a0 = 7) : pX 308 5 L [.int x0, .ref a0] h = (pX 603 0 [.ref a0, .int x0] [] h).bind (fun q => pX 308 8 L (q.1.toList ++ []) q.2) := pX_inv (a := a0) (t := 7) 603 [.ref a0, .int x0] [] d308_5 rfl rfl rfl hk
theorem x308_8 {L S : List Value} {h : HP} {x : Int32} : pX 308 8 L (.int x :: S) h = if x = 0 then pX 308 11 L S h else pX 308 13 L S h := pX_if_ne d308_8 (by decide)
theorem x308_11 {L S : List Value} {h : HP} : pX 308 11 L S h = pX 308 12 L (.int 0 :: S) h := pX_iconst d308_11 (by decide)
theorem x308_12 {L : List Value} {h : HP} {x : Int32} (hx : x = 0 ∨ x = 1) : pX 308 12 L [.int x] h = some (some (.int x), h) := pX_ret d308_12 (by rcases hx with rfl | rfl <;> rfl)
theorem x308_13 {S : List Value} {h : HP} {l1 l2 l3 l4 : Value} {a0 : Nat} : pX 308 13 [.ref a0, l1, l2, l3, l4] S h = pX 308 14 [.ref a0, l1, l2, l3, l4] (.ref a0 :: S) h := pX_stp d308_13 rfl rfl rfl
theorem x308_14 {L S : List Value} {h : HP} {a : Nat} (hk : hp_k h a = 4) : pX 308 14 L (.ref a :: S) h = pX 308 17 L (.ref (hp_a h a 0) :: S) h := pX_get d308_14 rfl rfl hk
theorem x308_17 {S : List Value} {h : HP} {l0 l2 l3 l4 : Value} {x0 : Int32} : pX 308 17 [l0, .int x0, l2, l3, l4] S h = pX 308 18 [l0, .int x0, l2, l3, l4] (.int x0 :: S) h := pX_stp d308_17 rfl rfl rfl
theorem x308_18 {L S : List Value} {h : HP} {a : Nat} {j : Int32} (hk : 200 ≤ hp_k h a) (hj : inb j (hp_l h a) = true) : pX 308 18 L (.int j :: .ref a :: S) h = pX 308 19 L (.ref (hp_a h a (ix j)) :: S) h := pX_ald d308_18 hk hj
theorem x308_19 {S : List Value} {h : HP} {l0 l1 l2 l3 l4 : Value} {a0 : Nat} : pX 308 19 [l0, l1, l2, l3, l4] (.ref a0 :: S) h = pX 308 21 [l0, l1, l2, l3, .ref a0] S h := pX_stp d308_19 rfl rfl rfl
theorem x308_21 {S : List Value} {h : HP} {l1 l2 l3 l4 : Value} {a0 : Nat} : pX 308 21 [.ref a0, l1, l2, l3, l4] S h = pX 308 22 [.ref a0, l1, l2, l3, l4] (.ref a0 :: S) h := pX_stp d308_21 rfl rfl rfl
theorem x308_22 {L S : List Value} {h : HP} {a : Nat} (hk : hp_k h a = 4) : pX 308 22 L (.ref a :: S) h = pX 308 25 L (.ref (hp_a h a 6) :: S) h := pX_get d308_22 rfl rfl hk
theorem x308_25 {S : List Value} {h : HP} {l1 l2 l3 l4 : Value} {a0 : Nat} : pX 308 25 [.ref a0, l1, l2, l3, l4] S h = pX 308 26 [.ref a0, l1, l2, l3, l4] (.ref a0 :: S) h := pX_stp d308_25 rfl rfl rfl
theorem x308_26 {L S : List Value} {h : HP} {a : Nat} (hk : hp_k h a = 4) : pX 308 26 L (.ref a :: S) h = pX 308 29 L (.int (hp_i h a 7) :: S) h := pX_get d308_26 rfl rfl hk
theorem x308_29 {L S : List Value} {h : HP} {a : Nat} {j : Int32} (hk : 200 ≤ hp_k h a) (hj : inb j (hp_l h a) = true) : pX 308 29 L (.int j :: .ref a :: S) h = pX 308 30 L (.ref (hp_a h a (ix j)) :: S) h := pX_ald d308_29 hk hj
theorem x308_30 {S : List Value} {h : HP} {l0 l1 l2 l3 : Value} {a0 : Nat} : pX 308 30 [l0, l1, l2, l3, .ref a0] S h = pX 308 32 [l0, l1, l2, l3, .ref a0] (.ref a0 :: S) h := pX_stp d308_30 rfl rfl rfl
theorem x308_32 {S : List Value} {h : HP} {l0 l2 l3 l4 : Value} {x0 : Int32} : pX 308 32 [l0, .int x0, l2, l3, l4] S h = pX 308 33 [l0, .int x0, l2, l3, l4] (.int x0 :: S) h := pX_stp d308_32 rfl rfl rfl
theorem x308_33 {S : List Value} {h : HP} {l0 l1 l3 l4 : Value} {a0 : Nat} : pX 308 33 [l0, l1, .ref a0, l3, l4] S h = pX 308 34 [l0, l1, .ref a0, l3, l4] (.ref a0 :: S) h := pX_stp d308_33 rfl rfl rfl
theorem x308_34 {S : List Value} {h : HP} {l0 l1 l2 l4 : Value} {x0 : Int32} : pX 308 34 [l0, l1, l2, .int x0, l4] S h = pX 308 35 [l0, l1, l2, .int x0, l4] (.int x0 :: S) h := pX_stp d308_34 rfl rfl rfl
theorem x308_35 {L : List Value} {h : HP} {x0 : Int32} {a0 : Nat} {x1 : Int32} {a1 : Nat} {a2 : Nat} (hk : hp_k h a2 = 2) : pX 308 35 L [.int x0, .ref a0, .int x1, .ref a1, .ref a2] h = (pX 101 0 [.ref a2, .ref a1, .int x1, .ref a0, .int x0, .retAddr 0] [] h).bind (fun q => pX 308 38 L (q.1.toList ++ []) q.2) := pX_inv (a := a2) (t := 2) 101 [.ref a2, .ref a1, .int x1, .ref a0, .int x0] [] d308_35 rfl rfl rfl hk
theorem x308_38 {S : List Value} {h : HP} {l1 l2 l3 l4 : Value} {a0 : Nat} : pX 308 38 [.ref a0, l1, l2, l3, l4] S h = pX 308 39 [.ref a0, l1, l2, l3, l4] (.ref a0 :: S) h := pX_stp d308_38 rfl rfl rfl
theorem x308_39 {L S : List Value} {h : HP} {a0 : Nat} : pX 308 39 L (.ref a0 :: S) h = pX 308 40 L (.ref a0 :: .ref a0 :: S) h := pX_stp d308_39 rfl rfl rfl
theorem x308_40 {L S : List Value} {h : HP} {a : Nat} (hk : hp_k h a = 4) : pX 308 40 L (.ref a :: S) h = pX 308 43 L (.int (hp_i h a 7) :: S) h := pX_get d308_40 rfl rfl hk
theorem x308_43 {L S : List Value} {h : HP} : pX 308 43 L S h = pX 308 44 L (.int 1 :: S) h := pX_iconst d308_43 (by decide)
theorem x308_44 {L S : List Value} {h : HP} {x y : Int32} : pX 308 44 L (.int y :: .int x :: S) h = pX 308 45 L (.int (x + y) :: S) h := pX_stp d308_44 rfl rfl rfl
theorem x308_45 {L S : List Value} {h : HP} {a : Nat} {x : Int32} (hk : hp_k h a = 4) : pX 308 45 L (.int x :: .ref a :: S) h = pX 308 48 L S (hp_wi h a 7 x) := pX_put d308_45 rfl rfl rfl hk
theorem x308_48 {S : List Value} {h : HP} {l0 l1 l2 l3 : Value} {a0 : Nat} : pX 308 48 [l0, l1, l2, l3, .ref a0] S h = pX 308 50 [l0, l1, l2, l3, .ref a0] (.ref a0 :: S) h := pX_stp d308_48 rfl rfl rfl
theorem x308_50 {L S : List Value} {h : HP} {a0 : Nat} : pX 308 50 L (.ref a0 :: S) h = pX 308 51 L (.ref a0 :: .ref a0 :: S) h := pX_stp d308_50 rfl rfl rfl
theorem x308_51 {L S : List Value} {h : HP} {a : Nat} (hk : hp_k h a = 5) : pX 308 51 L (.ref a :: S) h = pX 308 54 L (.int (hp_i h a 1) :: S) h := pX_get d308_51 rfl rfl hk
theorem x308_54 {L S : List Value} {h : HP} : pX 308 54 L S h = pX 308 55 L (.int 1 :: S) h := pX_iconst d308_54 (by decide)
theorem x308_55 {L S : List Value} {h : HP} {x y : Int32} : pX 308 55 L (.int y :: .int x :: S) h = pX 308 56 L (.int (x + y) :: S) h := pX_stp d308_55 rfl rfl rfl
theorem x308_56 {L S : List Value} {h : HP} {a : Nat} {x : Int32} (hk : hp_k h a = 5) : pX 308 56 L (.int x :: .ref a :: S) h = pX 308 59 L S (hp_wi h a 1 x) := pX_put d308_56 rfl rfl rfl hk
theorem x308_59 {S : List Value} {h : HP} {l1 l2 l3 l4 : Value} {a0 : Nat} : pX 308 59 [.ref a0, l1, l2, l3, l4] S h = pX 308 60 [.ref a0, l1, l2, l3, l4] (.ref a0 :: S) h := pX_stp d308_59 rfl rfl rfl
theorem x308_60 {L S : List Value} {h : HP} {a : Nat} (hk : hp_k h a = 4) : pX 308 60 L (.ref a :: S) h = pX 308 63 L (.ref (hp_a h a 2) :: S) h := pX_get d308_60 rfl rfl hk
theorem x308_63 {L S : List Value} {h : HP} {a : Nat} (hk : hp_k h a = 7) : pX 308 63 L (.ref a :: S) h = pX 308 66 L (.ref (hp_a h a 1) :: S) h := pX_get d308_63 rfl rfl hk
theorem x308_66 {L S : List Value} {h : HP} : pX 308 66 L S h = pX 308 68 L (.int 6 :: S) h := pX_bipush d308_66 (by decide)
theorem x308_68 {S : List Value} {h : HP} {l1 l2 l3 l4 : Value} {a0 : Nat} : pX 308 68 [.ref a0, l1, l2, l3, l4] S h = pX 308 69 [.ref a0, l1, l2, l3, l4] (.ref a0 :: S) h := pX_stp d308_68 rfl rfl rfl
theorem x308_69 {L S : List Value} {h : HP} {a : Nat} (hk : hp_k h a = 4) : pX 308 69 L (.ref a :: S) h = pX 308 72 L (.ref (hp_a h a 2) :: S) h := pX_get d308_69 rfl rfl hk
theorem x308_72 {L S : List Value} {h : HP} {a : Nat} (hk : hp_k h a = 7) : pX 308 72 L (.ref a :: S) h = pX 308 75 L (.ref (hp_a h a 1) :: S) h := pX_get d308_72 rfl rfl hk
theorem x308_75 {L S : List Value} {h : HP} : pX 308 75 L S h = pX 308 77 L (.int 6 :: S) h := pX_bipush d308_75 (by decide)
theorem x308_77 {L S : List Value} {h : HP} {a : Nat} {j : Int32} (hk : hp_k h a = 100) (hj : inb j (hp_l h a) = true) : pX 308 77 L (.int j :: .ref a :: S) h = pX 308 78 L (.int (hp_i h a (ix j)) :: S) h := pX_ild d308_77 hk hj
theorem x308_78 {S : List Value} {h : HP} {l1 l2 l3 l4 : Value} {a0 : Nat} : pX 308 78 [.ref a0, l1, l2, l3, l4] S h = pX 308 79 [.ref a0, l1, l2, l3, l4] (.ref a0 :: S) h := pX_stp d308_78 rfl rfl rfl
theorem x308_79 {L S : List Value} {h : HP} {a : Nat} (hk : hp_k h a = 4) : pX 308 79 L (.ref a :: S) h = pX 308 82 L (.int (hp_i h a 7) :: S) h := pX_get d308_79 rfl rfl hk
theorem x308_82 {L : List Value} {h : HP} {x0 : Int32} {x1 : Int32} {x2 : Int32} {a0 : Nat} : pX 308 82 L [.int x0, .int x1, .int x2, .ref a0] h = pX 308 85 L [.int (if x1 < x0 then x0 else x1), .int x2, .ref a0] h := pX_max d308_82 rfl (Nat.le_of_ble_eq_true rfl)
theorem x308_85 {L S : List Value} {h : HP} {a : Nat} {j x : Int32} (hk : hp_k h a = 100) (hj : inb j (hp_l h a) = true) : pX 308 85 L (.int x :: .int j :: .ref a :: S) h = pX 308 86 L S (hp_wi h a (ix j) x) := pX_ist d308_85 hk hj
theorem x308_86 {S : List Value} {h : HP} {l1 l2 l3 l4 : Value} {a0 : Nat} : pX 308 86 [.ref a0, l1, l2, l3, l4] S h = pX 308 87 [.ref a0, l1, l2, l3, l4] (.ref a0 :: S) h := pX_stp d308_86 rfl rfl rfl
theorem x308_87 {L S : List Value} {h : HP} : pX 308 87 L S h = pX 308 89 L (.int 100 :: S) h := pX_bipush d308_87 (by decide)
theorem x308_89 {S : List Value} {h : HP} {l0 l2 l3 l4 : Value} {x0 : Int32} : pX 308 89 [l0, .int x0, l2, l3, l4] S h = pX 308 90 [l0, .int x0, l2, l3, l4] (.int x0 :: S) h := pX_stp d308_89 rfl rfl rfl
theorem x308_90 {L S : List Value} {h : HP} {x y : Int32} : pX 308 90 L (.int y :: .int x :: S) h = pX 308 91 L (.int (x + y) :: S) h := pX_stp d308_90 rfl rfl rfl
theorem x308_91 {L : List Value} {h : HP} {x0 : Int32} {a0 : Nat} (hk : hp_k h a0 = 4) : pX 308 91 L [.int x0, .ref a0] h = (pX 314 0 [.ref a0, .int x0] [] h).bind (fun q => pX 308 94 L (q.1.toList ++ []) q.2) := pX_inv (a := a0) (t := 4) 314 [.ref a0, .int x0] [] d308_91 rfl rfl rfl hk
theorem x308_94 {L S : List Value} {h : HP} : pX 308 94 L S h = pX 308 95 L (.int 1 :: S) h := pX_iconst d308_94 (by decide)
theorem x308_95 {L : List Value} {h : HP} {x : Int32} (hx : x = 0 ∨ x = 1) : pX 308 95 L [.int x] h = some (some (.int x), h) := pX_ret d308_95 (by rcases hx with rfl | rfl <;> rfl)
theorem d309_0 : decode (mb 309) 0 = .ok (.aload_n 0, 1) := by decide +kernel
theorem d309_1 : decode (mb 309) 1 = .ok (.invokevirtual 107, 3) := by decide +kernel
theorem d309_4 : decode (mb 309) 4 = .ok (.astore_n 1, 1) := by decide +kernel
theorem d309_5 : decode (mb 309) 5 = .ok (.aload_n 0, 1) := by decide +kernel
theorem d309_6 : decode (mb 309) 6 = .ok (.getfield 20, 3) := by decide +kernel
theorem d309_9 : decode (mb 309) 9 = .ok (.getfield 133, 3) := by decide +kernel
theorem d309_12 : decode (mb 309) 12 = .ok (.bipush 8, 2) := by decide +kernel
theorem d309_14 : decode (mb 309) 14 = .ok (.dup2, 1) := by decide +kernel
theorem d309_15 : decode (mb 309) 15 = .ok (.iaload, 1) := by decide +kernel
theorem d309_16 : decode (mb 309) 16 = .ok (.aload_n 1, 1) := by decide +kernel
theorem d309_17 : decode (mb 309) 17 = .ok (.getfield 71, 3) := by decide +kernel
theorem d309_20 : decode (mb 309) 20 = .ok (.iadd, 1) := by decide +kernel
theorem d309_21 : decode (mb 309) 21 = .ok (.iastore, 1) := by decide +kernel
theorem d309_22 : decode (mb 309) 22 = .ok (.aload_n 0, 1) := by decide +kernel
theorem d309_23 : decode (mb 309) 23 = .ok (.getfield 27, 3) := by decide +kernel
theorem d309_26 : decode (mb 309) 26 = .ok (.aload_n 1, 1) := by decide +kernel
theorem d309_27 : decode (mb 309) 27 = .ok (.invokevirtual 139, 3) := by decide +kernel
theorem d309_30 : decode (mb 309) 30 = .ok (.aload_n 0, 1) := by decide +kernel
theorem d309_31 : decode (mb 309) 31 = .ok (.dup, 1) := by decide +kernel
theorem d309_32 : decode (mb 309) 32 = .ok (.getfield 62, 3) := by decide +kernel
theorem d309_35 : decode (mb 309) 35 = .ok (.iconst 1, 1) := by decide +kernel
theorem d309_36 : decode (mb 309) 36 = .ok (.isub, 1) := by decide +kernel
theorem d309_37 : decode (mb 309) 37 = .ok (.putfield 62, 3) := by decide +kernel
theorem d309_40 : decode (mb 309) 40 = .ok (.return_, 1) := by decide +kernel
theorem x309_0 {S : List Value} {h : HP} {l1 : Value} {a0 : Nat} : pX 309 0 [.ref a0, l1] S h = pX 309 1 [.ref a0, l1] (.ref a0 :: S) h := pX_stp d309_0 rfl rfl rfl
theorem x309_1 {L : List Value} {h : HP} {a0 : Nat} (hk : hp_k h a0 = 4) : pX 309 1 L [.ref a0] h = (pX 303 0 [.ref a0] [] h).bind (fun q => pX 309 4 L (q.1.toList ++ []) q.2) := pX_inv (a := a0) (t := 4) 303 [.ref a0] [] d309_1 rfl rfl rfl hk
theorem x309_4 {S : List Value} {h : HP} {l0 l1 : Value} {a0 : Nat} : pX 309 4 [l0, l1] (.ref a0 :: S) h = pX 309 5 [l0, .ref a0] S h := pX_stp d309_4 rfl rfl rfl
theorem x309_5 {S : List Value} {h : HP} {l1 : Value} {a0 : Nat} : pX 309 5 [.ref a0, l1] S h = pX 309 6 [.ref a0, l1] (.ref a0 :: S) h := pX_stp d309_5 rfl rfl rfl
theorem x309_6 {L S : List Value} {h : HP} {a : Nat} (hk : hp_k h a = 4) : pX 309 6 L (.ref a :: S) h = pX 309 9 L (.ref (hp_a h a 2) :: S) h := pX_get d309_6 rfl rfl hk
theorem x309_9 {L S : List Value} {h : HP} {a : Nat} (hk : hp_k h a = 7) : pX 309 9 L (.ref a :: S) h = pX 309 12 L (.ref (hp_a h a 1) :: S) h := pX_get d309_9 rfl rfl hk
theorem x309_12 {L S : List Value} {h : HP} : pX 309 12 L S h = pX 309 14 L (.int 8 :: S) h := pX_bipush d309_12 (by decide)
theorem x309_14 {L S : List Value} {h : HP} {x0 : Int32} {a0 : Nat} : pX 309 14 L (.int x0 :: .ref a0 :: S) h = pX 309 15 L (.int x0 :: .ref a0 :: .int x0 :: .ref a0 :: S) h := pX_stp d309_14 rfl rfl rfl
theorem x309_15 {L S : List Value} {h : HP} {a : Nat} {j : Int32} (hk : hp_k h a = 100) (hj : inb j (hp_l h a) = true) : pX 309 15 L (.int j :: .ref a :: S) h = pX 309 16 L (.int (hp_i h a (ix j)) :: S) h := pX_ild d309_15 hk hj
theorem x309_16 {S : List Value} {h : HP} {l0 : Value} {a0 : Nat} : pX 309 16 [l0, .ref a0] S h = pX 309 17 [l0, .ref a0] (.ref a0 :: S) h := pX_stp d309_16 rfl rfl rfl
theorem x309_17 {L S : List Value} {h : HP} {a : Nat} (hk : hp_k h a = 2) : pX 309 17 L (.ref a :: S) h = pX 309 20 L (.int (hp_i h a 6) :: S) h := pX_get d309_17 rfl rfl hk
theorem x309_20 {L S : List Value} {h : HP} {x y : Int32} : pX 309 20 L (.int y :: .int x :: S) h = pX 309 21 L (.int (x + y) :: S) h := pX_stp d309_20 rfl rfl rfl
theorem x309_21 {L S : List Value} {h : HP} {a : Nat} {j x : Int32} (hk : hp_k h a = 100) (hj : inb j (hp_l h a) = true) : pX 309 21 L (.int x :: .int j :: .ref a :: S) h = pX 309 22 L S (hp_wi h a (ix j) x) := pX_ist d309_21 hk hj
theorem x309_22 {S : List Value} {h : HP} {l1 : Value} {a0 : Nat} : pX 309 22 [.ref a0, l1] S h = pX 309 23 [.ref a0, l1] (.ref a0 :: S) h := pX_stp d309_22 rfl rfl rfl
theorem x309_23 {L S : List Value} {h : HP} {a : Nat} (hk : hp_k h a = 4) : pX 309 23 L (.ref a :: S) h = pX 309 26 L (.ref (hp_a h a 3) :: S) h := pX_get d309_23 rfl rfl hk
theorem x309_26 {S : List Value} {h : HP} {l0 : Value} {a0 : Nat} : pX 309 26 [l0, .ref a0] S h = pX 309 27 [l0, .ref a0] (.ref a0 :: S) h := pX_stp d309_26 rfl rfl rfl
theorem x309_27 {L : List Value} {h : HP} {a0 : Nat} {a1 : Nat} (hk : hp_k h a1 = 6) : pX 309 27 L [.ref a0, .ref a1] h = (pX 504 0 [.ref a1, .ref a0, .retAddr 0, .retAddr 0] [] h).bind (fun q => pX 309 30 L (q.1.toList ++ []) q.2) := pX_inv (a := a1) (t := 6) 504 [.ref a1, .ref a0] [] d309_27 rfl rfl rfl hk
theorem x309_30 {S : List Value} {h : HP} {l1 : Value} {a0 : Nat} : pX 309 30 [.ref a0, l1] S h = pX 309 31 [.ref a0, l1] (.ref a0 :: S) h := pX_stp d309_30 rfl rfl rfl
theorem x309_31 {L S : List Value} {h : HP} {a0 : Nat} : pX 309 31 L (.ref a0 :: S) h = pX 309 32 L (.ref a0 :: .ref a0 :: S) h := pX_stp d309_31 rfl rfl rfl
theorem x309_32 {L S : List Value} {h : HP} {a : Nat} (hk : hp_k h a = 4) : pX 309 32 L (.ref a :: S) h = pX 309 35 L (.int (hp_i h a 7) :: S) h := pX_get d309_32 rfl rfl hk
theorem x309_35 {L S : List Value} {h : HP} : pX 309 35 L S h = pX 309 36 L (.int 1 :: S) h := pX_iconst d309_35 (by decide)
theorem x309_36 {L S : List Value} {h : HP} {x y : Int32} : pX 309 36 L (.int y :: .int x :: S) h = pX 309 37 L (.int (x - y) :: S) h := pX_stp d309_36 rfl rfl rfl
theorem x309_37 {L S : List Value} {h : HP} {a : Nat} {x : Int32} (hk : hp_k h a = 4) : pX 309 37 L (.int x :: .ref a :: S) h = pX 309 40 L S (hp_wi h a 7 x) := pX_put d309_37 rfl rfl rfl hk
theorem x309_40 {L : List Value} {h : HP} : pX 309 40 L [] h = some (none, h) := pX_ret d309_40 rfl
theorem d310_0 : decode (mb 310) 0 = .ok (.iconst 0, 1) := by decide +kernel
theorem d310_1 : decode (mb 310) 1 = .ok (.istore_n 1, 1) := by decide +kernel
theorem d310_2 : decode (mb 310) 2 = .ok (.iload_n 1, 1) := by decide +kernel
theorem d310_3 : decode (mb 310) 3 = .ok (.bipush 12, 2) := by decide +kernel
theorem d310_5 : decode (mb 310) 5 = .ok (.if_icmp .ge 74, 3) := by decide +kernel
theorem d310_8 : decode (mb 310) 8 = .ok (.aload_n 0, 1) := by decide +kernel
theorem d310_9 : decode (mb 310) 9 = .ok (.getfield 62, 3) := by decide +kernel
theorem d310_12 : decode (mb 310) 12 = .ok (.ifCond .le 67, 3) := by decide +kernel
theorem d310_15 : decode (mb 310) 15 = .ok (.aload_n 0, 1) := by decide +kernel
theorem d310_16 : decode (mb 310) 16 = .ok (.invokevirtual 107, 3) := by decide +kernel
theorem d310_19 : decode (mb 310) 19 = .ok (.invokevirtual 143, 3) := by decide +kernel
theorem d310_22 : decode (mb 310) 22 = .ok (.ifCond .eq 57, 3) := by decide +kernel
theorem d310_25 : decode (mb 310) 25 = .ok (.aload_n 0, 1) := by decide +kernel
theorem d310_26 : decode (mb 310) 26 = .ok (.invokevirtual 107, 3) := by decide +kernel
theorem d310_29 : decode (mb 310) 29 = .ok (.getfield 147, 3) := by decide +kernel
theorem d310_32 : decode (mb 310) 32 = .ok (.astore_n 2, 1) := by decide +kernel
theorem d310_33 : decode (mb 310) 33 = .ok (.aload_n 0, 1) := by decide +kernel
theorem d310_34 : decode (mb 310) 34 = .ok (.invokevirtual 150, 3) := by decide +kernel
theorem d310_37 : decode (mb 310) 37 = .ok (.aload_n 0, 1) := by decide +kernel
theorem d310_38 : decode (mb 310) 38 = .ok (.getfield 62, 3) := by decide +kernel
theorem d310_41 : decode (mb 310) 41 = .ok (.ifCond .le 14, 3) := by decide +kernel
theorem d310_44 : decode (mb 310) 44 = .ok (.aload_n 0, 1) := by decide +kernel
theorem d310_45 : decode (mb 310) 45 = .ok (.invokevirtual 107, 3) := by decide +kernel
theorem d310_48 : decode (mb 310) 48 = .ok (.aload_n 2, 1) := by decide +kernel
theorem d310_49 : decode (mb 310) 49 = .ok (.invokevirtual 153, 3) := by decide +kernel
theorem d310_52 : decode (mb 310) 52 = .ok (.goto 21, 3) := by decide +kernel
theorem d310_55 : decode (mb 310) 55 = .ok (.aload_n 0, 1) := by decide +kernel
theorem d310_56 : decode (mb 310) 56 = .ok (.getfield 47, 3) := by decide +kernel
theorem d310_59 : decode (mb 310) 59 = .ok (.aload_n 2, 1) := by decide +kernel
theorem d310_60 : decode (mb 310) 60 = .ok (.invokevirtual 157, 3) := by decide +kernel
theorem d310_63 : decode (mb 310) 63 = .ok (.aload_n 0, 1) := by decide +kernel
theorem d310_64 : decode (mb 310) 64 = .ok (.dup, 1) := by decide +kernel
theorem d310_65 : decode (mb 310) 65 = .ok (.getfield 160, 3) := by decide +kernel
theorem d310_68 : decode (mb 310) 68 = .ok (.iconst 1, 1) := by decide +kernel
theorem d310_69 : decode (mb 310) 69 = .ok (.iadd, 1) := by decide +kernel
theorem d310_70 : decode (mb 310) 70 = .ok (.putfield 160, 3) := by decide +kernel
theorem d310_73 : decode (mb 310) 73 = .ok (.iinc 1 1, 3) := by decide +kernel
theorem d310_76 : decode (mb 310) 76 = .ok (.goto (-74), 3) := by decide +kernel
theorem d310_79 : decode (mb 310) 79 = .ok (.aload_n 0, 1) := by decide +kernel
theorem d310_80 : decode (mb 310) 80 = .ok (.getfield 62, 3) := by decide +kernel
theorem d310_83 : decode (mb 310) 83 = .ok (.ifCond .le 7, 3) := by decide +kernel
theorem d310_86 : decode (mb 310) 86 = .ok (.iconst 1, 1) := by decide +kernel
theorem d310_87 : decode (mb 310) 87 = .ok (.goto 4, 3) := by decide +kernel
theorem d310_90 : decode (mb 310) 90 = .ok (.iconst 0, 1) := by decide +kernel
theorem d310_91 : decode (mb 310) 91 = .ok (.ireturn, 1) := by decide +kernel
theorem x310_0 {L S : List Value} {h : HP} : pX 310 0 L S h = pX 310 1 L (.int 0 :: S) h := pX_iconst d310_0 (by decide)
theorem x310_1 {S : List Value} {h : HP} {l0 l1 l2 : Value} {x0 : Int32} : pX 310 1 [l0, l1, l2] (.int x0 :: S) h = pX 310 2 [l0, .int x0, l2] S h := pX_stp d310_1 rfl rfl rfl
theorem x310_2 {S : List Value} {h : HP} {l0 l2 : Value} {x0 : Int32} : pX 310 2 [l0, .int x0, l2] S h = pX 310 3 [l0, .int x0, l2] (.int x0 :: S) h := pX_stp d310_2 rfl rfl rfl
theorem x310_3 {L S : List Value} {h : HP} : pX 310 3 L S h = pX 310 5 L (.int 12 :: S) h := pX_bipush d310_3 (by decide)
theorem x310_5 {L S : List Value} {h : HP} {x y : Int32} : pX 310 5 L (.int y :: .int x :: S) h = if y ≤ x then pX 310 79 L S h else pX 310 8 L S h := pX_icmp_ge d310_5 (by decide)
theorem x310_8 {S : List Value} {h : HP} {l1 l2 : Value} {a0 : Nat} : pX 310 8 [.ref a0, l1, l2] S h = pX 310 9 [.ref a0, l1, l2] (.ref a0 :: S) h := pX_stp d310_8 rfl rfl rfl
theorem x310_9 {L S : List Value} {h : HP} {a : Nat} (hk : hp_k h a = 4) : pX 310 9 L (.ref a :: S) h = pX 310 12 L (.int (hp_i h a 7) :: S) h := pX_get d310_9 rfl rfl hk
theorem x310_12 {L S : List Value} {h : HP} {x : Int32} : pX 310 12 L (.int x :: S) h = if x ≤ 0 then pX 310 79 L S h else pX 310 15 L S h := pX_if_le d310_12 (by decide)
theorem x310_15 {S : List Value} {h : HP} {l1 l2 : Value} {a0 : Nat} : pX 310 15 [.ref a0, l1, l2] S h = pX 310 16 [.ref a0, l1, l2] (.ref a0 :: S) h := pX_stp d310_15 rfl rfl rfl
theorem x310_16 {L : List Value} {h : HP} {a0 : Nat} (hk : hp_k h a0 = 4) : pX 310 16 L [.ref a0] h = (pX 303 0 [.ref a0] [] h).bind (fun q => pX 310 19 L (q.1.toList ++ []) q.2) := pX_inv (a := a0) (t := 4) 303 [.ref a0] [] d310_16 rfl rfl rfl hk
theorem x310_19 {L : List Value} {h : HP} {a0 : Nat} (hk : hp_k h a0 = 2) : pX 310 19 L [.ref a0] h = (pX 103 0 [.ref a0] [] h).bind (fun q => pX 310 22 L (q.1.toList ++ []) q.2) := pX_inv (a := a0) (t := 2) 103 [.ref a0] [] d310_19 rfl rfl rfl hk
theorem x310_22 {L S : List Value} {h : HP} {x : Int32} : pX 310 22 L (.int x :: S) h = if x = 0 then pX 310 79 L S h else pX 310 25 L S h := pX_if_eq d310_22 (by decide)
theorem x310_25 {S : List Value} {h : HP} {l1 l2 : Value} {a0 : Nat} : pX 310 25 [.ref a0, l1, l2] S h = pX 310 26 [.ref a0, l1, l2] (.ref a0 :: S) h := pX_stp d310_25 rfl rfl rfl
theorem x310_26 {L : List Value} {h : HP} {a0 : Nat} (hk : hp_k h a0 = 4) : pX 310 26 L [.ref a0] h = (pX 303 0 [.ref a0] [] h).bind (fun q => pX 310 29 L (q.1.toList ++ []) q.2) := pX_inv (a := a0) (t := 4) 303 [.ref a0] [] d310_26 rfl rfl rfl hk
theorem x310_29 {L S : List Value} {h : HP} {a : Nat} (hk : hp_k h a = 2) : pX 310 29 L (.ref a :: S) h = pX 310 32 L (.ref (hp_a h a 1) :: S) h := pX_get d310_29 rfl rfl hk
theorem x310_32 {S : List Value} {h : HP} {l0 l1 l2 : Value} {a0 : Nat} : pX 310 32 [l0, l1, l2] (.ref a0 :: S) h = pX 310 33 [l0, l1, .ref a0] S h := pX_stp d310_32 rfl rfl rfl
theorem x310_33 {S : List Value} {h : HP} {l1 l2 : Value} {a0 : Nat} : pX 310 33 [.ref a0, l1, l2] S h = pX 310 34 [.ref a0, l1, l2] (.ref a0 :: S) h := pX_stp d310_33 rfl rfl rfl
theorem x310_34 {L : List Value} {h : HP} {a0 : Nat} (hk : hp_k h a0 = 4) : pX 310 34 L [.ref a0] h = (pX 309 0 [.ref a0, .retAddr 0] [] h).bind (fun q => pX 310 37 L (q.1.toList ++ []) q.2) := pX_inv (a := a0) (t := 4) 309 [.ref a0] [] d310_34 rfl rfl rfl hk
theorem x310_37 {S : List Value} {h : HP} {l1 l2 : Value} {a0 : Nat} : pX 310 37 [.ref a0, l1, l2] S h = pX 310 38 [.ref a0, l1, l2] (.ref a0 :: S) h := pX_stp d310_37 rfl rfl rfl
theorem x310_38 {L S : List Value} {h : HP} {a : Nat} (hk : hp_k h a = 4) : pX 310 38 L (.ref a :: S) h = pX 310 41 L (.int (hp_i h a 7) :: S) h := pX_get d310_38 rfl rfl hk
theorem x310_41 {L S : List Value} {h : HP} {x : Int32} : pX 310 41 L (.int x :: S) h = if x ≤ 0 then pX 310 55 L S h else pX 310 44 L S h := pX_if_le d310_41 (by decide)
theorem x310_44 {S : List Value} {h : HP} {l1 l2 : Value} {a0 : Nat} : pX 310 44 [.ref a0, l1, l2] S h = pX 310 45 [.ref a0, l1, l2] (.ref a0 :: S) h := pX_stp d310_44 rfl rfl rfl
theorem x310_45 {L : List Value} {h : HP} {a0 : Nat} (hk : hp_k h a0 = 4) : pX 310 45 L [.ref a0] h = (pX 303 0 [.ref a0] [] h).bind (fun q => pX 310 48 L (q.1.toList ++ []) q.2) := pX_inv (a := a0) (t := 4) 303 [.ref a0] [] d310_45 rfl rfl rfl hk
theorem x310_48 {S : List Value} {h : HP} {l0 l1 : Value} {a0 : Nat} : pX 310 48 [l0, l1, .ref a0] S h = pX 310 49 [l0, l1, .ref a0] (.ref a0 :: S) h := pX_stp d310_48 rfl rfl rfl
theorem x310_49 {L : List Value} {h : HP} {a0 : Nat} {a1 : Nat} (hk : hp_k h a1 = 2) : pX 310 49 L [.ref a0, .ref a1] h = (pX 105 0 [.ref a1, .ref a0] [] h).bind (fun q => pX 310 52 L (q.1.toList ++ []) q.2) := pX_inv (a := a1) (t := 2) 105 [.ref a1, .ref a0] [] d310_49 rfl rfl rfl hk
theorem x310_52 {L S : List Value} {h : HP} : pX 310 52 L S h = pX 310 73 L S h := pX_goto d310_52 (by decide)
theorem x310_55 {S : List Value} {h : HP} {l1 l2 : Value} {a0 : Nat} : pX 310 55 [.ref a0, l1, l2] S h = pX 310 56 [.ref a0, l1, l2] (.ref a0 :: S) h := pX_stp d310_55 rfl rfl rfl
theorem x310_56 {L S : List Value} {h : HP} {a : Nat} (hk : hp_k h a = 4) : pX 310 56 L (.ref a :: S) h = pX 310 59 L (.ref (hp_a h a 8) :: S) h := pX_get d310_56 rfl rfl hk
theorem x310_59 {S : List Value} {h : HP} {l0 l1 : Value} {a0 : Nat} : pX 310 59 [l0, l1, .ref a0] S h = pX 310 60 [l0, l1, .ref a0] (.ref a0 :: S) h := pX_stp d310_59 rfl rfl rfl
theorem x310_60 {L : List Value} {h : HP} {a0 : Nat} {a1 : Nat} (hk : hp_k h a1 = 9) : pX 310 60 L [.ref a0, .ref a1] h = (pX 805 0 [.ref a1, .ref a0] [] h).bind (fun q => pX 310 63 L (q.1.toList ++ []) q.2) := pX_inv (a := a1) (t := 9) 805 [.ref a1, .ref a0] [] d310_60 rfl rfl rfl hk
theorem x310_63 {S : List Value} {h : HP} {l1 l2 : Value} {a0 : Nat} : pX 310 63 [.ref a0, l1, l2] S h = pX 310 64 [.ref a0, l1, l2] (.ref a0 :: S) h := pX_stp d310_63 rfl rfl rfl
theorem x310_64 {L S : List Value} {h : HP} {a0 : Nat} : pX 310 64 L (.ref a0 :: S) h = pX 310 65 L (.ref a0 :: .ref a0 :: S) h := pX_stp d310_64 rfl rfl rfl
theorem x310_65 {L S : List Value} {h : HP} {a : Nat} (hk : hp_k h a = 4) : pX 310 65 L (.ref a :: S) h = pX 310 68 L (.int (hp_i h a 15) :: S) h := pX_get d310_65 rfl rfl hk
theorem x310_68 {L S : List Value} {h : HP} : pX 310 68 L S h = pX 310 69 L (.int 1 :: S) h := pX_iconst d310_68 (by decide)
theorem x310_69 {L S : List Value} {h : HP} {x y : Int32} : pX 310 69 L (.int y :: .int x :: S) h = pX 310 70 L (.int (x + y) :: S) h := pX_stp d310_69 rfl rfl rfl
theorem x310_70 {L S : List Value} {h : HP} {a : Nat} {x : Int32} (hk : hp_k h a = 4) : pX 310 70 L (.int x :: .ref a :: S) h = pX 310 73 L S (hp_wi h a 15 x) := pX_put d310_70 rfl rfl rfl hk
theorem x310_73 {S : List Value} {h : HP} {x0 : Int32} {l0 l2 : Value} : pX 310 73 [l0, .int x0, l2] S h = pX 310 76 [l0, .int (x0 + 1), l2] S h := pX_iinc (x := x0) d310_73 (by decide) rfl (Nat.le_of_ble_eq_true rfl) rfl rfl
theorem x310_76 {L S : List Value} {h : HP} : pX 310 76 L S h = pX 310 2 L S h := pX_goto d310_76 (by decide)
theorem x310_79 {S : List Value} {h : HP} {l1 l2 : Value} {a0 : Nat} : pX 310 79 [.ref a0, l1, l2] S h = pX 310 80 [.ref a0, l1, l2] (.ref a0 :: S) h := pX_stp d310_79 rfl rfl rfl
theorem x310_80 {L S : List Value} {h : HP} {a : Nat} (hk : hp_k h a = 4) : pX 310 80 L (.ref a :: S) h = pX 310 83 L (.int (hp_i h a 7) :: S) h := pX_get d310_80 rfl rfl hk
theorem x310_83 {L S : List Value} {h : HP} {x : Int32} : pX 310 83 L (.int x :: S) h = if x ≤ 0 then pX 310 90 L S h else pX 310 86 L S h := pX_if_le d310_83 (by decide)
theorem x310_86 {L S : List Value} {h : HP} : pX 310 86 L S h = pX 310 87 L (.int 1 :: S) h := pX_iconst d310_86 (by decide)
theorem x310_87 {L S : List Value} {h : HP} : pX 310 87 L S h = pX 310 91 L S h := pX_goto d310_87 (by decide)
theorem x310_90 {L S : List Value} {h : HP} : pX 310 90 L S h = pX 310 91 L (.int 0 :: S) h := pX_iconst d310_90 (by decide)
theorem x310_91 {L : List Value} {h : HP} {x : Int32} : pX 310 91 L [.int x] h = some (some (.int x), h) := pX_ret d310_91 rfl
theorem d311_0 : decode (mb 311) 0 = .ok (.iconst 0, 1) := by decide +kernel
theorem d311_1 : decode (mb 311) 1 = .ok (.istore_n 2, 1) := by decide +kernel
theorem d311_2 : decode (mb 311) 2 = .ok (.iload_n 2, 1) := by decide +kernel
theorem d311_3 : decode (mb 311) 3 = .ok (.bipush 12, 2) := by decide +kernel
theorem d311_5 : decode (mb 311) 5 = .ok (.if_icmp .ge 55, 3) := by decide +kernel
theorem d311_8 : decode (mb 311) 8 = .ok (.aload_n 0, 1) := by decide +kernel
theorem d311_9 : decode (mb 311) 9 = .ok (.getfield 62, 3) := by decide +kernel
theorem d311_12 : decode (mb 311) 12 = .ok (.ifCond .le 48, 3) := by decide +kernel
theorem d311_15 : decode (mb 311) 15 = .ok (.aload_n 0, 1) := by decide +kernel
theorem d311_16 : decode (mb 311) 16 = .ok (.invokevirtual 107, 3) := by decide +kernel
theorem d311_19 : decode (mb 311) 19 = .ok (.astore_n 3, 1) := by decide +kernel
theorem d311_20 : decode (mb 311) 20 = .ok (.aload_n 3, 1) := by decide +kernel
theorem d311_21 : decode (mb 311) 21 = .ok (.getfield 163, 3) := by decide +kernel
theorem d311_24 : decode (mb 311) 24 = .ok (.aload_n 3, 1) := by decide +kernel
theorem d311_25 : decode (mb 311) 25 = .ok (.getfield 119, 3) := by decide +kernel
theorem d311_28 : decode (mb 311) 28 = .ok (.iload_n 1, 1) := by decide +kernel
theorem d311_29 : decode (mb 311) 29 = .ok (.invokevirtual 167, 3) := by decide +kernel
theorem d311_32 : decode (mb 311) 32 = .ok (.istore 4, 2) := by decide +kernel
theorem d311_34 : decode (mb 311) 34 = .ok (.iload 4, 2) := by decide +kernel
theorem d311_36 : decode (mb 311) 36 = .ok (.bipush (-5), 2) := by decide +kernel
theorem d311_38 : decode (mb 311) 38 = .ok (.if_icmp .eq 12, 3) := by decide +kernel
theorem d311_41 : decode (mb 311) 41 = .ok (.aload_n 0, 1) := by decide +kernel
theorem d311_42 : decode (mb 311) 42 = .ok (.aload_n 3, 1) := by decide +kernel
theorem d311_43 : decode (mb 311) 43 = .ok (.iload 4, 2) := by decide +kernel
theorem d311_45 : decode (mb 311) 45 = .ok (.iload_n 1, 1) := by decide +kernel
theorem d311_46 : decode (mb 311) 46 = .ok (.invokevirtual 170, 3) := by decide +kernel
theorem d311_49 : decode (mb 311) 49 = .ok (.ireturn, 1) := by decide +kernel
theorem d311_50 : decode (mb 311) 50 = .ok (.aload_n 0, 1) := by decide +kernel
theorem d311_51 : decode (mb 311) 51 = .ok (.invokevirtual 150, 3) := by decide +kernel
theorem d311_54 : decode (mb 311) 54 = .ok (.iinc 2 1, 3) := by decide +kernel
theorem d311_57 : decode (mb 311) 57 = .ok (.goto (-55), 3) := by decide +kernel
theorem d311_60 : decode (mb 311) 60 = .ok (.aload_n 0, 1) := by decide +kernel
theorem d311_61 : decode (mb 311) 61 = .ok (.dup, 1) := by decide +kernel
theorem d311_62 : decode (mb 311) 62 = .ok (.getfield 174, 3) := by decide +kernel
theorem d311_65 : decode (mb 311) 65 = .ok (.iconst 1, 1) := by decide +kernel
theorem d311_66 : decode (mb 311) 66 = .ok (.iadd, 1) := by decide +kernel
theorem d311_67 : decode (mb 311) 67 = .ok (.putfield 174, 3) := by decide +kernel
theorem d311_70 : decode (mb 311) 70 = .ok (.bipush (-10), 2) := by decide +kernel
theorem d311_72 : decode (mb 311) 72 = .ok (.iload_n 1, 1) := by decide +kernel
theorem d311_73 : decode (mb 311) 73 = .ok (.isub, 1) := by decide +kernel
theorem d311_74 : decode (mb 311) 74 = .ok (.ireturn, 1) := by decide +kernel
theorem x311_0 {L S : List Value} {h : HP} : pX 311 0 L S h = pX 311 1 L (.int 0 :: S) h := pX_iconst d311_0 (by decide)
theorem x311_1 {S : List Value} {h : HP} {l0 l1 l2 l3 l4 : Value} {x0 : Int32} : pX 311 1 [l0, l1, l2, l3, l4] (.int x0 :: S) h = pX 311 2 [l0, l1, .int x0, l3, l4] S h := pX_stp d311_1 rfl rfl rfl
theorem x311_2 {S : List Value} {h : HP} {l0 l1 l3 l4 : Value} {x0 : Int32} : pX 311 2 [l0, l1, .int x0, l3, l4] S h = pX 311 3 [l0, l1, .int x0, l3, l4] (.int x0 :: S) h := pX_stp d311_2 rfl rfl rfl
theorem x311_3 {L S : List Value} {h : HP} : pX 311 3 L S h = pX 311 5 L (.int 12 :: S) h := pX_bipush d311_3 (by decide)
theorem x311_5 {L S : List Value} {h : HP} {x y : Int32} : pX 311 5 L (.int y :: .int x :: S) h = if y ≤ x then pX 311 60 L S h else pX 311 8 L S h := pX_icmp_ge d311_5 (by decide)
theorem x311_8 {S : List Value} {h : HP} {l1 l2 l3 l4 : Value} {a0 : Nat} : pX 311 8 [.ref a0, l1, l2, l3, l4] S h = pX 311 9 [.ref a0, l1, l2, l3, l4] (.ref a0 :: S) h := pX_stp d311_8 rfl rfl rfl
theorem x311_9 {L S : List Value} {h : HP} {a : Nat} (hk : hp_k h a = 4) : pX 311 9 L (.ref a :: S) h = pX 311 12 L (.int (hp_i h a 7) :: S) h := pX_get d311_9 rfl rfl hk
theorem x311_12 {L S : List Value} {h : HP} {x : Int32} : pX 311 12 L (.int x :: S) h = if x ≤ 0 then pX 311 60 L S h else pX 311 15 L S h := pX_if_le d311_12 (by decide)
theorem x311_15 {S : List Value} {h : HP} {l1 l2 l3 l4 : Value} {a0 : Nat} : pX 311 15 [.ref a0, l1, l2, l3, l4] S h = pX 311 16 [.ref a0, l1, l2, l3, l4] (.ref a0 :: S) h := pX_stp d311_15 rfl rfl rfl
theorem x311_16 {L : List Value} {h : HP} {a0 : Nat} (hk : hp_k h a0 = 4) : pX 311 16 L [.ref a0] h = (pX 303 0 [.ref a0] [] h).bind (fun q => pX 311 19 L (q.1.toList ++ []) q.2) := pX_inv (a := a0) (t := 4) 303 [.ref a0] [] d311_16 rfl rfl rfl hk
theorem x311_19 {S : List Value} {h : HP} {l0 l1 l2 l3 l4 : Value} {a0 : Nat} : pX 311 19 [l0, l1, l2, l3, l4] (.ref a0 :: S) h = pX 311 20 [l0, l1, l2, .ref a0, l4] S h := pX_stp d311_19 rfl rfl rfl
theorem x311_20 {S : List Value} {h : HP} {l0 l1 l2 l4 : Value} {a0 : Nat} : pX 311 20 [l0, l1, l2, .ref a0, l4] S h = pX 311 21 [l0, l1, l2, .ref a0, l4] (.ref a0 :: S) h := pX_stp d311_20 rfl rfl rfl
theorem x311_21 {L S : List Value} {h : HP} {a : Nat} (hk : hp_k h a = 2) : pX 311 21 L (.ref a :: S) h = pX 311 24 L (.ref (hp_a h a 2) :: S) h := pX_get d311_21 rfl rfl hk
theorem x311_24 {S : List Value} {h : HP} {l0 l1 l2 l4 : Value} {a0 : Nat} : pX 311 24 [l0, l1, l2, .ref a0, l4] S h = pX 311 25 [l0, l1, l2, .ref a0, l4] (.ref a0 :: S) h := pX_stp d311_24 rfl rfl rfl
theorem x311_25 {L S : List Value} {h : HP} {a : Nat} (hk : hp_k h a = 2) : pX 311 25 L (.ref a :: S) h = pX 311 28 L (.int (hp_i h a 4) :: S) h := pX_get d311_25 rfl rfl hk
theorem x311_28 {S : List Value} {h : HP} {l0 l2 l3 l4 : Value} {x0 : Int32} : pX 311 28 [l0, .int x0, l2, l3, l4] S h = pX 311 29 [l0, .int x0, l2, l3, l4] (.int x0 :: S) h := pX_stp d311_28 rfl rfl rfl
theorem x311_29 {L : List Value} {h : HP} {x0 : Int32} {x1 : Int32} {a0 : Nat} (hk : hp_k h a0 = 5) : pX 311 29 L [.int x0, .int x1, .ref a0] h = (pX 404 0 [.ref a0, .int x1, .int x0, .retAddr 0] [] h).bind (fun q => pX 311 32 L (q.1.toList ++ []) q.2) := pX_inv (a := a0) (t := 5) 404 [.ref a0, .int x1, .int x0] [] d311_29 rfl rfl rfl hk
theorem x311_32 {S : List Value} {h : HP} {l0 l1 l2 l3 l4 : Value} {x0 : Int32} : pX 311 32 [l0, l1, l2, l3, l4] (.int x0 :: S) h = pX 311 34 [l0, l1, l2, l3, .int x0] S h := pX_stp d311_32 rfl rfl rfl
theorem x311_34 {S : List Value} {h : HP} {l0 l1 l2 l3 : Value} {x0 : Int32} : pX 311 34 [l0, l1, l2, l3, .int x0] S h = pX 311 36 [l0, l1, l2, l3, .int x0] (.int x0 :: S) h := pX_stp d311_34 rfl rfl rfl
theorem x311_36 {L S : List Value} {h : HP} : pX 311 36 L S h = pX 311 38 L (.int (-5) :: S) h := pX_bipush d311_36 (by decide)
theorem x311_38 {L S : List Value} {h : HP} {x y : Int32} : pX 311 38 L (.int y :: .int x :: S) h = if x = y then pX 311 50 L S h else pX 311 41 L S h := pX_icmp_eq d311_38 (by decide)
theorem x311_41 {S : List Value} {h : HP} {l1 l2 l3 l4 : Value} {a0 : Nat} : pX 311 41 [.ref a0, l1, l2, l3, l4] S h = pX 311 42 [.ref a0, l1, l2, l3, l4] (.ref a0 :: S) h := pX_stp d311_41 rfl rfl rfl
theorem x311_42 {S : List Value} {h : HP} {l0 l1 l2 l4 : Value} {a0 : Nat} : pX 311 42 [l0, l1, l2, .ref a0, l4] S h = pX 311 43 [l0, l1, l2, .ref a0, l4] (.ref a0 :: S) h := pX_stp d311_42 rfl rfl rfl
theorem x311_43 {S : List Value} {h : HP} {l0 l1 l2 l3 : Value} {x0 : Int32} : pX 311 43 [l0, l1, l2, l3, .int x0] S h = pX 311 45 [l0, l1, l2, l3, .int x0] (.int x0 :: S) h := pX_stp d311_43 rfl rfl rfl
theorem x311_45 {S : List Value} {h : HP} {l0 l2 l3 l4 : Value} {x0 : Int32} : pX 311 45 [l0, .int x0, l2, l3, l4] S h = pX 311 46 [l0, .int x0, l2, l3, l4] (.int x0 :: S) h := pX_stp d311_45 rfl rfl rfl
theorem x311_46 {L : List Value} {h : HP} {x0 : Int32} {x1 : Int32} {a0 : Nat} {a1 : Nat} (hk : hp_k h a1 = 4) : pX 311 46 L [.int x0, .int x1, .ref a0, .ref a1] h = (pX 312 0 [.ref a1, .ref a0, .int x1, .int x0] [] h).bind (fun q => pX 311 49 L (q.1.toList ++ []) q.2) := pX_inv (a := a1) (t := 4) 312 [.ref a1, .ref a0, .int x1, .int x0] [] d311_46 rfl rfl rfl hk
theorem x311_49 {L : List Value} {h : HP} {x : Int32} : pX 311 49 L [.int x] h = some (some (.int x), h) := pX_ret d311_49 rfl
theorem x311_50 {S : List Value} {h : HP} {l1 l2 l3 l4 : Value} {a0 : Nat} : pX 311 50 [.ref a0, l1, l2, l3, l4] S h = pX 311 51 [.ref a0, l1, l2, l3, l4] (.ref a0 :: S) h := pX_stp d311_50 rfl rfl rfl
theorem x311_51 {L : List Value} {h : HP} {a0 : Nat} (hk : hp_k h a0 = 4) : pX 311 51 L [.ref a0] h = (pX 309 0 [.ref a0, .retAddr 0] [] h).bind (fun q => pX 311 54 L (q.1.toList ++ []) q.2) := pX_inv (a := a0) (t := 4) 309 [.ref a0] [] d311_51 rfl rfl rfl hk
theorem x311_54 {S : List Value} {h : HP} {x0 : Int32} {l0 l1 l3 l4 : Value} : pX 311 54 [l0, l1, .int x0, l3, l4] S h = pX 311 57 [l0, l1, .int (x0 + 1), l3, l4] S h := pX_iinc (x := x0) d311_54 (by decide) rfl (Nat.le_of_ble_eq_true rfl) rfl rfl
theorem x311_57 {L S : List Value} {h : HP} : pX 311 57 L S h = pX 311 2 L S h := pX_goto d311_57 (by decide)
theorem x311_60 {S : List Value} {h : HP} {l1 l2 l3 l4 : Value} {a0 : Nat} : pX 311 60 [.ref a0, l1, l2, l3, l4] S h = pX 311 61 [.ref a0, l1, l2, l3, l4] (.ref a0 :: S) h := pX_stp d311_60 rfl rfl rfl
theorem x311_61 {L S : List Value} {h : HP} {a0 : Nat} : pX 311 61 L (.ref a0 :: S) h = pX 311 62 L (.ref a0 :: .ref a0 :: S) h := pX_stp d311_61 rfl rfl rfl
theorem x311_62 {L S : List Value} {h : HP} {a : Nat} (hk : hp_k h a = 4) : pX 311 62 L (.ref a :: S) h = pX 311 65 L (.int (hp_i h a 14) :: S) h := pX_get d311_62 rfl rfl hk
theorem x311_65 {L S : List Value} {h : HP} : pX 311 65 L S h = pX 311 66 L (.int 1 :: S) h := pX_iconst d311_65 (by decide)
theorem x311_66 {L S : List Value} {h : HP} {x y : Int32} : pX 311 66 L (.int y :: .int x :: S) h = pX 311 67 L (.int (x + y) :: S) h := pX_stp d311_66 rfl rfl rfl
theorem x311_67 {L S : List Value} {h : HP} {a : Nat} {x : Int32} (hk : hp_k h a = 4) : pX 311 67 L (.int x :: .ref a :: S) h = pX 311 70 L S (hp_wi h a 14 x) := pX_put d311_67 rfl rfl rfl hk
theorem x311_70 {L S : List Value} {h : HP} : pX 311 70 L S h = pX 311 72 L (.int (-10) :: S) h := pX_bipush d311_70 (by decide)
theorem x311_72 {S : List Value} {h : HP} {l0 l2 l3 l4 : Value} {x0 : Int32} : pX 311 72 [l0, .int x0, l2, l3, l4] S h = pX 311 73 [l0, .int x0, l2, l3, l4] (.int x0 :: S) h := pX_stp d311_72 rfl rfl rfl
theorem x311_73 {L S : List Value} {h : HP} {x y : Int32} : pX 311 73 L (.int y :: .int x :: S) h = pX 311 74 L (.int (x - y) :: S) h := pX_stp d311_73 rfl rfl rfl
theorem x311_74 {L : List Value} {h : HP} {x : Int32} : pX 311 74 L [.int x] h = some (some (.int x), h) := pX_ret d311_74 rfl
theorem d312_0 : decode (mb 312) 0 = .ok (.aload_n 0, 1) := by decide +kernel
theorem d312_1 : decode (mb 312) 1 = .ok (.getfield 20, 3) := by decide +kernel
theorem d312_4 : decode (mb 312) 4 = .ok (.iconst 2, 1) := by decide +kernel
theorem d312_5 : decode (mb 312) 5 = .ok (.invokevirtual 122, 3) := by decide +kernel
theorem d312_8 : decode (mb 312) 8 = .ok (.ifCond .ne 6, 3) := by decide +kernel
theorem d312_11 : decode (mb 312) 11 = .ok (.bipush (-9), 2) := by decide +kernel
theorem d312_13 : decode (mb 312) 13 = .ok (.ireturn, 1) := by decide +kernel
theorem d312_14 : decode (mb 312) 14 = .ok (.aload_n 0, 1) := by decide +kernel
theorem d312_15 : decode (mb 312) 15 = .ok (.iload_n 3, 1) := by decide +kernel
theorem d312_16 : decode (mb 312) 16 = .ok (.invokevirtual 136, 3) := by decide +kernel
theorem d312_19 : decode (mb 312) 19 = .ok (.aload_n 1, 1) := by decide +kernel
theorem d312_20 : decode (mb 312) 20 = .ok (.getfield 177, 3) := by decide +kernel
theorem d312_23 : decode (mb 312) 23 = .ok (.bipush 7, 2) := by decide +kernel
theorem d312_25 : decode (mb 312) 25 = .ok (.aaload, 1) := by decide +kernel
theorem d312_26 : decode (mb 312) 26 = .ok (.iload_n 3, 1) := by decide +kernel
theorem d312_27 : decode (mb 312) 27 = .ok (.bipush 9, 2) := by decide +kernel
theorem d312_29 : decode (mb 312) 29 = .ok (.if_icmp .ne 10, 3) := by decide +kernel
theorem d312_32 : decode (mb 312) 32 = .ok (.aload_n 0, 1) := by decide +kernel
theorem d312_33 : decode (mb 312) 33 = .ok (.getfield 181, 3) := by decide +kernel
theorem d312_36 : decode (mb 312) 36 = .ok (.goto 4, 3) := by decide +kernel
theorem d312_39 : decode (mb 312) 39 = .ok (.iload_n 3, 1) := by decide +kernel
theorem d312_40 : decode (mb 312) 40 = .ok (.invokevirtual 184, 3) := by decide +kernel
theorem d312_43 : decode (mb 312) 43 = .ok (.aload_n 1, 1) := by decide +kernel
theorem d312_44 : decode (mb 312) 44 = .ok (.aload_n 1, 1) := by decide +kernel
theorem d312_45 : decode (mb 312) 45 = .ok (.getfield 163, 3) := by decide +kernel
theorem d312_48 : decode (mb 312) 48 = .ok (.getfield 187, 3) := by decide +kernel
theorem d312_51 : decode (mb 312) 51 = .ok (.iload_n 2, 1) := by decide +kernel
theorem d312_52 : decode (mb 312) 52 = .ok (.iaload, 1) := by decide +kernel
theorem d312_53 : decode (mb 312) 53 = .ok (.putfield 119, 3) := by decide +kernel
theorem d312_56 : decode (mb 312) 56 = .ok (.iconst (-1), 1) := by decide +kernel
theorem d312_57 : decode (mb 312) 57 = .ok (.ireturn, 1) := by decide +kernel
theorem x312_0 {S : List Value} {h : HP} {l1 l2 l3 : Value} {a0 : Nat} : pX 312 0 [.ref a0, l1, l2, l3] S h = pX 312 1 [.ref a0, l1, l2, l3] (.ref a0 :: S) h := pX_stp d312_0 rfl rfl rfl
theorem x312_1 {L S : List Value} {h : HP} {a : Nat} (hk : hp_k h a = 4) : pX 312 1 L (.ref a :: S) h = pX 312 4 L (.ref (hp_a h a 2) :: S) h := pX_get d312_1 rfl rfl hk
theorem x312_4 {L S : List Value} {h : HP} : pX 312 4 L S h = pX 312 5 L (.int 2 :: S) h := pX_iconst d312_4 (by decide)
theorem x312_5 {L : List Value} {h : HP} {x0 : Int32} {a0 : Nat} (hk : hp_k h a0 = 7) : pX 312 5 L [.int x0, .ref a0] h = (pX 603 0 [.ref a0, .int x0] [] h).bind (fun q => pX 312 8 L (q.1.toList ++ []) q.2) := pX_inv (a := a0) (t := 7) 603 [.ref a0, .int x0] [] d312_5 rfl rfl rfl hk
theorem x312_8 {L S : List Value} {h : HP} {x : Int32} : pX 312 8 L (.int x :: S) h = if x = 0 then pX 312 11 L S h else pX 312 14 L S h := pX_if_ne d312_8 (by decide)
theorem x312_11 {L S : List Value} {h : HP} : pX 312 11 L S h = pX 312 13 L (.int (-9) :: S) h := pX_bipush d312_11 (by decide)
theorem x312_13 {L : List Value} {h : HP} {x : Int32} : pX 312 13 L [.int x] h = some (some (.int x), h) := pX_ret d312_13 rfl
theorem x312_14 {S : List Value} {h : HP} {l1 l2 l3 : Value} {a0 : Nat} : pX 312 14 [.ref a0, l1, l2, l3] S h = pX 312 15 [.ref a0, l1, l2, l3] (.ref a0 :: S) h := pX_stp d312_14 rfl rfl rfl
theorem x312_15 {S : List Value} {h : HP} {l0 l1 l2 : Value} {x0 : Int32} : pX 312 15 [l0, l1, l2, .int x0] S h = pX 312 16 [l0, l1, l2, .int x0] (.int x0 :: S) h := pX_stp d312_15 rfl rfl rfl
theorem x312_16 {L : List Value} {h : HP} {x0 : Int32} {a0 : Nat} (hk : hp_k h a0 = 4) : pX 312 16 L [.int x0, .ref a0] h = (pX 314 0 [.ref a0, .int x0] [] h).bind (fun q => pX 312 19 L (q.1.toList ++ []) q.2) := pX_inv (a := a0) (t := 4) 314 [.ref a0, .int x0] [] d312_16 rfl rfl rfl hk
theorem x312_19 {S : List Value} {h : HP} {l0 l2 l3 : Value} {a0 : Nat} : pX 312 19 [l0, .ref a0, l2, l3] S h = pX 312 20 [l0, .ref a0, l2, l3] (.ref a0 :: S) h := pX_stp d312_19 rfl rfl rfl
theorem x312_20 {L S : List Value} {h : HP} {a : Nat} (hk : hp_k h a = 2) : pX 312 20 L (.ref a :: S) h = pX 312 23 L (.ref (hp_a h a 0) :: S) h := pX_get d312_20 rfl rfl hk
theorem x312_23 {L S : List Value} {h : HP} : pX 312 23 L S h = pX 312 25 L (.int 7 :: S) h := pX_bipush d312_23 (by decide)
theorem x312_25 {L S : List Value} {h : HP} {a : Nat} {j : Int32} (hk : 200 ≤ hp_k h a) (hj : inb j (hp_l h a) = true) : pX 312 25 L (.int j :: .ref a :: S) h = pX 312 26 L (.ref (hp_a h a (ix j)) :: S) h := pX_ald d312_25 hk hj
theorem x312_26 {S : List Value} {h : HP} {l0 l1 l2 : Value} {x0 : Int32} : pX 312 26 [l0, l1, l2, .int x0] S h = pX 312 27 [l0, l1, l2, .int x0] (.int x0 :: S) h := pX_stp d312_26 rfl rfl rfl
theorem x312_27 {L S : List Value} {h : HP} : pX 312 27 L S h = pX 312 29 L (.int 9 :: S) h := pX_bipush d312_27 (by decide)
theorem x312_29 {L S : List Value} {h : HP} {x y : Int32} : pX 312 29 L (.int y :: .int x :: S) h = if x = y then pX 312 32 L S h else pX 312 39 L S h := pX_icmp_ne d312_29 (by decide)
theorem x312_32 {S : List Value} {h : HP} {l1 l2 l3 : Value} {a0 : Nat} : pX 312 32 [.ref a0, l1, l2, l3] S h = pX 312 33 [.ref a0, l1, l2, l3] (.ref a0 :: S) h := pX_stp d312_32 rfl rfl rfl
theorem x312_33 {L S : List Value} {h : HP} {a : Nat} (hk : hp_k h a = 4) : pX 312 33 L (.ref a :: S) h = pX 312 36 L (.int (hp_i h a 9) :: S) h := pX_get d312_33 rfl rfl hk
theorem x312_36 {L S : List Value} {h : HP} : pX 312 36 L S h = pX 312 40 L S h := pX_goto d312_36 (by decide)
theorem x312_39 {S : List Value} {h : HP} {l0 l1 l2 : Value} {x0 : Int32} : pX 312 39 [l0, l1, l2, .int x0] S h = pX 312 40 [l0, l1, l2, .int x0] (.int x0 :: S) h := pX_stp d312_39 rfl rfl rfl
theorem x312_40 {L : List Value} {h : HP} {x0 : Int32} {a0 : Nat} (hk : hp_k h a0 = 9) : pX 312 40 L [.int x0, .ref a0] h = (pX 802 0 [.ref a0, .int x0] [] h).bind (fun q => pX 312 43 L (q.1.toList ++ []) q.2) := pX_inv (a := a0) (t := 9) 802 [.ref a0, .int x0] [] d312_40 rfl rfl rfl hk
theorem x312_43 {S : List Value} {h : HP} {l0 l2 l3 : Value} {a0 : Nat} : pX 312 43 [l0, .ref a0, l2, l3] S h = pX 312 44 [l0, .ref a0, l2, l3] (.ref a0 :: S) h := pX_stp d312_43 rfl rfl rfl
theorem x312_44 {S : List Value} {h : HP} {l0 l2 l3 : Value} {a0 : Nat} : pX 312 44 [l0, .ref a0, l2, l3] S h = pX 312 45 [l0, .ref a0, l2, l3] (.ref a0 :: S) h := pX_stp d312_44 rfl rfl rfl
theorem x312_45 {L S : List Value} {h : HP} {a : Nat} (hk : hp_k h a = 2) : pX 312 45 L (.ref a :: S) h = pX 312 48 L (.ref (hp_a h a 2) :: S) h := pX_get d312_45 rfl rfl hk
theorem x312_48 {L S : List Value} {h : HP} {a : Nat} (hk : hp_k h a = 5) : pX 312 48 L (.ref a :: S) h = pX 312 51 L (.ref (hp_a h a 11) :: S) h := pX_get d312_48 rfl rfl hk
theorem x312_51 {S : List Value} {h : HP} {l0 l1 l3 : Value} {x0 : Int32} : pX 312 51 [l0, l1, .int x0, l3] S h = pX 312 52 [l0, l1, .int x0, l3] (.int x0 :: S) h := pX_stp d312_51 rfl rfl rfl
theorem x312_52 {L S : List Value} {h : HP} {a : Nat} {j : Int32} (hk : hp_k h a = 100) (hj : inb j (hp_l h a) = true) : pX 312 52 L (.int j :: .ref a :: S) h = pX 312 53 L (.int (hp_i h a (ix j)) :: S) h := pX_ild d312_52 hk hj
theorem x312_53 {L S : List Value} {h : HP} {a : Nat} {x : Int32} (hk : hp_k h a = 2) : pX 312 53 L (.int x :: .ref a :: S) h = pX 312 56 L S (hp_wi h a 4 x) := pX_put d312_53 rfl rfl rfl hk
theorem x312_56 {L S : List Value} {h : HP} : pX 312 56 L S h = pX 312 57 L (.int (-1) :: S) h := pX_iconst d312_56 (by decide)
theorem x312_57 {L : List Value} {h : HP} {x : Int32} : pX 312 57 L [.int x] h = some (some (.int x), h) := pX_ret d312_57 rfl
theorem d313_0 : decode (mb 313) 0 = .ok (.iconst 0, 1) := by decide +kernel
theorem d313_1 : decode (mb 313) 1 = .ok (.istore_n 1, 1) := by decide +kernel
theorem d313_2 : decode (mb 313) 2 = .ok (.iload_n 1, 1) := by decide +kernel
theorem d313_3 : decode (mb 313) 3 = .ok (.bipush 12, 2) := by decide +kernel
theorem d313_5 : decode (mb 313) 5 = .ok (.if_icmp .ge 20, 3) := by decide +kernel
theorem d313_8 : decode (mb 313) 8 = .ok (.aload_n 0, 1) := by decide +kernel
theorem d313_9 : decode (mb 313) 9 = .ok (.getfield 62, 3) := by decide +kernel
theorem d313_12 : decode (mb 313) 12 = .ok (.ifCond .le 13, 3) := by decide +kernel
theorem d313_15 : decode (mb 313) 15 = .ok (.aload_n 0, 1) := by decide +kernel
theorem d313_16 : decode (mb 313) 16 = .ok (.invokevirtual 150, 3) := by decide +kernel
theorem d313_19 : decode (mb 313) 19 = .ok (.iinc 1 1, 3) := by decide +kernel
theorem d313_22 : decode (mb 313) 22 = .ok (.goto (-20), 3) := by decide +kernel
theorem d313_25 : decode (mb 313) 25 = .ok (.aload_n 0, 1) := by decide +kernel
theorem d313_26 : decode (mb 313) 26 = .ok (.getfield 35, 3) := by decide +kernel
theorem d313_29 : decode (mb 313) 29 = .ok (.iconst 0, 1) := by decide +kernel
theorem d313_30 : decode (mb 313) 30 = .ok (.aload_n 0, 1) := by decide +kernel
theorem d313_31 : decode (mb 313) 31 = .ok (.getfield 31, 3) := by decide +kernel
theorem d313_34 : decode (mb 313) 34 = .ok (.iconst 0, 1) := by decide +kernel
theorem d313_35 : decode (mb 313) 35 = .ok (.bipush 12, 2) := by decide +kernel
theorem d313_37 : decode (mb 313) 37 = .ok (.invokestatic 87, 3) := by decide +kernel
theorem d313_40 : decode (mb 313) 40 = .ok (.aload_n 0, 1) := by decide +kernel
theorem d313_41 : decode (mb 313) 41 = .ok (.dup, 1) := by decide +kernel
theorem d313_42 : decode (mb 313) 42 = .ok (.getfield 190, 3) := by decide +kernel
theorem d313_45 : decode (mb 313) 45 = .ok (.iconst 1, 1) := by decide +kernel
theorem d313_46 : decode (mb 313) 46 = .ok (.iadd, 1) := by decide +kernel
theorem d313_47 : decode (mb 313) 47 = .ok (.putfield 190, 3) := by decide +kernel
theorem d313_50 : decode (mb 313) 50 = .ok (.bipush (-9), 2) := by decide +kernel
theorem d313_52 : decode (mb 313) 52 = .ok (.ireturn, 1) := by decide +kernel
theorem x313_0 {L S : List Value} {h : HP} : pX 313 0 L S h = pX 313 1 L (.int 0 :: S) h := pX_iconst d313_0 (by decide)
theorem x313_1 {S : List Value} {h : HP} {l0 l1 : Value} {x0 : Int32} : pX 313 1 [l0, l1] (.int x0 :: S) h = pX 313 2 [l0, .int x0] S h := pX_stp d313_1 rfl rfl rfl
theorem x313_2 {S : List Value} {h : HP} {l0 : Value} {x0 : Int32} : pX 313 2 [l0, .int x0] S h = pX 313 3 [l0, .int x0] (.int x0 :: S) h := pX_stp d313_2 rfl rfl rfl
theorem x313_3 {L S : List Value} {h : HP} : pX 313 3 L S h = pX 313 5 L (.int 12 :: S) h := pX_bipush d313_3 (by decide)
theorem x313_5 {L S : List Value} {h : HP} {x y : Int32} : pX 313 5 L (.int y :: .int x :: S) h = if y ≤ x then pX 313 25 L S h else pX 313 8 L S h := pX_icmp_ge d313_5 (by decide)
theorem x313_8 {S : List Value} {h : HP} {l1 : Value} {a0 : Nat} : pX 313 8 [.ref a0, l1] S h = pX 313 9 [.ref a0, l1] (.ref a0 :: S) h := pX_stp d313_8 rfl rfl rfl
theorem x313_9 {L S : List Value} {h : HP} {a : Nat} (hk : hp_k h a = 4) : pX 313 9 L (.ref a :: S) h = pX 313 12 L (.int (hp_i h a 7) :: S) h := pX_get d313_9 rfl rfl hk
theorem x313_12 {L S : List Value} {h : HP} {x : Int32} : pX 313 12 L (.int x :: S) h = if x ≤ 0 then pX 313 25 L S h else pX 313 15 L S h := pX_if_le d313_12 (by decide)
theorem x313_15 {S : List Value} {h : HP} {l1 : Value} {a0 : Nat} : pX 313 15 [.ref a0, l1] S h = pX 313 16 [.ref a0, l1] (.ref a0 :: S) h := pX_stp d313_15 rfl rfl rfl
theorem x313_16 {L : List Value} {h : HP} {a0 : Nat} (hk : hp_k h a0 = 4) : pX 313 16 L [.ref a0] h = (pX 309 0 [.ref a0, .retAddr 0] [] h).bind (fun q => pX 313 19 L (q.1.toList ++ []) q.2) := pX_inv (a := a0) (t := 4) 309 [.ref a0] [] d313_16 rfl rfl rfl hk
theorem x313_19 {S : List Value} {h : HP} {x0 : Int32} {l0 : Value} : pX 313 19 [l0, .int x0] S h = pX 313 22 [l0, .int (x0 + 1)] S h := pX_iinc (x := x0) d313_19 (by decide) rfl (Nat.le_of_ble_eq_true rfl) rfl rfl
theorem x313_22 {L S : List Value} {h : HP} : pX 313 22 L S h = pX 313 2 L S h := pX_goto d313_22 (by decide)
theorem x313_25 {S : List Value} {h : HP} {l1 : Value} {a0 : Nat} : pX 313 25 [.ref a0, l1] S h = pX 313 26 [.ref a0, l1] (.ref a0 :: S) h := pX_stp d313_25 rfl rfl rfl
theorem x313_26 {L S : List Value} {h : HP} {a : Nat} (hk : hp_k h a = 4) : pX 313 26 L (.ref a :: S) h = pX 313 29 L (.ref (hp_a h a 5) :: S) h := pX_get d313_26 rfl rfl hk
theorem x313_29 {L S : List Value} {h : HP} : pX 313 29 L S h = pX 313 30 L (.int 0 :: S) h := pX_iconst d313_29 (by decide)
theorem x313_30 {S : List Value} {h : HP} {l1 : Value} {a0 : Nat} : pX 313 30 [.ref a0, l1] S h = pX 313 31 [.ref a0, l1] (.ref a0 :: S) h := pX_stp d313_30 rfl rfl rfl
theorem x313_31 {L S : List Value} {h : HP} {a : Nat} (hk : hp_k h a = 4) : pX 313 31 L (.ref a :: S) h = pX 313 34 L (.ref (hp_a h a 4) :: S) h := pX_get d313_31 rfl rfl hk
theorem x313_34 {L S : List Value} {h : HP} : pX 313 34 L S h = pX 313 35 L (.int 0 :: S) h := pX_iconst d313_34 (by decide)
theorem x313_35 {L S : List Value} {h : HP} : pX 313 35 L S h = pX 313 37 L (.int 12 :: S) h := pX_bipush d313_35 (by decide)
theorem x313_37 {L : List Value} {h : HP} {x0 : Int32} {x1 : Int32} {a0 : Nat} {x2 : Int32} {a1 : Nat} (ha : hp_k h a1 = 100) (hb : hp_k h a0 = 100) (h1 : 0 ≤ x2) (h2 : 0 ≤ x1) (h3 : 0 ≤ x0) (h4 : ix x2 + ix x0 ≤ hp_l h a1) (h5 : ix x1 + ix x0 ≤ hp_l h a0) : pX 313 37 L [.int x0, .int x1, .ref a0, .int x2, .ref a1] h = pX 313 40 L [] (hp_cp h a1 (ix x2) a0 (ix x1) (ix x0)) := pX_copy d313_37 rfl (Nat.le_of_ble_eq_true rfl) ha hb h1 h2 h3 h4 h5
theorem x313_40 {S : List Value} {h : HP} {l1 : Value} {a0 : Nat} : pX 313 40 [.ref a0, l1] S h = pX 313 41 [.ref a0, l1] (.ref a0 :: S) h := pX_stp d313_40 rfl rfl rfl
theorem x313_41 {L S : List Value} {h : HP} {a0 : Nat} : pX 313 41 L (.ref a0 :: S) h = pX 313 42 L (.ref a0 :: .ref a0 :: S) h := pX_stp d313_41 rfl rfl rfl
theorem x313_42 {L S : List Value} {h : HP} {a : Nat} (hk : hp_k h a = 4) : pX 313 42 L (.ref a :: S) h = pX 313 45 L (.int (hp_i h a 13) :: S) h := pX_get d313_42 rfl rfl hk
theorem x313_45 {L S : List Value} {h : HP} : pX 313 45 L S h = pX 313 46 L (.int 1 :: S) h := pX_iconst d313_45 (by decide)
theorem x313_46 {L S : List Value} {h : HP} {x y : Int32} : pX 313 46 L (.int y :: .int x :: S) h = pX 313 47 L (.int (x + y) :: S) h := pX_stp d313_46 rfl rfl rfl
theorem x313_47 {L S : List Value} {h : HP} {a : Nat} {x : Int32} (hk : hp_k h a = 4) : pX 313 47 L (.int x :: .ref a :: S) h = pX 313 50 L S (hp_wi h a 13 x) := pX_put d313_47 rfl rfl rfl hk
theorem x313_50 {L S : List Value} {h : HP} : pX 313 50 L S h = pX 313 52 L (.int (-9) :: S) h := pX_bipush d313_50 (by decide)
theorem x313_52 {L : List Value} {h : HP} {x : Int32} : pX 313 52 L [.int x] h = some (some (.int x), h) := pX_ret d313_52 rfl
theorem d314_0 : decode (mb 314) 0 = .ok (.aload_n 0, 1) := by decide +kernel
theorem d314_1 : decode (mb 314) 1 = .ok (.getfield 81, 3) := by decide +kernel
theorem d314_4 : decode (mb 314) 4 = .ok (.bipush 100, 2) := by decide +kernel
theorem d314_6 : decode (mb 314) 6 = .ok (.if_icmp .ge 23, 3) := by decide +kernel
theorem d314_9 : decode (mb 314) 9 = .ok (.aload_n 0, 1) := by decide +kernel
theorem d314_10 : decode (mb 314) 10 = .ok (.getfield 51, 3) := by decide +kernel
theorem d314_13 : decode (mb 314) 13 = .ok (.aload_n 0, 1) := by decide +kernel
theorem d314_14 : decode (mb 314) 14 = .ok (.getfield 81, 3) := by decide +kernel
theorem d314_17 : decode (mb 314) 17 = .ok (.iload_n 1, 1) := by decide +kernel
theorem d314_18 : decode (mb 314) 18 = .ok (.iastore, 1) := by decide +kernel
theorem d314_19 : decode (mb 314) 19 = .ok (.aload_n 0, 1) := by decide +kernel
theorem d314_20 : decode (mb 314) 20 = .ok (.dup, 1) := by decide +kernel
theorem d314_21 : decode (mb 314) 21 = .ok (.getfield 81, 3) := by decide +kernel
theorem d314_24 : decode (mb 314) 24 = .ok (.iconst 1, 1) := by decide +kernel
theorem d314_25 : decode (mb 314) 25 = .ok (.iadd, 1) := by decide +kernel
theorem d314_26 : decode (mb 314) 26 = .ok (.putfield 81, 3) := by decide +kernel
theorem d314_29 : decode (mb 314) 29 = .ok (.return_, 1) := by decide +kernel
theorem x314_0 {S : List Value} {h : HP} {l1 : Value} {a0 : Nat} : pX 314 0 [.ref a0, l1] S h = pX 314 1 [.ref a0, l1] (.ref a0 :: S) h := pX_stp d314_0 rfl rfl rfl
theorem x314_1 {L S : List Value} {h : HP} {a : Nat} (hk : hp_k h a = 4) : pX 314 1 L (.ref a :: S) h = pX 314 4 L (.int (hp_i h a 11) :: S) h := pX_get d314_1 rfl rfl hk
theorem x314_4 {L S : List Value} {h : HP} : pX 314 4 L S h = pX 314 6 L (.int 100 :: S) h := pX_bipush d314_4 (by decide)
theorem x314_6 {L S : List Value} {h : HP} {x y : Int32} : pX 314 6 L (.int y :: .int x :: S) h = if y ≤ x then pX 314 29 L S h else pX 314 9 L S h := pX_icmp_ge d314_6 (by decide)
theorem x314_9 {S : List Value} {h : HP} {l1 : Value} {a0 : Nat} : pX 314 9 [.ref a0, l1] S h = pX 314 10 [.ref a0, l1] (.ref a0 :: S) h := pX_stp d314_9 rfl rfl rfl
theorem x314_10 {L S : List Value} {h : HP} {a : Nat} (hk : hp_k h a = 4) : pX 314 10 L (.ref a :: S) h = pX 314 13 L (.ref (hp_a h a 10) :: S) h := pX_get d314_10 rfl rfl hk
theorem x314_13 {S : List Value} {h : HP} {l1 : Value} {a0 : Nat} : pX 314 13 [.ref a0, l1] S h = pX 314 14 [.ref a0, l1] (.ref a0 :: S) h := pX_stp d314_13 rfl rfl rfl
theorem x314_14 {L S : List Value} {h : HP} {a : Nat} (hk : hp_k h a = 4) : pX 314 14 L (.ref a :: S) h = pX 314 17 L (.int (hp_i h a 11) :: S) h := pX_get d314_14 rfl rfl hk
theorem x314_17 {S : List Value} {h : HP} {l0 : Value} {x0 : Int32} : pX 314 17 [l0, .int x0] S h = pX 314 18 [l0, .int x0] (.int x0 :: S) h := pX_stp d314_17 rfl rfl rfl
theorem x314_18 {L S : List Value} {h : HP} {a : Nat} {j x : Int32} (hk : hp_k h a = 100) (hj : inb j (hp_l h a) = true) : pX 314 18 L (.int x :: .int j :: .ref a :: S) h = pX 314 19 L S (hp_wi h a (ix j) x) := pX_ist d314_18 hk hj
theorem x314_19 {S : List Value} {h : HP} {l1 : Value} {a0 : Nat} : pX 314 19 [.ref a0, l1] S h = pX 314 20 [.ref a0, l1] (.ref a0 :: S) h := pX_stp d314_19 rfl rfl rfl
theorem x314_20 {L S : List Value} {h : HP} {a0 : Nat} : pX 314 20 L (.ref a0 :: S) h = pX 314 21 L (.ref a0 :: .ref a0 :: S) h := pX_stp d314_20 rfl rfl rfl
theorem x314_21 {L S : List Value} {h : HP} {a : Nat} (hk : hp_k h a = 4) : pX 314 21 L (.ref a :: S) h = pX 314 24 L (.int (hp_i h a 11) :: S) h := pX_get d314_21 rfl rfl hk
theorem x314_24 {L S : List Value} {h : HP} : pX 314 24 L S h = pX 314 25 L (.int 1 :: S) h := pX_iconst d314_24 (by decide)
theorem x314_25 {L S : List Value} {h : HP} {x y : Int32} : pX 314 25 L (.int y :: .int x :: S) h = pX 314 26 L (.int (x + y) :: S) h := pX_stp d314_25 rfl rfl rfl
theorem x314_26 {L S : List Value} {h : HP} {a : Nat} {x : Int32} (hk : hp_k h a = 4) : pX 314 26 L (.int x :: .ref a :: S) h = pX 314 29 L S (hp_wi h a 11 x) := pX_put d314_26 rfl rfl rfl hk
theorem x314_29 {L : List Value} {h : HP} : pX 314 29 L [] h = some (none, h) := pX_ret d314_29 rfl
theorem d315_0 : decode (mb 315) 0 = .ok (.aload_n 1, 1) := by decide +kernel
theorem d315_1 : decode (mb 315) 1 = .ok (.invokevirtual 143, 3) := by decide +kernel
theorem d315_4 : decode (mb 315) 4 = .ok (.ifCond .eq 5, 3) := by decide +kernel
theorem d315_7 : decode (mb 315) 7 = .ok (.iconst (-1), 1) := by decide +kernel
theorem d315_8 : decode (mb 315) 8 = .ok (.ireturn, 1) := by decide +kernel
theorem d315_9 : decode (mb 315) 9 = .ok (.aload_n 1, 1) := by decide +kernel
theorem d315_10 : decode (mb 315) 10 = .ok (.getfield 163, 3) := by decide +kernel
theorem d315_13 : decode (mb 315) 13 = .ok (.astore_n 2, 1) := by decide +kernel
theorem d315_14 : decode (mb 315) 14 = .ok (.aload_n 2, 1) := by decide +kernel
theorem d315_15 : decode (mb 315) 15 = .ok (.getfield 193, 3) := by decide +kernel
theorem d315_18 : decode (mb 315) 18 = .ok (.aload_n 1, 1) := by decide +kernel
theorem d315_19 : decode (mb 315) 19 = .ok (.getfield 119, 3) := by decide +kernel
theorem d315_22 : decode (mb 315) 22 = .ok (.iaload, 1) := by decide +kernel
theorem d315_23 : decode (mb 315) 23 = .ok (.istore_n 3, 1) := by decide +kernel
theorem d315_24 : decode (mb 315) 24 = .ok (.aload_n 2, 1) := by decide +kernel
theorem d315_25 : decode (mb 315) 25 = .ok (.getfield 196, 3) := by decide +kernel
theorem d315_28 : decode (mb 315) 28 = .ok (.aload_n 1, 1) := by decide +kernel
theorem d315_29 : decode (mb 315) 29 = .ok (.getfield 119, 3) := by decide +kernel
theorem d315_32 : decode (mb 315) 32 = .ok (.iaload, 1) := by decide +kernel
theorem d315_33 : decode (mb 315) 33 = .ok (.istore 4, 2) := by decide +kernel
theorem d315_35 : decode (mb 315) 35 = .ok (.aload_n 2, 1) := by decide +kernel
theorem d315_36 : decode (mb 315) 36 = .ok (.getfield 199, 3) := by decide +kernel
theorem d315_39 : decode (mb 315) 39 = .ok (.aload_n 1, 1) := by decide +kernel
theorem d315_40 : decode (mb 315) 40 = .ok (.getfield 119, 3) := by decide +kernel
theorem d315_43 : decode (mb 315) 43 = .ok (.iaload, 1) := by decide +kernel
theorem d315_44 : decode (mb 315) 44 = .ok (.istore 5, 2) := by decide +kernel
theorem d315_46 : decode (mb 315) 46 = .ok (.aload_n 1, 1) := by decide +kernel
theorem d315_47 : decode (mb 315) 47 = .ok (.aload_n 2, 1) := by decide +kernel
theorem d315_48 : decode (mb 315) 48 = .ok (.getfield 202, 3) := by decide +kernel
theorem d315_51 : decode (mb 315) 51 = .ok (.aload_n 1, 1) := by decide +kernel
theorem d315_52 : decode (mb 315) 52 = .ok (.getfield 119, 3) := by decide +kernel
theorem d315_55 : decode (mb 315) 55 = .ok (.iaload, 1) := by decide +kernel
theorem d315_56 : decode (mb 315) 56 = .ok (.invokevirtual 205, 3) := by decide +kernel
theorem d315_59 : decode (mb 315) 59 = .ok (.astore 6, 2) := by decide +kernel
theorem d315_61 : decode (mb 315) 61 = .ok (.aload_n 1, 1) := by decide +kernel
theorem d315_62 : decode (mb 315) 62 = .ok (.iload 4, 2) := by decide +kernel
theorem d315_64 : decode (mb 315) 64 = .ok (.invokevirtual 205, 3) := by decide +kernel
theorem d315_67 : decode (mb 315) 67 = .ok (.astore 7, 2) := by decide +kernel
theorem d315_69 : decode (mb 315) 69 = .ok (.aload_n 1, 1) := by decide +kernel
theorem d315_70 : decode (mb 315) 70 = .ok (.iload 5, 2) := by decide +kernel
theorem d315_72 : decode (mb 315) 72 = .ok (.invokevirtual 205, 3) := by decide +kernel
theorem d315_75 : decode (mb 315) 75 = .ok (.astore 8, 2) := by decide +kernel
theorem d315_77 : decode (mb 315) 77 = .ok (.iload_n 3, 1) := by decide +kernel
theorem d315_78 : decode (mb 315) 78 = .ok (.tableswitch 373 0 27 #[126, 135, 373, 373, 373, 373, 373, 373, 144, 166, 181, 191, 202, 211, 221, 231, 239, 249, 259, 281, 305, 313, 321, 328, 338, 346, 355, 364], 126) := by decide +kernel
theorem d315_204 : decode (mb 315) 204 = .ok (.aload 6, 2) := by decide +kernel
theorem d315_206 : decode (mb 315) 206 = .ok (.iload 4, 2) := by decide +kernel
theorem d315_208 : decode (mb 315) 208 = .ok (.invokevirtual 184, 3) := by decide +kernel
theorem d315_211 : decode (mb 315) 211 = .ok (.iconst 0, 1) := by decide +kernel
theorem d315_212 : decode (mb 315) 212 = .ok (.ireturn, 1) := by decide +kernel
theorem d315_213 : decode (mb 315) 213 = .ok (.aload 6, 2) := by decide +kernel
theorem d315_215 : decode (mb 315) 215 = .ok (.aload 7, 2) := by decide +kernel
theorem d315_217 : decode (mb 315) 217 = .ok (.invokevirtual 157, 3) := by decide +kernel
theorem d315_220 : decode (mb 315) 220 = .ok (.iconst 0, 1) := by decide +kernel
theorem d315_221 : decode (mb 315) 221 = .ok (.ireturn, 1) := by decide +kernel
theorem d315_222 : decode (mb 315) 222 = .ok (.aload 6, 2) := by decide +kernel
theorem d315_224 : decode (mb 315) 224 = .ok (.aload 7, 2) := by decide +kernel
theorem d315_226 : decode (mb 315) 226 = .ok (.aload 8, 2) := by decide +kernel
theorem d315_228 : decode (mb 315) 228 = .ok (.invokevirtual 209, 3) := by decide +kernel
theorem d315_231 : decode (mb 315) 231 = .ok (.ifCond .eq 7, 3) := by decide +kernel
theorem d315_234 : decode (mb 315) 234 = .ok (.iconst 1, 1) := by decide +kernel
theorem d315_235 : decode (mb 315) 235 = .ok (.goto 4, 3) := by decide +kernel
theorem d315_238 : decode (mb 315) 238 = .ok (.iconst 0, 1) := by decide +kernel
theorem d315_239 : decode (mb 315) 239 = .ok (.invokevirtual 184, 3) := by decide +kernel
theorem d315_242 : decode (mb 315) 242 = .ok (.iconst 0, 1) := by decide +kernel
theorem d315_243 : decode (mb 315) 243 = .ok (.ireturn, 1) := by decide +kernel
theorem d315_244 : decode (mb 315) 244 = .ok (.aload_n 0, 1) := by decide +kernel
theorem d315_245 : decode (mb 315) 245 = .ok (.aload_n 1, 1) := by decide +kernel
theorem d315_246 : decode (mb 315) 246 = .ok (.aload_n 2, 1) := by decide +kernel
theorem d315_247 : decode (mb 315) 247 = .ok (.getfield 202, 3) := by decide +kernel
theorem d315_250 : decode (mb 315) 250 = .ok (.aload_n 1, 1) := by decide +kernel
theorem d315_251 : decode (mb 315) 251 = .ok (.getfield 119, 3) := by decide +kernel
theorem d315_254 : decode (mb 315) 254 = .ok (.iaload, 1) := by decide +kernel
theorem d315_255 : decode (mb 315) 255 = .ok (.invokevirtual 213, 3) := by decide +kernel
theorem d315_258 : decode (mb 315) 258 = .ok (.ireturn, 1) := by decide +kernel
theorem d315_259 : decode (mb 315) 259 = .ok (.aload_n 0, 1) := by decide +kernel
theorem d315_260 : decode (mb 315) 260 = .ok (.aload_n 1, 1) := by decide +kernel
theorem d315_261 : decode (mb 315) 261 = .ok (.aload 6, 2) := by decide +kernel
theorem d315_263 : decode (mb 315) 263 = .ok (.iload 4, 2) := by decide +kernel
theorem d315_265 : decode (mb 315) 265 = .ok (.invokevirtual 217, 3) := by decide +kernel
theorem d315_268 : decode (mb 315) 268 = .ok (.ireturn, 1) := by decide +kernel
theorem d315_269 : decode (mb 315) 269 = .ok (.aload_n 0, 1) := by decide +kernel
theorem d315_270 : decode (mb 315) 270 = .ok (.aload 6, 2) := by decide +kernel
theorem d315_272 : decode (mb 315) 272 = .ok (.aload 7, 2) := by decide +kernel
theorem d315_274 : decode (mb 315) 274 = .ok (.iload 5, 2) := by decide +kernel
theorem d315_276 : decode (mb 315) 276 = .ok (.invokevirtual 221, 3) := by decide +kernel
theorem d315_279 : decode (mb 315) 279 = .ok (.ireturn, 1) := by decide +kernel
theorem d315_280 : decode (mb 315) 280 = .ok (.aload_n 0, 1) := by decide +kernel
theorem d315_281 : decode (mb 315) 281 = .ok (.aload 6, 2) := by decide +kernel
theorem d315_283 : decode (mb 315) 283 = .ok (.iload 4, 2) := by decide +kernel
theorem d315_285 : decode (mb 315) 285 = .ok (.invokevirtual 225, 3) := by decide +kernel
theorem d315_288 : decode (mb 315) 288 = .ok (.ireturn, 1) := by decide +kernel
theorem d315_289 : decode (mb 315) 289 = .ok (.aload 6, 2) := by decide +kernel
theorem d315_291 : decode (mb 315) 291 = .ok (.aload 7, 2) := by decide +kernel
theorem d315_293 : decode (mb 315) 293 = .ok (.aload 8, 2) := by decide +kernel
theorem d315_295 : decode (mb 315) 295 = .ok (.invokestatic 229, 3) := by decide +kernel
theorem d315_298 : decode (mb 315) 298 = .ok (.ireturn, 1) := by decide +kernel
theorem d315_299 : decode (mb 315) 299 = .ok (.aload 6, 2) := by decide +kernel
theorem d315_301 : decode (mb 315) 301 = .ok (.aload 7, 2) := by decide +kernel
theorem d315_303 : decode (mb 315) 303 = .ok (.aload 8, 2) := by decide +kernel
theorem d315_305 : decode (mb 315) 305 = .ok (.invokestatic 233, 3) := by decide +kernel
theorem d315_308 : decode (mb 315) 308 = .ok (.ireturn, 1) := by decide +kernel
theorem d315_309 : decode (mb 315) 309 = .ok (.aload 6, 2) := by decide +kernel
theorem d315_311 : decode (mb 315) 311 = .ok (.aload 7, 2) := by decide +kernel
theorem d315_313 : decode (mb 315) 313 = .ok (.invokestatic 236, 3) := by decide +kernel
theorem d315_316 : decode (mb 315) 316 = .ok (.ireturn, 1) := by decide +kernel
theorem d315_317 : decode (mb 315) 317 = .ok (.aload 6, 2) := by decide +kernel
theorem d315_319 : decode (mb 315) 319 = .ok (.aload 7, 2) := by decide +kernel
theorem d315_321 : decode (mb 315) 321 = .ok (.iload 5, 2) := by decide +kernel
theorem d315_323 : decode (mb 315) 323 = .ok (.invokestatic 240, 3) := by decide +kernel
theorem d315_326 : decode (mb 315) 326 = .ok (.ireturn, 1) := by decide +kernel
theorem d315_327 : decode (mb 315) 327 = .ok (.aload 6, 2) := by decide +kernel
theorem d315_329 : decode (mb 315) 329 = .ok (.iload 4, 2) := by decide +kernel
theorem d315_331 : decode (mb 315) 331 = .ok (.aload 8, 2) := by decide +kernel
theorem d315_333 : decode (mb 315) 333 = .ok (.invokestatic 243, 3) := by decide +kernel
theorem d315_336 : decode (mb 315) 336 = .ok (.ireturn, 1) := by decide +kernel
theorem d315_337 : decode (mb 315) 337 = .ok (.aload 6, 2) := by decide +kernel
theorem d315_339 : decode (mb 315) 339 = .ok (.aload 7, 2) := by decide +kernel
theorem d315_341 : decode (mb 315) 341 = .ok (.iload 5, 2) := by decide +kernel
theorem d315_343 : decode (mb 315) 343 = .ok (.invokevirtual 247, 3) := by decide +kernel
theorem d315_346 : decode (mb 315) 346 = .ok (.ifCond .eq 7, 3) := by decide +kernel
theorem d315_349 : decode (mb 315) 349 = .ok (.iconst 1, 1) := by decide +kernel
theorem d315_350 : decode (mb 315) 350 = .ok (.goto 4, 3) := by decide +kernel
theorem d315_353 : decode (mb 315) 353 = .ok (.iconst 0, 1) := by decide +kernel
theorem d315_354 : decode (mb 315) 354 = .ok (.invokevirtual 184, 3) := by decide +kernel
theorem d315_357 : decode (mb 315) 357 = .ok (.iconst 0, 1) := by decide +kernel
theorem d315_358 : decode (mb 315) 358 = .ok (.ireturn, 1) := by decide +kernel
theorem d315_359 : decode (mb 315) 359 = .ok (.aload 6, 2) := by decide +kernel
theorem d315_361 : decode (mb 315) 361 = .ok (.invokevirtual 250, 3) := by decide +kernel
theorem d315_364 : decode (mb 315) 364 = .ok (.ifCond .ne 13, 3) := by decide +kernel
theorem d315_367 : decode (mb 315) 367 = .ok (.aload 6, 2) := by decide +kernel
theorem d315_369 : decode (mb 315) 369 = .ok (.iload 4, 2) := by decide +kernel
theorem d315_371 : decode (mb 315) 371 = .ok (.invokevirtual 247, 3) := by decide +kernel
theorem d315_374 : decode (mb 315) 374 = .ok (.ifCond .eq 7, 3) := by decide +kernel
theorem d315_377 : decode (mb 315) 377 = .ok (.iconst 0, 1) := by decide +kernel
theorem d315_378 : decode (mb 315) 378 = .ok (.goto 4, 3) := by decide +kernel
theorem d315_381 : decode (mb 315) 381 = .ok (.iconst 3, 1) := by decide +kernel
theorem d315_382 : decode (mb 315) 382 = .ok (.ireturn, 1) := by decide +kernel
theorem d315_383 : decode (mb 315) 383 = .ok (.aload_n 0, 1) := by decide +kernel
theorem d315_384 : decode (mb 315) 384 = .ok (.aload_n 1, 1) := by decide +kernel
theorem d315_385 : decode (mb 315) 385 = .ok (.aload 6, 2) := by decide +kernel
theorem d315_387 : decode (mb 315) 387 = .ok (.invokevirtual 253, 3) := by decide +kernel
theorem d315_390 : decode (mb 315) 390 = .ok (.ireturn, 1) := by decide +kernel
theorem d315_391 : decode (mb 315) 391 = .ok (.aload_n 0, 1) := by decide +kernel
theorem d315_392 : decode (mb 315) 392 = .ok (.aload_n 1, 1) := by decide +kernel
theorem d315_393 : decode (mb 315) 393 = .ok (.aload 6, 2) := by decide +kernel
theorem d315_395 : decode (mb 315) 395 = .ok (.invokevirtual 257, 3) := by decide +kernel
theorem d315_398 : decode (mb 315) 398 = .ok (.ireturn, 1) := by decide +kernel
theorem d315_399 : decode (mb 315) 399 = .ok (.aload_n 0, 1) := by decide +kernel
theorem d315_400 : decode (mb 315) 400 = .ok (.aload 6, 2) := by decide +kernel
theorem d315_402 : decode (mb 315) 402 = .ok (.invokevirtual 260, 3) := by decide +kernel
theorem d315_405 : decode (mb 315) 405 = .ok (.ireturn, 1) := by decide +kernel
theorem d315_406 : decode (mb 315) 406 = .ok (.aload_n 0, 1) := by decide +kernel
theorem d315_407 : decode (mb 315) 407 = .ok (.aload_n 1, 1) := by decide +kernel
theorem d315_408 : decode (mb 315) 408 = .ok (.iload 4, 2) := by decide +kernel
theorem d315_410 : decode (mb 315) 410 = .ok (.iload 5, 2) := by decide +kernel
theorem d315_412 : decode (mb 315) 412 = .ok (.invokevirtual 264, 3) := by decide +kernel
theorem d315_415 : decode (mb 315) 415 = .ok (.ireturn, 1) := by decide +kernel
theorem d315_416 : decode (mb 315) 416 = .ok (.aload_n 1, 1) := by decide +kernel
theorem d315_417 : decode (mb 315) 417 = .ok (.aload 6, 2) := by decide +kernel
theorem d315_419 : decode (mb 315) 419 = .ok (.invokevirtual 267, 3) := by decide +kernel
theorem d315_422 : decode (mb 315) 422 = .ok (.iconst (-1), 1) := by decide +kernel
theorem d315_423 : decode (mb 315) 423 = .ok (.ireturn, 1) := by decide +kernel
theorem d315_424 : decode (mb 315) 424 = .ok (.aload_n 0, 1) := by decide +kernel
theorem d315_425 : decode (mb 315) 425 = .ok (.aload 6, 2) := by decide +kernel
theorem d315_427 : decode (mb 315) 427 = .ok (.aload 7, 2) := by decide +kernel
theorem d315_429 : decode (mb 315) 429 = .ok (.invokevirtual 270, 3) := by decide +kernel
theorem d315_432 : decode (mb 315) 432 = .ok (.ireturn, 1) := by decide +kernel
theorem d315_433 : decode (mb 315) 433 = .ok (.aload_n 0, 1) := by decide +kernel
theorem d315_434 : decode (mb 315) 434 = .ok (.aload 6, 2) := by decide +kernel
theorem d315_436 : decode (mb 315) 436 = .ok (.aload 7, 2) := by decide +kernel
theorem d315_438 : decode (mb 315) 438 = .ok (.invokevirtual 273, 3) := by decide +kernel
theorem d315_441 : decode (mb 315) 441 = .ok (.ireturn, 1) := by decide +kernel
theorem d315_442 : decode (mb 315) 442 = .ok (.aload_n 0, 1) := by decide +kernel
theorem d315_443 : decode (mb 315) 443 = .ok (.aload 6, 2) := by decide +kernel
theorem d315_445 : decode (mb 315) 445 = .ok (.aload 7, 2) := by decide +kernel
theorem d315_447 : decode (mb 315) 447 = .ok (.invokevirtual 276, 3) := by decide +kernel
theorem d315_450 : decode (mb 315) 450 = .ok (.ireturn, 1) := by decide +kernel
theorem d315_451 : decode (mb 315) 451 = .ok (.iload_n 3, 1) := by decide +kernel
theorem d315_452 : decode (mb 315) 452 = .ok (.aload 6, 2) := by decide +kernel
theorem d315_454 : decode (mb 315) 454 = .ok (.aload 7, 2) := by decide +kernel
theorem d315_456 : decode (mb 315) 456 = .ok (.aload 8, 2) := by decide +kernel
theorem d315_458 : decode (mb 315) 458 = .ok (.invokestatic 279, 3) := by decide +kernel
theorem d315_461 : decode (mb 315) 461 = .ok (.ireturn, 1) := by decide +kernel
theorem x315_0 {S : List Value} {h : HP} {l0 l2 l3 l4 l5 l6 l7 l8 : Value} {a0 : Nat} : pX 315 0 [l0, .ref a0, l2, l3, l4, l5, l6, l7, l8] S h = pX 315 1 [l0, .ref a0, l2, l3, l4, l5, l6, l7, l8] (.ref a0 :: S) h := pX_stp d315_0 rfl rfl rfl
theorem x315_1 {L : List Value} {h : HP} {a0 : Nat} (hk : hp_k h a0 = 2) : pX 315 1 L [.ref a0] h = (pX 103 0 [.ref a0] [] h).bind (fun q => pX 315 4 L (q.1.toList ++ []) q.2) := pX_inv (a := a0) (t := 2) 103 [.ref a0] [] d315_1 rfl rfl rfl hk
theorem x315_4 {L S : List Value} {h : HP} {x : Int32} : pX 315 4 L (.int x :: S) h = if x = 0 then pX 315 9 L S h else pX 315 7 L S h := pX_if_eq d315_4 (by decide)
theorem x315_7 {L S : List Value} {h : HP} : pX 315 7 L S h = pX 315 8 L (.int (-1) :: S) h := pX_iconst d315_7 (by decide)
theorem x315_8 {L : List Value} {h : HP} {x : Int32} : pX 315 8 L [.int x] h = some (some (.int x), h) := pX_ret d315_8 rfl
theorem x315_9 {S : List Value} {h : HP} {l0 l2 l3 l4 l5 l6 l7 l8 : Value} {a0 : Nat} : pX 315 9 [l0, .ref a0, l2, l3, l4, l5, l6, l7, l8] S h = pX 315 10 [l0, .ref a0, l2, l3, l4, l5, l6, l7, l8] (.ref a0 :: S) h := pX_stp d315_9 rfl rfl rfl
theorem x315_10 {L S : List Value} {h : HP} {a : Nat} (hk : hp_k h a = 2) : pX 315 10 L (.ref a :: S) h = pX 315 13 L (.ref (hp_a h a 2) :: S) h := pX_get d315_10 rfl rfl hk
theorem x315_13 {S : List Value} {h : HP} {l0 l1 l2 l3 l4 l5 l6 l7 l8 : Value} {a0 : Nat} : pX 315 13 [l0, l1, l2, l3, l4, l5, l6, l7, l8] (.ref a0 :: S) h = pX 315 14 [l0, l1, .ref a0, l3, l4, l5, l6, l7, l8] S h := pX_stp d315_13 rfl rfl rfl
theorem x315_14 {S : List Value} {h : HP} {l0 l1 l3 l4 l5 l6 l7 l8 : Value} {a0 : Nat} : pX 315 14 [l0, l1, .ref a0, l3, l4, l5, l6, l7, l8] S h = pX 315 15 [l0, l1, .ref a0, l3, l4, l5, l6, l7, l8] (.ref a0 :: S) h := pX_stp d315_14 rfl rfl rfl
theorem x315_15 {L S : List Value} {h : HP} {a : Nat} (hk : hp_k h a = 5) : pX 315 15 L (.ref a :: S) h = pX 315 18 L (.ref (hp_a h a 3) :: S) h := pX_get d315_15 rfl rfl hk
theorem x315_18 {S : List Value} {h : HP} {l0 l2 l3 l4 l5 l6 l7 l8 : Value} {a0 : Nat} : pX 315 18 [l0, .ref a0, l2, l3, l4, l5, l6, l7, l8] S h = pX 315 19 [l0, .ref a0, l2, l3, l4, l5, l6, l7, l8] (.ref a0 :: S) h := pX_stp d315_18 rfl rfl rfl
theorem x315_19 {L S : List Value} {h : HP} {a : Nat} (hk : hp_k h a = 2) : pX 315 19 L (.ref a :: S) h = pX 315 22 L (.int (hp_i h a 4) :: S) h := pX_get d315_19 rfl rfl hk
theorem x315_22 {L S : List Value} {h : HP} {a : Nat} {j : Int32} (hk : hp_k h a = 100) (hj : inb j (hp_l h a) = true) : pX 315 22 L (.int j :: .ref a :: S) h = pX 315 23 L (.int (hp_i h a (ix j)) :: S) h := pX_ild d315_22 hk hj
theorem x315_23 {S : List Value} {h : HP} {l0 l1 l2 l3 l4 l5 l6 l7 l8 : Value} {x0 : Int32} : pX 315 23 [l0, l1, l2, l3, l4, l5, l6, l7, l8] (.int x0 :: S) h = pX 315 24 [l0, l1, l2, .int x0, l4, l5, l6, l7, l8] S h := pX_stp d315_23 rfl rfl rfl
theorem x315_24 {S : List Value} {h : HP} {l0 l1 l3 l4 l5 l6 l7 l8 : Value} {a0 : Nat} : pX 315 24 [l0, l1, .ref a0, l3, l4, l5, l6, l7, l8] S h = pX 315 25 [l0, l1, .ref a0, l3, l4, l5, l6, l7, l8] (.ref a0 :: S) h := pX_stp d315_24 rfl rfl rfl
theorem x315_25 {L S : List Value} {h : HP} {a : Nat} (hk : hp_k h a = 5) : pX 315 25 L (.ref a :: S) h = pX 315 28 L (.ref (hp_a h a 5) :: S) h := pX_get d315_25 rfl rfl hk
theorem x315_28 {S : List Value} {h : HP} {l0 l2 l3 l4 l5 l6 l7 l8 : Value} {a0 : Nat} : pX 315 28 [l0, .ref a0, l2, l3, l4, l5, l6, l7, l8] S h = pX 315 29 [l0, .ref a0, l2, l3, l4, l5, l6, l7, l8] (.ref a0 :: S) h := pX_stp d315_28 rfl rfl rfl
theorem x315_29 {L S : List Value} {h : HP} {a : Nat} (hk : hp_k h a = 2) : pX 315 29 L (.ref a :: S) h = pX 315 32 L (.int (hp_i h a 4) :: S) h := pX_get d315_29 rfl rfl hk
theorem x315_32 {L S : List Value} {h : HP} {a : Nat} {j : Int32} (hk : hp_k h a = 100) (hj : inb j (hp_l h a) = true) : pX 315 32 L (.int j :: .ref a :: S) h = pX 315 33 L (.int (hp_i h a (ix j)) :: S) h := pX_ild d315_32 hk hj
theorem x315_33 {S : List Value} {h : HP} {l0 l1 l2 l3 l4 l5 l6 l7 l8 : Value} {x0 : Int32} : pX 315 33 [l0, l1, l2, l3, l4, l5, l6, l7, l8] (.int x0 :: S) h = pX 315 35 [l0, l1, l2, l3, .int x0, l5, l6, l7, l8] S h := pX_stp d315_33 rfl rfl rfl
theorem x315_35 {S : List Value} {h : HP} {l0 l1 l3 l4 l5 l6 l7 l8 : Value} {a0 : Nat} : pX 315 35 [l0, l1, .ref a0, l3, l4, l5, l6, l7, l8] S h = pX 315 36 [l0, l1, .ref a0, l3, l4, l5, l6, l7, l8] (.ref a0 :: S) h := pX_stp d315_35 rfl rfl rfl
theorem x315_36 {L S : List Value} {h : HP} {a : Nat} (hk : hp_k h a = 5) : pX 315 36 L (.ref a :: S) h = pX 315 39 L (.ref (hp_a h a 6) :: S) h := pX_get d315_36 rfl rfl hk
theorem x315_39 {S : List Value} {h : HP} {l0 l2 l3 l4 l5 l6 l7 l8 : Value} {a0 : Nat} : pX 315 39 [l0, .ref a0, l2, l3, l4, l5, l6, l7, l8] S h = pX 315 40 [l0, .ref a0, l2, l3, l4, l5, l6, l7, l8] (.ref a0 :: S) h := pX_stp d315_39 rfl rfl rfl
theorem x315_40 {L S : List Value} {h : HP} {a : Nat} (hk : hp_k h a = 2) : pX 315 40 L (.ref a :: S) h = pX 315 43 L (.int (hp_i h a 4) :: S) h := pX_get d315_40 rfl rfl hk
theorem x315_43 {L S : List Value} {h : HP} {a : Nat} {j : Int32} (hk : hp_k h a = 100) (hj : inb j (hp_l h a) = true) : pX 315 43 L (.int j :: .ref a :: S) h = pX 315 44 L (.int (hp_i h a (ix j)) :: S) h := pX_ild d315_43 hk hj
theorem x315_44 {S : List Value} {h : HP} {l0 l1 l2 l3 l4 l5 l6 l7 l8 : Value} {x0 : Int32} : pX 315 44 [l0, l1, l2, l3, l4, l5, l6, l7, l8] (.int x0 :: S) h = pX 315 46 [l0, l1, l2, l3, l4, .int x0, l6, l7, l8] S h := pX_stp d315_44 rfl rfl rfl
theorem x315_46 {S : List Value} {h : HP} {l0 l2 l3 l4 l5 l6 l7 l8 : Value} {a0 : Nat} : pX 315 46 [l0, .ref a0, l2, l3, l4, l5, l6, l7, l8] S h = pX 315 47 [l0, .ref a0, l2, l3, l4, l5, l6, l7, l8] (.ref a0 :: S) h := pX_stp d315_46 rfl rfl rfl
theorem x315_47 {S : List Value} {h : HP} {l0 l1 l3 l4 l5 l6 l7 l8 : Value} {a0 : Nat} : pX 315 47 [l0, l1, .ref a0, l3, l4, l5, l6, l7, l8] S h = pX 315 48 [l0, l1, .ref a0, l3, l4, l5, l6, l7, l8] (.ref a0 :: S) h := pX_stp d315_47 rfl rfl rfl
theorem x315_48 {L S : List Value} {h : HP} {a : Nat} (hk : hp_k h a = 5) : pX 315 48 L (.ref a :: S) h = pX 315 51 L (.ref (hp_a h a 4) :: S) h := pX_get d315_48 rfl rfl hk
theorem x315_51 {S : List Value} {h : HP} {l0 l2 l3 l4 l5 l6 l7 l8 : Value} {a0 : Nat} : pX 315 51 [l0, .ref a0, l2, l3, l4, l5, l6, l7, l8] S h = pX 315 52 [l0, .ref a0, l2, l3, l4, l5, l6, l7, l8] (.ref a0 :: S) h := pX_stp d315_51 rfl rfl rfl
theorem x315_52 {L S : List Value} {h : HP} {a : Nat} (hk : hp_k h a = 2) : pX 315 52 L (.ref a :: S) h = pX 315 55 L (.int (hp_i h a 4) :: S) h := pX_get d315_52 rfl rfl hk
theorem x315_55 {L S : List Value} {h : HP} {a : Nat} {j : Int32} (hk : hp_k h a = 100) (hj : inb j (hp_l h a) = true) : pX 315 55 L (.int j :: .ref a :: S) h = pX 315 56 L (.int (hp_i h a (ix j)) :: S) h := pX_ild d315_55 hk hj
theorem x315_56 {L : List Value} {h : HP} {x0 : Int32} {a0 : Nat} (hk : hp_k h a0 = 2) : pX 315 56 L [.int x0, .ref a0] h = (pX 102 0 [.ref a0, .int x0] [] h).bind (fun q => pX 315 59 L (q.1.toList ++ []) q.2) := pX_inv (a := a0) (t := 2) 102 [.ref a0, .int x0] [] d315_56 rfl rfl rfl hk
theorem x315_59 {S : List Value} {h : HP} {l0 l1 l2 l3 l4 l5 l6 l7 l8 : Value} {a0 : Nat} : pX 315 59 [l0, l1, l2, l3, l4, l5, l6, l7, l8] (.ref a0 :: S) h = pX 315 61 [l0, l1, l2, l3, l4, l5, .ref a0, l7, l8] S h := pX_stp d315_59 rfl rfl rfl
theorem x315_61 {S : List Value} {h : HP} {l0 l2 l3 l4 l5 l6 l7 l8 : Value} {a0 : Nat} : pX 315 61 [l0, .ref a0, l2, l3, l4, l5, l6, l7, l8] S h = pX 315 62 [l0, .ref a0, l2, l3, l4, l5, l6, l7, l8] (.ref a0 :: S) h := pX_stp d315_61 rfl rfl rfl
theorem x315_62 {S : List Value} {h : HP} {l0 l1 l2 l3 l5 l6 l7 l8 : Value} {x0 : Int32} : pX 315 62 [l0, l1, l2, l3, .int x0, l5, l6, l7, l8] S h = pX 315 64 [l0, l1, l2, l3, .int x0, l5, l6, l7, l8] (.int x0 :: S) h := pX_stp d315_62 rfl rfl rfl
theorem x315_64 {L : List Value} {h : HP} {x0 : Int32} {a0 : Nat} (hk : hp_k h a0 = 2) : pX 315 64 L [.int x0, .ref a0] h = (pX 102 0 [.ref a0, .int x0] [] h).bind (fun q => pX 315 67 L (q.1.toList ++ []) q.2) := pX_inv (a := a0) (t := 2) 102 [.ref a0, .int x0] [] d315_64 rfl rfl rfl hk
theorem x315_67 {S : List Value} {h : HP} {l0 l1 l2 l3 l4 l5 l6 l7 l8 : Value} {a0 : Nat} : pX 315 67 [l0, l1, l2, l3, l4, l5, l6, l7, l8] (.ref a0 :: S) h = pX 315 69 [l0, l1, l2, l3, l4, l5, l6, .ref a0, l8] S h := pX_stp d315_67 rfl rfl rfl
theorem x315_69 {S : List Value} {h : HP} {l0 l2 l3 l4 l5 l6 l7 l8 : Value} {a0 : Nat} : pX 315 69 [l0, .ref a0, l2, l3, l4, l5, l6, l7, l8] S h = pX 315 70 [l0, .ref a0, l2, l3, l4, l5, l6, l7, l8] (.ref a0 :: S) h := pX_stp d315_69 rfl rfl rfl
theorem x315_70 {S : List Value} {h : HP} {l0 l1 l2 l3 l4 l6 l7 l8 : Value} {x0 : Int32} : pX 315 70 [l0, l1, l2, l3, l4, .int x0, l6, l7, l8] S h = pX 315 72 [l0, l1, l2, l3, l4, .int x0, l6, l7, l8] (.int x0 :: S) h := pX_stp d315_70 rfl rfl rfl
theorem x315_72 {L : List Value} {h : HP} {x0 : Int32} {a0 : Nat} (hk : hp_k h a0 = 2) : pX 315 72 L [.int x0, .ref a0] h = (pX 102 0 [.ref a0, .int x0] [] h).bind (fun q => pX 315 75 L (q.1.toList ++ []) q.2) := pX_inv (a := a0) (t := 2) 102 [.ref a0, .int x0] [] d315_72 rfl rfl rfl hk
theorem x315_75 {S : List Value} {h : HP} {l0 l1 l2 l3 l4 l5 l6 l7 l8 : Value} {a0 : Nat} : pX 315 75 [l0, l1, l2, l3, l4, l5, l6, l7, l8] (.ref a0 :: S) h = pX 315 77 [l0, l1, l2, l3, l4, l5, l6, l7, .ref a0] S h := pX_stp d315_75 rfl rfl rfl
theorem x315_77 {S : List Value} {h : HP} {l0 l1 l2 l4 l5 l6 l7 l8 : Value} {x0 : Int32} : pX 315 77 [l0, l1, l2, .int x0, l4, l5, l6, l7, l8] S h = pX 315 78 [l0, l1, l2, .int x0, l4, l5, l6, l7, l8] (.int x0 :: S) h := pX_stp d315_77 rfl rfl rfl
theorem x315_78_0 {L S : List Value} {h : HP} : pX 315 78 L (.int 0 :: S) h = pX 315 204 L S h := pX_tabIn (off := 126) d315_78 (by decide) (by decide) (by decide) (by decide)
theorem x315_78_1 {L S : List Value} {h : HP} : pX 315 78 L (.int 1 :: S) h = pX 315 213 L S h := pX_tabIn (off := 135) d315_78 (by decide) (by decide) (by decide) (by decide)
theorem x315_78_2 {L S : List Value} {h : HP} : pX 315 78 L (.int 2 :: S) h = pX 315 451 L S h := pX_tabIn (off := 373) d315_78 (by decide) (by decide) (by decide) (by decide)
theorem x315_78_3 {L S : List Value} {h : HP} : pX 315 78 L (.int 3 :: S) h = pX 315 451 L S h := pX_tabIn (off := 373) d315_78 (by decide) (by decide) (by decide) (by decide)
theorem x315_78_4 {L S : List Value} {h : HP} : pX 315 78 L (.int 4 :: S) h = pX 315 451 L S h := pX_tabIn (off := 373) d315_78 (by decide) (by decide) (by decide) (by decide)
theorem x315_78_5 {L S : List Value} {h : HP} : pX 315 78 L (.int 5 :: S) h = pX 315 451 L S h := pX_tabIn (off := 373) d315_78 (by decide) (by decide) (by decide) (by decide)
theorem x315_78_6 {L S : List Value} {h : HP} : pX 315 78 L (.int 6 :: S) h = pX 315 451 L S h := pX_tabIn (off := 373) d315_78 (by decide) (by decide) (by decide) (by decide)
theorem x315_78_7 {L S : List Value} {h : HP} : pX 315 78 L (.int 7 :: S) h = pX 315 451 L S h := pX_tabIn (off := 373) d315_78 (by decide) (by decide) (by decide) (by decide)
theorem x315_78_8 {L S : List Value} {h : HP} : pX 315 78 L (.int 8 :: S) h = pX 315 222 L S h := pX_tabIn (off := 144) d315_78 (by decide) (by decide) (by decide) (by decide)
theorem x315_78_9 {L S : List Value} {h : HP} : pX 315 78 L (.int 9 :: S) h = pX 315 244 L S h := pX_tabIn (off := 166) d315_78 (by decide) (by decide) (by decide) (by decide)
theorem x315_78_10 {L S : List Value} {h : HP} : pX 315 78 L (.int 10 :: S) h = pX 315 259 L S h := pX_tabIn (off := 181) d315_78 (by decide) (by decide) (by decide) (by decide)
theorem x315_78_11 {L S : List Value} {h : HP} : pX 315 78 L (.int 11 :: S) h = pX 315 269 L S h := pX_tabIn (off := 191) d315_78 (by decide) (by decide) (by decide) (by decide)
theorem x315_78_12 {L S : List Value} {h : HP} : pX 315 78 L (.int 12 :: S) h = pX 315 280 L S h := pX_tabIn (off := 202) d315_78 (by decide) (by decide) (by decide) (by decide)
theorem x315_78_13 {L S : List Value} {h : HP} : pX 315 78 L (.int 13 :: S) h = pX 315 289 L S h := pX_tabIn (off := 211) d315_78 (by decide) (by decide) (by decide) (by decide)
theorem x315_78_14 {L S : List Value} {h : HP} : pX 315 78 L (.int 14 :: S) h = pX 315 299 L S h := pX_tabIn (off := 221) d315_78 (by decide) (by decide) (by decide) (by decide)
theorem x315_78_15 {L S : List Value} {h : HP} : pX 315 78 L (.int 15 :: S) h = pX 315 309 L S h := pX_tabIn (off := 231) d315_78 (by decide) (by decide) (by decide) (by decide)
theorem x315_78_16 {L S : List Value} {h : HP} : pX 315 78 L (.int 16 :: S) h = pX 315 317 L S h := pX_tabIn (off := 239) d315_78 (by decide) (by decide) (by decide) (by decide)
theorem x315_78_17 {L S : List Value} {h : HP} : pX 315 78 L (.int 17 :: S) h = pX 315 327 L S h := pX_tabIn (off := 249) d315_78 (by decide) (by decide) (by decide) (by decide)
theorem x315_78_18 {L S : List Value} {h : HP} : pX 315 78 L (.int 18 :: S) h = pX 315 337 L S h := pX_tabIn (off := 259) d315_78 (by decide) (by decide) (by decide) (by decide)
theorem x315_78_19 {L S : List Value} {h : HP} : pX 315 78 L (.int 19 :: S) h = pX 315 359 L S h := pX_tabIn (off := 281) d315_78 (by decide) (by decide) (by decide) (by decide)
theorem x315_78_20 {L S : List Value} {h : HP} : pX 315 78 L (.int 20 :: S) h = pX 315 383 L S h := pX_tabIn (off := 305) d315_78 (by decide) (by decide) (by decide) (by decide)
theorem x315_78_21 {L S : List Value} {h : HP} : pX 315 78 L (.int 21 :: S) h = pX 315 391 L S h := pX_tabIn (off := 313) d315_78 (by decide) (by decide) (by decide) (by decide)
theorem x315_78_22 {L S : List Value} {h : HP} : pX 315 78 L (.int 22 :: S) h = pX 315 399 L S h := pX_tabIn (off := 321) d315_78 (by decide) (by decide) (by decide) (by decide)
theorem x315_78_23 {L S : List Value} {h : HP} : pX 315 78 L (.int 23 :: S) h = pX 315 406 L S h := pX_tabIn (off := 328) d315_78 (by decide) (by decide) (by decide) (by decide)
theorem x315_78_24 {L S : List Value} {h : HP} : pX 315 78 L (.int 24 :: S) h = pX 315 416 L S h := pX_tabIn (off := 338) d315_78 (by decide) (by decide) (by decide) (by decide)
theorem x315_78_25 {L S : List Value} {h : HP} : pX 315 78 L (.int 25 :: S) h = pX 315 424 L S h := pX_tabIn (off := 346) d315_78 (by decide) (by decide) (by decide) (by decide)
theorem x315_78_26 {L S : List Value} {h : HP} : pX 315 78 L (.int 26 :: S) h = pX 315 433 L S h := pX_tabIn (off := 355) d315_78 (by decide) (by decide) (by decide) (by decide)
theorem x315_78_27 {L S : List Value} {h : HP} : pX 315 78 L (.int 27 :: S) h = pX 315 442 L S h := pX_tabIn (off := 364) d315_78 (by decide) (by decide) (by decide) (by decide)
theorem x315_78_d {L S : List Value} {h : HP} {x : Int32} (hx : x.toInt < 0 ∨ 27 < x.toInt) : pX 315 78 L (.int x :: S) h = pX 315 451 L S h := pX_tabOut d315_78 hx (by decide)
theorem x315_204 {S : List Value} {h : HP} {l0 l1 l2 l3 l4 l5 l7 l8 : Value} {a0 : Nat} : pX 315 204 [l0, l1, l2, l3, l4, l5, .ref a0, l7, l8] S h = pX 315 206 [l0, l1, l2, l3, l4, l5, .ref a0, l7, l8] (.ref a0 :: S) h := pX_stp d315_204 rfl rfl rfl
theorem x315_206 {S : List Value} {h : HP} {l0 l1 l2 l3 l5 l6 l7 l8 : Value} {x0 : Int32} : pX 315 206 [l0, l1, l2, l3, .int x0, l5, l6, l7, l8] S h = pX 315 208 [l0, l1, l2, l3, .int x0, l5, l6, l7, l8] (.int x0 :: S) h := pX_stp d315_206 rfl rfl rfl
theorem x315_208 {L : List Value} {h : HP} {x0 : Int32} {a0 : Nat} (hk : hp_k h a0 = 9) : pX 315 208 L [.int x0, .ref a0] h = (pX 802 0 [.ref a0, .int x0] [] h).bind (fun q => pX 315 211 L (q.1.toList ++ []) q.2) := pX_inv (a := a0) (t := 9) 802 [.ref a0, .int x0] [] d315_208 rfl rfl rfl hk
theorem x315_211 {L S : List Value} {h : HP} : pX 315 211 L S h = pX 315 212 L (.int 0 :: S) h := pX_iconst d315_211 (by decide)
theorem x315_212 {L : List Value} {h : HP} {x : Int32} : pX 315 212 L [.int x] h = some (some (.int x), h) := pX_ret d315_212 rfl
theorem x315_213 {S : List Value} {h : HP} {l0 l1 l2 l3 l4 l5 l7 l8 : Value} {a0 : Nat} : pX 315 213 [l0, l1, l2, l3, l4, l5, .ref a0, l7, l8] S h = pX 315 215 [l0, l1, l2, l3, l4, l5, .ref a0, l7, l8] (.ref a0 :: S) h := pX_stp d315_213 rfl rfl rfl
theorem x315_215 {S : List Value} {h : HP} {l0 l1 l2 l3 l4 l5 l6 l8 : Value} {a0 : Nat} : pX 315 215 [l0, l1, l2, l3, l4, l5, l6, .ref a0, l8] S h = pX 315 217 [l0, l1, l2, l3, l4, l5, l6, .ref a0, l8] (.ref a0 :: S) h := pX_stp d315_215 rfl rfl rfl
theorem x315_217 {L : List Value} {h : HP} {a0 : Nat} {a1 : Nat} (hk : hp_k h a1 = 9) : pX 315 217 L [.ref a0, .ref a1] h = (pX 805 0 [.ref a1, .ref a0] [] h).bind (fun q => pX 315 220 L (q.1.toList ++ []) q.2) := pX_inv (a := a1) (t := 9) 805 [.ref a1, .ref a0] [] d315_217 rfl rfl rfl hk
theorem x315_220 {L S : List Value} {h : HP} : pX 315 220 L S h = pX 315 221 L (.int 0 :: S) h := pX_iconst d315_220 (by decide)
theorem x315_221 {L : List Value} {h : HP} {x : Int32} : pX 315 221 L [.int x] h = some (some (.int x), h) := pX_ret d315_221 rfl
theorem x315_222 {S : List Value} {h : HP} {l0 l1 l2 l3 l4 l5 l7 l8 : Value} {a0 : Nat} : pX 315 222 [l0, l1, l2, l3, l4, l5, .ref a0, l7, l8] S h = pX 315 224 [l0, l1, l2, l3, l4, l5, .ref a0, l7, l8] (.ref a0 :: S) h := pX_stp d315_222 rfl rfl rfl
theorem x315_224 {S : List Value} {h : HP} {l0 l1 l2 l3 l4 l5 l6 l8 : Value} {a0 : Nat} : pX 315 224 [l0, l1, l2, l3, l4, l5, l6, .ref a0, l8] S h = pX 315 226 [l0, l1, l2, l3, l4, l5, l6, .ref a0, l8] (.ref a0 :: S) h := pX_stp d315_224 rfl rfl rfl
theorem x315_226 {S : List Value} {h : HP} {l0 l1 l2 l3 l4 l5 l6 l7 : Value} {a0 : Nat} : pX 315 226 [l0, l1, l2, l3, l4, l5, l6, l7, .ref a0] S h = pX 315 228 [l0, l1, l2, l3, l4, l5, l6, l7, .ref a0] (.ref a0 :: S) h := pX_stp d315_226 rfl rfl rfl
theorem x315_228 {L : List Value} {h : HP} {a0 : Nat} {a1 : Nat} {a2 : Nat} (hk : hp_k h a1 = 9) : pX 315 228 L [.ref a0, .ref a1, .ref a2] h = (pX 808 0 [.ref a1, .ref a0] [] h).bind (fun q => pX 315 231 L (q.1.toList ++ [.ref a2]) q.2) := pX_inv (a := a1) (t := 9) 808 [.ref a1, .ref a0] [.ref a2] d315_228 rfl rfl rfl hk
theorem x315_231 {L S : List Value} {h : HP} {x : Int32} : pX 315 231 L (.int x :: S) h = if x = 0 then pX 315 238 L S h else pX 315 234 L S h := pX_if_eq d315_231 (by decide)
theorem x315_234 {L S : List Value} {h : HP} : pX 315 234 L S h = pX 315 235 L (.int 1 :: S) h := pX_iconst d315_234 (by decide)
theorem x315_235 {L S : List Value} {h : HP} : pX 315 235 L S h = pX 315 239 L S h := pX_goto d315_235 (by decide)
theorem x315_238 {L S : List Value} {h : HP} : pX 315 238 L S h = pX 315 239 L (.int 0 :: S) h := pX_iconst d315_238 (by decide)
theorem x315_239 {L : List Value} {h : HP} {x0 : Int32} {a0 : Nat} (hk : hp_k h a0 = 9) : pX 315 239 L [.int x0, .ref a0] h = (pX 802 0 [.ref a0, .int x0] [] h).bind (fun q => pX 315 242 L (q.1.toList ++ []) q.2) := pX_inv (a := a0) (t := 9) 802 [.ref a0, .int x0] [] d315_239 rfl rfl rfl hk
theorem x315_242 {L S : List Value} {h : HP} : pX 315 242 L S h = pX 315 243 L (.int 0 :: S) h := pX_iconst d315_242 (by decide)
theorem x315_243 {L : List Value} {h : HP} {x : Int32} : pX 315 243 L [.int x] h = some (some (.int x), h) := pX_ret d315_243 rfl
theorem x315_244 {S : List Value} {h : HP} {l1 l2 l3 l4 l5 l6 l7 l8 : Value} {a0 : Nat} : pX 315 244 [.ref a0, l1, l2, l3, l4, l5, l6, l7, l8] S h = pX 315 245 [.ref a0, l1, l2, l3, l4, l5, l6, l7, l8] (.ref a0 :: S) h := pX_stp d315_244 rfl rfl rfl
theorem x315_245 {S : List Value} {h : HP} {l0 l2 l3 l4 l5 l6 l7 l8 : Value} {a0 : Nat} : pX 315 245 [l0, .ref a0, l2, l3, l4, l5, l6, l7, l8] S h = pX 315 246 [l0, .ref a0, l2, l3, l4, l5, l6, l7, l8] (.ref a0 :: S) h := pX_stp d315_245 rfl rfl rfl
theorem x315_246 {S : List Value} {h : HP} {l0 l1 l3 l4 l5 l6 l7 l8 : Value} {a0 : Nat} : pX 315 246 [l0, l1, .ref a0, l3, l4, l5, l6, l7, l8] S h = pX 315 247 [l0, l1, .ref a0, l3, l4, l5, l6, l7, l8] (.ref a0 :: S) h := pX_stp d315_246 rfl rfl rfl
theorem x315_247 {L S : List Value} {h : HP} {a : Nat} (hk : hp_k h a = 5) : pX 315 247 L (.ref a :: S) h = pX 315 250 L (.ref (hp_a h a 4) :: S) h := pX_get d315_247 rfl rfl hk
theorem x315_250 {S : List Value} {h : HP} {l0 l2 l3 l4 l5 l6 l7 l8 : Value} {a0 : Nat} : pX 315 250 [l0, .ref a0, l2, l3, l4, l5, l6, l7, l8] S h = pX 315 251 [l0, .ref a0, l2, l3, l4, l5, l6, l7, l8] (.ref a0 :: S) h := pX_stp d315_250 rfl rfl rfl
theorem x315_251 {L S : List Value} {h : HP} {a : Nat} (hk : hp_k h a = 2) : pX 315 251 L (.ref a :: S) h = pX 315 254 L (.int (hp_i h a 4) :: S) h := pX_get d315_251 rfl rfl hk
theorem x315_254 {L S : List Value} {h : HP} {a : Nat} {j : Int32} (hk : hp_k h a = 100) (hj : inb j (hp_l h a) = true) : pX 315 254 L (.int j :: .ref a :: S) h = pX 315 255 L (.int (hp_i h a (ix j)) :: S) h := pX_ild d315_254 hk hj
theorem x315_255 {L : List Value} {h : HP} {x0 : Int32} {a0 : Nat} {a1 : Nat} (hk : hp_k h a1 = 4) : pX 315 255 L [.int x0, .ref a0, .ref a1] h = (pX 318 0 [.ref a1, .ref a0, .int x0] [] h).bind (fun q => pX 315 258 L (q.1.toList ++ []) q.2) := pX_inv (a := a1) (t := 4) 318 [.ref a1, .ref a0, .int x0] [] d315_255 rfl rfl rfl hk
theorem x315_258 {L : List Value} {h : HP} {x : Int32} : pX 315 258 L [.int x] h = some (some (.int x), h) := pX_ret d315_258 rfl
theorem x315_259 {S : List Value} {h : HP} {l1 l2 l3 l4 l5 l6 l7 l8 : Value} {a0 : Nat} : pX 315 259 [.ref a0, l1, l2, l3, l4, l5, l6, l7, l8] S h = pX 315 260 [.ref a0, l1, l2, l3, l4, l5, l6, l7, l8] (.ref a0 :: S) h := pX_stp d315_259 rfl rfl rfl
theorem x315_260 {S : List Value} {h : HP} {l0 l2 l3 l4 l5 l6 l7 l8 : Value} {a0 : Nat} : pX 315 260 [l0, .ref a0, l2, l3, l4, l5, l6, l7, l8] S h = pX 315 261 [l0, .ref a0, l2, l3, l4, l5, l6, l7, l8] (.ref a0 :: S) h := pX_stp d315_260 rfl rfl rfl
theorem x315_261 {S : List Value} {h : HP} {l0 l1 l2 l3 l4 l5 l7 l8 : Value} {a0 : Nat} : pX 315 261 [l0, l1, l2, l3, l4, l5, .ref a0, l7, l8] S h = pX 315 263 [l0, l1, l2, l3, l4, l5, .ref a0, l7, l8] (.ref a0 :: S) h := pX_stp d315_261 rfl rfl rfl
theorem x315_263 {S : List Value} {h : HP} {l0 l1 l2 l3 l5 l6 l7 l8 : Value} {x0 : Int32} : pX 315 263 [l0, l1, l2, l3, .int x0, l5, l6, l7, l8] S h = pX 315 265 [l0, l1, l2, l3, .int x0, l5, l6, l7, l8] (.int x0 :: S) h := pX_stp d315_263 rfl rfl rfl
theorem x315_265 {L : List Value} {h : HP} {x0 : Int32} {a0 : Nat} {a1 : Nat} {a2 : Nat} (hk : hp_k h a2 = 4) : pX 315 265 L [.int x0, .ref a0, .ref a1, .ref a2] h = (pX 319 0 [.ref a2, .ref a1, .ref a0, .int x0, .retAddr 0] [] h).bind (fun q => pX 315 268 L (q.1.toList ++ []) q.2) := pX_inv (a := a2) (t := 4) 319 [.ref a2, .ref a1, .ref a0, .int x0] [] d315_265 rfl rfl rfl hk
theorem x315_268 {L : List Value} {h : HP} {x : Int32} : pX 315 268 L [.int x] h = some (some (.int x), h) := pX_ret d315_268 rfl
theorem x315_269 {S : List Value} {h : HP} {l1 l2 l3 l4 l5 l6 l7 l8 : Value} {a0 : Nat} : pX 315 269 [.ref a0, l1, l2, l3, l4, l5, l6, l7, l8] S h = pX 315 270 [.ref a0, l1, l2, l3, l4, l5, l6, l7, l8] (.ref a0 :: S) h := pX_stp d315_269 rfl rfl rfl
theorem x315_270 {S : List Value} {h : HP} {l0 l1 l2 l3 l4 l5 l7 l8 : Value} {a0 : Nat} : pX 315 270 [l0, l1, l2, l3, l4, l5, .ref a0, l7, l8] S h = pX 315 272 [l0, l1, l2, l3, l4, l5, .ref a0, l7, l8] (.ref a0 :: S) h := pX_stp d315_270 rfl rfl rfl
theorem x315_272 {S : List Value} {h : HP} {l0 l1 l2 l3 l4 l5 l6 l8 : Value} {a0 : Nat} : pX 315 272 [l0, l1, l2, l3, l4, l5, l6, .ref a0, l8] S h = pX 315 274 [l0, l1, l2, l3, l4, l5, l6, .ref a0, l8] (.ref a0 :: S) h := pX_stp d315_272 rfl rfl rfl
theorem x315_274 {S : List Value} {h : HP} {l0 l1 l2 l3 l4 l6 l7 l8 : Value} {x0 : Int32} : pX 315 274 [l0, l1, l2, l3, l4, .int x0, l6, l7, l8] S h = pX 315 276 [l0, l1, l2, l3, l4, .int x0, l6, l7, l8] (.int x0 :: S) h := pX_stp d315_274 rfl rfl rfl
theorem x315_276 {L : List Value} {h : HP} {x0 : Int32} {a0 : Nat} {a1 : Nat} {a2 : Nat} (hk : hp_k h a2 = 4) : pX 315 276 L [.int x0, .ref a0, .ref a1, .ref a2] h = (pX 320 0 [.ref a2, .ref a1, .ref a0, .int x0, .retAddr 0, .retAddr 0] [] h).bind (fun q => pX 315 279 L (q.1.toList ++ []) q.2) := pX_inv (a := a2) (t := 4) 320 [.ref a2, .ref a1, .ref a0, .int x0] [] d315_276 rfl rfl rfl hk
theorem x315_279 {L : List Value} {h : HP} {x : Int32} : pX 315 279 L [.int x] h = some (some (.int x), h) := pX_ret d315_279 rfl
theorem x315_280 {S : List Value} {h : HP} {l1 l2 l3 l4 l5 l6 l7 l8 : Value} {a0 : Nat} : pX 315 280 [.ref a0, l1, l2, l3, l4, l5, l6, l7, l8] S h = pX 315 281 [.ref a0, l1, l2, l3, l4, l5, l6, l7, l8] (.ref a0 :: S) h := pX_stp d315_280 rfl rfl rfl
theorem x315_281 {S : List Value} {h : HP} {l0 l1 l2 l3 l4 l5 l7 l8 : Value} {a0 : Nat} : pX 315 281 [l0, l1, l2, l3, l4, l5, .ref a0, l7, l8] S h = pX 315 283 [l0, l1, l2, l3, l4, l5, .ref a0, l7, l8] (.ref a0 :: S) h := pX_stp d315_281 rfl rfl rfl
theorem x315_283 {S : List Value} {h : HP} {l0 l1 l2 l3 l5 l6 l7 l8 : Value} {x0 : Int32} : pX 315 283 [l0, l1, l2, l3, .int x0, l5, l6, l7, l8] S h = pX 315 285 [l0, l1, l2, l3, .int x0, l5, l6, l7, l8] (.int x0 :: S) h := pX_stp d315_283 rfl rfl rfl
theorem x315_285 {L : List Value} {h : HP} {x0 : Int32} {a0 : Nat} {a1 : Nat} (hk : hp_k h a1 = 4) : pX 315 285 L [.int x0, .ref a0, .ref a1] h = (pX 321 0 [.ref a1, .ref a0, .int x0] [] h).bind (fun q => pX 315 288 L (q.1.toList ++ []) q.2) := pX_inv (a := a1) (t := 4) 321 [.ref a1, .ref a0, .int x0] [] d315_285 rfl rfl rfl hk
theorem x315_288 {L : List Value} {h : HP} {x : Int32} : pX 315 288 L [.int x] h = some (some (.int x), h) := pX_ret d315_288 rfl
theorem x315_289 {S : List Value} {h : HP} {l0 l1 l2 l3 l4 l5 l7 l8 : Value} {a0 : Nat} : pX 315 289 [l0, l1, l2, l3, l4, l5, .ref a0, l7, l8] S h = pX 315 291 [l0, l1, l2, l3, l4, l5, .ref a0, l7, l8] (.ref a0 :: S) h := pX_stp d315_289 rfl rfl rfl
theorem x315_291 {S : List Value} {h : HP} {l0 l1 l2 l3 l4 l5 l6 l8 : Value} {a0 : Nat} : pX 315 291 [l0, l1, l2, l3, l4, l5, l6, .ref a0, l8] S h = pX 315 293 [l0, l1, l2, l3, l4, l5, l6, .ref a0, l8] (.ref a0 :: S) h := pX_stp d315_291 rfl rfl rfl
theorem x315_293 {S : List Value} {h : HP} {l0 l1 l2 l3 l4 l5 l6 l7 : Value} {a0 : Nat} : pX 315 293 [l0, l1, l2, l3, l4, l5, l6, l7, .ref a0] S h = pX 315 295 [l0, l1, l2, l3, l4, l5, l6, l7, .ref a0] (.ref a0 :: S) h := pX_stp d315_293 rfl rfl rfl
theorem x315_295 {L : List Value} {h : HP} {a0 : Nat} {a1 : Nat} {a2 : Nat} : pX 315 295 L [.ref a0, .ref a1, .ref a2] h = (pX 322 0 [.ref a2, .ref a1, .ref a0, .retAddr 0, .retAddr 0] [] h).bind (fun q => pX 315 298 L (q.1.toList ++ []) q.2) := pX_ins 322 [.ref a2, .ref a1, .ref a0] [] d315_295 rfl rfl rfl
theorem x315_298 {L : List Value} {h : HP} {x : Int32} : pX 315 298 L [.int x] h = some (some (.int x), h) := pX_ret d315_298 rfl
theorem x315_299 {S : List Value} {h : HP} {l0 l1 l2 l3 l4 l5 l7 l8 : Value} {a0 : Nat} : pX 315 299 [l0, l1, l2, l3, l4, l5, .ref a0, l7, l8] S h = pX 315 301 [l0, l1, l2, l3, l4, l5, .ref a0, l7, l8] (.ref a0 :: S) h := pX_stp d315_299 rfl rfl rfl
theorem x315_301 {S : List Value} {h : HP} {l0 l1 l2 l3 l4 l5 l6 l8 : Value} {a0 : Nat} : pX 315 301 [l0, l1, l2, l3, l4, l5, l6, .ref a0, l8] S h = pX 315 303 [l0, l1, l2, l3, l4, l5, l6, .ref a0, l8] (.ref a0 :: S) h := pX_stp d315_301 rfl rfl rfl
theorem x315_303 {S : List Value} {h : HP} {l0 l1 l2 l3 l4 l5 l6 l7 : Value} {a0 : Nat} : pX 315 303 [l0, l1, l2, l3, l4, l5, l6, l7, .ref a0] S h = pX 315 305 [l0, l1, l2, l3, l4, l5, l6, l7, .ref a0] (.ref a0 :: S) h := pX_stp d315_303 rfl rfl rfl
theorem x315_305 {L : List Value} {h : HP} {a0 : Nat} {a1 : Nat} {a2 : Nat} : pX 315 305 L [.ref a0, .ref a1, .ref a2] h = (pX 323 0 [.ref a2, .ref a1, .ref a0, .retAddr 0, .retAddr 0] [] h).bind (fun q => pX 315 308 L (q.1.toList ++ []) q.2) := pX_ins 323 [.ref a2, .ref a1, .ref a0] [] d315_305 rfl rfl rfl
theorem x315_308 {L : List Value} {h : HP} {x : Int32} : pX 315 308 L [.int x] h = some (some (.int x), h) := pX_ret d315_308 rfl
theorem x315_309 {S : List Value} {h : HP} {l0 l1 l2 l3 l4 l5 l7 l8 : Value} {a0 : Nat} : pX 315 309 [l0, l1, l2, l3, l4, l5, .ref a0, l7, l8] S h = pX 315 311 [l0, l1, l2, l3, l4, l5, .ref a0, l7, l8] (.ref a0 :: S) h := pX_stp d315_309 rfl rfl rfl
theorem x315_311 {S : List Value} {h : HP} {l0 l1 l2 l3 l4 l5 l6 l8 : Value} {a0 : Nat} : pX 315 311 [l0, l1, l2, l3, l4, l5, l6, .ref a0, l8] S h = pX 315 313 [l0, l1, l2, l3, l4, l5, l6, .ref a0, l8] (.ref a0 :: S) h := pX_stp d315_311 rfl rfl rfl
theorem x315_313 {L : List Value} {h : HP} {a0 : Nat} {a1 : Nat} : pX 315 313 L [.ref a0, .ref a1] h = (pX 324 0 [.ref a1, .ref a0, .retAddr 0] [] h).bind (fun q => pX 315 316 L (q.1.toList ++ []) q.2) := pX_ins 324 [.ref a1, .ref a0] [] d315_313 rfl rfl rfl
theorem x315_316 {L : List Value} {h : HP} {x : Int32} : pX 315 316 L [.int x] h = some (some (.int x), h) := pX_ret d315_316 rfl
theorem x315_317 {S : List Value} {h : HP} {l0 l1 l2 l3 l4 l5 l7 l8 : Value} {a0 : Nat} : pX 315 317 [l0, l1, l2, l3, l4, l5, .ref a0, l7, l8] S h = pX 315 319 [l0, l1, l2, l3, l4, l5, .ref a0, l7, l8] (.ref a0 :: S) h := pX_stp d315_317 rfl rfl rfl
theorem x315_319 {S : List Value} {h : HP} {l0 l1 l2 l3 l4 l5 l6 l8 : Value} {a0 : Nat} : pX 315 319 [l0, l1, l2, l3, l4, l5, l6, .ref a0, l8] S h = pX 315 321 [l0, l1, l2, l3, l4, l5, l6, .ref a0, l8] (.ref a0 :: S) h := pX_stp d315_319 rfl rfl rfl
theorem x315_321 {S : List Value} {h : HP} {l0 l1 l2 l3 l4 l6 l7 l8 : Value} {x0 : Int32} : pX 315 321 [l0, l1, l2, l3, l4, .int x0, l6, l7, l8] S h = pX 315 323 [l0, l1, l2, l3, l4, .int x0, l6, l7, l8] (.int x0 :: S) h := pX_stp d315_321 rfl rfl rfl
theorem x315_323 {L : List Value} {h : HP} {x0 : Int32} {a0 : Nat} {a1 : Nat} : pX 315 323 L [.int x0, .ref a0, .ref a1] h = (pX 325 0 [.ref a1, .ref a0, .int x0, .retAddr 0] [] h).bind (fun q => pX 315 326 L (q.1.toList ++ []) q.2) := pX_ins 325 [.ref a1, .ref a0, .int x0] [] d315_323 rfl rfl rfl
theorem x315_326 {L : List Value} {h : HP} {x : Int32} : pX 315 326 L [.int x] h = some (some (.int x), h) := pX_ret d315_326 rfl
theorem x315_327 {S : List Value} {h : HP} {l0 l1 l2 l3 l4 l5 l7 l8 : Value} {a0 : Nat} : pX 315 327 [l0, l1, l2, l3, l4, l5, .ref a0, l7, l8] S h = pX 315 329 [l0, l1, l2, l3, l4, l5, .ref a0, l7, l8] (.ref a0 :: S) h := pX_stp d315_327 rfl rfl rfl
theorem x315_329 {S : List Value} {h : HP} {l0 l1 l2 l3 l5 l6 l7 l8 : Value} {x0 : Int32} : pX 315 329 [l0, l1, l2, l3, .int x0, l5, l6, l7, l8] S h = pX 315 331 [l0, l1, l2, l3, .int x0, l5, l6, l7, l8] (.int x0 :: S) h := pX_stp d315_329 rfl rfl rfl
theorem x315_331 {S : List Value} {h : HP} {l0 l1 l2 l3 l4 l5 l6 l7 : Value} {a0 : Nat} : pX 315 331 [l0, l1, l2, l3, l4, l5, l6, l7, .ref a0] S h = pX 315 333 [l0, l1, l2, l3, l4, l5, l6, l7, .ref a0] (.ref a0 :: S) h := pX_stp d315_331 rfl rfl rfl
theorem x315_333 {L : List Value} {h : HP} {a0 : Nat} {x0 : Int32} {a1 : Nat} : pX 315 333 L [.ref a0, .int x0, .ref a1] h = (pX 326 0 [.ref a1, .int x0, .ref a0, .retAddr 0, .retAddr 0] [] h).bind (fun q => pX 315 336 L (q.1.toList ++ []) q.2) := pX_ins 326 [.ref a1, .int x0, .ref a0] [] d315_333 rfl rfl rfl
theorem x315_336 {L : List Value} {h : HP} {x : Int32} : pX 315 336 L [.int x] h = some (some (.int x), h) := pX_ret d315_336 rfl
theorem x315_337 {S : List Value} {h : HP} {l0 l1 l2 l3 l4 l5 l7 l8 : Value} {a0 : Nat} : pX 315 337 [l0, l1, l2, l3, l4, l5, .ref a0, l7, l8] S h = pX 315 339 [l0, l1, l2, l3, l4, l5, .ref a0, l7, l8] (.ref a0 :: S) h := pX_stp d315_337 rfl rfl rfl
theorem x315_339 {S : List Value} {h : HP} {l0 l1 l2 l3 l4 l5 l6 l8 : Value} {a0 : Nat} : pX 315 339 [l0, l1, l2, l3, l4, l5, l6, .ref a0, l8] S h = pX 315 341 [l0, l1, l2, l3, l4, l5, l6, .ref a0, l8] (.ref a0 :: S) h := pX_stp d315_339 rfl rfl rfl
theorem x315_341 {S : List Value} {h : HP} {l0 l1 l2 l3 l4 l6 l7 l8 : Value} {x0 : Int32} : pX 315 341 [l0, l1, l2, l3, l4, .int x0, l6, l7, l8] S h = pX 315 343 [l0, l1, l2, l3, l4, .int x0, l6, l7, l8] (.int x0 :: S) h := pX_stp d315_341 rfl rfl rfl
theorem x315_343 {L : List Value} {h : HP} {x0 : Int32} {a0 : Nat} {a1 : Nat} (hk : hp_k h a0 = 9) : pX 315 343 L [.int x0, .ref a0, .ref a1] h = (pX 807 0 [.ref a0, .int x0] [] h).bind (fun q => pX 315 346 L (q.1.toList ++ [.ref a1]) q.2) := pX_inv (a := a0) (t := 9) 807 [.ref a0, .int x0] [.ref a1] d315_343 rfl rfl rfl hk
theorem x315_346 {L S : List Value} {h : HP} {x : Int32} : pX 315 346 L (.int x :: S) h = if x = 0 then pX 315 353 L S h else pX 315 349 L S h := pX_if_eq d315_346 (by decide)
theorem x315_349 {L S : List Value} {h : HP} : pX 315 349 L S h = pX 315 350 L (.int 1 :: S) h := pX_iconst d315_349 (by decide)
theorem x315_350 {L S : List Value} {h : HP} : pX 315 350 L S h = pX 315 354 L S h := pX_goto d315_350 (by decide)
theorem x315_353 {L S : List Value} {h : HP} : pX 315 353 L S h = pX 315 354 L (.int 0 :: S) h := pX_iconst d315_353 (by decide)
theorem x315_354 {L : List Value} {h : HP} {x0 : Int32} {a0 : Nat} (hk : hp_k h a0 = 9) : pX 315 354 L [.int x0, .ref a0] h = (pX 802 0 [.ref a0, .int x0] [] h).bind (fun q => pX 315 357 L (q.1.toList ++ []) q.2) := pX_inv (a := a0) (t := 9) 802 [.ref a0, .int x0] [] d315_354 rfl rfl rfl hk
theorem x315_357 {L S : List Value} {h : HP} : pX 315 357 L S h = pX 315 358 L (.int 0 :: S) h := pX_iconst d315_357 (by decide)
theorem x315_358 {L : List Value} {h : HP} {x : Int32} : pX 315 358 L [.int x] h = some (some (.int x), h) := pX_ret d315_358 rfl
theorem x315_359 {S : List Value} {h : HP} {l0 l1 l2 l3 l4 l5 l7 l8 : Value} {a0 : Nat} : pX 315 359 [l0, l1, l2, l3, l4, l5, .ref a0, l7, l8] S h = pX 315 361 [l0, l1, l2, l3, l4, l5, .ref a0, l7, l8] (.ref a0 :: S) h := pX_stp d315_359 rfl rfl rfl
theorem x315_361 {L : List Value} {h : HP} {a0 : Nat} (hk : hp_k h a0 = 9) : pX 315 361 L [.ref a0] h = (pX 806 0 [.ref a0] [] h).bind (fun q => pX 315 364 L (q.1.toList ++ []) q.2) := pX_inv (a := a0) (t := 9) 806 [.ref a0] [] d315_361 rfl rfl rfl hk
theorem x315_364 {L S : List Value} {h : HP} {x : Int32} : pX 315 364 L (.int x :: S) h = if x = 0 then pX 315 367 L S h else pX 315 377 L S h := pX_if_ne d315_364 (by decide)
theorem x315_367 {S : List Value} {h : HP} {l0 l1 l2 l3 l4 l5 l7 l8 : Value} {a0 : Nat} : pX 315 367 [l0, l1, l2, l3, l4, l5, .ref a0, l7, l8] S h = pX 315 369 [l0, l1, l2, l3, l4, l5, .ref a0, l7, l8] (.ref a0 :: S) h := pX_stp d315_367 rfl rfl rfl
theorem x315_369 {S : List Value} {h : HP} {l0 l1 l2 l3 l5 l6 l7 l8 : Value} {x0 : Int32} : pX 315 369 [l0, l1, l2, l3, .int x0, l5, l6, l7, l8] S h = pX 315 371 [l0, l1, l2, l3, .int x0, l5, l6, l7, l8] (.int x0 :: S) h := pX_stp d315_369 rfl rfl rfl
theorem x315_371 {L : List Value} {h : HP} {x0 : Int32} {a0 : Nat} (hk : hp_k h a0 = 9) : pX 315 371 L [.int x0, .ref a0] h = (pX 807 0 [.ref a0, .int x0] [] h).bind (fun q => pX 315 374 L (q.1.toList ++ []) q.2) := pX_inv (a := a0) (t := 9) 807 [.ref a0, .int x0] [] d315_371 rfl rfl rfl hk
theorem x315_374 {L S : List Value} {h : HP} {x : Int32} : pX 315 374 L (.int x :: S) h = if x = 0 then pX 315 381 L S h else pX 315 377 L S h := pX_if_eq d315_374 (by decide)
theorem x315_377 {L S : List Value} {h : HP} : pX 315 377 L S h = pX 315 378 L (.int 0 :: S) h := pX_iconst d315_377 (by decide)
theorem x315_378 {L S : List Value} {h : HP} : pX 315 378 L S h = pX 315 382 L S h := pX_goto d315_378 (by decide)
theorem x315_381 {L S : List Value} {h : HP} : pX 315 381 L S h = pX 315 382 L (.int 3 :: S) h := pX_iconst d315_381 (by decide)
theorem x315_382 {L : List Value} {h : HP} {x : Int32} : pX 315 382 L [.int x] h = some (some (.int x), h) := pX_ret d315_382 rfl
theorem x315_383 {S : List Value} {h : HP} {l1 l2 l3 l4 l5 l6 l7 l8 : Value} {a0 : Nat} : pX 315 383 [.ref a0, l1, l2, l3, l4, l5, l6, l7, l8] S h = pX 315 384 [.ref a0, l1, l2, l3, l4, l5, l6, l7, l8] (.ref a0 :: S) h := pX_stp d315_383 rfl rfl rfl
theorem x315_384 {S : List Value} {h : HP} {l0 l2 l3 l4 l5 l6 l7 l8 : Value} {a0 : Nat} : pX 315 384 [l0, .ref a0, l2, l3, l4, l5, l6, l7, l8] S h = pX 315 385 [l0, .ref a0, l2, l3, l4, l5, l6, l7, l8] (.ref a0 :: S) h := pX_stp d315_384 rfl rfl rfl
theorem x315_385 {S : List Value} {h : HP} {l0 l1 l2 l3 l4 l5 l7 l8 : Value} {a0 : Nat} : pX 315 385 [l0, l1, l2, l3, l4, l5, .ref a0, l7, l8] S h = pX 315 387 [l0, l1, l2, l3, l4, l5, .ref a0, l7, l8] (.ref a0 :: S) h := pX_stp d315_385 rfl rfl rfl
theorem x315_387 {L : List Value} {h : HP} {a0 : Nat} {a1 : Nat} {a2 : Nat} (hk : hp_k h a2 = 4) : pX 315 387 L [.ref a0, .ref a1, .ref a2] h = (pX 327 0 [.ref a2, .ref a1, .ref a0, .retAddr 0] [] h).bind (fun q => pX 315 390 L (q.1.toList ++ []) q.2) := pX_inv (a := a2) (t := 4) 327 [.ref a2, .ref a1, .ref a0] [] d315_387 rfl rfl rfl hk
theorem x315_390 {L : List Value} {h : HP} {x : Int32} : pX 315 390 L [.int x] h = some (some (.int x), h) := pX_ret d315_390 rfl
theorem x315_391 {S : List Value} {h : HP} {l1 l2 l3 l4 l5 l6 l7 l8 : Value} {a0 : Nat} : pX 315 391 [.ref a0, l1, l2, l3, l4, l5, l6, l7, l8] S h = pX 315 392 [.ref a0, l1, l2, l3, l4, l5, l6, l7, l8] (.ref a0 :: S) h := pX_stp d315_391 rfl rfl rfl
theorem x315_392 {S : List Value} {h : HP} {l0 l2 l3 l4 l5 l6 l7 l8 : Value} {a0 : Nat} : pX 315 392 [l0, .ref a0, l2, l3, l4, l5, l6, l7, l8] S h = pX 315 393 [l0, .ref a0, l2, l3, l4, l5, l6, l7, l8] (.ref a0 :: S) h := pX_stp d315_392 rfl rfl rfl
theorem x315_393 {S : List Value} {h : HP} {l0 l1 l2 l3 l4 l5 l7 l8 : Value} {a0 : Nat} : pX 315 393 [l0, l1, l2, l3, l4, l5, .ref a0, l7, l8] S h = pX 315 395 [l0, l1, l2, l3, l4, l5, .ref a0, l7, l8] (.ref a0 :: S) h := pX_stp d315_393 rfl rfl rfl
theorem x315_395 {L : List Value} {h : HP} {a0 : Nat} {a1 : Nat} {a2 : Nat} (hk : hp_k h a2 = 4) : pX 315 395 L [.ref a0, .ref a1, .ref a2] h = (pX 328 0 [.ref a2, .ref a1, .ref a0, .retAddr 0] [] h).bind (fun q => pX 315 398 L (q.1.toList ++ []) q.2) := pX_inv (a := a2) (t := 4) 328 [.ref a2, .ref a1, .ref a0] [] d315_395 rfl rfl rfl hk
theorem x315_398 {L : List Value} {h : HP} {x : Int32} : pX 315 398 L [.int x] h = some (some (.int x), h) := pX_ret d315_398 rfl
theorem x315_399 {S : List Value} {h : HP} {l1 l2 l3 l4 l5 l6 l7 l8 : Value} {a0 : Nat} : pX 315 399 [.ref a0, l1, l2, l3, l4, l5, l6, l7, l8] S h = pX 315 400 [.ref a0, l1, l2, l3, l4, l5, l6, l7, l8] (.ref a0 :: S) h := pX_stp d315_399 rfl rfl rfl
theorem x315_400 {S : List Value} {h : HP} {l0 l1 l2 l3 l4 l5 l7 l8 : Value} {a0 : Nat} : pX 315 400 [l0, l1, l2, l3, l4, l5, .ref a0, l7, l8] S h = pX 315 402 [l0, l1, l2, l3, l4, l5, .ref a0, l7, l8] (.ref a0 :: S) h := pX_stp d315_400 rfl rfl rfl
theorem x315_402 {L : List Value} {h : HP} {a0 : Nat} {a1 : Nat} (hk : hp_k h a1 = 4) : pX 315 402 L [.ref a0, .ref a1] h = (pX 329 0 [.ref a1, .ref a0, .retAddr 0] [] h).bind (fun q => pX 315 405 L (q.1.toList ++ []) q.2) := pX_inv (a := a1) (t := 4) 329 [.ref a1, .ref a0] [] d315_402 rfl rfl rfl hk
theorem x315_405 {L : List Value} {h : HP} {x : Int32} : pX 315 405 L [.int x] h = some (some (.int x), h) := pX_ret d315_405 rfl
theorem x315_406 {S : List Value} {h : HP} {l1 l2 l3 l4 l5 l6 l7 l8 : Value} {a0 : Nat} : pX 315 406 [.ref a0, l1, l2, l3, l4, l5, l6, l7, l8] S h = pX 315 407 [.ref a0, l1, l2, l3, l4, l5, l6, l7, l8] (.ref a0 :: S) h := pX_stp d315_406 rfl rfl rfl
theorem x315_407 {S : List Value} {h : HP} {l0 l2 l3 l4 l5 l6 l7 l8 : Value} {a0 : Nat} : pX 315 407 [l0, .ref a0, l2, l3, l4, l5, l6, l7, l8] S h = pX 315 408 [l0, .ref a0, l2, l3, l4, l5, l6, l7, l8] (.ref a0 :: S) h := pX_stp d315_407 rfl rfl rfl
theorem x315_408 {S : List Value} {h : HP} {l0 l1 l2 l3 l5 l6 l7 l8 : Value} {x0 : Int32} : pX 315 408 [l0, l1, l2, l3, .int x0, l5, l6, l7, l8] S h = pX 315 410 [l0, l1, l2, l3, .int x0, l5, l6, l7, l8] (.int x0 :: S) h := pX_stp d315_408 rfl rfl rfl
theorem x315_410 {S : List Value} {h : HP} {l0 l1 l2 l3 l4 l6 l7 l8 : Value} {x0 : Int32} : pX 315 410 [l0, l1, l2, l3, l4, .int x0, l6, l7, l8] S h = pX 315 412 [l0, l1, l2, l3, l4, .int x0, l6, l7, l8] (.int x0 :: S) h := pX_stp d315_410 rfl rfl rfl
theorem x315_412 {L : List Value} {h : HP} {x0 : Int32} {x1 : Int32} {a0 : Nat} {a1 : Nat} (hk : hp_k h a1 = 4) : pX 315 412 L [.int x0, .int x1, .ref a0, .ref a1] h = (pX 330 0 [.ref a1, .ref a0, .int x1, .int x0] [] h).bind (fun q => pX 315 415 L (q.1.toList ++ []) q.2) := pX_inv (a := a1) (t := 4) 330 [.ref a1, .ref a0, .int x1, .int x0] [] d315_412 rfl rfl rfl hk
theorem x315_415 {L : List Value} {h : HP} {x : Int32} : pX 315 415 L [.int x] h = some (some (.int x), h) := pX_ret d315_415 rfl
theorem x315_416 {S : List Value} {h : HP} {l0 l2 l3 l4 l5 l6 l7 l8 : Value} {a0 : Nat} : pX 315 416 [l0, .ref a0, l2, l3, l4, l5, l6, l7, l8] S h = pX 315 417 [l0, .ref a0, l2, l3, l4, l5, l6, l7, l8] (.ref a0 :: S) h := pX_stp d315_416 rfl rfl rfl
theorem x315_417 {S : List Value} {h : HP} {l0 l1 l2 l3 l4 l5 l7 l8 : Value} {a0 : Nat} : pX 315 417 [l0, l1, l2, l3, l4, l5, .ref a0, l7, l8] S h = pX 315 419 [l0, l1, l2, l3, l4, l5, .ref a0, l7, l8] (.ref a0 :: S) h := pX_stp d315_417 rfl rfl rfl
theorem x315_419 {L : List Value} {h : HP} {a0 : Nat} {a1 : Nat} (hk : hp_k h a1 = 2) : pX 315 419 L [.ref a0, .ref a1] h = (pX 104 0 [.ref a1, .ref a0] [] h).bind (fun q => pX 315 422 L (q.1.toList ++ []) q.2) := pX_inv (a := a1) (t := 2) 104 [.ref a1, .ref a0] [] d315_419 rfl rfl rfl hk
theorem x315_422 {L S : List Value} {h : HP} : pX 315 422 L S h = pX 315 423 L (.int (-1) :: S) h := pX_iconst d315_422 (by decide)
theorem x315_423 {L : List Value} {h : HP} {x : Int32} : pX 315 423 L [.int x] h = some (some (.int x), h) := pX_ret d315_423 rfl
theorem x315_424 {S : List Value} {h : HP} {l1 l2 l3 l4 l5 l6 l7 l8 : Value} {a0 : Nat} : pX 315 424 [.ref a0, l1, l2, l3, l4, l5, l6, l7, l8] S h = pX 315 425 [.ref a0, l1, l2, l3, l4, l5, l6, l7, l8] (.ref a0 :: S) h := pX_stp d315_424 rfl rfl rfl
theorem x315_425 {S : List Value} {h : HP} {l0 l1 l2 l3 l4 l5 l7 l8 : Value} {a0 : Nat} : pX 315 425 [l0, l1, l2, l3, l4, l5, .ref a0, l7, l8] S h = pX 315 427 [l0, l1, l2, l3, l4, l5, .ref a0, l7, l8] (.ref a0 :: S) h := pX_stp d315_425 rfl rfl rfl
theorem x315_427 {S : List Value} {h : HP} {l0 l1 l2 l3 l4 l5 l6 l8 : Value} {a0 : Nat} : pX 315 427 [l0, l1, l2, l3, l4, l5, l6, .ref a0, l8] S h = pX 315 429 [l0, l1, l2, l3, l4, l5, l6, .ref a0, l8] (.ref a0 :: S) h := pX_stp d315_427 rfl rfl rfl
theorem x315_429 {L : List Value} {h : HP} {a0 : Nat} {a1 : Nat} {a2 : Nat} (hk : hp_k h a2 = 4) : pX 315 429 L [.ref a0, .ref a1, .ref a2] h = (pX 331 0 [.ref a2, .ref a1, .ref a0, .retAddr 0] [] h).bind (fun q => pX 315 432 L (q.1.toList ++ []) q.2) := pX_inv (a := a2) (t := 4) 331 [.ref a2, .ref a1, .ref a0] [] d315_429 rfl rfl rfl hk
theorem x315_432 {L : List Value} {h : HP} {x : Int32} : pX 315 432 L [.int x] h = some (some (.int x), h) := pX_ret d315_432 rfl
theorem x315_433 {S : List Value} {h : HP} {l1 l2 l3 l4 l5 l6 l7 l8 : Value} {a0 : Nat} : pX 315 433 [.ref a0, l1, l2, l3, l4, l5, l6, l7, l8] S h = pX 315 434 [.ref a0, l1, l2, l3, l4, l5, l6, l7, l8] (.ref a0 :: S) h := pX_stp d315_433 rfl rfl rfl
theorem x315_434 {S : List Value} {h : HP} {l0 l1 l2 l3 l4 l5 l7 l8 : Value} {a0 : Nat} : pX 315 434 [l0, l1, l2, l3, l4, l5, .ref a0, l7, l8] S h = pX 315 436 [l0, l1, l2, l3, l4, l5, .ref a0, l7, l8] (.ref a0 :: S) h := pX_stp d315_434 rfl rfl rfl
theorem x315_436 {S : List Value} {h : HP} {l0 l1 l2 l3 l4 l5 l6 l8 : Value} {a0 : Nat} : pX 315 436 [l0, l1, l2, l3, l4, l5, l6, .ref a0, l8] S h = pX 315 438 [l0, l1, l2, l3, l4, l5, l6, .ref a0, l8] (.ref a0 :: S) h := pX_stp d315_436 rfl rfl rfl
theorem x315_438 {L : List Value} {h : HP} {a0 : Nat} {a1 : Nat} {a2 : Nat} (hk : hp_k h a2 = 4) : pX 315 438 L [.ref a0, .ref a1, .ref a2] h = (pX 332 0 [.ref a2, .ref a1, .ref a0, .retAddr 0] [] h).bind (fun q => pX 315 441 L (q.1.toList ++ []) q.2) := pX_inv (a := a2) (t := 4) 332 [.ref a2, .ref a1, .ref a0] [] d315_438 rfl rfl rfl hk
theorem x315_441 {L : List Value} {h : HP} {x : Int32} : pX 315 441 L [.int x] h = some (some (.int x), h) := pX_ret d315_441 rfl
theorem x315_442 {S : List Value} {h : HP} {l1 l2 l3 l4 l5 l6 l7 l8 : Value} {a0 : Nat} : pX 315 442 [.ref a0, l1, l2, l3, l4, l5, l6, l7, l8] S h = pX 315 443 [.ref a0, l1, l2, l3, l4, l5, l6, l7, l8] (.ref a0 :: S) h := pX_stp d315_442 rfl rfl rfl
theorem x315_443 {S : List Value} {h : HP} {l0 l1 l2 l3 l4 l5 l7 l8 : Value} {a0 : Nat} : pX 315 443 [l0, l1, l2, l3, l4, l5, .ref a0, l7, l8] S h = pX 315 445 [l0, l1, l2, l3, l4, l5, .ref a0, l7, l8] (.ref a0 :: S) h := pX_stp d315_443 rfl rfl rfl
theorem x315_445 {S : List Value} {h : HP} {l0 l1 l2 l3 l4 l5 l6 l8 : Value} {a0 : Nat} : pX 315 445 [l0, l1, l2, l3, l4, l5, l6, .ref a0, l8] S h = pX 315 447 [l0, l1, l2, l3, l4, l5, l6, .ref a0, l8] (.ref a0 :: S) h := pX_stp d315_445 rfl rfl rfl
theorem x315_447 {L : List Value} {h : HP} {a0 : Nat} {a1 : Nat} {a2 : Nat} (hk : hp_k h a2 = 4) : pX 315 447 L [.ref a0, .ref a1, .ref a2] h = (pX 333 0 [.ref a2, .ref a1, .ref a0, .retAddr 0, .retAddr 0, .retAddr 0] [] h).bind (fun q => pX 315 450 L (q.1.toList ++ []) q.2) := pX_inv (a := a2) (t := 4) 333 [.ref a2, .ref a1, .ref a0] [] d315_447 rfl rfl rfl hk
theorem x315_450 {L : List Value} {h : HP} {x : Int32} : pX 315 450 L [.int x] h = some (some (.int x), h) := pX_ret d315_450 rfl
theorem x315_451 {S : List Value} {h : HP} {l0 l1 l2 l4 l5 l6 l7 l8 : Value} {x0 : Int32} : pX 315 451 [l0, l1, l2, .int x0, l4, l5, l6, l7, l8] S h = pX 315 452 [l0, l1, l2, .int x0, l4, l5, l6, l7, l8] (.int x0 :: S) h := pX_stp d315_451 rfl rfl rfl
theorem x315_452 {S : List Value} {h : HP} {l0 l1 l2 l3 l4 l5 l7 l8 : Value} {a0 : Nat} : pX 315 452 [l0, l1, l2, l3, l4, l5, .ref a0, l7, l8] S h = pX 315 454 [l0, l1, l2, l3, l4, l5, .ref a0, l7, l8] (.ref a0 :: S) h := pX_stp d315_452 rfl rfl rfl
theorem x315_454 {S : List Value} {h : HP} {l0 l1 l2 l3 l4 l5 l6 l8 : Value} {a0 : Nat} : pX 315 454 [l0, l1, l2, l3, l4, l5, l6, .ref a0, l8] S h = pX 315 456 [l0, l1, l2, l3, l4, l5, l6, .ref a0, l8] (.ref a0 :: S) h := pX_stp d315_454 rfl rfl rfl
theorem x315_456 {S : List Value} {h : HP} {l0 l1 l2 l3 l4 l5 l6 l7 : Value} {a0 : Nat} : pX 315 456 [l0, l1, l2, l3, l4, l5, l6, l7, .ref a0] S h = pX 315 458 [l0, l1, l2, l3, l4, l5, l6, l7, .ref a0] (.ref a0 :: S) h := pX_stp d315_456 rfl rfl rfl
theorem x315_458 {L : List Value} {h : HP} {a0 : Nat} {a1 : Nat} {a2 : Nat} {x0 : Int32} : pX 315 458 L [.ref a0, .ref a1, .ref a2, .int x0] h = (pX 317 0 [.int x0, .ref a2, .ref a1, .ref a0, .retAddr 0, .retAddr 0, .retAddr 0] [] h).bind (fun q => pX 315 461 L (q.1.toList ++ []) q.2) := pX_ins 317 [.int x0, .ref a2, .ref a1, .ref a0] [] d315_458 rfl rfl rfl
theorem x315_461 {L : List Value} {h : HP} {x : Int32} : pX 315 461 L [.int x] h = some (some (.int x), h) := pX_ret d315_461 rfl
theorem d316_0 : decode (mb 316) 0 = .ok (.aload_n 0, 1) := by decide +kernel
theorem d316_1 : decode (mb 316) 1 = .ok (.invokevirtual 283, 3) := by decide +kernel
theorem d316_4 : decode (mb 316) 4 = .ok (.istore_n 2, 1) := by decide +kernel
theorem d316_5 : decode (mb 316) 5 = .ok (.iload_n 2, 1) := by decide +kernel
theorem d316_6 : decode (mb 316) 6 = .ok (.ifCond .eq 7, 3) := by decide +kernel
theorem d316_9 : decode (mb 316) 9 = .ok (.iload_n 2, 1) := by decide +kernel
theorem d316_10 : decode (mb 316) 10 = .ok (.goto 7, 3) := by decide +kernel
theorem d316_13 : decode (mb 316) 13 = .ok (.aload_n 1, 1) := by decide +kernel
theorem d316_14 : decode (mb 316) 14 = .ok (.invokevirtual 283, 3) := by decide +kernel
theorem d316_17 : decode (mb 316) 17 = .ok (.ireturn, 1) := by decide +kernel
theorem x316_0 {S : List Value} {h : HP} {l1 l2 : Value} {a0 : Nat} : pX 316 0 [.ref a0, l1, l2] S h = pX 316 1 [.ref a0, l1, l2] (.ref a0 :: S) h := pX_stp d316_0 rfl rfl rfl
theorem x316_1 {L : List Value} {h : HP} {a0 : Nat} (hk : hp_k h a0 = 9) : pX 316 1 L [.ref a0] h = (pX 811 0 [.ref a0] [] h).bind (fun q => pX 316 4 L (q.1.toList ++ []) q.2) := pX_inv (a := a0) (t := 9) 811 [.ref a0] [] d316_1 rfl rfl rfl hk
theorem x316_4 {S : List Value} {h : HP} {l0 l1 l2 : Value} {x0 : Int32} : pX 316 4 [l0, l1, l2] (.int x0 :: S) h = pX 316 5 [l0, l1, .int x0] S h := pX_stp d316_4 rfl rfl rfl
theorem x316_5 {S : List Value} {h : HP} {l0 l1 : Value} {x0 : Int32} : pX 316 5 [l0, l1, .int x0] S h = pX 316 6 [l0, l1, .int x0] (.int x0 :: S) h := pX_stp d316_5 rfl rfl rfl
theorem x316_6 {L S : List Value} {h : HP} {x : Int32} : pX 316 6 L (.int x :: S) h = if x = 0 then pX 316 13 L S h else pX 316 9 L S h := pX_if_eq d316_6 (by decide)
theorem x316_9 {S : List Value} {h : HP} {l0 l1 : Value} {x0 : Int32} : pX 316 9 [l0, l1, .int x0] S h = pX 316 10 [l0, l1, .int x0] (.int x0 :: S) h := pX_stp d316_9 rfl rfl rfl
theorem x316_10 {L S : List Value} {h : HP} : pX 316 10 L S h = pX 316 17 L S h := pX_goto d316_10 (by decide)
theorem x316_13 {S : List Value} {h : HP} {l0 l2 : Value} {a0 : Nat} : pX 316 13 [l0, .ref a0, l2] S h = pX 316 14 [l0, .ref a0, l2] (.ref a0 :: S) h := pX_stp d316_13 rfl rfl rfl
theorem x316_14 {L : List Value} {h : HP} {a0 : Nat} (hk : hp_k h a0 = 9) : pX 316 14 L [.ref a0] h = (pX 811 0 [.ref a0] [] h).bind (fun q => pX 316 17 L (q.1.toList ++ []) q.2) := pX_inv (a := a0) (t := 9) 811 [.ref a0] [] d316_14 rfl rfl rfl hk
theorem x316_17 {L : List Value} {h : HP} {x : Int32} : pX 316 17 L [.int x] h = some (some (.int x), h) := pX_ret d316_17 rfl
theorem d317_0 : decode (mb 317) 0 = .ok (.aload_n 2, 1) := by decide +kernel
theorem d317_1 : decode (mb 317) 1 = .ok (.aload_n 3, 1) := by decide +kernel
theorem d317_2 : decode (mb 317) 2 = .ok (.invokestatic 286, 3) := by decide +kernel
theorem d317_5 : decode (mb 317) 5 = .ok (.istore 4, 2) := by decide +kernel
theorem d317_7 : decode (mb 317) 7 = .ok (.iload 4, 2) := by decide +kernel
theorem d317_9 : decode (mb 317) 9 = .ok (.ifCond .eq 6, 3) := by decide +kernel
theorem d317_12 : decode (mb 317) 12 = .ok (.iload 4, 2) := by decide +kernel
theorem d317_14 : decode (mb 317) 14 = .ok (.ireturn, 1) := by decide +kernel
theorem d317_15 : decode (mb 317) 15 = .ok (.aload_n 2, 1) := by decide +kernel
theorem d317_16 : decode (mb 317) 16 = .ok (.getfield 289, 3) := by decide +kernel
theorem d317_19 : decode (mb 317) 19 = .ok (.istore 5, 2) := by decide +kernel
theorem d317_21 : decode (mb 317) 21 = .ok (.aload_n 3, 1) := by decide +kernel
theorem d317_22 : decode (mb 317) 22 = .ok (.getfield 289, 3) := by decide +kernel
theorem d317_25 : decode (mb 317) 25 = .ok (.istore 6, 2) := by decide +kernel
theorem d317_27 : decode (mb 317) 27 = .ok (.iload_n 0, 1) := by decide +kernel
theorem d317_28 : decode (mb 317) 28 = .ok (.iconst 5, 1) := by decide +kernel
theorem d317_29 : decode (mb 317) 29 = .ok (.if_icmp .eq 9, 3) := by decide +kernel
theorem d317_32 : decode (mb 317) 32 = .ok (.iload_n 0, 1) := by decide +kernel
theorem d317_33 : decode (mb 317) 33 = .ok (.bipush 6, 2) := by decide +kernel
theorem d317_35 : decode (mb 317) 35 = .ok (.if_icmp .ne 10, 3) := by decide +kernel
theorem d317_38 : decode (mb 317) 38 = .ok (.iload 6, 2) := by decide +kernel
theorem d317_40 : decode (mb 317) 40 = .ok (.ifCond .ne 5, 3) := by decide +kernel
theorem d317_43 : decode (mb 317) 43 = .ok (.iconst 5, 1) := by decide +kernel
theorem d317_44 : decode (mb 317) 44 = .ok (.ireturn, 1) := by decide +kernel
theorem d317_45 : decode (mb 317) 45 = .ok (.iload_n 0, 1) := by decide +kernel
theorem d317_46 : decode (mb 317) 46 = .ok (.tableswitch 117 2 7 #[38, 50, 62, 74, 86, 98], 38) := by decide +kernel
theorem d317_84 : decode (mb 317) 84 = .ok (.aload_n 1, 1) := by decide +kernel
theorem d317_85 : decode (mb 317) 85 = .ok (.iload 5, 2) := by decide +kernel
theorem d317_87 : decode (mb 317) 87 = .ok (.iload 6, 2) := by decide +kernel
theorem d317_89 : decode (mb 317) 89 = .ok (.iadd, 1) := by decide +kernel
theorem d317_90 : decode (mb 317) 90 = .ok (.invokevirtual 184, 3) := by decide +kernel
theorem d317_93 : decode (mb 317) 93 = .ok (.goto 70, 3) := by decide +kernel
theorem d317_96 : decode (mb 317) 96 = .ok (.aload_n 1, 1) := by decide +kernel
theorem d317_97 : decode (mb 317) 97 = .ok (.iload 5, 2) := by decide +kernel
theorem d317_99 : decode (mb 317) 99 = .ok (.iload 6, 2) := by decide +kernel
theorem d317_101 : decode (mb 317) 101 = .ok (.isub, 1) := by decide +kernel
theorem d317_102 : decode (mb 317) 102 = .ok (.invokevirtual 184, 3) := by decide +kernel
theorem d317_105 : decode (mb 317) 105 = .ok (.goto 58, 3) := by decide +kernel
theorem d317_108 : decode (mb 317) 108 = .ok (.aload_n 1, 1) := by decide +kernel
theorem d317_109 : decode (mb 317) 109 = .ok (.iload 5, 2) := by decide +kernel
theorem d317_111 : decode (mb 317) 111 = .ok (.iload 6, 2) := by decide +kernel
theorem d317_113 : decode (mb 317) 113 = .ok (.imul, 1) := by decide +kernel
theorem d317_114 : decode (mb 317) 114 = .ok (.invokevirtual 184, 3) := by decide +kernel
theorem d317_117 : decode (mb 317) 117 = .ok (.goto 46, 3) := by decide +kernel
theorem d317_120 : decode (mb 317) 120 = .ok (.aload_n 1, 1) := by decide +kernel
theorem d317_121 : decode (mb 317) 121 = .ok (.iload 5, 2) := by decide +kernel
theorem d317_123 : decode (mb 317) 123 = .ok (.iload 6, 2) := by decide +kernel
theorem d317_125 : decode (mb 317) 125 = .ok (.idiv, 1) := by decide +kernel
theorem d317_126 : decode (mb 317) 126 = .ok (.invokevirtual 184, 3) := by decide +kernel
theorem d317_129 : decode (mb 317) 129 = .ok (.goto 34, 3) := by decide +kernel
theorem d317_132 : decode (mb 317) 132 = .ok (.aload_n 1, 1) := by decide +kernel
theorem d317_133 : decode (mb 317) 133 = .ok (.iload 5, 2) := by decide +kernel
theorem d317_135 : decode (mb 317) 135 = .ok (.iload 6, 2) := by decide +kernel
theorem d317_137 : decode (mb 317) 137 = .ok (.irem, 1) := by decide +kernel
theorem d317_138 : decode (mb 317) 138 = .ok (.invokevirtual 184, 3) := by decide +kernel
theorem d317_141 : decode (mb 317) 141 = .ok (.goto 22, 3) := by decide +kernel
theorem d317_144 : decode (mb 317) 144 = .ok (.aload_n 1, 1) := by decide +kernel
theorem d317_145 : decode (mb 317) 145 = .ok (.iload 5, 2) := by decide +kernel
theorem d317_147 : decode (mb 317) 147 = .ok (.iload 6, 2) := by decide +kernel
theorem d317_149 : decode (mb 317) 149 = .ok (.if_icmp .ge 7, 3) := by decide +kernel
theorem d317_152 : decode (mb 317) 152 = .ok (.iconst 1, 1) := by decide +kernel
theorem d317_153 : decode (mb 317) 153 = .ok (.goto 4, 3) := by decide +kernel
theorem d317_156 : decode (mb 317) 156 = .ok (.iconst 0, 1) := by decide +kernel
theorem d317_157 : decode (mb 317) 157 = .ok (.invokevirtual 184, 3) := by decide +kernel
theorem d317_160 : decode (mb 317) 160 = .ok (.goto 3, 3) := by decide +kernel
theorem d317_163 : decode (mb 317) 163 = .ok (.iconst 0, 1) := by decide +kernel
theorem d317_164 : decode (mb 317) 164 = .ok (.ireturn, 1) := by decide +kernel
theorem x317_0 {S : List Value} {h : HP} {l0 l1 l3 l4 l5 l6 : Value} {a0 : Nat} : pX 317 0 [l0, l1, .ref a0, l3, l4, l5, l6] S h = pX 317 1 [l0, l1, .ref a0, l3, l4, l5, l6] (.ref a0 :: S) h := pX_stp d317_0 rfl rfl rfl
theorem x317_1 {S : List Value} {h : HP} {l0 l1 l2 l4 l5 l6 : Value} {a0 : Nat} : pX 317 1 [l0, l1, l2, .ref a0, l4, l5, l6] S h = pX 317 2 [l0, l1, l2, .ref a0, l4, l5, l6] (.ref a0 :: S) h := pX_stp d317_1 rfl rfl rfl
theorem x317_2 {L : List Value} {h : HP} {a0 : Nat} {a1 : Nat} : pX 317 2 L [.ref a0, .ref a1] h = (pX 316 0 [.ref a1, .ref a0, .retAddr 0] [] h).bind (fun q => pX 317 5 L (q.1.toList ++ []) q.2) := pX_ins 316 [.ref a1, .ref a0] [] d317_2 rfl rfl rfl
theorem x317_5 {S : List Value} {h : HP} {l0 l1 l2 l3 l4 l5 l6 : Value} {x0 : Int32} : pX 317 5 [l0, l1, l2, l3, l4, l5, l6] (.int x0 :: S) h = pX 317 7 [l0, l1, l2, l3, .int x0, l5, l6] S h := pX_stp d317_5 rfl rfl rfl
theorem x317_7 {S : List Value} {h : HP} {l0 l1 l2 l3 l5 l6 : Value} {x0 : Int32} : pX 317 7 [l0, l1, l2, l3, .int x0, l5, l6] S h = pX 317 9 [l0, l1, l2, l3, .int x0, l5, l6] (.int x0 :: S) h := pX_stp d317_7 rfl rfl rfl
theorem x317_9 {L S : List Value} {h : HP} {x : Int32} : pX 317 9 L (.int x :: S) h = if x = 0 then pX 317 15 L S h else pX 317 12 L S h := pX_if_eq d317_9 (by decide)
theorem x317_12 {S : List Value} {h : HP} {l0 l1 l2 l3 l5 l6 : Value} {x0 : Int32} : pX 317 12 [l0, l1, l2, l3, .int x0, l5, l6] S h = pX 317 14 [l0, l1, l2, l3, .int x0, l5, l6] (.int x0 :: S) h := pX_stp d317_12 rfl rfl rfl
theorem x317_14 {L : List Value} {h : HP} {x : Int32} : pX 317 14 L [.int x] h = some (some (.int x), h) := pX_ret d317_14 rfl
theorem x317_15 {S : List Value} {h : HP} {l0 l1 l3 l4 l5 l6 : Value} {a0 : Nat} : pX 317 15 [l0, l1, .ref a0, l3, l4, l5, l6] S h = pX 317 16 [l0, l1, .ref a0, l3, l4, l5, l6] (.ref a0 :: S) h := pX_stp d317_15 rfl rfl rfl
theorem x317_16 {L S : List Value} {h : HP} {a : Nat} (hk : hp_k h a = 9) : pX 317 16 L (.ref a :: S) h = pX 317 19 L (.int (hp_i h a 1) :: S) h := pX_get d317_16 rfl rfl hk
theorem x317_19 {S : List Value} {h : HP} {l0 l1 l2 l3 l4 l5 l6 : Value} {x0 : Int32} : pX 317 19 [l0, l1, l2, l3, l4, l5, l6] (.int x0 :: S) h = pX 317 21 [l0, l1, l2, l3, l4, .int x0, l6] S h := pX_stp d317_19 rfl rfl rfl
theorem x317_21 {S : List Value} {h : HP} {l0 l1 l2 l4 l5 l6 : Value} {a0 : Nat} : pX 317 21 [l0, l1, l2, .ref a0, l4, l5, l6] S h = pX 317 22 [l0, l1, l2, .ref a0, l4, l5, l6] (.ref a0 :: S) h := pX_stp d317_21 rfl rfl rfl
theorem x317_22 {L S : List Value} {h : HP} {a : Nat} (hk : hp_k h a = 9) : pX 317 22 L (.ref a :: S) h = pX 317 25 L (.int (hp_i h a 1) :: S) h := pX_get d317_22 rfl rfl hk
theorem x317_25 {S : List Value} {h : HP} {l0 l1 l2 l3 l4 l5 l6 : Value} {x0 : Int32} : pX 317 25 [l0, l1, l2, l3, l4, l5, l6] (.int x0 :: S) h = pX 317 27 [l0, l1, l2, l3, l4, l5, .int x0] S h := pX_stp d317_25 rfl rfl rfl
theorem x317_27 {S : List Value} {h : HP} {l1 l2 l3 l4 l5 l6 : Value} {x0 : Int32} : pX 317 27 [.int x0, l1, l2, l3, l4, l5, l6] S h = pX 317 28 [.int x0, l1, l2, l3, l4, l5, l6] (.int x0 :: S) h := pX_stp d317_27 rfl rfl rfl
theorem x317_28 {L S : List Value} {h : HP} : pX 317 28 L S h = pX 317 29 L (.int 5 :: S) h := pX_iconst d317_28 (by decide)
theorem x317_29 {L S : List Value} {h : HP} {x y : Int32} : pX 317 29 L (.int y :: .int x :: S) h = if x = y then pX 317 38 L S h else pX 317 32 L S h := pX_icmp_eq d317_29 (by decide)
theorem x317_32 {S : List Value} {h : HP} {l1 l2 l3 l4 l5 l6 : Value} {x0 : Int32} : pX 317 32 [.int x0, l1, l2, l3, l4, l5, l6] S h = pX 317 33 [.int x0, l1, l2, l3, l4, l5, l6] (.int x0 :: S) h := pX_stp d317_32 rfl rfl rfl
theorem x317_33 {L S : List Value} {h : HP} : pX 317 33 L S h = pX 317 35 L (.int 6 :: S) h := pX_bipush d317_33 (by decide)
theorem x317_35 {L S : List Value} {h : HP} {x y : Int32} : pX 317 35 L (.int y :: .int x :: S) h = if x = y then pX 317 38 L S h else pX 317 45 L S h := pX_icmp_ne d317_35 (by decide)
theorem x317_38 {S : List Value} {h : HP} {l0 l1 l2 l3 l4 l5 : Value} {x0 : Int32} : pX 317 38 [l0, l1, l2, l3, l4, l5, .int x0] S h = pX 317 40 [l0, l1, l2, l3, l4, l5, .int x0] (.int x0 :: S) h := pX_stp d317_38 rfl rfl rfl
theorem x317_40 {L S : List Value} {h : HP} {x : Int32} : pX 317 40 L (.int x :: S) h = if x = 0 then pX 317 43 L S h else pX 317 45 L S h := pX_if_ne d317_40 (by decide)
theorem x317_43 {L S : List Value} {h : HP} : pX 317 43 L S h = pX 317 44 L (.int 5 :: S) h := pX_iconst d317_43 (by decide)
theorem x317_44 {L : List Value} {h : HP} {x : Int32} : pX 317 44 L [.int x] h = some (some (.int x), h) := pX_ret d317_44 rfl
theorem x317_45 {S : List Value} {h : HP} {l1 l2 l3 l4 l5 l6 : Value} {x0 : Int32} : pX 317 45 [.int x0, l1, l2, l3, l4, l5, l6] S h = pX 317 46 [.int x0, l1, l2, l3, l4, l5, l6] (.int x0 :: S) h := pX_stp d317_45 rfl rfl rfl
theorem x317_46_2 {L S : List Value} {h : HP} : pX 317 46 L (.int 2 :: S) h = pX 317 84 L S h := pX_tabIn (off := 38) d317_46 (by decide) (by decide) (by decide) (by decide)
theorem x317_46_3 {L S : List Value} {h : HP} : pX 317 46 L (.int 3 :: S) h = pX 317 96 L S h := pX_tabIn (off := 50) d317_46 (by decide) (by decide) (by decide) (by decide)
theorem x317_46_4 {L S : List Value} {h : HP} : pX 317 46 L (.int 4 :: S) h = pX 317 108 L S h := pX_tabIn (off := 62) d317_46 (by decide) (by decide) (by decide) (by decide)
theorem x317_46_5 {L S : List Value} {h : HP} : pX 317 46 L (.int 5 :: S) h = pX 317 120 L S h := pX_tabIn (off := 74) d317_46 (by decide) (by decide) (by decide) (by decide)
theorem x317_46_6 {L S : List Value} {h : HP} : pX 317 46 L (.int 6 :: S) h = pX 317 132 L S h := pX_tabIn (off := 86) d317_46 (by decide) (by decide) (by decide) (by decide)
theorem x317_46_7 {L S : List Value} {h : HP} : pX 317 46 L (.int 7 :: S) h = pX 317 144 L S h := pX_tabIn (off := 98) d317_46 (by decide) (by decide) (by decide) (by decide)
theorem x317_46_d {L S : List Value} {h : HP} {x : Int32} (hx : x.toInt < 2 ∨ 7 < x.toInt) : pX 317 46 L (.int x :: S) h = pX 317 163 L S h := pX_tabOut d317_46 hx (by decide)
theorem x317_84 {S : List Value} {h : HP} {l0 l2 l3 l4 l5 l6 : Value} {a0 : Nat} : pX 317 84 [l0, .ref a0, l2, l3, l4, l5, l6] S h = pX 317 85 [l0, .ref a0, l2, l3, l4, l5, l6] (.ref a0 :: S) h := pX_stp d317_84 rfl rfl rfl
theorem x317_85 {S : List Value} {h : HP} {l0 l1 l2 l3 l4 l6 : Value} {x0 : Int32} : pX 317 85 [l0, l1, l2, l3, l4, .int x0, l6] S h = pX 317 87 [l0, l1, l2, l3, l4, .int x0, l6] (.int x0 :: S) h := pX_stp d317_85 rfl rfl rfl
theorem x317_87 {S : List Value} {h : HP} {l0 l1 l2 l3 l4 l5 : Value} {x0 : Int32} : pX 317 87 [l0, l1, l2, l3, l4, l5, .int x0] S h = pX 317 89 [l0, l1, l2, l3, l4, l5, .int x0] (.int x0 :: S) h := pX_stp d317_87 rfl rfl rfl
theorem x317_89 {L S : List Value} {h : HP} {x y : Int32} : pX 317 89 L (.int y :: .int x :: S) h = pX 317 90 L (.int (x + y) :: S) h := pX_stp d317_89 rfl rfl rfl
theorem x317_90 {L : List Value} {h : HP} {x0 : Int32} {a0 : Nat} (hk : hp_k h a0 = 9) : pX 317 90 L [.int x0, .ref a0] h = (pX 802 0 [.ref a0, .int x0] [] h).bind (fun q => pX 317 93 L (q.1.toList ++ []) q.2) := pX_inv (a := a0) (t := 9) 802 [.ref a0, .int x0] [] d317_90 rfl rfl rfl hk
theorem x317_93 {L S : List Value} {h : HP} : pX 317 93 L S h = pX 317 163 L S h := pX_goto d317_93 (by decide)
theorem x317_96 {S : List Value} {h : HP} {l0 l2 l3 l4 l5 l6 : Value} {a0 : Nat} : pX 317 96 [l0, .ref a0, l2, l3, l4, l5, l6] S h = pX 317 97 [l0, .ref a0, l2, l3, l4, l5, l6] (.ref a0 :: S) h := pX_stp d317_96 rfl rfl rfl
theorem x317_97 {S : List Value} {h : HP} {l0 l1 l2 l3 l4 l6 : Value} {x0 : Int32} : pX 317 97 [l0, l1, l2, l3, l4, .int x0, l6] S h = pX 317 99 [l0, l1, l2, l3, l4, .int x0, l6] (.int x0 :: S) h := pX_stp d317_97 rfl rfl rfl
theorem x317_99 {S : List Value} {h : HP} {l0 l1 l2 l3 l4 l5 : Value} {x0 : Int32} : pX 317 99 [l0, l1, l2, l3, l4, l5, .int x0] S h = pX 317 101 [l0, l1, l2, l3, l4, l5, .int x0] (.int x0 :: S) h := pX_stp d317_99 rfl rfl rfl
theorem x317_101 {L S : List Value} {h : HP} {x y : Int32} : pX 317 101 L (.int y :: .int x :: S) h = pX 317 102 L (.int (x - y) :: S) h := pX_stp d317_101 rfl rfl rfl
theorem x317_102 {L : List Value} {h : HP} {x0 : Int32} {a0 : Nat} (hk : hp_k h a0 = 9) : pX 317 102 L [.int x0, .ref a0] h = (pX 802 0 [.ref a0, .int x0] [] h).bind (fun q => pX 317 105 L (q.1.toList ++ []) q.2) := pX_inv (a := a0) (t := 9) 802 [.ref a0, .int x0] [] d317_102 rfl rfl rfl hk
theorem x317_105 {L S : List Value} {h : HP} : pX 317 105 L S h = pX 317 163 L S h := pX_goto d317_105 (by decide)
theorem x317_108 {S : List Value} {h : HP} {l0 l2 l3 l4 l5 l6 : Value} {a0 : Nat} : pX 317 108 [l0, .ref a0, l2, l3, l4, l5, l6] S h = pX 317 109 [l0, .ref a0, l2, l3, l4, l5, l6] (.ref a0 :: S) h := pX_stp d317_108 rfl rfl rfl
theorem x317_109 {S : List Value} {h : HP} {l0 l1 l2 l3 l4 l6 : Value} {x0 : Int32} : pX 317 109 [l0, l1, l2, l3, l4, .int x0, l6] S h = pX 317 111 [l0, l1, l2, l3, l4, .int x0, l6] (.int x0 :: S) h := pX_stp d317_109 rfl rfl rfl
theorem x317_111 {S : List Value} {h : HP} {l0 l1 l2 l3 l4 l5 : Value} {x0 : Int32} : pX 317 111 [l0, l1, l2, l3, l4, l5, .int x0] S h = pX 317 113 [l0, l1, l2, l3, l4, l5, .int x0] (.int x0 :: S) h := pX_stp d317_111 rfl rfl rfl
theorem x317_113 {L S : List Value} {h : HP} {x y : Int32} : pX 317 113 L (.int y :: .int x :: S) h = pX 317 114 L (.int (x * y) :: S) h := pX_stp d317_113 rfl rfl rfl
theorem x317_114 {L : List Value} {h : HP} {x0 : Int32} {a0 : Nat} (hk : hp_k h a0 = 9) : pX 317 114 L [.int x0, .ref a0] h = (pX 802 0 [.ref a0, .int x0] [] h).bind (fun q => pX 317 117 L (q.1.toList ++ []) q.2) := pX_inv (a := a0) (t := 9) 802 [.ref a0, .int x0] [] d317_114 rfl rfl rfl hk
theorem x317_117 {L S : List Value} {h : HP} : pX 317 117 L S h = pX 317 163 L S h := pX_goto d317_117 (by decide)
theorem x317_120 {S : List Value} {h : HP} {l0 l2 l3 l4 l5 l6 : Value} {a0 : Nat} : pX 317 120 [l0, .ref a0, l2, l3, l4, l5, l6] S h = pX 317 121 [l0, .ref a0, l2, l3, l4, l5, l6] (.ref a0 :: S) h := pX_stp d317_120 rfl rfl rfl
theorem x317_121 {S : List Value} {h : HP} {l0 l1 l2 l3 l4 l6 : Value} {x0 : Int32} : pX 317 121 [l0, l1, l2, l3, l4, .int x0, l6] S h = pX 317 123 [l0, l1, l2, l3, l4, .int x0, l6] (.int x0 :: S) h := pX_stp d317_121 rfl rfl rfl
theorem x317_123 {S : List Value} {h : HP} {l0 l1 l2 l3 l4 l5 : Value} {x0 : Int32} : pX 317 123 [l0, l1, l2, l3, l4, l5, .int x0] S h = pX 317 125 [l0, l1, l2, l3, l4, l5, .int x0] (.int x0 :: S) h := pX_stp d317_123 rfl rfl rfl
theorem x317_125 {L S : List Value} {h : HP} {x y : Int32} (hy : ¬ y = 0) : pX 317 125 L (.int y :: .int x :: S) h = pX 317 126 L (.int (x / y) :: S) h := pX_div d317_125 hy
theorem x317_126 {L : List Value} {h : HP} {x0 : Int32} {a0 : Nat} (hk : hp_k h a0 = 9) : pX 317 126 L [.int x0, .ref a0] h = (pX 802 0 [.ref a0, .int x0] [] h).bind (fun q => pX 317 129 L (q.1.toList ++ []) q.2) := pX_inv (a := a0) (t := 9) 802 [.ref a0, .int x0] [] d317_126 rfl rfl rfl hk
theorem x317_129 {L S : List Value} {h : HP} : pX 317 129 L S h = pX 317 163 L S h := pX_goto d317_129 (by decide)
theorem x317_132 {S : List Value} {h : HP} {l0 l2 l3 l4 l5 l6 : Value} {a0 : Nat} : pX 317 132 [l0, .ref a0, l2, l3, l4, l5, l6] S h = pX 317 133 [l0, .ref a0, l2, l3, l4, l5, l6] (.ref a0 :: S) h := pX_stp d317_132 rfl rfl rfl
theorem x317_133 {S : List Value} {h : HP} {l0 l1 l2 l3 l4 l6 : Value} {x0 : Int32} : pX 317 133 [l0, l1, l2, l3, l4, .int x0, l6] S h = pX 317 135 [l0, l1, l2, l3, l4, .int x0, l6] (.int x0 :: S) h := pX_stp d317_133 rfl rfl rfl
theorem x317_135 {S : List Value} {h : HP} {l0 l1 l2 l3 l4 l5 : Value} {x0 : Int32} : pX 317 135 [l0, l1, l2, l3, l4, l5, .int x0] S h = pX 317 137 [l0, l1, l2, l3, l4, l5, .int x0] (.int x0 :: S) h := pX_stp d317_135 rfl rfl rfl
theorem x317_137 {L S : List Value} {h : HP} {x y : Int32} (hy : ¬ y = 0) : pX 317 137 L (.int y :: .int x :: S) h = pX 317 138 L (.int (x - x / y * y) :: S) h := pX_rem d317_137 hy
theorem x317_138 {L : List Value} {h : HP} {x0 : Int32} {a0 : Nat} (hk : hp_k h a0 = 9) : pX 317 138 L [.int x0, .ref a0] h = (pX 802 0 [.ref a0, .int x0] [] h).bind (fun q => pX 317 141 L (q.1.toList ++ []) q.2) := pX_inv (a := a0) (t := 9) 802 [.ref a0, .int x0] [] d317_138 rfl rfl rfl hk
theorem x317_141 {L S : List Value} {h : HP} : pX 317 141 L S h = pX 317 163 L S h := pX_goto d317_141 (by decide)
theorem x317_144 {S : List Value} {h : HP} {l0 l2 l3 l4 l5 l6 : Value} {a0 : Nat} : pX 317 144 [l0, .ref a0, l2, l3, l4, l5, l6] S h = pX 317 145 [l0, .ref a0, l2, l3, l4, l5, l6] (.ref a0 :: S) h := pX_stp d317_144 rfl rfl rfl
theorem x317_145 {S : List Value} {h : HP} {l0 l1 l2 l3 l4 l6 : Value} {x0 : Int32} : pX 317 145 [l0, l1, l2, l3, l4, .int x0, l6] S h = pX 317 147 [l0, l1, l2, l3, l4, .int x0, l6] (.int x0 :: S) h := pX_stp d317_145 rfl rfl rfl
theorem x317_147 {S : List Value} {h : HP} {l0 l1 l2 l3 l4 l5 : Value} {x0 : Int32} : pX 317 147 [l0, l1, l2, l3, l4, l5, .int x0] S h = pX 317 149 [l0, l1, l2, l3, l4, l5, .int x0] (.int x0 :: S) h := pX_stp d317_147 rfl rfl rfl
theorem x317_149 {L S : List Value} {h : HP} {x y : Int32} : pX 317 149 L (.int y :: .int x :: S) h = if y ≤ x then pX 317 156 L S h else pX 317 152 L S h := pX_icmp_ge d317_149 (by decide)
theorem x317_152 {L S : List Value} {h : HP} : pX 317 152 L S h = pX 317 153 L (.int 1 :: S) h := pX_iconst d317_152 (by decide)
theorem x317_153 {L S : List Value} {h : HP} : pX 317 153 L S h = pX 317 157 L S h := pX_goto d317_153 (by decide)
theorem x317_156 {L S : List Value} {h : HP} : pX 317 156 L S h = pX 317 157 L (.int 0 :: S) h := pX_iconst d317_156 (by decide)
theorem x317_157 {L : List Value} {h : HP} {x0 : Int32} {a0 : Nat} (hk : hp_k h a0 = 9) : pX 317 157 L [.int x0, .ref a0] h = (pX 802 0 [.ref a0, .int x0] [] h).bind (fun q => pX 317 160 L (q.1.toList ++ []) q.2) := pX_inv (a := a0) (t := 9) 802 [.ref a0, .int x0] [] d317_157 rfl rfl rfl hk
theorem x317_160 {L S : List Value} {h : HP} : pX 317 160 L S h = pX 317 163 L S h := pX_goto d317_160 (by decide)
theorem x317_163 {L S : List Value} {h : HP} : pX 317 163 L S h = pX 317 164 L (.int 0 :: S) h := pX_iconst d317_163 (by decide)
theorem x317_164 {L : List Value} {h : HP} {x : Int32} : pX 317 164 L [.int x] h = some (some (.int x), h) := pX_ret d317_164 rfl
theorem d318_0 : decode (mb 318) 0 = .ok (.iload_n 2, 1) := by decide +kernel
theorem d318_1 : decode (mb 318) 1 = .ok (.aload_n 1, 1) := by decide +kernel
theorem d318_2 : decode (mb 318) 2 = .ok (.getfield 119, 3) := by decide +kernel
theorem d318_5 : decode (mb 318) 5 = .ok (.if_icmp .gt 17, 3) := by decide +kernel
theorem d318_8 : decode (mb 318) 8 = .ok (.aload_n 0, 1) := by decide +kernel
theorem d318_9 : decode (mb 318) 9 = .ok (.getfield 20, 3) := by decide +kernel
theorem d318_12 : decode (mb 318) 12 = .ok (.iconst 1, 1) := by decide +kernel
theorem d318_13 : decode (mb 318) 13 = .ok (.invokevirtual 122, 3) := by decide +kernel
theorem d318_16 : decode (mb 318) 16 = .ok (.ifCond .ne 6, 3) := by decide +kernel
theorem d318_19 : decode (mb 318) 19 = .ok (.bipush (-9), 2) := by decide +kernel
theorem d318_21 : decode (mb 318) 21 = .ok (.ireturn, 1) := by decide +kernel
theorem d318_22 : decode (mb 318) 22 = .ok (.aload_n 1, 1) := by decide +kernel
theorem d318_23 : decode (mb 318) 23 = .ok (.iload_n 2, 1) := by decide +kernel
theorem d318_24 : decode (mb 318) 24 = .ok (.putfield 119, 3) := by decide +kernel
theorem d318_27 : decode (mb 318) 27 = .ok (.iconst (-1), 1) := by decide +kernel
theorem d318_28 : decode (mb 318) 28 = .ok (.ireturn, 1) := by decide +kernel
theorem x318_0 {S : List Value} {h : HP} {l0 l1 : Value} {x0 : Int32} : pX 318 0 [l0, l1, .int x0] S h = pX 318 1 [l0, l1, .int x0] (.int x0 :: S) h := pX_stp d318_0 rfl rfl rfl
theorem x318_1 {S : List Value} {h : HP} {l0 l2 : Value} {a0 : Nat} : pX 318 1 [l0, .ref a0, l2] S h = pX 318 2 [l0, .ref a0, l2] (.ref a0 :: S) h := pX_stp d318_1 rfl rfl rfl
theorem x318_2 {L S : List Value} {h : HP} {a : Nat} (hk : hp_k h a = 2) : pX 318 2 L (.ref a :: S) h = pX 318 5 L (.int (hp_i h a 4) :: S) h := pX_get d318_2 rfl rfl hk
theorem x318_5 {L S : List Value} {h : HP} {x y : Int32} : pX 318 5 L (.int y :: .int x :: S) h = if y < x then pX 318 22 L S h else pX 318 8 L S h := pX_icmp_gt d318_5 (by decide)
theorem x318_8 {S : List Value} {h : HP} {l1 l2 : Value} {a0 : Nat} : pX 318 8 [.ref a0, l1, l2] S h = pX 318 9 [.ref a0, l1, l2] (.ref a0 :: S) h := pX_stp d318_8 rfl rfl rfl
theorem x318_9 {L S : List Value} {h : HP} {a : Nat} (hk : hp_k h a = 4) : pX 318 9 L (.ref a :: S) h = pX 318 12 L (.ref (hp_a h a 2) :: S) h := pX_get d318_9 rfl rfl hk
theorem x318_12 {L S : List Value} {h : HP} : pX 318 12 L S h = pX 318 13 L (.int 1 :: S) h := pX_iconst d318_12 (by decide)
theorem x318_13 {L : List Value} {h : HP} {x0 : Int32} {a0 : Nat} (hk : hp_k h a0 = 7) : pX 318 13 L [.int x0, .ref a0] h = (pX 603 0 [.ref a0, .int x0] [] h).bind (fun q => pX 318 16 L (q.1.toList ++ []) q.2) := pX_inv (a := a0) (t := 7) 603 [.ref a0, .int x0] [] d318_13 rfl rfl rfl hk
theorem x318_16 {L S : List Value} {h : HP} {x : Int32} : pX 318 16 L (.int x :: S) h = if x = 0 then pX 318 19 L S h else pX 318 22 L S h := pX_if_ne d318_16 (by decide)
theorem x318_19 {L S : List Value} {h : HP} : pX 318 19 L S h = pX 318 21 L (.int (-9) :: S) h := pX_bipush d318_19 (by decide)
theorem x318_21 {L : List Value} {h : HP} {x : Int32} : pX 318 21 L [.int x] h = some (some (.int x), h) := pX_ret d318_21 rfl
theorem x318_22 {S : List Value} {h : HP} {l0 l2 : Value} {a0 : Nat} : pX 318 22 [l0, .ref a0, l2] S h = pX 318 23 [l0, .ref a0, l2] (.ref a0 :: S) h := pX_stp d318_22 rfl rfl rfl
theorem x318_23 {S : List Value} {h : HP} {l0 l1 : Value} {x0 : Int32} : pX 318 23 [l0, l1, .int x0] S h = pX 318 24 [l0, l1, .int x0] (.int x0 :: S) h := pX_stp d318_23 rfl rfl rfl
theorem x318_24 {L S : List Value} {h : HP} {a : Nat} {x : Int32} (hk : hp_k h a = 2) : pX 318 24 L (.int x :: .ref a :: S) h = pX 318 27 L S (hp_wi h a 4 x) := pX_put d318_24 rfl rfl rfl hk
theorem x318_27 {L S : List Value} {h : HP} : pX 318 27 L S h = pX 318 28 L (.int (-1) :: S) h := pX_iconst d318_27 (by decide)
theorem x318_28 {L : List Value} {h : HP} {x : Int32} : pX 318 28 L [.int x] h = some (some (.int x), h) := pX_ret d318_28 rfl
theorem d319_0 : decode (mb 319) 0 = .ok (.aload_n 2, 1) := by decide +kernel
theorem d319_1 : decode (mb 319) 1 = .ok (.invokevirtual 283, 3) := by decide +kernel
theorem d319_4 : decode (mb 319) 4 = .ok (.istore 4, 2) := by decide +kernel
theorem d319_6 : decode (mb 319) 6 = .ok (.iload 4, 2) := by decide +kernel
theorem d319_8 : decode (mb 319) 8 = .ok (.ifCond .eq 6, 3) := by decide +kernel
theorem d319_11 : decode (mb 319) 11 = .ok (.iload 4, 2) := by decide +kernel
theorem d319_13 : decode (mb 319) 13 = .ok (.ireturn, 1) := by decide +kernel
theorem d319_14 : decode (mb 319) 14 = .ok (.aload_n 2, 1) := by decide +kernel
theorem d319_15 : decode (mb 319) 15 = .ok (.getfield 289, 3) := by decide +kernel
theorem d319_18 : decode (mb 319) 18 = .ok (.ifCond .eq 12, 3) := by decide +kernel
theorem d319_21 : decode (mb 319) 21 = .ok (.aload_n 0, 1) := by decide +kernel
theorem d319_22 : decode (mb 319) 22 = .ok (.aload_n 1, 1) := by decide +kernel
theorem d319_23 : decode (mb 319) 23 = .ok (.iload_n 3, 1) := by decide +kernel
theorem d319_24 : decode (mb 319) 24 = .ok (.invokevirtual 213, 3) := by decide +kernel
theorem d319_27 : decode (mb 319) 27 = .ok (.goto 4, 3) := by decide +kernel
theorem d319_30 : decode (mb 319) 30 = .ok (.iconst 0, 1) := by decide +kernel
theorem d319_31 : decode (mb 319) 31 = .ok (.ireturn, 1) := by decide +kernel
theorem x319_0 {S : List Value} {h : HP} {l0 l1 l3 l4 : Value} {a0 : Nat} : pX 319 0 [l0, l1, .ref a0, l3, l4] S h = pX 319 1 [l0, l1, .ref a0, l3, l4] (.ref a0 :: S) h := pX_stp d319_0 rfl rfl rfl
theorem x319_1 {L : List Value} {h : HP} {a0 : Nat} (hk : hp_k h a0 = 9) : pX 319 1 L [.ref a0] h = (pX 811 0 [.ref a0] [] h).bind (fun q => pX 319 4 L (q.1.toList ++ []) q.2) := pX_inv (a := a0) (t := 9) 811 [.ref a0] [] d319_1 rfl rfl rfl hk
theorem x319_4 {S : List Value} {h : HP} {l0 l1 l2 l3 l4 : Value} {x0 : Int32} : pX 319 4 [l0, l1, l2, l3, l4] (.int x0 :: S) h = pX 319 6 [l0, l1, l2, l3, .int x0] S h := pX_stp d319_4 rfl rfl rfl
theorem x319_6 {S : List Value} {h : HP} {l0 l1 l2 l3 : Value} {x0 : Int32} : pX 319 6 [l0, l1, l2, l3, .int x0] S h = pX 319 8 [l0, l1, l2, l3, .int x0] (.int x0 :: S) h := pX_stp d319_6 rfl rfl rfl
theorem x319_8 {L S : List Value} {h : HP} {x : Int32} : pX 319 8 L (.int x :: S) h = if x = 0 then pX 319 14 L S h else pX 319 11 L S h := pX_if_eq d319_8 (by decide)
theorem x319_11 {S : List Value} {h : HP} {l0 l1 l2 l3 : Value} {x0 : Int32} : pX 319 11 [l0, l1, l2, l3, .int x0] S h = pX 319 13 [l0, l1, l2, l3, .int x0] (.int x0 :: S) h := pX_stp d319_11 rfl rfl rfl
theorem x319_13 {L : List Value} {h : HP} {x : Int32} : pX 319 13 L [.int x] h = some (some (.int x), h) := pX_ret d319_13 rfl
theorem x319_14 {S : List Value} {h : HP} {l0 l1 l3 l4 : Value} {a0 : Nat} : pX 319 14 [l0, l1, .ref a0, l3, l4] S h = pX 319 15 [l0, l1, .ref a0, l3, l4] (.ref a0 :: S) h := pX_stp d319_14 rfl rfl rfl
theorem x319_15 {L S : List Value} {h : HP} {a : Nat} (hk : hp_k h a = 9) : pX 319 15 L (.ref a :: S) h = pX 319 18 L (.int (hp_i h a 1) :: S) h := pX_get d319_15 rfl rfl hk
theorem x319_18 {L S : List Value} {h : HP} {x : Int32} : pX 319 18 L (.int x :: S) h = if x = 0 then pX 319 30 L S h else pX 319 21 L S h := pX_if_eq d319_18 (by decide)
theorem x319_21 {S : List Value} {h : HP} {l1 l2 l3 l4 : Value} {a0 : Nat} : pX 319 21 [.ref a0, l1, l2, l3, l4] S h = pX 319 22 [.ref a0, l1, l2, l3, l4] (.ref a0 :: S) h := pX_stp d319_21 rfl rfl rfl
theorem x319_22 {S : List Value} {h : HP} {l0 l2 l3 l4 : Value} {a0 : Nat} : pX 319 22 [l0, .ref a0, l2, l3, l4] S h = pX 319 23 [l0, .ref a0, l2, l3, l4] (.ref a0 :: S) h := pX_stp d319_22 rfl rfl rfl
theorem x319_23 {S : List Value} {h : HP} {l0 l1 l2 l4 : Value} {x0 : Int32} : pX 319 23 [l0, l1, l2, .int x0, l4] S h = pX 319 24 [l0, l1, l2, .int x0, l4] (.int x0 :: S) h := pX_stp d319_23 rfl rfl rfl
theorem x319_24 {L : List Value} {h : HP} {x0 : Int32} {a0 : Nat} {a1 : Nat} (hk : hp_k h a1 = 4) : pX 319 24 L [.int x0, .ref a0, .ref a1] h = (pX 318 0 [.ref a1, .ref a0, .int x0] [] h).bind (fun q => pX 319 27 L (q.1.toList ++ []) q.2) := pX_inv (a := a1) (t := 4) 318 [.ref a1, .ref a0, .int x0] [] d319_24 rfl rfl rfl hk
theorem x319_27 {L S : List Value} {h : HP} : pX 319 27 L S h = pX 319 31 L S h := pX_goto d319_27 (by decide)
theorem x319_30 {L S : List Value} {h : HP} : pX 319 30 L S h = pX 319 31 L (.int 0 :: S) h := pX_iconst d319_30 (by decide)
theorem x319_31 {L : List Value} {h : HP} {x : Int32} : pX 319 31 L [.int x] h = some (some (.int x), h) := pX_ret d319_31 rfl
theorem d320_0 : decode (mb 320) 0 = .ok (.aload_n 2, 1) := by decide +kernel
theorem d320_1 : decode (mb 320) 1 = .ok (.invokevirtual 283, 3) := by decide +kernel
theorem d320_4 : decode (mb 320) 4 = .ok (.istore 4, 2) := by decide +kernel
theorem d320_6 : decode (mb 320) 6 = .ok (.iload 4, 2) := by decide +kernel
theorem d320_8 : decode (mb 320) 8 = .ok (.ifCond .eq 6, 3) := by decide +kernel
theorem d320_11 : decode (mb 320) 11 = .ok (.iload 4, 2) := by decide +kernel
theorem d320_13 : decode (mb 320) 13 = .ok (.ireturn, 1) := by decide +kernel
theorem d320_14 : decode (mb 320) 14 = .ok (.aload_n 2, 1) := by decide +kernel
theorem d320_15 : decode (mb 320) 15 = .ok (.getfield 289, 3) := by decide +kernel
theorem d320_18 : decode (mb 320) 18 = .ok (.istore 5, 2) := by decide +kernel
theorem d320_20 : decode (mb 320) 20 = .ok (.iload 5, 2) := by decide +kernel
theorem d320_22 : decode (mb 320) 22 = .ok (.ifCond .ge 5, 3) := by decide +kernel
theorem d320_25 : decode (mb 320) 25 = .ok (.iconst 4, 1) := by decide +kernel
theorem d320_26 : decode (mb 320) 26 = .ok (.ireturn, 1) := by decide +kernel
theorem d320_27 : decode (mb 320) 27 = .ok (.aload_n 0, 1) := by decide +kernel
theorem d320_28 : decode (mb 320) 28 = .ok (.getfield 20, 3) := by decide +kernel
theorem d320_31 : decode (mb 320) 31 = .ok (.iload 5, 2) := by decide +kernel
theorem d320_33 : decode (mb 320) 33 = .ok (.invokevirtual 292, 3) := by decide +kernel
theorem d320_36 : decode (mb 320) 36 = .ok (.ifCond .ne 6, 3) := by decide +kernel
theorem d320_39 : decode (mb 320) 39 = .ok (.bipush (-9), 2) := by decide +kernel
theorem d320_41 : decode (mb 320) 41 = .ok (.ireturn, 1) := by decide +kernel
theorem d320_42 : decode (mb 320) 42 = .ok (.aload_n 1, 1) := by decide +kernel
theorem d320_43 : decode (mb 320) 43 = .ok (.new 295, 3) := by decide +kernel
theorem d320_46 : decode (mb 320) 46 = .ok (.dup, 1) := by decide +kernel
theorem d320_47 : decode (mb 320) 47 = .ok (.iload_n 3, 1) := by decide +kernel
theorem d320_48 : decode (mb 320) 48 = .ok (.iload 5, 2) := by decide +kernel
theorem d320_50 : decode (mb 320) 50 = .ok (.invokespecial 297, 3) := by decide +kernel
theorem d320_53 : decode (mb 320) 53 = .ok (.invokevirtual 300, 3) := by decide +kernel
theorem d320_56 : decode (mb 320) 56 = .ok (.iconst 0, 1) := by decide +kernel
theorem d320_57 : decode (mb 320) 57 = .ok (.ireturn, 1) := by decide +kernel
theorem x320_0 {S : List Value} {h : HP} {l0 l1 l3 l4 l5 : Value} {a0 : Nat} : pX 320 0 [l0, l1, .ref a0, l3, l4, l5] S h = pX 320 1 [l0, l1, .ref a0, l3, l4, l5] (.ref a0 :: S) h := pX_stp d320_0 rfl rfl rfl
theorem x320_1 {L : List Value} {h : HP} {a0 : Nat} (hk : hp_k h a0 = 9) : pX 320 1 L [.ref a0] h = (pX 811 0 [.ref a0] [] h).bind (fun q => pX 320 4 L (q.1.toList ++ []) q.2) := pX_inv (a := a0) (t := 9) 811 [.ref a0] [] d320_1 rfl rfl rfl hk
theorem x320_4 {S : List Value} {h : HP} {l0 l1 l2 l3 l4 l5 : Value} {x0 : Int32} : pX 320 4 [l0, l1, l2, l3, l4, l5] (.int x0 :: S) h = pX 320 6 [l0, l1, l2, l3, .int x0, l5] S h := pX_stp d320_4 rfl rfl rfl
theorem x320_6 {S : List Value} {h : HP} {l0 l1 l2 l3 l5 : Value} {x0 : Int32} : pX 320 6 [l0, l1, l2, l3, .int x0, l5] S h = pX 320 8 [l0, l1, l2, l3, .int x0, l5] (.int x0 :: S) h := pX_stp d320_6 rfl rfl rfl
theorem x320_8 {L S : List Value} {h : HP} {x : Int32} : pX 320 8 L (.int x :: S) h = if x = 0 then pX 320 14 L S h else pX 320 11 L S h := pX_if_eq d320_8 (by decide)
theorem x320_11 {S : List Value} {h : HP} {l0 l1 l2 l3 l5 : Value} {x0 : Int32} : pX 320 11 [l0, l1, l2, l3, .int x0, l5] S h = pX 320 13 [l0, l1, l2, l3, .int x0, l5] (.int x0 :: S) h := pX_stp d320_11 rfl rfl rfl
theorem x320_13 {L : List Value} {h : HP} {x : Int32} : pX 320 13 L [.int x] h = some (some (.int x), h) := pX_ret d320_13 rfl
theorem x320_14 {S : List Value} {h : HP} {l0 l1 l3 l4 l5 : Value} {a0 : Nat} : pX 320 14 [l0, l1, .ref a0, l3, l4, l5] S h = pX 320 15 [l0, l1, .ref a0, l3, l4, l5] (.ref a0 :: S) h := pX_stp d320_14 rfl rfl rfl
theorem x320_15 {L S : List Value} {h : HP} {a : Nat} (hk : hp_k h a = 9) : pX 320 15 L (.ref a :: S) h = pX 320 18 L (.int (hp_i h a 1) :: S) h := pX_get d320_15 rfl rfl hk
theorem x320_18 {S : List Value} {h : HP} {l0 l1 l2 l3 l4 l5 : Value} {x0 : Int32} : pX 320 18 [l0, l1, l2, l3, l4, l5] (.int x0 :: S) h = pX 320 20 [l0, l1, l2, l3, l4, .int x0] S h := pX_stp d320_18 rfl rfl rfl
theorem x320_20 {S : List Value} {h : HP} {l0 l1 l2 l3 l4 : Value} {x0 : Int32} : pX 320 20 [l0, l1, l2, l3, l4, .int x0] S h = pX 320 22 [l0, l1, l2, l3, l4, .int x0] (.int x0 :: S) h := pX_stp d320_20 rfl rfl rfl
theorem x320_22 {L S : List Value} {h : HP} {x : Int32} : pX 320 22 L (.int x :: S) h = if 0 ≤ x then pX 320 27 L S h else pX 320 25 L S h := pX_if_ge d320_22 (by decide)
theorem x320_25 {L S : List Value} {h : HP} : pX 320 25 L S h = pX 320 26 L (.int 4 :: S) h := pX_iconst d320_25 (by decide)
theorem x320_26 {L : List Value} {h : HP} {x : Int32} : pX 320 26 L [.int x] h = some (some (.int x), h) := pX_ret d320_26 rfl
theorem x320_27 {S : List Value} {h : HP} {l1 l2 l3 l4 l5 : Value} {a0 : Nat} : pX 320 27 [.ref a0, l1, l2, l3, l4, l5] S h = pX 320 28 [.ref a0, l1, l2, l3, l4, l5] (.ref a0 :: S) h := pX_stp d320_27 rfl rfl rfl
theorem x320_28 {L S : List Value} {h : HP} {a : Nat} (hk : hp_k h a = 4) : pX 320 28 L (.ref a :: S) h = pX 320 31 L (.ref (hp_a h a 2) :: S) h := pX_get d320_28 rfl rfl hk
theorem x320_31 {S : List Value} {h : HP} {l0 l1 l2 l3 l4 : Value} {x0 : Int32} : pX 320 31 [l0, l1, l2, l3, l4, .int x0] S h = pX 320 33 [l0, l1, l2, l3, l4, .int x0] (.int x0 :: S) h := pX_stp d320_31 rfl rfl rfl
theorem x320_33 {L : List Value} {h : HP} {x0 : Int32} {a0 : Nat} (hk : hp_k h a0 = 7) : pX 320 33 L [.int x0, .ref a0] h = (pX 604 0 [.ref a0, .int x0] [] h).bind (fun q => pX 320 36 L (q.1.toList ++ []) q.2) := pX_inv (a := a0) (t := 7) 604 [.ref a0, .int x0] [] d320_33 rfl rfl rfl hk
theorem x320_36 {L S : List Value} {h : HP} {x : Int32} : pX 320 36 L (.int x :: S) h = if x = 0 then pX 320 39 L S h else pX 320 42 L S h := pX_if_ne d320_36 (by decide)
theorem x320_39 {L S : List Value} {h : HP} : pX 320 39 L S h = pX 320 41 L (.int (-9) :: S) h := pX_bipush d320_39 (by decide)
theorem x320_41 {L : List Value} {h : HP} {x : Int32} : pX 320 41 L [.int x] h = some (some (.int x), h) := pX_ret d320_41 rfl
theorem x320_42 {S : List Value} {h : HP} {l0 l2 l3 l4 l5 : Value} {a0 : Nat} : pX 320 42 [l0, .ref a0, l2, l3, l4, l5] S h = pX 320 43 [l0, .ref a0, l2, l3, l4, l5] (.ref a0 :: S) h := pX_stp d320_42 rfl rfl rfl
theorem x320_43 {L S : List Value} {h : HP} : pX 320 43 L S h = pX 320 46 L (.ref (hp_n h) :: S) (hp_mk h 8 0 4) := pX_new d320_43 rfl
theorem x320_46 {L S : List Value} {h : HP} {a0 : Nat} : pX 320 46 L (.ref a0 :: S) h = pX 320 47 L (.ref a0 :: .ref a0 :: S) h := pX_stp d320_46 rfl rfl rfl
theorem x320_47 {S : List Value} {h : HP} {l0 l1 l2 l4 l5 : Value} {x0 : Int32} : pX 320 47 [l0, l1, l2, .int x0, l4, l5] S h = pX 320 48 [l0, l1, l2, .int x0, l4, l5] (.int x0 :: S) h := pX_stp d320_47 rfl rfl rfl
theorem x320_48 {S : List Value} {h : HP} {l0 l1 l2 l3 l4 : Value} {x0 : Int32} : pX 320 48 [l0, l1, l2, l3, l4, .int x0] S h = pX 320 50 [l0, l1, l2, l3, l4, .int x0] (.int x0 :: S) h := pX_stp d320_48 rfl rfl rfl
theorem x320_50 {L : List Value} {h : HP} {x0 : Int32} {x1 : Int32} {a0 : Nat} {a1 : Nat} {a2 : Nat} (hk : hp_k h a0 = 8) : pX 320 50 L [.int x0, .int x1, .ref a0, .ref a1, .ref a2] h = (pX 700 0 [.ref a0, .int x1, .int x0] [] h).bind (fun q => pX 320 53 L (q.1.toList ++ [.ref a1, .ref a2]) q.2) := pX_inv (a := a0) (t := 8) 700 [.ref a0, .int x1, .int x0] [.ref a1, .ref a2] d320_50 rfl rfl rfl hk
theorem x320_53 {L : List Value} {h : HP} {a0 : Nat} {a1 : Nat} (hk : hp_k h a1 = 9) : pX 320 53 L [.ref a0, .ref a1] h = (pX 804 0 [.ref a1, .ref a0] [] h).bind (fun q => pX 320 56 L (q.1.toList ++ []) q.2) := pX_inv (a := a1) (t := 9) 804 [.ref a1, .ref a0] [] d320_53 rfl rfl rfl hk
theorem x320_56 {L S : List Value} {h : HP} : pX 320 56 L S h = pX 320 57 L (.int 0 :: S) h := pX_iconst d320_56 (by decide)
theorem x320_57 {L : List Value} {h : HP} {x : Int32} : pX 320 57 L [.int x] h = some (some (.int x), h) := pX_ret d320_57 rfl
theorem d321_0 : decode (mb 321) 0 = .ok (.aload_n 0, 1) := by decide +kernel
theorem d321_1 : decode (mb 321) 1 = .ok (.getfield 20, 3) := by decide +kernel
theorem d321_4 : decode (mb 321) 4 = .ok (.iconst 3, 1) := by decide +kernel
theorem d321_5 : decode (mb 321) 5 = .ok (.invokevirtual 122, 3) := by decide +kernel
theorem d321_8 : decode (mb 321) 8 = .ok (.ifCond .ne 6, 3) := by decide +kernel
theorem d321_11 : decode (mb 321) 11 = .ok (.bipush (-9), 2) := by decide +kernel
theorem d321_13 : decode (mb 321) 13 = .ok (.ireturn, 1) := by decide +kernel
theorem d321_14 : decode (mb 321) 14 = .ok (.aload_n 1, 1) := by decide +kernel
theorem d321_15 : decode (mb 321) 15 = .ok (.new 304, 3) := by decide +kernel
theorem d321_18 : decode (mb 321) 18 = .ok (.dup, 1) := by decide +kernel
theorem d321_19 : decode (mb 321) 19 = .ok (.iload_n 2, 1) := by decide +kernel
theorem d321_20 : decode (mb 321) 20 = .ok (.invokespecial 306, 3) := by decide +kernel
theorem d321_23 : decode (mb 321) 23 = .ok (.invokevirtual 308, 3) := by decide +kernel
theorem d321_26 : decode (mb 321) 26 = .ok (.iconst 0, 1) := by decide +kernel
theorem d321_27 : decode (mb 321) 27 = .ok (.ireturn, 1) := by decide +kernel
theorem x321_0 {S : List Value} {h : HP} {l1 l2 : Value} {a0 : Nat} : pX 321 0 [.ref a0, l1, l2] S h = pX 321 1 [.ref a0, l1, l2] (.ref a0 :: S) h := pX_stp d321_0 rfl rfl rfl
theorem x321_1 {L S : List Value} {h : HP} {a : Nat} (hk : hp_k h a = 4) : pX 321 1 L (.ref a :: S) h = pX 321 4 L (.ref (hp_a h a 2) :: S) h := pX_get d321_1 rfl rfl hk
theorem x321_4 {L S : List Value} {h : HP} : pX 321 4 L S h = pX 321 5 L (.int 3 :: S) h := pX_iconst d321_4 (by decide)
theorem x321_5 {L : List Value} {h : HP} {x0 : Int32} {a0 : Nat} (hk : hp_k h a0 = 7) : pX 321 5 L [.int x0, .ref a0] h = (pX 603 0 [.ref a0, .int x0] [] h).bind (fun q => pX 321 8 L (q.1.toList ++ []) q.2) := pX_inv (a := a0) (t := 7) 603 [.ref a0, .int x0] [] d321_5 rfl rfl rfl hk
theorem x321_8 {L S : List Value} {h : HP} {x : Int32} : pX 321 8 L (.int x :: S) h = if x = 0 then pX 321 11 L S h else pX 321 14 L S h := pX_if_ne d321_8 (by decide)
theorem x321_11 {L S : List Value} {h : HP} : pX 321 11 L S h = pX 321 13 L (.int (-9) :: S) h := pX_bipush d321_11 (by decide)
theorem x321_13 {L : List Value} {h : HP} {x : Int32} : pX 321 13 L [.int x] h = some (some (.int x), h) := pX_ret d321_13 rfl
theorem x321_14 {S : List Value} {h : HP} {l0 l2 : Value} {a0 : Nat} : pX 321 14 [l0, .ref a0, l2] S h = pX 321 15 [l0, .ref a0, l2] (.ref a0 :: S) h := pX_stp d321_14 rfl rfl rfl
theorem x321_15 {L S : List Value} {h : HP} : pX 321 15 L S h = pX 321 18 L (.ref (hp_n h) :: S) (hp_mk h 1 0 4) := pX_new d321_15 rfl
theorem x321_18 {L S : List Value} {h : HP} {a0 : Nat} : pX 321 18 L (.ref a0 :: S) h = pX 321 19 L (.ref a0 :: .ref a0 :: S) h := pX_stp d321_18 rfl rfl rfl
theorem x321_19 {S : List Value} {h : HP} {l0 l1 : Value} {x0 : Int32} : pX 321 19 [l0, l1, .int x0] S h = pX 321 20 [l0, l1, .int x0] (.int x0 :: S) h := pX_stp d321_19 rfl rfl rfl
theorem x321_20 {L : List Value} {h : HP} {x0 : Int32} {a0 : Nat} {a1 : Nat} {a2 : Nat} (hk : hp_k h a0 = 1) : pX 321 20 L [.int x0, .ref a0, .ref a1, .ref a2] h = (pX 0 0 [.ref a0, .int x0] [] h).bind (fun q => pX 321 23 L (q.1.toList ++ [.ref a1, .ref a2]) q.2) := pX_inv (a := a0) (t := 1) 0 [.ref a0, .int x0] [.ref a1, .ref a2] d321_20 rfl rfl rfl hk
theorem x321_23 {L : List Value} {h : HP} {a0 : Nat} {a1 : Nat} (hk : hp_k h a1 = 9) : pX 321 23 L [.ref a0, .ref a1] h = (pX 803 0 [.ref a1, .ref a0] [] h).bind (fun q => pX 321 26 L (q.1.toList ++ []) q.2) := pX_inv (a := a1) (t := 9) 803 [.ref a1, .ref a0] [] d321_23 rfl rfl rfl hk
theorem x321_26 {L S : List Value} {h : HP} : pX 321 26 L S h = pX 321 27 L (.int 0 :: S) h := pX_iconst d321_26 (by decide)
theorem x321_27 {L : List Value} {h : HP} {x : Int32} : pX 321 27 L [.int x] h = some (some (.int x), h) := pX_ret d321_27 rfl
theorem d322_0 : decode (mb 322) 0 = .ok (.aload_n 0, 1) := by decide +kernel
theorem d322_1 : decode (mb 322) 1 = .ok (.getfield 312, 3) := by decide +kernel
theorem d322_4 : decode (mb 322) 4 = .ok (.astore_n 3, 1) := by decide +kernel
theorem d322_5 : decode (mb 322) 5 = .ok (.aload_n 3, 1) := by decide +kernel
theorem d322_6 : decode (mb 322) 6 = .ok (.ifnonnull 8, 3) := by decide +kernel
theorem d322_9 : decode (mb 322) 9 = .ok (.aload_n 0, 1) := by decide +kernel
theorem d322_10 : decode (mb 322) 10 = .ok (.invokevirtual 316, 3) := by decide +kernel
theorem d322_13 : decode (mb 322) 13 = .ok (.ireturn, 1) := by decide +kernel
theorem d322_14 : decode (mb 322) 14 = .ok (.aload_n 1, 1) := by decide +kernel
theorem d322_15 : decode (mb 322) 15 = .ok (.invokevirtual 283, 3) := by decide +kernel
theorem d322_18 : decode (mb 322) 18 = .ok (.istore 4, 2) := by decide +kernel
theorem d322_20 : decode (mb 322) 20 = .ok (.iload 4, 2) := by decide +kernel
theorem d322_22 : decode (mb 322) 22 = .ok (.ifCond .ne 10, 3) := by decide +kernel
theorem d322_25 : decode (mb 322) 25 = .ok (.aload_n 3, 1) := by decide +kernel
theorem d322_26 : decode (mb 322) 26 = .ok (.aload_n 2, 1) := by decide +kernel
theorem d322_27 : decode (mb 322) 27 = .ok (.invokevirtual 319, 3) := by decide +kernel
theorem d322_30 : decode (mb 322) 30 = .ok (.istore 4, 2) := by decide +kernel
theorem d322_32 : decode (mb 322) 32 = .ok (.iload 4, 2) := by decide +kernel
theorem d322_34 : decode (mb 322) 34 = .ok (.ifCond .eq 6, 3) := by decide +kernel
theorem d322_37 : decode (mb 322) 37 = .ok (.iload 4, 2) := by decide +kernel
theorem d322_39 : decode (mb 322) 39 = .ok (.ireturn, 1) := by decide +kernel
theorem d322_40 : decode (mb 322) 40 = .ok (.aload_n 3, 1) := by decide +kernel
theorem d322_41 : decode (mb 322) 41 = .ok (.aload_n 1, 1) := by decide +kernel
theorem d322_42 : decode (mb 322) 42 = .ok (.getfield 289, 3) := by decide +kernel
theorem d322_45 : decode (mb 322) 45 = .ok (.invokevirtual 322, 3) := by decide +kernel
theorem d322_48 : decode (mb 322) 48 = .ok (.ifCond .eq 5, 3) := by decide +kernel
theorem d322_51 : decode (mb 322) 51 = .ok (.iconst 2, 1) := by decide +kernel
theorem d322_52 : decode (mb 322) 52 = .ok (.ireturn, 1) := by decide +kernel
theorem d322_53 : decode (mb 322) 53 = .ok (.aload_n 3, 1) := by decide +kernel
theorem d322_54 : decode (mb 322) 54 = .ok (.aload_n 2, 1) := by decide +kernel
theorem d322_55 : decode (mb 322) 55 = .ok (.aload_n 1, 1) := by decide +kernel
theorem d322_56 : decode (mb 322) 56 = .ok (.getfield 289, 3) := by decide +kernel
theorem d322_59 : decode (mb 322) 59 = .ok (.invokevirtual 325, 3) := by decide +kernel
theorem d322_62 : decode (mb 322) 62 = .ok (.iconst 0, 1) := by decide +kernel
theorem d322_63 : decode (mb 322) 63 = .ok (.ireturn, 1) := by decide +kernel
theorem x322_0 {S : List Value} {h : HP} {l1 l2 l3 l4 : Value} {a0 : Nat} : pX 322 0 [.ref a0, l1, l2, l3, l4] S h = pX 322 1 [.ref a0, l1, l2, l3, l4] (.ref a0 :: S) h := pX_stp d322_0 rfl rfl rfl
theorem x322_1 {L S : List Value} {h : HP} {a : Nat} (hk : hp_k h a = 9) : pX 322 1 L (.ref a :: S) h = pX 322 4 L (.ref (hp_a h a 3) :: S) h := pX_get d322_1 rfl rfl hk
theorem x322_4 {S : List Value} {h : HP} {l0 l1 l2 l3 l4 : Value} {a0 : Nat} : pX 322 4 [l0, l1, l2, l3, l4] (.ref a0 :: S) h = pX 322 5 [l0, l1, l2, .ref a0, l4] S h := pX_stp d322_4 rfl rfl rfl
theorem x322_5 {S : List Value} {h : HP} {l0 l1 l2 l4 : Value} {a0 : Nat} : pX 322 5 [l0, l1, l2, .ref a0, l4] S h = pX 322 6 [l0, l1, l2, .ref a0, l4] (.ref a0 :: S) h := pX_stp d322_5 rfl rfl rfl
theorem x322_6 {L S : List Value} {h : HP} {a : Nat} : pX 322 6 L (.ref a :: S) h = if a = 0 then pX 322 9 L S h else pX 322 14 L S h := pX_ifnonnull d322_6 (by decide)
theorem x322_9 {S : List Value} {h : HP} {l1 l2 l3 l4 : Value} {a0 : Nat} : pX 322 9 [.ref a0, l1, l2, l3, l4] S h = pX 322 10 [.ref a0, l1, l2, l3, l4] (.ref a0 :: S) h := pX_stp d322_9 rfl rfl rfl
theorem x322_10 {L : List Value} {h : HP} {a0 : Nat} (hk : hp_k h a0 = 9) : pX 322 10 L [.ref a0] h = (pX 810 0 [.ref a0] [] h).bind (fun q => pX 322 13 L (q.1.toList ++ []) q.2) := pX_inv (a := a0) (t := 9) 810 [.ref a0] [] d322_10 rfl rfl rfl hk
theorem x322_13 {L : List Value} {h : HP} {x : Int32} : pX 322 13 L [.int x] h = some (some (.int x), h) := pX_ret d322_13 rfl
theorem x322_14 {S : List Value} {h : HP} {l0 l2 l3 l4 : Value} {a0 : Nat} : pX 322 14 [l0, .ref a0, l2, l3, l4] S h = pX 322 15 [l0, .ref a0, l2, l3, l4] (.ref a0 :: S) h := pX_stp d322_14 rfl rfl rfl
theorem x322_15 {L : List Value} {h : HP} {a0 : Nat} (hk : hp_k h a0 = 9) : pX 322 15 L [.ref a0] h = (pX 811 0 [.ref a0] [] h).bind (fun q => pX 322 18 L (q.1.toList ++ []) q.2) := pX_inv (a := a0) (t := 9) 811 [.ref a0] [] d322_15 rfl rfl rfl hk
theorem x322_18 {S : List Value} {h : HP} {l0 l1 l2 l3 l4 : Value} {x0 : Int32} : pX 322 18 [l0, l1, l2, l3, l4] (.int x0 :: S) h = pX 322 20 [l0, l1, l2, l3, .int x0] S h := pX_stp d322_18 rfl rfl rfl
theorem x322_20 {S : List Value} {h : HP} {l0 l1 l2 l3 : Value} {x0 : Int32} : pX 322 20 [l0, l1, l2, l3, .int x0] S h = pX 322 22 [l0, l1, l2, l3, .int x0] (.int x0 :: S) h := pX_stp d322_20 rfl rfl rfl
theorem x322_22 {L S : List Value} {h : HP} {x : Int32} : pX 322 22 L (.int x :: S) h = if x = 0 then pX 322 25 L S h else pX 322 32 L S h := pX_if_ne d322_22 (by decide)
theorem x322_25 {S : List Value} {h : HP} {l0 l1 l2 l4 : Value} {a0 : Nat} : pX 322 25 [l0, l1, l2, .ref a0, l4] S h = pX 322 26 [l0, l1, l2, .ref a0, l4] (.ref a0 :: S) h := pX_stp d322_25 rfl rfl rfl
theorem x322_26 {S : List Value} {h : HP} {l0 l1 l3 l4 : Value} {a0 : Nat} : pX 322 26 [l0, l1, .ref a0, l3, l4] S h = pX 322 27 [l0, l1, .ref a0, l3, l4] (.ref a0 :: S) h := pX_stp d322_26 rfl rfl rfl
theorem x322_27 {L : List Value} {h : HP} {a0 : Nat} {a1 : Nat} (hk : hp_k h a1 = 8) : pX 322 27 L [.ref a0, .ref a1] h = (pX 703 0 [.ref a1, .ref a0] [] h).bind (fun q => pX 322 30 L (q.1.toList ++ []) q.2) := pX_inv (a := a1) (t := 8) 703 [.ref a1, .ref a0] [] d322_27 rfl rfl rfl hk
theorem x322_30 {S : List Value} {h : HP} {l0 l1 l2 l3 l4 : Value} {x0 : Int32} : pX 322 30 [l0, l1, l2, l3, l4] (.int x0 :: S) h = pX 322 32 [l0, l1, l2, l3, .int x0] S h := pX_stp d322_30 rfl rfl rfl
theorem x322_32 {S : List Value} {h : HP} {l0 l1 l2 l3 : Value} {x0 : Int32} : pX 322 32 [l0, l1, l2, l3, .int x0] S h = pX 322 34 [l0, l1, l2, l3, .int x0] (.int x0 :: S) h := pX_stp d322_32 rfl rfl rfl
theorem x322_34 {L S : List Value} {h : HP} {x : Int32} : pX 322 34 L (.int x :: S) h = if x = 0 then pX 322 40 L S h else pX 322 37 L S h := pX_if_eq d322_34 (by decide)
theorem x322_37 {S : List Value} {h : HP} {l0 l1 l2 l3 : Value} {x0 : Int32} : pX 322 37 [l0, l1, l2, l3, .int x0] S h = pX 322 39 [l0, l1, l2, l3, .int x0] (.int x0 :: S) h := pX_stp d322_37 rfl rfl rfl
theorem x322_39 {L : List Value} {h : HP} {x : Int32} : pX 322 39 L [.int x] h = some (some (.int x), h) := pX_ret d322_39 rfl
theorem x322_40 {S : List Value} {h : HP} {l0 l1 l2 l4 : Value} {a0 : Nat} : pX 322 40 [l0, l1, l2, .ref a0, l4] S h = pX 322 41 [l0, l1, l2, .ref a0, l4] (.ref a0 :: S) h := pX_stp d322_40 rfl rfl rfl
theorem x322_41 {S : List Value} {h : HP} {l0 l2 l3 l4 : Value} {a0 : Nat} : pX 322 41 [l0, .ref a0, l2, l3, l4] S h = pX 322 42 [l0, .ref a0, l2, l3, l4] (.ref a0 :: S) h := pX_stp d322_41 rfl rfl rfl
theorem x322_42 {L S : List Value} {h : HP} {a : Nat} (hk : hp_k h a = 9) : pX 322 42 L (.ref a :: S) h = pX 322 45 L (.int (hp_i h a 1) :: S) h := pX_get d322_42 rfl rfl hk
theorem x322_45 {L : List Value} {h : HP} {x0 : Int32} {a0 : Nat} (hk : hp_k h a0 = 8) : pX 322 45 L [.int x0, .ref a0] h = (pX 701 0 [.ref a0, .int x0] [] h).bind (fun q => pX 322 48 L (q.1.toList ++ []) q.2) := pX_inv (a := a0) (t := 8) 701 [.ref a0, .int x0] [] d322_45 rfl rfl rfl hk
theorem x322_48 {L S : List Value} {h : HP} {x : Int32} : pX 322 48 L (.int x :: S) h = if x = 0 then pX 322 53 L S h else pX 322 51 L S h := pX_if_eq d322_48 (by decide)
theorem x322_51 {L S : List Value} {h : HP} : pX 322 51 L S h = pX 322 52 L (.int 2 :: S) h := pX_iconst d322_51 (by decide)
theorem x322_52 {L : List Value} {h : HP} {x : Int32} : pX 322 52 L [.int x] h = some (some (.int x), h) := pX_ret d322_52 rfl
theorem x322_53 {S : List Value} {h : HP} {l0 l1 l2 l4 : Value} {a0 : Nat} : pX 322 53 [l0, l1, l2, .ref a0, l4] S h = pX 322 54 [l0, l1, l2, .ref a0, l4] (.ref a0 :: S) h := pX_stp d322_53 rfl rfl rfl
theorem x322_54 {S : List Value} {h : HP} {l0 l1 l3 l4 : Value} {a0 : Nat} : pX 322 54 [l0, l1, .ref a0, l3, l4] S h = pX 322 55 [l0, l1, .ref a0, l3, l4] (.ref a0 :: S) h := pX_stp d322_54 rfl rfl rfl
theorem x322_55 {S : List Value} {h : HP} {l0 l2 l3 l4 : Value} {a0 : Nat} : pX 322 55 [l0, .ref a0, l2, l3, l4] S h = pX 322 56 [l0, .ref a0, l2, l3, l4] (.ref a0 :: S) h := pX_stp d322_55 rfl rfl rfl
theorem x322_56 {L S : List Value} {h : HP} {a : Nat} (hk : hp_k h a = 9) : pX 322 56 L (.ref a :: S) h = pX 322 59 L (.int (hp_i h a 1) :: S) h := pX_get d322_56 rfl rfl hk
theorem x322_59 {L : List Value} {h : HP} {x0 : Int32} {a0 : Nat} {a1 : Nat} (hk : hp_k h a1 = 8) : pX 322 59 L [.int x0, .ref a0, .ref a1] h = (pX 704 0 [.ref a1, .ref a0, .int x0] [] h).bind (fun q => pX 322 62 L (q.1.toList ++ []) q.2) := pX_inv (a := a1) (t := 8) 704 [.ref a1, .ref a0, .int x0] [] d322_59 rfl rfl rfl hk
theorem x322_62 {L S : List Value} {h : HP} : pX 322 62 L S h = pX 322 63 L (.int 0 :: S) h := pX_iconst d322_62 (by decide)
theorem x322_63 {L : List Value} {h : HP} {x : Int32} : pX 322 63 L [.int x] h = some (some (.int x), h) := pX_ret d322_63 rfl
theorem d323_0 : decode (mb 323) 0 = .ok (.aload_n 1, 1) := by decide +kernel
theorem d323_1 : decode (mb 323) 1 = .ok (.getfield 312, 3) := by decide +kernel
theorem d323_4 : decode (mb 323) 4 = .ok (.astore_n 3, 1) := by decide +kernel
theorem d323_5 : decode (mb 323) 5 = .ok (.aload_n 3, 1) := by decide +kernel
theorem d323_6 : decode (mb 323) 6 = .ok (.ifnonnull 8, 3) := by decide +kernel
theorem d323_9 : decode (mb 323) 9 = .ok (.aload_n 1, 1) := by decide +kernel
theorem d323_10 : decode (mb 323) 10 = .ok (.invokevirtual 316, 3) := by decide +kernel
theorem d323_13 : decode (mb 323) 13 = .ok (.ireturn, 1) := by decide +kernel
theorem d323_14 : decode (mb 323) 14 = .ok (.aload_n 2, 1) := by decide +kernel
theorem d323_15 : decode (mb 323) 15 = .ok (.invokevirtual 283, 3) := by decide +kernel
theorem d323_18 : decode (mb 323) 18 = .ok (.istore 4, 2) := by decide +kernel
theorem d323_20 : decode (mb 323) 20 = .ok (.iload 4, 2) := by decide +kernel
theorem d323_22 : decode (mb 323) 22 = .ok (.ifCond .eq 6, 3) := by decide +kernel
theorem d323_25 : decode (mb 323) 25 = .ok (.iload 4, 2) := by decide +kernel
theorem d323_27 : decode (mb 323) 27 = .ok (.ireturn, 1) := by decide +kernel
theorem d323_28 : decode (mb 323) 28 = .ok (.aload_n 3, 1) := by decide +kernel
theorem d323_29 : decode (mb 323) 29 = .ok (.aload_n 2, 1) := by decide +kernel
theorem d323_30 : decode (mb 323) 30 = .ok (.getfield 289, 3) := by decide +kernel
theorem d323_33 : decode (mb 323) 33 = .ok (.invokevirtual 322, 3) := by decide +kernel
theorem d323_36 : decode (mb 323) 36 = .ok (.ifCond .eq 5, 3) := by decide +kernel
theorem d323_39 : decode (mb 323) 39 = .ok (.iconst 2, 1) := by decide +kernel
theorem d323_40 : decode (mb 323) 40 = .ok (.ireturn, 1) := by decide +kernel
theorem d323_41 : decode (mb 323) 41 = .ok (.aload_n 3, 1) := by decide +kernel
theorem d323_42 : decode (mb 323) 42 = .ok (.aload_n 0, 1) := by decide +kernel
theorem d323_43 : decode (mb 323) 43 = .ok (.aload_n 2, 1) := by decide +kernel
theorem d323_44 : decode (mb 323) 44 = .ok (.getfield 289, 3) := by decide +kernel
theorem d323_47 : decode (mb 323) 47 = .ok (.invokevirtual 329, 3) := by decide +kernel
theorem d323_50 : decode (mb 323) 50 = .ok (.iconst 0, 1) := by decide +kernel
theorem d323_51 : decode (mb 323) 51 = .ok (.ireturn, 1) := by decide +kernel
theorem x323_0 {S : List Value} {h : HP} {l0 l2 l3 l4 : Value} {a0 : Nat} : pX 323 0 [l0, .ref a0, l2, l3, l4] S h = pX 323 1 [l0, .ref a0, l2, l3, l4] (.ref a0 :: S) h := pX_stp d323_0 rfl rfl rfl
theorem x323_1 {L S : List Value} {h : HP} {a : Nat} (hk : hp_k h a = 9) : pX 323 1 L (.ref a :: S) h = pX 323 4 L (.ref (hp_a h a 3) :: S) h := pX_get d323_1 rfl rfl hk
theorem x323_4 {S : List Value} {h : HP} {l0 l1 l2 l3 l4 : Value} {a0 : Nat} : pX 323 4 [l0, l1, l2, l3, l4] (.ref a0 :: S) h = pX 323 5 [l0, l1, l2, .ref a0, l4] S h := pX_stp d323_4 rfl rfl rfl
theorem x323_5 {S : List Value} {h : HP} {l0 l1 l2 l4 : Value} {a0 : Nat} : pX 323 5 [l0, l1, l2, .ref a0, l4] S h = pX 323 6 [l0, l1, l2, .ref a0, l4] (.ref a0 :: S) h := pX_stp d323_5 rfl rfl rfl
theorem x323_6 {L S : List Value} {h : HP} {a : Nat} : pX 323 6 L (.ref a :: S) h = if a = 0 then pX 323 9 L S h else pX 323 14 L S h := pX_ifnonnull d323_6 (by decide)
theorem x323_9 {S : List Value} {h : HP} {l0 l2 l3 l4 : Value} {a0 : Nat} : pX 323 9 [l0, .ref a0, l2, l3, l4] S h = pX 323 10 [l0, .ref a0, l2, l3, l4] (.ref a0 :: S) h := pX_stp d323_9 rfl rfl rfl
theorem x323_10 {L : List Value} {h : HP} {a0 : Nat} (hk : hp_k h a0 = 9) : pX 323 10 L [.ref a0] h = (pX 810 0 [.ref a0] [] h).bind (fun q => pX 323 13 L (q.1.toList ++ []) q.2) := pX_inv (a := a0) (t := 9) 810 [.ref a0] [] d323_10 rfl rfl rfl hk
theorem x323_13 {L : List Value} {h : HP} {x : Int32} : pX 323 13 L [.int x] h = some (some (.int x), h) := pX_ret d323_13 rfl
theorem x323_14 {S : List Value} {h : HP} {l0 l1 l3 l4 : Value} {a0 : Nat} : pX 323 14 [l0, l1, .ref a0, l3, l4] S h = pX 323 15 [l0, l1, .ref a0, l3, l4] (.ref a0 :: S) h := pX_stp d323_14 rfl rfl rfl
theorem x323_15 {L : List Value} {h : HP} {a0 : Nat} (hk : hp_k h a0 = 9) : pX 323 15 L [.ref a0] h = (pX 811 0 [.ref a0] [] h).bind (fun q => pX 323 18 L (q.1.toList ++ []) q.2) := pX_inv (a := a0) (t := 9) 811 [.ref a0] [] d323_15 rfl rfl rfl hk
theorem x323_18 {S : List Value} {h : HP} {l0 l1 l2 l3 l4 : Value} {x0 : Int32} : pX 323 18 [l0, l1, l2, l3, l4] (.int x0 :: S) h = pX 323 20 [l0, l1, l2, l3, .int x0] S h := pX_stp d323_18 rfl rfl rfl
theorem x323_20 {S : List Value} {h : HP} {l0 l1 l2 l3 : Value} {x0 : Int32} : pX 323 20 [l0, l1, l2, l3, .int x0] S h = pX 323 22 [l0, l1, l2, l3, .int x0] (.int x0 :: S) h := pX_stp d323_20 rfl rfl rfl
theorem x323_22 {L S : List Value} {h : HP} {x : Int32} : pX 323 22 L (.int x :: S) h = if x = 0 then pX 323 28 L S h else pX 323 25 L S h := pX_if_eq d323_22 (by decide)
theorem x323_25 {S : List Value} {h : HP} {l0 l1 l2 l3 : Value} {x0 : Int32} : pX 323 25 [l0, l1, l2, l3, .int x0] S h = pX 323 27 [l0, l1, l2, l3, .int x0] (.int x0 :: S) h := pX_stp d323_25 rfl rfl rfl
theorem x323_27 {L : List Value} {h : HP} {x : Int32} : pX 323 27 L [.int x] h = some (some (.int x), h) := pX_ret d323_27 rfl
theorem x323_28 {S : List Value} {h : HP} {l0 l1 l2 l4 : Value} {a0 : Nat} : pX 323 28 [l0, l1, l2, .ref a0, l4] S h = pX 323 29 [l0, l1, l2, .ref a0, l4] (.ref a0 :: S) h := pX_stp d323_28 rfl rfl rfl
theorem x323_29 {S : List Value} {h : HP} {l0 l1 l3 l4 : Value} {a0 : Nat} : pX 323 29 [l0, l1, .ref a0, l3, l4] S h = pX 323 30 [l0, l1, .ref a0, l3, l4] (.ref a0 :: S) h := pX_stp d323_29 rfl rfl rfl
theorem x323_30 {L S : List Value} {h : HP} {a : Nat} (hk : hp_k h a = 9) : pX 323 30 L (.ref a :: S) h = pX 323 33 L (.int (hp_i h a 1) :: S) h := pX_get d323_30 rfl rfl hk
theorem x323_33 {L : List Value} {h : HP} {x0 : Int32} {a0 : Nat} (hk : hp_k h a0 = 8) : pX 323 33 L [.int x0, .ref a0] h = (pX 701 0 [.ref a0, .int x0] [] h).bind (fun q => pX 323 36 L (q.1.toList ++ []) q.2) := pX_inv (a := a0) (t := 8) 701 [.ref a0, .int x0] [] d323_33 rfl rfl rfl hk
theorem x323_36 {L S : List Value} {h : HP} {x : Int32} : pX 323 36 L (.int x :: S) h = if x = 0 then pX 323 41 L S h else pX 323 39 L S h := pX_if_eq d323_36 (by decide)
theorem x323_39 {L S : List Value} {h : HP} : pX 323 39 L S h = pX 323 40 L (.int 2 :: S) h := pX_iconst d323_39 (by decide)
theorem x323_40 {L : List Value} {h : HP} {x : Int32} : pX 323 40 L [.int x] h = some (some (.int x), h) := pX_ret d323_40 rfl
theorem x323_41 {S : List Value} {h : HP} {l0 l1 l2 l4 : Value} {a0 : Nat} : pX 323 41 [l0, l1, l2, .ref a0, l4] S h = pX 323 42 [l0, l1, l2, .ref a0, l4] (.ref a0 :: S) h := pX_stp d323_41 rfl rfl rfl
theorem x323_42 {S : List Value} {h : HP} {l1 l2 l3 l4 : Value} {a0 : Nat} : pX 323 42 [.ref a0, l1, l2, l3, l4] S h = pX 323 43 [.ref a0, l1, l2, l3, l4] (.ref a0 :: S) h := pX_stp d323_42 rfl rfl rfl
theorem x323_43 {S : List Value} {h : HP} {l0 l1 l3 l4 : Value} {a0 : Nat} : pX 323 43 [l0, l1, .ref a0, l3, l4] S h = pX 323 44 [l0, l1, .ref a0, l3, l4] (.ref a0 :: S) h := pX_stp d323_43 rfl rfl rfl
theorem x323_44 {L S : List Value} {h : HP} {a : Nat} (hk : hp_k h a = 9) : pX 323 44 L (.ref a :: S) h = pX 323 47 L (.int (hp_i h a 1) :: S) h := pX_get d323_44 rfl rfl hk
theorem x323_47 {L : List Value} {h : HP} {x0 : Int32} {a0 : Nat} {a1 : Nat} (hk : hp_k h a1 = 8) : pX 323 47 L [.int x0, .ref a0, .ref a1] h = (pX 705 0 [.ref a1, .ref a0, .int x0] [] h).bind (fun q => pX 323 50 L (q.1.toList ++ []) q.2) := pX_inv (a := a1) (t := 8) 705 [.ref a1, .ref a0, .int x0] [] d323_47 rfl rfl rfl hk
theorem x323_50 {L S : List Value} {h : HP} : pX 323 50 L S h = pX 323 51 L (.int 0 :: S) h := pX_iconst d323_50 (by decide)
theorem x323_51 {L : List Value} {h : HP} {x : Int32} : pX 323 51 L [.int x] h = some (some (.int x), h) := pX_ret d323_51 rfl
theorem d324_0 : decode (mb 324) 0 = .ok (.aload_n 1, 1) := by decide +kernel
theorem d324_1 : decode (mb 324) 1 = .ok (.getfield 312, 3) := by decide +kernel
theorem d324_4 : decode (mb 324) 4 = .ok (.astore_n 2, 1) := by decide +kernel
theorem d324_5 : decode (mb 324) 5 = .ok (.aload_n 2, 1) := by decide +kernel
theorem d324_6 : decode (mb 324) 6 = .ok (.ifnonnull 8, 3) := by decide +kernel
theorem d324_9 : decode (mb 324) 9 = .ok (.aload_n 1, 1) := by decide +kernel
theorem d324_10 : decode (mb 324) 10 = .ok (.invokevirtual 316, 3) := by decide +kernel
theorem d324_13 : decode (mb 324) 13 = .ok (.ireturn, 1) := by decide +kernel
theorem d324_14 : decode (mb 324) 14 = .ok (.aload_n 0, 1) := by decide +kernel
theorem d324_15 : decode (mb 324) 15 = .ok (.aload_n 2, 1) := by decide +kernel
theorem d324_16 : decode (mb 324) 16 = .ok (.getfield 332, 3) := by decide +kernel
theorem d324_19 : decode (mb 324) 19 = .ok (.invokevirtual 184, 3) := by decide +kernel
theorem d324_22 : decode (mb 324) 22 = .ok (.iconst 0, 1) := by decide +kernel
theorem d324_23 : decode (mb 324) 23 = .ok (.ireturn, 1) := by decide +kernel
theorem x324_0 {S : List Value} {h : HP} {l0 l2 : Value} {a0 : Nat} : pX 324 0 [l0, .ref a0, l2] S h = pX 324 1 [l0, .ref a0, l2] (.ref a0 :: S) h := pX_stp d324_0 rfl rfl rfl
theorem x324_1 {L S : List Value} {h : HP} {a : Nat} (hk : hp_k h a = 9) : pX 324 1 L (.ref a :: S) h = pX 324 4 L (.ref (hp_a h a 3) :: S) h := pX_get d324_1 rfl rfl hk
theorem x324_4 {S : List Value} {h : HP} {l0 l1 l2 : Value} {a0 : Nat} : pX 324 4 [l0, l1, l2] (.ref a0 :: S) h = pX 324 5 [l0, l1, .ref a0] S h := pX_stp d324_4 rfl rfl rfl
theorem x324_5 {S : List Value} {h : HP} {l0 l1 : Value} {a0 : Nat} : pX 324 5 [l0, l1, .ref a0] S h = pX 324 6 [l0, l1, .ref a0] (.ref a0 :: S) h := pX_stp d324_5 rfl rfl rfl
theorem x324_6 {L S : List Value} {h : HP} {a : Nat} : pX 324 6 L (.ref a :: S) h = if a = 0 then pX 324 9 L S h else pX 324 14 L S h := pX_ifnonnull d324_6 (by decide)
theorem x324_9 {S : List Value} {h : HP} {l0 l2 : Value} {a0 : Nat} : pX 324 9 [l0, .ref a0, l2] S h = pX 324 10 [l0, .ref a0, l2] (.ref a0 :: S) h := pX_stp d324_9 rfl rfl rfl
theorem x324_10 {L : List Value} {h : HP} {a0 : Nat} (hk : hp_k h a0 = 9) : pX 324 10 L [.ref a0] h = (pX 810 0 [.ref a0] [] h).bind (fun q => pX 324 13 L (q.1.toList ++ []) q.2) := pX_inv (a := a0) (t := 9) 810 [.ref a0] [] d324_10 rfl rfl rfl hk
theorem x324_13 {L : List Value} {h : HP} {x : Int32} : pX 324 13 L [.int x] h = some (some (.int x), h) := pX_ret d324_13 rfl
theorem x324_14 {S : List Value} {h : HP} {l1 l2 : Value} {a0 : Nat} : pX 324 14 [.ref a0, l1, l2] S h = pX 324 15 [.ref a0, l1, l2] (.ref a0 :: S) h := pX_stp d324_14 rfl rfl rfl
theorem x324_15 {S : List Value} {h : HP} {l0 l1 : Value} {a0 : Nat} : pX 324 15 [l0, l1, .ref a0] S h = pX 324 16 [l0, l1, .ref a0] (.ref a0 :: S) h := pX_stp d324_15 rfl rfl rfl
theorem x324_16 {L S : List Value} {h : HP} {a : Nat} (hk : hp_k h a = 8) : pX 324 16 L (.ref a :: S) h = pX 324 19 L (.int (hp_i h a 1) :: S) h := pX_get d324_16 rfl rfl hk
theorem x324_19 {L : List Value} {h : HP} {x0 : Int32} {a0 : Nat} (hk : hp_k h a0 = 9) : pX 324 19 L [.int x0, .ref a0] h = (pX 802 0 [.ref a0, .int x0] [] h).bind (fun q => pX 324 22 L (q.1.toList ++ []) q.2) := pX_inv (a := a0) (t := 9) 802 [.ref a0, .int x0] [] d324_19 rfl rfl rfl hk
theorem x324_22 {L S : List Value} {h : HP} : pX 324 22 L S h = pX 324 23 L (.int 0 :: S) h := pX_iconst d324_22 (by decide)
theorem x324_23 {L : List Value} {h : HP} {x : Int32} : pX 324 23 L [.int x] h = some (some (.int x), h) := pX_ret d324_23 rfl
theorem d325_0 : decode (mb 325) 0 = .ok (.aload_n 1, 1) := by decide +kernel
theorem d325_1 : decode (mb 325) 1 = .ok (.getfield 335, 3) := by decide +kernel
theorem d325_4 : decode (mb 325) 4 = .ok (.astore_n 3, 1) := by decide +kernel
theorem d325_5 : decode (mb 325) 5 = .ok (.aload_n 3, 1) := by decide +kernel
theorem d325_6 : decode (mb 325) 6 = .ok (.ifnonnull 8, 3) := by decide +kernel
theorem d325_9 : decode (mb 325) 9 = .ok (.aload_n 1, 1) := by decide +kernel
theorem d325_10 : decode (mb 325) 10 = .ok (.invokevirtual 316, 3) := by decide +kernel
theorem d325_13 : decode (mb 325) 13 = .ok (.ireturn, 1) := by decide +kernel
theorem d325_14 : decode (mb 325) 14 = .ok (.iload_n 2, 1) := by decide +kernel
theorem d325_15 : decode (mb 325) 15 = .ok (.tableswitch 55 0 2 #[25, 36, 47], 25) := by decide +kernel
theorem d325_40 : decode (mb 325) 40 = .ok (.aload_n 0, 1) := by decide +kernel
theorem d325_41 : decode (mb 325) 41 = .ok (.aload_n 3, 1) := by decide +kernel
theorem d325_42 : decode (mb 325) 42 = .ok (.getfield 339, 3) := by decide +kernel
theorem d325_45 : decode (mb 325) 45 = .ok (.invokevirtual 184, 3) := by decide +kernel
theorem d325_48 : decode (mb 325) 48 = .ok (.goto 30, 3) := by decide +kernel
theorem d325_51 : decode (mb 325) 51 = .ok (.aload_n 0, 1) := by decide +kernel
theorem d325_52 : decode (mb 325) 52 = .ok (.aload_n 3, 1) := by decide +kernel
theorem d325_53 : decode (mb 325) 53 = .ok (.getfield 342, 3) := by decide +kernel
theorem d325_56 : decode (mb 325) 56 = .ok (.invokevirtual 157, 3) := by decide +kernel
theorem d325_59 : decode (mb 325) 59 = .ok (.goto 19, 3) := by decide +kernel
theorem d325_62 : decode (mb 325) 62 = .ok (.aload_n 0, 1) := by decide +kernel
theorem d325_63 : decode (mb 325) 63 = .ok (.iconst 1, 1) := by decide +kernel
theorem d325_64 : decode (mb 325) 64 = .ok (.invokevirtual 184, 3) := by decide +kernel
theorem d325_67 : decode (mb 325) 67 = .ok (.goto 11, 3) := by decide +kernel
theorem d325_70 : decode (mb 325) 70 = .ok (.aload_n 0, 1) := by decide +kernel
theorem d325_71 : decode (mb 325) 71 = .ok (.aload_n 3, 1) := by decide +kernel
theorem d325_72 : decode (mb 325) 72 = .ok (.invokevirtual 345, 3) := by decide +kernel
theorem d325_75 : decode (mb 325) 75 = .ok (.invokevirtual 184, 3) := by decide +kernel
theorem d325_78 : decode (mb 325) 78 = .ok (.iconst 0, 1) := by decide +kernel
theorem d325_79 : decode (mb 325) 79 = .ok (.ireturn, 1) := by decide +kernel
theorem x325_0 {S : List Value} {h : HP} {l0 l2 l3 : Value} {a0 : Nat} : pX 325 0 [l0, .ref a0, l2, l3] S h = pX 325 1 [l0, .ref a0, l2, l3] (.ref a0 :: S) h := pX_stp d325_0 rfl rfl rfl
theorem x325_1 {L S : List Value} {h : HP} {a : Nat} (hk : hp_k h a = 9) : pX 325 1 L (.ref a :: S) h = pX 325 4 L (.ref (hp_a h a 2) :: S) h := pX_get d325_1 rfl rfl hk
theorem x325_4 {S : List Value} {h : HP} {l0 l1 l2 l3 : Value} {a0 : Nat} : pX 325 4 [l0, l1, l2, l3] (.ref a0 :: S) h = pX 325 5 [l0, l1, l2, .ref a0] S h := pX_stp d325_4 rfl rfl rfl
theorem x325_5 {S : List Value} {h : HP} {l0 l1 l2 : Value} {a0 : Nat} : pX 325 5 [l0, l1, l2, .ref a0] S h = pX 325 6 [l0, l1, l2, .ref a0] (.ref a0 :: S) h := pX_stp d325_5 rfl rfl rfl
theorem x325_6 {L S : List Value} {h : HP} {a : Nat} : pX 325 6 L (.ref a :: S) h = if a = 0 then pX 325 9 L S h else pX 325 14 L S h := pX_ifnonnull d325_6 (by decide)
theorem x325_9 {S : List Value} {h : HP} {l0 l2 l3 : Value} {a0 : Nat} : pX 325 9 [l0, .ref a0, l2, l3] S h = pX 325 10 [l0, .ref a0, l2, l3] (.ref a0 :: S) h := pX_stp d325_9 rfl rfl rfl
theorem x325_10 {L : List Value} {h : HP} {a0 : Nat} (hk : hp_k h a0 = 9) : pX 325 10 L [.ref a0] h = (pX 810 0 [.ref a0] [] h).bind (fun q => pX 325 13 L (q.1.toList ++ []) q.2) := pX_inv (a := a0) (t := 9) 810 [.ref a0] [] d325_10 rfl rfl rfl hk
theorem x325_13 {L : List Value} {h : HP} {x : Int32} : pX 325 13 L [.int x] h = some (some (.int x), h) := pX_ret d325_13 rfl
theorem x325_14 {S : List Value} {h : HP} {l0 l1 l3 : Value} {x0 : Int32} : pX 325 14 [l0, l1, .int x0, l3] S h = pX 325 15 [l0, l1, .int x0, l3] (.int x0 :: S) h := pX_stp d325_14 rfl rfl rfl
theorem x325_15_0 {L S : List Value} {h : HP} : pX 325 15 L (.int 0 :: S) h = pX 325 40 L S h := pX_tabIn (off := 25) d325_15 (by decide) (by decide) (by decide) (by decide)
theorem x325_15_1 {L S : List Value} {h : HP} : pX 325 15 L (.int 1 :: S) h = pX 325 51 L S h := pX_tabIn (off := 36) d325_15 (by decide) (by decide) (by decide) (by decide)
theorem x325_15_2 {L S : List Value} {h : HP} : pX 325 15 L (.int 2 :: S) h = pX 325 62 L S h := pX_tabIn (off := 47) d325_15 (by decide) (by decide) (by decide) (by decide)
theorem x325_15_d {L S : List Value} {h : HP} {x : Int32} (hx : x.toInt < 0 ∨ 2 < x.toInt) : pX 325 15 L (.int x :: S) h = pX 325 70 L S h := pX_tabOut d325_15 hx (by decide)
theorem x325_40 {S : List Value} {h : HP} {l1 l2 l3 : Value} {a0 : Nat} : pX 325 40 [.ref a0, l1, l2, l3] S h = pX 325 41 [.ref a0, l1, l2, l3] (.ref a0 :: S) h := pX_stp d325_40 rfl rfl rfl
theorem x325_41 {S : List Value} {h : HP} {l0 l1 l2 : Value} {a0 : Nat} : pX 325 41 [l0, l1, l2, .ref a0] S h = pX 325 42 [l0, l1, l2, .ref a0] (.ref a0 :: S) h := pX_stp d325_41 rfl rfl rfl
theorem x325_42 {L S : List Value} {h : HP} {a : Nat} (hk : hp_k h a = 1) : pX 325 42 L (.ref a :: S) h = pX 325 45 L (.int (hp_i h a 2) :: S) h := pX_get d325_42 rfl rfl hk
theorem x325_45 {L : List Value} {h : HP} {x0 : Int32} {a0 : Nat} (hk : hp_k h a0 = 9) : pX 325 45 L [.int x0, .ref a0] h = (pX 802 0 [.ref a0, .int x0] [] h).bind (fun q => pX 325 48 L (q.1.toList ++ []) q.2) := pX_inv (a := a0) (t := 9) 802 [.ref a0, .int x0] [] d325_45 rfl rfl rfl hk
theorem x325_48 {L S : List Value} {h : HP} : pX 325 48 L S h = pX 325 78 L S h := pX_goto d325_48 (by decide)
theorem x325_51 {S : List Value} {h : HP} {l1 l2 l3 : Value} {a0 : Nat} : pX 325 51 [.ref a0, l1, l2, l3] S h = pX 325 52 [.ref a0, l1, l2, l3] (.ref a0 :: S) h := pX_stp d325_51 rfl rfl rfl
theorem x325_52 {S : List Value} {h : HP} {l0 l1 l2 : Value} {a0 : Nat} : pX 325 52 [l0, l1, l2, .ref a0] S h = pX 325 53 [l0, l1, l2, .ref a0] (.ref a0 :: S) h := pX_stp d325_52 rfl rfl rfl
theorem x325_53 {L S : List Value} {h : HP} {a : Nat} (hk : hp_k h a = 1) : pX 325 53 L (.ref a :: S) h = pX 325 56 L (.ref (hp_a h a 1) :: S) h := pX_get d325_53 rfl rfl hk
theorem x325_56 {L : List Value} {h : HP} {a0 : Nat} {a1 : Nat} (hk : hp_k h a1 = 9) : pX 325 56 L [.ref a0, .ref a1] h = (pX 805 0 [.ref a1, .ref a0] [] h).bind (fun q => pX 325 59 L (q.1.toList ++ []) q.2) := pX_inv (a := a1) (t := 9) 805 [.ref a1, .ref a0] [] d325_56 rfl rfl rfl hk
theorem x325_59 {L S : List Value} {h : HP} : pX 325 59 L S h = pX 325 78 L S h := pX_goto d325_59 (by decide)
theorem x325_62 {S : List Value} {h : HP} {l1 l2 l3 : Value} {a0 : Nat} : pX 325 62 [.ref a0, l1, l2, l3] S h = pX 325 63 [.ref a0, l1, l2, l3] (.ref a0 :: S) h := pX_stp d325_62 rfl rfl rfl
theorem x325_63 {L S : List Value} {h : HP} : pX 325 63 L S h = pX 325 64 L (.int 1 :: S) h := pX_iconst d325_63 (by decide)
theorem x325_64 {L : List Value} {h : HP} {x0 : Int32} {a0 : Nat} (hk : hp_k h a0 = 9) : pX 325 64 L [.int x0, .ref a0] h = (pX 802 0 [.ref a0, .int x0] [] h).bind (fun q => pX 325 67 L (q.1.toList ++ []) q.2) := pX_inv (a := a0) (t := 9) 802 [.ref a0, .int x0] [] d325_64 rfl rfl rfl hk
theorem x325_67 {L S : List Value} {h : HP} : pX 325 67 L S h = pX 325 78 L S h := pX_goto d325_67 (by decide)
theorem x325_70 {S : List Value} {h : HP} {l1 l2 l3 : Value} {a0 : Nat} : pX 325 70 [.ref a0, l1, l2, l3] S h = pX 325 71 [.ref a0, l1, l2, l3] (.ref a0 :: S) h := pX_stp d325_70 rfl rfl rfl
theorem x325_71 {S : List Value} {h : HP} {l0 l1 l2 : Value} {a0 : Nat} : pX 325 71 [l0, l1, l2, .ref a0] S h = pX 325 72 [l0, l1, l2, .ref a0] (.ref a0 :: S) h := pX_stp d325_71 rfl rfl rfl
theorem x325_72 {L : List Value} {h : HP} {a0 : Nat} {a1 : Nat} (hk : hp_k h a0 = 1) : pX 325 72 L [.ref a0, .ref a1] h = (pX 1 0 [.ref a0] [] h).bind (fun q => pX 325 75 L (q.1.toList ++ [.ref a1]) q.2) := pX_inv (a := a0) (t := 1) 1 [.ref a0] [.ref a1] d325_72 rfl rfl rfl hk
theorem x325_75 {L : List Value} {h : HP} {x0 : Int32} {a0 : Nat} (hk : hp_k h a0 = 9) : pX 325 75 L [.int x0, .ref a0] h = (pX 802 0 [.ref a0, .int x0] [] h).bind (fun q => pX 325 78 L (q.1.toList ++ []) q.2) := pX_inv (a := a0) (t := 9) 802 [.ref a0, .int x0] [] d325_75 rfl rfl rfl hk
theorem x325_78 {L S : List Value} {h : HP} : pX 325 78 L S h = pX 325 79 L (.int 0 :: S) h := pX_iconst d325_78 (by decide)
theorem x325_79 {L : List Value} {h : HP} {x : Int32} : pX 325 79 L [.int x] h = some (some (.int x), h) := pX_ret d325_79 rfl
