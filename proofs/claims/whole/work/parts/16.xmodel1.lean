theorem d1114_0 : decode (mb 1114) 0 = .ok (.aload_n 0, 1) := by decide +kernel
theorem d1114_1 : decode (mb 1114) 1 = .ok (.iload_n 1, 1) := by decide +kernel
theorem d1114_2 : decode (mb 1114) 2 = .ok (.invokevirtual 123, 3) := by decide +kernel
theorem d1114_5 : decode (mb 1114) 5 = .ok (.ifCond .ne 5, 3) := by decide +kernel
theorem d1114_8 : decode (mb 1114) 8 = .ok (.iconst (-1), 1) := by decide +kernel
theorem d1114_9 : decode (mb 1114) 9 = .ok (.ireturn, 1) := by decide +kernel
theorem d1114_10 : decode (mb 1114) 10 = .ok (.iconst 0, 1) := by decide +kernel
theorem d1114_11 : decode (mb 1114) 11 = .ok (.istore_n 2, 1) := by decide +kernel
theorem d1114_12 : decode (mb 1114) 12 = .ok (.iload_n 2, 1) := by decide +kernel
theorem d1114_13 : decode (mb 1114) 13 = .ok (.bipush 41, 2) := by decide +kernel
theorem d1114_15 : decode (mb 1114) 15 = .ok (.if_icmp .ge 16, 3) := by decide +kernel
theorem d1114_18 : decode (mb 1114) 18 = .ok (.aload_n 0, 1) := by decide +kernel
theorem d1114_19 : decode (mb 1114) 19 = .ok (.getfield 31, 3) := by decide +kernel
theorem d1114_22 : decode (mb 1114) 22 = .ok (.iload_n 2, 1) := by decide +kernel
theorem d1114_23 : decode (mb 1114) 23 = .ok (.iconst 0, 1) := by decide +kernel
theorem d1114_24 : decode (mb 1114) 24 = .ok (.iastore, 1) := by decide +kernel
theorem d1114_25 : decode (mb 1114) 25 = .ok (.iinc 2 1, 3) := by decide +kernel
theorem d1114_28 : decode (mb 1114) 28 = .ok (.goto (-16), 3) := by decide +kernel
theorem d1114_31 : decode (mb 1114) 31 = .ok (.aload_n 0, 1) := by decide +kernel
theorem d1114_32 : decode (mb 1114) 32 = .ok (.getfield 31, 3) := by decide +kernel
theorem d1114_35 : decode (mb 1114) 35 = .ok (.iconst 0, 1) := by decide +kernel
theorem d1114_36 : decode (mb 1114) 36 = .ok (.sipush 256, 3) := by decide +kernel
theorem d1114_39 : decode (mb 1114) 39 = .ok (.sipush 255, 3) := by decide +kernel
theorem d1114_42 : decode (mb 1114) 42 = .ok (.iconst 1, 1) := by decide +kernel
theorem d1114_43 : decode (mb 1114) 43 = .ok (.aload_n 0, 1) := by decide +kernel
theorem d1114_44 : decode (mb 1114) 44 = .ok (.getfield 7, 3) := by decide +kernel
theorem d1114_47 : decode (mb 1114) 47 = .ok (.iload_n 1, 1) := by decide +kernel
theorem d1114_48 : decode (mb 1114) 48 = .ok (.iaload, 1) := by decide +kernel
theorem d1114_49 : decode (mb 1114) 49 = .ok (.ishl, 1) := by decide +kernel
theorem d1114_50 : decode (mb 1114) 50 = .ok (.iconst 1, 1) := by decide +kernel
theorem d1114_51 : decode (mb 1114) 51 = .ok (.isub, 1) := by decide +kernel
theorem d1114_52 : decode (mb 1114) 52 = .ok (.iconst (-1), 1) := by decide +kernel
theorem d1114_53 : decode (mb 1114) 53 = .ok (.ixor, 1) := by decide +kernel
theorem d1114_54 : decode (mb 1114) 54 = .ok (.iand, 1) := by decide +kernel
theorem d1114_55 : decode (mb 1114) 55 = .ok (.ior, 1) := by decide +kernel
theorem d1114_56 : decode (mb 1114) 56 = .ok (.iastore, 1) := by decide +kernel
theorem d1114_57 : decode (mb 1114) 57 = .ok (.aload_n 0, 1) := by decide +kernel
theorem d1114_58 : decode (mb 1114) 58 = .ok (.iconst 1, 1) := by decide +kernel
theorem d1114_59 : decode (mb 1114) 59 = .ok (.putfield 131, 3) := by decide +kernel
theorem d1114_62 : decode (mb 1114) 62 = .ok (.aload_n 0, 1) := by decide +kernel
theorem d1114_63 : decode (mb 1114) 63 = .ok (.getfield 131, 3) := by decide +kernel
theorem d1114_66 : decode (mb 1114) 66 = .ok (.ifCond .eq 44, 3) := by decide +kernel
theorem d1114_69 : decode (mb 1114) 69 = .ok (.aload_n 0, 1) := by decide +kernel
theorem d1114_70 : decode (mb 1114) 70 = .ok (.iconst 0, 1) := by decide +kernel
theorem d1114_71 : decode (mb 1114) 71 = .ok (.putfield 131, 3) := by decide +kernel
theorem d1114_74 : decode (mb 1114) 74 = .ok (.iconst 0, 1) := by decide +kernel
theorem d1114_75 : decode (mb 1114) 75 = .ok (.istore_n 2, 1) := by decide +kernel
theorem d1114_76 : decode (mb 1114) 76 = .ok (.iload_n 2, 1) := by decide +kernel
theorem d1114_77 : decode (mb 1114) 77 = .ok (.aload_n 0, 1) := by decide +kernel
theorem d1114_78 : decode (mb 1114) 78 = .ok (.getfield 13, 3) := by decide +kernel
theorem d1114_81 : decode (mb 1114) 81 = .ok (.iload_n 1, 1) := by decide +kernel
theorem d1114_82 : decode (mb 1114) 82 = .ok (.iaload, 1) := by decide +kernel
theorem d1114_83 : decode (mb 1114) 83 = .ok (.if_icmp .ge 24, 3) := by decide +kernel
theorem d1114_86 : decode (mb 1114) 86 = .ok (.aload_n 0, 1) := by decide +kernel
theorem d1114_87 : decode (mb 1114) 87 = .ok (.getfield 31, 3) := by decide +kernel
theorem d1114_90 : decode (mb 1114) 90 = .ok (.iload_n 2, 1) := by decide +kernel
theorem d1114_91 : decode (mb 1114) 91 = .ok (.iaload, 1) := by decide +kernel
theorem d1114_92 : decode (mb 1114) 92 = .ok (.ifCond .eq 9, 3) := by decide +kernel
theorem d1114_95 : decode (mb 1114) 95 = .ok (.aload_n 0, 1) := by decide +kernel
theorem d1114_96 : decode (mb 1114) 96 = .ok (.iload_n 1, 1) := by decide +kernel
theorem d1114_97 : decode (mb 1114) 97 = .ok (.iload_n 2, 1) := by decide +kernel
theorem d1114_98 : decode (mb 1114) 98 = .ok (.invokevirtual 141, 3) := by decide +kernel
theorem d1114_101 : decode (mb 1114) 101 = .ok (.iinc 2 1, 3) := by decide +kernel
theorem d1114_104 : decode (mb 1114) 104 = .ok (.goto (-28), 3) := by decide +kernel
theorem d1114_107 : decode (mb 1114) 107 = .ok (.goto (-45), 3) := by decide +kernel
theorem d1114_110 : decode (mb 1114) 110 = .ok (.iconst 0, 1) := by decide +kernel
theorem d1114_111 : decode (mb 1114) 111 = .ok (.istore_n 2, 1) := by decide +kernel
theorem d1114_112 : decode (mb 1114) 112 = .ok (.iload_n 2, 1) := by decide +kernel
theorem d1114_113 : decode (mb 1114) 113 = .ok (.aload_n 0, 1) := by decide +kernel
theorem d1114_114 : decode (mb 1114) 114 = .ok (.getfield 13, 3) := by decide +kernel
theorem d1114_117 : decode (mb 1114) 117 = .ok (.iload_n 1, 1) := by decide +kernel
theorem d1114_118 : decode (mb 1114) 118 = .ok (.iaload, 1) := by decide +kernel
theorem d1114_119 : decode (mb 1114) 119 = .ok (.if_icmp .ge 43, 3) := by decide +kernel
theorem d1114_122 : decode (mb 1114) 122 = .ok (.aload_n 0, 1) := by decide +kernel
theorem d1114_123 : decode (mb 1114) 123 = .ok (.getfield 31, 3) := by decide +kernel
theorem d1114_126 : decode (mb 1114) 126 = .ok (.iload_n 2, 1) := by decide +kernel
theorem d1114_127 : decode (mb 1114) 127 = .ok (.iaload, 1) := by decide +kernel
theorem d1114_128 : decode (mb 1114) 128 = .ok (.ifCond .eq 28, 3) := by decide +kernel
theorem d1114_131 : decode (mb 1114) 131 = .ok (.aload_n 0, 1) := by decide +kernel
theorem d1114_132 : decode (mb 1114) 132 = .ok (.getfield 31, 3) := by decide +kernel
theorem d1114_135 : decode (mb 1114) 135 = .ok (.iload_n 2, 1) := by decide +kernel
theorem d1114_136 : decode (mb 1114) 136 = .ok (.iaload, 1) := by decide +kernel
theorem d1114_137 : decode (mb 1114) 137 = .ok (.aload_n 0, 1) := by decide +kernel
theorem d1114_138 : decode (mb 1114) 138 = .ok (.sipush 160, 3) := by decide +kernel
theorem d1114_141 : decode (mb 1114) 141 = .ok (.iload_n 1, 1) := by decide +kernel
theorem d1114_142 : decode (mb 1114) 142 = .ok (.imul, 1) := by decide +kernel
theorem d1114_143 : decode (mb 1114) 143 = .ok (.iconst 4, 1) := by decide +kernel
theorem d1114_144 : decode (mb 1114) 144 = .ok (.iload_n 2, 1) := by decide +kernel
theorem d1114_145 : decode (mb 1114) 145 = .ok (.imul, 1) := by decide +kernel
theorem d1114_146 : decode (mb 1114) 146 = .ok (.iadd, 1) := by decide +kernel
theorem d1114_147 : decode (mb 1114) 147 = .ok (.invokevirtual 144, 3) := by decide +kernel
theorem d1114_150 : decode (mb 1114) 150 = .ok (.iand, 1) := by decide +kernel
theorem d1114_151 : decode (mb 1114) 151 = .ok (.ifCond .eq 5, 3) := by decide +kernel
theorem d1114_154 : decode (mb 1114) 154 = .ok (.iload_n 2, 1) := by decide +kernel
theorem d1114_155 : decode (mb 1114) 155 = .ok (.ireturn, 1) := by decide +kernel
theorem d1114_156 : decode (mb 1114) 156 = .ok (.iinc 2 1, 3) := by decide +kernel
theorem d1114_159 : decode (mb 1114) 159 = .ok (.goto (-47), 3) := by decide +kernel
theorem d1114_162 : decode (mb 1114) 162 = .ok (.bipush (-5), 2) := by decide +kernel
theorem d1114_164 : decode (mb 1114) 164 = .ok (.ireturn, 1) := by decide +kernel
theorem x1114_0 {S : List Value} {h : HP} {l1 l2 : Value} {a0 : Nat} : pX 1114 0 [.ref a0, l1, l2] S h = pX 1114 1 [.ref a0, l1, l2] (.ref a0 :: S) h := pX_stp d1114_0 rfl rfl rfl
theorem x1114_1 {S : List Value} {h : HP} {l0 l2 : Value} {x0 : Int32} : pX 1114 1 [l0, .int x0, l2] S h = pX 1114 2 [l0, .int x0, l2] (.int x0 :: S) h := pX_stp d1114_1 rfl rfl rfl
theorem x1114_2 {L : List Value} {h : HP} {x0 : Int32} {a0 : Nat} (hk : hp_k h a0 = 12) : pX 1114 2 L [.int x0, .ref a0] h = (pX 1102 0 [.ref a0, .int x0] [] h).bind (fun q => pX 1114 5 L (q.1.toList ++ []) q.2) := pX_inv (a := a0) (t := 12) 1102 [.ref a0, .int x0] [] d1114_2 rfl rfl rfl hk
theorem x1114_5 {L S : List Value} {h : HP} {x : Int32} : pX 1114 5 L (.int x :: S) h = if x = 0 then pX 1114 8 L S h else pX 1114 10 L S h := pX_if_ne d1114_5 (by decide)
theorem x1114_8 {L S : List Value} {h : HP} : pX 1114 8 L S h = pX 1114 9 L (.int (-1) :: S) h := pX_iconst d1114_8 (by decide)
theorem x1114_9 {L : List Value} {h : HP} {x : Int32} : pX 1114 9 L [.int x] h = some (some (.int x), h) := pX_ret d1114_9 rfl
theorem x1114_10 {L S : List Value} {h : HP} : pX 1114 10 L S h = pX 1114 11 L (.int 0 :: S) h := pX_iconst d1114_10 (by decide)
theorem x1114_11 {S : List Value} {h : HP} {l0 l1 l2 : Value} {x0 : Int32} : pX 1114 11 [l0, l1, l2] (.int x0 :: S) h = pX 1114 12 [l0, l1, .int x0] S h := pX_stp d1114_11 rfl rfl rfl
theorem x1114_12 {S : List Value} {h : HP} {l0 l1 : Value} {x0 : Int32} : pX 1114 12 [l0, l1, .int x0] S h = pX 1114 13 [l0, l1, .int x0] (.int x0 :: S) h := pX_stp d1114_12 rfl rfl rfl
theorem x1114_13 {L S : List Value} {h : HP} : pX 1114 13 L S h = pX 1114 15 L (.int 41 :: S) h := pX_bipush d1114_13 (by decide)
theorem x1114_15 {L S : List Value} {h : HP} {x y : Int32} : pX 1114 15 L (.int y :: .int x :: S) h = if y ≤ x then pX 1114 31 L S h else pX 1114 18 L S h := pX_icmp_ge d1114_15 (by decide)
theorem x1114_18 {S : List Value} {h : HP} {l1 l2 : Value} {a0 : Nat} : pX 1114 18 [.ref a0, l1, l2] S h = pX 1114 19 [.ref a0, l1, l2] (.ref a0 :: S) h := pX_stp d1114_18 rfl rfl rfl
theorem x1114_19 {L S : List Value} {h : HP} {a : Nat} (hk : hp_k h a = 12) : pX 1114 19 L (.ref a :: S) h = pX 1114 22 L (.ref (hp_a h a 9) :: S) h := pX_get d1114_19 rfl rfl hk
theorem x1114_22 {S : List Value} {h : HP} {l0 l1 : Value} {x0 : Int32} : pX 1114 22 [l0, l1, .int x0] S h = pX 1114 23 [l0, l1, .int x0] (.int x0 :: S) h := pX_stp d1114_22 rfl rfl rfl
theorem x1114_23 {L S : List Value} {h : HP} : pX 1114 23 L S h = pX 1114 24 L (.int 0 :: S) h := pX_iconst d1114_23 (by decide)
theorem x1114_24 {L S : List Value} {h : HP} {a : Nat} {j x : Int32} (hk : hp_k h a = 100) (hj : inb j (hp_l h a) = true) : pX 1114 24 L (.int x :: .int j :: .ref a :: S) h = pX 1114 25 L S (hp_wi h a (ix j) x) := pX_ist d1114_24 hk hj
theorem x1114_25 {S : List Value} {h : HP} {x0 : Int32} {l0 l1 : Value} : pX 1114 25 [l0, l1, .int x0] S h = pX 1114 28 [l0, l1, .int (x0 + 1)] S h := pX_iinc (x := x0) d1114_25 (by decide) rfl (Nat.le_of_ble_eq_true rfl) rfl rfl
theorem x1114_28 {L S : List Value} {h : HP} : pX 1114 28 L S h = pX 1114 12 L S h := pX_goto d1114_28 (by decide)
theorem x1114_31 {S : List Value} {h : HP} {l1 l2 : Value} {a0 : Nat} : pX 1114 31 [.ref a0, l1, l2] S h = pX 1114 32 [.ref a0, l1, l2] (.ref a0 :: S) h := pX_stp d1114_31 rfl rfl rfl
theorem x1114_32 {L S : List Value} {h : HP} {a : Nat} (hk : hp_k h a = 12) : pX 1114 32 L (.ref a :: S) h = pX 1114 35 L (.ref (hp_a h a 9) :: S) h := pX_get d1114_32 rfl rfl hk
theorem x1114_35 {L S : List Value} {h : HP} : pX 1114 35 L S h = pX 1114 36 L (.int 0 :: S) h := pX_iconst d1114_35 (by decide)
theorem x1114_36 {L S : List Value} {h : HP} : pX 1114 36 L S h = pX 1114 39 L (.int 256 :: S) h := pX_sipush d1114_36 (by decide)
theorem x1114_39 {L S : List Value} {h : HP} : pX 1114 39 L S h = pX 1114 42 L (.int 255 :: S) h := pX_sipush d1114_39 (by decide)
theorem x1114_42 {L S : List Value} {h : HP} : pX 1114 42 L S h = pX 1114 43 L (.int 1 :: S) h := pX_iconst d1114_42 (by decide)
theorem x1114_43 {S : List Value} {h : HP} {l1 l2 : Value} {a0 : Nat} : pX 1114 43 [.ref a0, l1, l2] S h = pX 1114 44 [.ref a0, l1, l2] (.ref a0 :: S) h := pX_stp d1114_43 rfl rfl rfl
theorem x1114_44 {L S : List Value} {h : HP} {a : Nat} (hk : hp_k h a = 12) : pX 1114 44 L (.ref a :: S) h = pX 1114 47 L (.ref (hp_a h a 1) :: S) h := pX_get d1114_44 rfl rfl hk
theorem x1114_47 {S : List Value} {h : HP} {l0 l2 : Value} {x0 : Int32} : pX 1114 47 [l0, .int x0, l2] S h = pX 1114 48 [l0, .int x0, l2] (.int x0 :: S) h := pX_stp d1114_47 rfl rfl rfl
theorem x1114_48 {L S : List Value} {h : HP} {a : Nat} {j : Int32} (hk : hp_k h a = 100) (hj : inb j (hp_l h a) = true) : pX 1114 48 L (.int j :: .ref a :: S) h = pX 1114 49 L (.int (hp_i h a (ix j)) :: S) h := pX_ild d1114_48 hk hj
theorem x1114_49 {L S : List Value} {h : HP} {x y : Int32} : pX 1114 49 L (.int y :: .int x :: S) h = pX 1114 50 L (.int (x <<< (y &&& 31)) :: S) h := pX_stp d1114_49 rfl rfl rfl
theorem x1114_50 {L S : List Value} {h : HP} : pX 1114 50 L S h = pX 1114 51 L (.int 1 :: S) h := pX_iconst d1114_50 (by decide)
theorem x1114_51 {L S : List Value} {h : HP} {x y : Int32} : pX 1114 51 L (.int y :: .int x :: S) h = pX 1114 52 L (.int (x - y) :: S) h := pX_stp d1114_51 rfl rfl rfl
theorem x1114_52 {L S : List Value} {h : HP} : pX 1114 52 L S h = pX 1114 53 L (.int (-1) :: S) h := pX_iconst d1114_52 (by decide)
theorem x1114_53 {L S : List Value} {h : HP} {x y : Int32} : pX 1114 53 L (.int y :: .int x :: S) h = pX 1114 54 L (.int (x ^^^ y) :: S) h := pX_stp d1114_53 rfl rfl rfl
theorem x1114_54 {L S : List Value} {h : HP} {x y : Int32} : pX 1114 54 L (.int y :: .int x :: S) h = pX 1114 55 L (.int (x &&& y) :: S) h := pX_stp d1114_54 rfl rfl rfl
theorem x1114_55 {L S : List Value} {h : HP} {x y : Int32} : pX 1114 55 L (.int y :: .int x :: S) h = pX 1114 56 L (.int (x ||| y) :: S) h := pX_stp d1114_55 rfl rfl rfl
theorem x1114_56 {L S : List Value} {h : HP} {a : Nat} {j x : Int32} (hk : hp_k h a = 100) (hj : inb j (hp_l h a) = true) : pX 1114 56 L (.int x :: .int j :: .ref a :: S) h = pX 1114 57 L S (hp_wi h a (ix j) x) := pX_ist d1114_56 hk hj
theorem x1114_57 {S : List Value} {h : HP} {l1 l2 : Value} {a0 : Nat} : pX 1114 57 [.ref a0, l1, l2] S h = pX 1114 58 [.ref a0, l1, l2] (.ref a0 :: S) h := pX_stp d1114_57 rfl rfl rfl
theorem x1114_58 {L S : List Value} {h : HP} : pX 1114 58 L S h = pX 1114 59 L (.int 1 :: S) h := pX_iconst d1114_58 (by decide)
theorem x1114_59 {L S : List Value} {h : HP} {a : Nat} {x : Int32} (hk : hp_k h a = 12) (hx : x = 0 ∨ x = 1) : pX 1114 59 L (.int x :: .ref a :: S) h = pX 1114 62 L S (hp_wi h a 10 x) := pX_put d1114_59 rfl rfl (by rcases hx with rfl | rfl <;> rfl) hk
theorem x1114_62 {S : List Value} {h : HP} {l1 l2 : Value} {a0 : Nat} : pX 1114 62 [.ref a0, l1, l2] S h = pX 1114 63 [.ref a0, l1, l2] (.ref a0 :: S) h := pX_stp d1114_62 rfl rfl rfl
theorem x1114_63 {L S : List Value} {h : HP} {a : Nat} (hk : hp_k h a = 12) : pX 1114 63 L (.ref a :: S) h = pX 1114 66 L (.int (hp_i h a 10) :: S) h := pX_get d1114_63 rfl rfl hk
theorem x1114_66 {L S : List Value} {h : HP} {x : Int32} : pX 1114 66 L (.int x :: S) h = if x = 0 then pX 1114 110 L S h else pX 1114 69 L S h := pX_if_eq d1114_66 (by decide)
theorem x1114_69 {S : List Value} {h : HP} {l1 l2 : Value} {a0 : Nat} : pX 1114 69 [.ref a0, l1, l2] S h = pX 1114 70 [.ref a0, l1, l2] (.ref a0 :: S) h := pX_stp d1114_69 rfl rfl rfl
theorem x1114_70 {L S : List Value} {h : HP} : pX 1114 70 L S h = pX 1114 71 L (.int 0 :: S) h := pX_iconst d1114_70 (by decide)
theorem x1114_71 {L S : List Value} {h : HP} {a : Nat} {x : Int32} (hk : hp_k h a = 12) (hx : x = 0 ∨ x = 1) : pX 1114 71 L (.int x :: .ref a :: S) h = pX 1114 74 L S (hp_wi h a 10 x) := pX_put d1114_71 rfl rfl (by rcases hx with rfl | rfl <;> rfl) hk
theorem x1114_74 {L S : List Value} {h : HP} : pX 1114 74 L S h = pX 1114 75 L (.int 0 :: S) h := pX_iconst d1114_74 (by decide)
theorem x1114_75 {S : List Value} {h : HP} {l0 l1 l2 : Value} {x0 : Int32} : pX 1114 75 [l0, l1, l2] (.int x0 :: S) h = pX 1114 76 [l0, l1, .int x0] S h := pX_stp d1114_75 rfl rfl rfl
theorem x1114_76 {S : List Value} {h : HP} {l0 l1 : Value} {x0 : Int32} : pX 1114 76 [l0, l1, .int x0] S h = pX 1114 77 [l0, l1, .int x0] (.int x0 :: S) h := pX_stp d1114_76 rfl rfl rfl
theorem x1114_77 {S : List Value} {h : HP} {l1 l2 : Value} {a0 : Nat} : pX 1114 77 [.ref a0, l1, l2] S h = pX 1114 78 [.ref a0, l1, l2] (.ref a0 :: S) h := pX_stp d1114_77 rfl rfl rfl
theorem x1114_78 {L S : List Value} {h : HP} {a : Nat} (hk : hp_k h a = 12) : pX 1114 78 L (.ref a :: S) h = pX 1114 81 L (.ref (hp_a h a 2) :: S) h := pX_get d1114_78 rfl rfl hk
theorem x1114_81 {S : List Value} {h : HP} {l0 l2 : Value} {x0 : Int32} : pX 1114 81 [l0, .int x0, l2] S h = pX 1114 82 [l0, .int x0, l2] (.int x0 :: S) h := pX_stp d1114_81 rfl rfl rfl
theorem x1114_82 {L S : List Value} {h : HP} {a : Nat} {j : Int32} (hk : hp_k h a = 100) (hj : inb j (hp_l h a) = true) : pX 1114 82 L (.int j :: .ref a :: S) h = pX 1114 83 L (.int (hp_i h a (ix j)) :: S) h := pX_ild d1114_82 hk hj
theorem x1114_83 {L S : List Value} {h : HP} {x y : Int32} : pX 1114 83 L (.int y :: .int x :: S) h = if y ≤ x then pX 1114 107 L S h else pX 1114 86 L S h := pX_icmp_ge d1114_83 (by decide)
theorem x1114_86 {S : List Value} {h : HP} {l1 l2 : Value} {a0 : Nat} : pX 1114 86 [.ref a0, l1, l2] S h = pX 1114 87 [.ref a0, l1, l2] (.ref a0 :: S) h := pX_stp d1114_86 rfl rfl rfl
theorem x1114_87 {L S : List Value} {h : HP} {a : Nat} (hk : hp_k h a = 12) : pX 1114 87 L (.ref a :: S) h = pX 1114 90 L (.ref (hp_a h a 9) :: S) h := pX_get d1114_87 rfl rfl hk
theorem x1114_90 {S : List Value} {h : HP} {l0 l1 : Value} {x0 : Int32} : pX 1114 90 [l0, l1, .int x0] S h = pX 1114 91 [l0, l1, .int x0] (.int x0 :: S) h := pX_stp d1114_90 rfl rfl rfl
theorem x1114_91 {L S : List Value} {h : HP} {a : Nat} {j : Int32} (hk : hp_k h a = 100) (hj : inb j (hp_l h a) = true) : pX 1114 91 L (.int j :: .ref a :: S) h = pX 1114 92 L (.int (hp_i h a (ix j)) :: S) h := pX_ild d1114_91 hk hj
theorem x1114_92 {L S : List Value} {h : HP} {x : Int32} : pX 1114 92 L (.int x :: S) h = if x = 0 then pX 1114 101 L S h else pX 1114 95 L S h := pX_if_eq d1114_92 (by decide)
theorem x1114_95 {S : List Value} {h : HP} {l1 l2 : Value} {a0 : Nat} : pX 1114 95 [.ref a0, l1, l2] S h = pX 1114 96 [.ref a0, l1, l2] (.ref a0 :: S) h := pX_stp d1114_95 rfl rfl rfl
theorem x1114_96 {S : List Value} {h : HP} {l0 l2 : Value} {x0 : Int32} : pX 1114 96 [l0, .int x0, l2] S h = pX 1114 97 [l0, .int x0, l2] (.int x0 :: S) h := pX_stp d1114_96 rfl rfl rfl
theorem x1114_97 {S : List Value} {h : HP} {l0 l1 : Value} {x0 : Int32} : pX 1114 97 [l0, l1, .int x0] S h = pX 1114 98 [l0, l1, .int x0] (.int x0 :: S) h := pX_stp d1114_97 rfl rfl rfl
theorem x1114_98 {L : List Value} {h : HP} {x0 : Int32} {x1 : Int32} {a0 : Nat} (hk : hp_k h a0 = 12) : pX 1114 98 L [.int x0, .int x1, .ref a0] h = (pX 1113 0 [.ref a0, .int x1, .int x0, .retAddr 0, .retAddr 0, .retAddr 0, .retAddr 0, .retAddr 0] [] h).bind (fun q => pX 1114 101 L (q.1.toList ++ []) q.2) := pX_inv (a := a0) (t := 12) 1113 [.ref a0, .int x1, .int x0] [] d1114_98 rfl rfl rfl hk
theorem x1114_101 {S : List Value} {h : HP} {x0 : Int32} {l0 l1 : Value} : pX 1114 101 [l0, l1, .int x0] S h = pX 1114 104 [l0, l1, .int (x0 + 1)] S h := pX_iinc (x := x0) d1114_101 (by decide) rfl (Nat.le_of_ble_eq_true rfl) rfl rfl
theorem x1114_104 {L S : List Value} {h : HP} : pX 1114 104 L S h = pX 1114 76 L S h := pX_goto d1114_104 (by decide)
theorem x1114_107 {L S : List Value} {h : HP} : pX 1114 107 L S h = pX 1114 62 L S h := pX_goto d1114_107 (by decide)
theorem x1114_110 {L S : List Value} {h : HP} : pX 1114 110 L S h = pX 1114 111 L (.int 0 :: S) h := pX_iconst d1114_110 (by decide)
theorem x1114_111 {S : List Value} {h : HP} {l0 l1 l2 : Value} {x0 : Int32} : pX 1114 111 [l0, l1, l2] (.int x0 :: S) h = pX 1114 112 [l0, l1, .int x0] S h := pX_stp d1114_111 rfl rfl rfl
theorem x1114_112 {S : List Value} {h : HP} {l0 l1 : Value} {x0 : Int32} : pX 1114 112 [l0, l1, .int x0] S h = pX 1114 113 [l0, l1, .int x0] (.int x0 :: S) h := pX_stp d1114_112 rfl rfl rfl
theorem x1114_113 {S : List Value} {h : HP} {l1 l2 : Value} {a0 : Nat} : pX 1114 113 [.ref a0, l1, l2] S h = pX 1114 114 [.ref a0, l1, l2] (.ref a0 :: S) h := pX_stp d1114_113 rfl rfl rfl
theorem x1114_114 {L S : List Value} {h : HP} {a : Nat} (hk : hp_k h a = 12) : pX 1114 114 L (.ref a :: S) h = pX 1114 117 L (.ref (hp_a h a 2) :: S) h := pX_get d1114_114 rfl rfl hk
theorem x1114_117 {S : List Value} {h : HP} {l0 l2 : Value} {x0 : Int32} : pX 1114 117 [l0, .int x0, l2] S h = pX 1114 118 [l0, .int x0, l2] (.int x0 :: S) h := pX_stp d1114_117 rfl rfl rfl
theorem x1114_118 {L S : List Value} {h : HP} {a : Nat} {j : Int32} (hk : hp_k h a = 100) (hj : inb j (hp_l h a) = true) : pX 1114 118 L (.int j :: .ref a :: S) h = pX 1114 119 L (.int (hp_i h a (ix j)) :: S) h := pX_ild d1114_118 hk hj
theorem x1114_119 {L S : List Value} {h : HP} {x y : Int32} : pX 1114 119 L (.int y :: .int x :: S) h = if y ≤ x then pX 1114 162 L S h else pX 1114 122 L S h := pX_icmp_ge d1114_119 (by decide)
theorem x1114_122 {S : List Value} {h : HP} {l1 l2 : Value} {a0 : Nat} : pX 1114 122 [.ref a0, l1, l2] S h = pX 1114 123 [.ref a0, l1, l2] (.ref a0 :: S) h := pX_stp d1114_122 rfl rfl rfl
theorem x1114_123 {L S : List Value} {h : HP} {a : Nat} (hk : hp_k h a = 12) : pX 1114 123 L (.ref a :: S) h = pX 1114 126 L (.ref (hp_a h a 9) :: S) h := pX_get d1114_123 rfl rfl hk
theorem x1114_126 {S : List Value} {h : HP} {l0 l1 : Value} {x0 : Int32} : pX 1114 126 [l0, l1, .int x0] S h = pX 1114 127 [l0, l1, .int x0] (.int x0 :: S) h := pX_stp d1114_126 rfl rfl rfl
theorem x1114_127 {L S : List Value} {h : HP} {a : Nat} {j : Int32} (hk : hp_k h a = 100) (hj : inb j (hp_l h a) = true) : pX 1114 127 L (.int j :: .ref a :: S) h = pX 1114 128 L (.int (hp_i h a (ix j)) :: S) h := pX_ild d1114_127 hk hj
theorem x1114_128 {L S : List Value} {h : HP} {x : Int32} : pX 1114 128 L (.int x :: S) h = if x = 0 then pX 1114 156 L S h else pX 1114 131 L S h := pX_if_eq d1114_128 (by decide)
theorem x1114_131 {S : List Value} {h : HP} {l1 l2 : Value} {a0 : Nat} : pX 1114 131 [.ref a0, l1, l2] S h = pX 1114 132 [.ref a0, l1, l2] (.ref a0 :: S) h := pX_stp d1114_131 rfl rfl rfl
theorem x1114_132 {L S : List Value} {h : HP} {a : Nat} (hk : hp_k h a = 12) : pX 1114 132 L (.ref a :: S) h = pX 1114 135 L (.ref (hp_a h a 9) :: S) h := pX_get d1114_132 rfl rfl hk
theorem x1114_135 {S : List Value} {h : HP} {l0 l1 : Value} {x0 : Int32} : pX 1114 135 [l0, l1, .int x0] S h = pX 1114 136 [l0, l1, .int x0] (.int x0 :: S) h := pX_stp d1114_135 rfl rfl rfl
theorem x1114_136 {L S : List Value} {h : HP} {a : Nat} {j : Int32} (hk : hp_k h a = 100) (hj : inb j (hp_l h a) = true) : pX 1114 136 L (.int j :: .ref a :: S) h = pX 1114 137 L (.int (hp_i h a (ix j)) :: S) h := pX_ild d1114_136 hk hj
theorem x1114_137 {S : List Value} {h : HP} {l1 l2 : Value} {a0 : Nat} : pX 1114 137 [.ref a0, l1, l2] S h = pX 1114 138 [.ref a0, l1, l2] (.ref a0 :: S) h := pX_stp d1114_137 rfl rfl rfl
theorem x1114_138 {L S : List Value} {h : HP} : pX 1114 138 L S h = pX 1114 141 L (.int 160 :: S) h := pX_sipush d1114_138 (by decide)
theorem x1114_141 {S : List Value} {h : HP} {l0 l2 : Value} {x0 : Int32} : pX 1114 141 [l0, .int x0, l2] S h = pX 1114 142 [l0, .int x0, l2] (.int x0 :: S) h := pX_stp d1114_141 rfl rfl rfl
theorem x1114_142 {L S : List Value} {h : HP} {x y : Int32} : pX 1114 142 L (.int y :: .int x :: S) h = pX 1114 143 L (.int (x * y) :: S) h := pX_stp d1114_142 rfl rfl rfl
theorem x1114_143 {L S : List Value} {h : HP} : pX 1114 143 L S h = pX 1114 144 L (.int 4 :: S) h := pX_iconst d1114_143 (by decide)
theorem x1114_144 {S : List Value} {h : HP} {l0 l1 : Value} {x0 : Int32} : pX 1114 144 [l0, l1, .int x0] S h = pX 1114 145 [l0, l1, .int x0] (.int x0 :: S) h := pX_stp d1114_144 rfl rfl rfl
theorem x1114_145 {L S : List Value} {h : HP} {x y : Int32} : pX 1114 145 L (.int y :: .int x :: S) h = pX 1114 146 L (.int (x * y) :: S) h := pX_stp d1114_145 rfl rfl rfl
theorem x1114_146 {L S : List Value} {h : HP} {x y : Int32} : pX 1114 146 L (.int y :: .int x :: S) h = pX 1114 147 L (.int (x + y) :: S) h := pX_stp d1114_146 rfl rfl rfl
theorem x1114_147 {L : List Value} {h : HP} {x0 : Int32} {a0 : Nat} {x1 : Int32} (hk : hp_k h a0 = 12) : pX 1114 147 L [.int x0, .ref a0, .int x1] h = (pX 1111 0 [.ref a0, .int x0, .retAddr 0, .retAddr 0, .retAddr 0, .retAddr 0, .retAddr 0, .retAddr 0, .retAddr 0] [] h).bind (fun q => pX 1114 150 L (q.1.toList ++ [.int x1]) q.2) := pX_inv (a := a0) (t := 12) 1111 [.ref a0, .int x0] [.int x1] d1114_147 rfl rfl rfl hk
theorem x1114_150 {L S : List Value} {h : HP} {x y : Int32} : pX 1114 150 L (.int y :: .int x :: S) h = pX 1114 151 L (.int (x &&& y) :: S) h := pX_stp d1114_150 rfl rfl rfl
theorem x1114_151 {L S : List Value} {h : HP} {x : Int32} : pX 1114 151 L (.int x :: S) h = if x = 0 then pX 1114 156 L S h else pX 1114 154 L S h := pX_if_eq d1114_151 (by decide)
theorem x1114_154 {S : List Value} {h : HP} {l0 l1 : Value} {x0 : Int32} : pX 1114 154 [l0, l1, .int x0] S h = pX 1114 155 [l0, l1, .int x0] (.int x0 :: S) h := pX_stp d1114_154 rfl rfl rfl
theorem x1114_155 {L : List Value} {h : HP} {x : Int32} : pX 1114 155 L [.int x] h = some (some (.int x), h) := pX_ret d1114_155 rfl
theorem x1114_156 {S : List Value} {h : HP} {x0 : Int32} {l0 l1 : Value} : pX 1114 156 [l0, l1, .int x0] S h = pX 1114 159 [l0, l1, .int (x0 + 1)] S h := pX_iinc (x := x0) d1114_156 (by decide) rfl (Nat.le_of_ble_eq_true rfl) rfl rfl
theorem x1114_159 {L S : List Value} {h : HP} : pX 1114 159 L S h = pX 1114 112 L S h := pX_goto d1114_159 (by decide)
theorem x1114_162 {L S : List Value} {h : HP} : pX 1114 162 L S h = pX 1114 164 L (.int (-5) :: S) h := pX_bipush d1114_162 (by decide)
theorem x1114_164 {L : List Value} {h : HP} {x : Int32} : pX 1114 164 L [.int x] h = some (some (.int x), h) := pX_ret d1114_164 rfl
theorem d1115_0 : decode (mb 1115) 0 = .ok (.aload_n 0, 1) := by decide +kernel
theorem d1115_1 : decode (mb 1115) 1 = .ok (.iload_n 1, 1) := by decide +kernel
theorem d1115_2 : decode (mb 1115) 2 = .ok (.invokevirtual 123, 3) := by decide +kernel
theorem d1115_5 : decode (mb 1115) 5 = .ok (.ifCond .ne 5, 3) := by decide +kernel
theorem d1115_8 : decode (mb 1115) 8 = .ok (.iconst (-1), 1) := by decide +kernel
theorem d1115_9 : decode (mb 1115) 9 = .ok (.ireturn, 1) := by decide +kernel
theorem d1115_10 : decode (mb 1115) 10 = .ok (.iload_n 2, 1) := by decide +kernel
theorem d1115_11 : decode (mb 1115) 11 = .ok (.tableswitch 57 0 3 #[29, 36, 43, 50], 29) := by decide +kernel
theorem d1115_40 : decode (mb 1115) 40 = .ok (.aload_n 0, 1) := by decide +kernel
theorem d1115_41 : decode (mb 1115) 41 = .ok (.getfield 7, 3) := by decide +kernel
theorem d1115_44 : decode (mb 1115) 44 = .ok (.iload_n 1, 1) := by decide +kernel
theorem d1115_45 : decode (mb 1115) 45 = .ok (.iaload, 1) := by decide +kernel
theorem d1115_46 : decode (mb 1115) 46 = .ok (.ireturn, 1) := by decide +kernel
theorem d1115_47 : decode (mb 1115) 47 = .ok (.aload_n 0, 1) := by decide +kernel
theorem d1115_48 : decode (mb 1115) 48 = .ok (.getfield 13, 3) := by decide +kernel
theorem d1115_51 : decode (mb 1115) 51 = .ok (.iload_n 1, 1) := by decide +kernel
theorem d1115_52 : decode (mb 1115) 52 = .ok (.iaload, 1) := by decide +kernel
theorem d1115_53 : decode (mb 1115) 53 = .ok (.ireturn, 1) := by decide +kernel
theorem d1115_54 : decode (mb 1115) 54 = .ok (.aload_n 0, 1) := by decide +kernel
theorem d1115_55 : decode (mb 1115) 55 = .ok (.getfield 19, 3) := by decide +kernel
theorem d1115_58 : decode (mb 1115) 58 = .ok (.iload_n 1, 1) := by decide +kernel
theorem d1115_59 : decode (mb 1115) 59 = .ok (.iaload, 1) := by decide +kernel
theorem d1115_60 : decode (mb 1115) 60 = .ok (.ireturn, 1) := by decide +kernel
theorem d1115_61 : decode (mb 1115) 61 = .ok (.aload_n 0, 1) := by decide +kernel
theorem d1115_62 : decode (mb 1115) 62 = .ok (.getfield 25, 3) := by decide +kernel
theorem d1115_65 : decode (mb 1115) 65 = .ok (.iload_n 1, 1) := by decide +kernel
theorem d1115_66 : decode (mb 1115) 66 = .ok (.iaload, 1) := by decide +kernel
theorem d1115_67 : decode (mb 1115) 67 = .ok (.ireturn, 1) := by decide +kernel
theorem d1115_68 : decode (mb 1115) 68 = .ok (.bipush (-2), 2) := by decide +kernel
theorem d1115_70 : decode (mb 1115) 70 = .ok (.ireturn, 1) := by decide +kernel
theorem x1115_0 {S : List Value} {h : HP} {l1 l2 : Value} {a0 : Nat} : pX 1115 0 [.ref a0, l1, l2] S h = pX 1115 1 [.ref a0, l1, l2] (.ref a0 :: S) h := pX_stp d1115_0 rfl rfl rfl
theorem x1115_1 {S : List Value} {h : HP} {l0 l2 : Value} {x0 : Int32} : pX 1115 1 [l0, .int x0, l2] S h = pX 1115 2 [l0, .int x0, l2] (.int x0 :: S) h := pX_stp d1115_1 rfl rfl rfl
theorem x1115_2 {L : List Value} {h : HP} {x0 : Int32} {a0 : Nat} (hk : hp_k h a0 = 12) : pX 1115 2 L [.int x0, .ref a0] h = (pX 1102 0 [.ref a0, .int x0] [] h).bind (fun q => pX 1115 5 L (q.1.toList ++ []) q.2) := pX_inv (a := a0) (t := 12) 1102 [.ref a0, .int x0] [] d1115_2 rfl rfl rfl hk
theorem x1115_5 {L S : List Value} {h : HP} {x : Int32} : pX 1115 5 L (.int x :: S) h = if x = 0 then pX 1115 8 L S h else pX 1115 10 L S h := pX_if_ne d1115_5 (by decide)
theorem x1115_8 {L S : List Value} {h : HP} : pX 1115 8 L S h = pX 1115 9 L (.int (-1) :: S) h := pX_iconst d1115_8 (by decide)
theorem x1115_9 {L : List Value} {h : HP} {x : Int32} : pX 1115 9 L [.int x] h = some (some (.int x), h) := pX_ret d1115_9 rfl
theorem x1115_10 {S : List Value} {h : HP} {l0 l1 : Value} {x0 : Int32} : pX 1115 10 [l0, l1, .int x0] S h = pX 1115 11 [l0, l1, .int x0] (.int x0 :: S) h := pX_stp d1115_10 rfl rfl rfl
theorem x1115_11_0 {L S : List Value} {h : HP} : pX 1115 11 L (.int 0 :: S) h = pX 1115 40 L S h := pX_tabIn (off := 29) d1115_11 (by decide) (by decide) (by decide) (by decide)
theorem x1115_11_1 {L S : List Value} {h : HP} : pX 1115 11 L (.int 1 :: S) h = pX 1115 47 L S h := pX_tabIn (off := 36) d1115_11 (by decide) (by decide) (by decide) (by decide)
theorem x1115_11_2 {L S : List Value} {h : HP} : pX 1115 11 L (.int 2 :: S) h = pX 1115 54 L S h := pX_tabIn (off := 43) d1115_11 (by decide) (by decide) (by decide) (by decide)
theorem x1115_11_3 {L S : List Value} {h : HP} : pX 1115 11 L (.int 3 :: S) h = pX 1115 61 L S h := pX_tabIn (off := 50) d1115_11 (by decide) (by decide) (by decide) (by decide)
theorem x1115_11_d {L S : List Value} {h : HP} {x : Int32} (hx : x.toInt < 0 ∨ 3 < x.toInt) : pX 1115 11 L (.int x :: S) h = pX 1115 68 L S h := pX_tabOut d1115_11 hx (by decide)
theorem x1115_40 {S : List Value} {h : HP} {l1 l2 : Value} {a0 : Nat} : pX 1115 40 [.ref a0, l1, l2] S h = pX 1115 41 [.ref a0, l1, l2] (.ref a0 :: S) h := pX_stp d1115_40 rfl rfl rfl
theorem x1115_41 {L S : List Value} {h : HP} {a : Nat} (hk : hp_k h a = 12) : pX 1115 41 L (.ref a :: S) h = pX 1115 44 L (.ref (hp_a h a 1) :: S) h := pX_get d1115_41 rfl rfl hk
theorem x1115_44 {S : List Value} {h : HP} {l0 l2 : Value} {x0 : Int32} : pX 1115 44 [l0, .int x0, l2] S h = pX 1115 45 [l0, .int x0, l2] (.int x0 :: S) h := pX_stp d1115_44 rfl rfl rfl
theorem x1115_45 {L S : List Value} {h : HP} {a : Nat} {j : Int32} (hk : hp_k h a = 100) (hj : inb j (hp_l h a) = true) : pX 1115 45 L (.int j :: .ref a :: S) h = pX 1115 46 L (.int (hp_i h a (ix j)) :: S) h := pX_ild d1115_45 hk hj
theorem x1115_46 {L : List Value} {h : HP} {x : Int32} : pX 1115 46 L [.int x] h = some (some (.int x), h) := pX_ret d1115_46 rfl
theorem x1115_47 {S : List Value} {h : HP} {l1 l2 : Value} {a0 : Nat} : pX 1115 47 [.ref a0, l1, l2] S h = pX 1115 48 [.ref a0, l1, l2] (.ref a0 :: S) h := pX_stp d1115_47 rfl rfl rfl
theorem x1115_48 {L S : List Value} {h : HP} {a : Nat} (hk : hp_k h a = 12) : pX 1115 48 L (.ref a :: S) h = pX 1115 51 L (.ref (hp_a h a 2) :: S) h := pX_get d1115_48 rfl rfl hk
theorem x1115_51 {S : List Value} {h : HP} {l0 l2 : Value} {x0 : Int32} : pX 1115 51 [l0, .int x0, l2] S h = pX 1115 52 [l0, .int x0, l2] (.int x0 :: S) h := pX_stp d1115_51 rfl rfl rfl
theorem x1115_52 {L S : List Value} {h : HP} {a : Nat} {j : Int32} (hk : hp_k h a = 100) (hj : inb j (hp_l h a) = true) : pX 1115 52 L (.int j :: .ref a :: S) h = pX 1115 53 L (.int (hp_i h a (ix j)) :: S) h := pX_ild d1115_52 hk hj
theorem x1115_53 {L : List Value} {h : HP} {x : Int32} : pX 1115 53 L [.int x] h = some (some (.int x), h) := pX_ret d1115_53 rfl
theorem x1115_54 {S : List Value} {h : HP} {l1 l2 : Value} {a0 : Nat} : pX 1115 54 [.ref a0, l1, l2] S h = pX 1115 55 [.ref a0, l1, l2] (.ref a0 :: S) h := pX_stp d1115_54 rfl rfl rfl
theorem x1115_55 {L S : List Value} {h : HP} {a : Nat} (hk : hp_k h a = 12) : pX 1115 55 L (.ref a :: S) h = pX 1115 58 L (.ref (hp_a h a 4) :: S) h := pX_get d1115_55 rfl rfl hk
theorem x1115_58 {S : List Value} {h : HP} {l0 l2 : Value} {x0 : Int32} : pX 1115 58 [l0, .int x0, l2] S h = pX 1115 59 [l0, .int x0, l2] (.int x0 :: S) h := pX_stp d1115_58 rfl rfl rfl
theorem x1115_59 {L S : List Value} {h : HP} {a : Nat} {j : Int32} (hk : hp_k h a = 100) (hj : inb j (hp_l h a) = true) : pX 1115 59 L (.int j :: .ref a :: S) h = pX 1115 60 L (.int (hp_i h a (ix j)) :: S) h := pX_ild d1115_59 hk hj
theorem x1115_60 {L : List Value} {h : HP} {x : Int32} : pX 1115 60 L [.int x] h = some (some (.int x), h) := pX_ret d1115_60 rfl
theorem x1115_61 {S : List Value} {h : HP} {l1 l2 : Value} {a0 : Nat} : pX 1115 61 [.ref a0, l1, l2] S h = pX 1115 62 [.ref a0, l1, l2] (.ref a0 :: S) h := pX_stp d1115_61 rfl rfl rfl
theorem x1115_62 {L S : List Value} {h : HP} {a : Nat} (hk : hp_k h a = 12) : pX 1115 62 L (.ref a :: S) h = pX 1115 65 L (.ref (hp_a h a 6) :: S) h := pX_get d1115_62 rfl rfl hk
theorem x1115_65 {S : List Value} {h : HP} {l0 l2 : Value} {x0 : Int32} : pX 1115 65 [l0, .int x0, l2] S h = pX 1115 66 [l0, .int x0, l2] (.int x0 :: S) h := pX_stp d1115_65 rfl rfl rfl
theorem x1115_66 {L S : List Value} {h : HP} {a : Nat} {j : Int32} (hk : hp_k h a = 100) (hj : inb j (hp_l h a) = true) : pX 1115 66 L (.int j :: .ref a :: S) h = pX 1115 67 L (.int (hp_i h a (ix j)) :: S) h := pX_ild d1115_66 hk hj
theorem x1115_67 {L : List Value} {h : HP} {x : Int32} : pX 1115 67 L [.int x] h = some (some (.int x), h) := pX_ret d1115_67 rfl
theorem x1115_68 {L S : List Value} {h : HP} : pX 1115 68 L S h = pX 1115 70 L (.int (-2) :: S) h := pX_bipush d1115_68 (by decide)
theorem x1115_70 {L : List Value} {h : HP} {x : Int32} : pX 1115 70 L [.int x] h = some (some (.int x), h) := pX_ret d1115_70 rfl
theorem d1116_0 : decode (mb 1116) 0 = .ok (.iload_n 1, 1) := by decide +kernel
theorem d1116_1 : decode (mb 1116) 1 = .ok (.iconst 0, 1) := by decide +kernel
theorem d1116_2 : decode (mb 1116) 2 = .ok (.bipush 11, 2) := by decide +kernel
theorem d1116_4 : decode (mb 1116) 4 = .ok (.invokestatic 111, 3) := by decide +kernel
theorem d1116_7 : decode (mb 1116) 7 = .ok (.ifCond .ne 6, 3) := by decide +kernel
theorem d1116_10 : decode (mb 1116) 10 = .ok (.bipush (-2), 2) := by decide +kernel
theorem d1116_12 : decode (mb 1116) 12 = .ok (.ireturn, 1) := by decide +kernel
theorem d1116_13 : decode (mb 1116) 13 = .ok (.aload_n 0, 1) := by decide +kernel
theorem d1116_14 : decode (mb 1116) 14 = .ok (.getfield 115, 3) := by decide +kernel
theorem d1116_17 : decode (mb 1116) 17 = .ok (.ifCond .eq 6, 3) := by decide +kernel
theorem d1116_20 : decode (mb 1116) 20 = .ok (.bipush (-3), 2) := by decide +kernel
theorem d1116_22 : decode (mb 1116) 22 = .ok (.ireturn, 1) := by decide +kernel
theorem d1116_23 : decode (mb 1116) 23 = .ok (.aload_n 0, 1) := by decide +kernel
theorem d1116_24 : decode (mb 1116) 24 = .ok (.getfield 34, 3) := by decide +kernel
theorem d1116_27 : decode (mb 1116) 27 = .ok (.iload_n 1, 1) := by decide +kernel
theorem d1116_28 : decode (mb 1116) 28 = .ok (.iaload, 1) := by decide +kernel
theorem d1116_29 : decode (mb 1116) 29 = .ok (.istore_n 3, 1) := by decide +kernel
theorem d1116_30 : decode (mb 1116) 30 = .ok (.aload_n 0, 1) := by decide +kernel
theorem d1116_31 : decode (mb 1116) 31 = .ok (.getfield 34, 3) := by decide +kernel
theorem d1116_34 : decode (mb 1116) 34 = .ok (.iload_n 1, 1) := by decide +kernel
theorem d1116_35 : decode (mb 1116) 35 = .ok (.iload_n 2, 1) := by decide +kernel
theorem d1116_36 : decode (mb 1116) 36 = .ok (.iastore, 1) := by decide +kernel
theorem d1116_37 : decode (mb 1116) 37 = .ok (.iload_n 3, 1) := by decide +kernel
theorem d1116_38 : decode (mb 1116) 38 = .ok (.ireturn, 1) := by decide +kernel
theorem x1116_0 {S : List Value} {h : HP} {l0 l2 l3 : Value} {x0 : Int32} : pX 1116 0 [l0, .int x0, l2, l3] S h = pX 1116 1 [l0, .int x0, l2, l3] (.int x0 :: S) h := pX_stp d1116_0 rfl rfl rfl
theorem x1116_1 {L S : List Value} {h : HP} : pX 1116 1 L S h = pX 1116 2 L (.int 0 :: S) h := pX_iconst d1116_1 (by decide)
theorem x1116_2 {L S : List Value} {h : HP} : pX 1116 2 L S h = pX 1116 4 L (.int 11 :: S) h := pX_bipush d1116_2 (by decide)
theorem x1116_4 {L : List Value} {h : HP} {x0 : Int32} {x1 : Int32} {x2 : Int32} : pX 1116 4 L [.int x0, .int x1, .int x2] h = (pX 1101 0 [.int x2, .int x1, .int x0] [] h).bind (fun q => pX 1116 7 L (q.1.toList ++ []) q.2) := pX_ins 1101 [.int x2, .int x1, .int x0] [] d1116_4 rfl rfl rfl
theorem x1116_7 {L S : List Value} {h : HP} {x : Int32} : pX 1116 7 L (.int x :: S) h = if x = 0 then pX 1116 10 L S h else pX 1116 13 L S h := pX_if_ne d1116_7 (by decide)
theorem x1116_10 {L S : List Value} {h : HP} : pX 1116 10 L S h = pX 1116 12 L (.int (-2) :: S) h := pX_bipush d1116_10 (by decide)
theorem x1116_12 {L : List Value} {h : HP} {x : Int32} : pX 1116 12 L [.int x] h = some (some (.int x), h) := pX_ret d1116_12 rfl
theorem x1116_13 {S : List Value} {h : HP} {l1 l2 l3 : Value} {a0 : Nat} : pX 1116 13 [.ref a0, l1, l2, l3] S h = pX 1116 14 [.ref a0, l1, l2, l3] (.ref a0 :: S) h := pX_stp d1116_13 rfl rfl rfl
theorem x1116_14 {L S : List Value} {h : HP} {a : Nat} (hk : hp_k h a = 12) : pX 1116 14 L (.ref a :: S) h = pX 1116 17 L (.int (hp_i h a 8) :: S) h := pX_get d1116_14 rfl rfl hk
theorem x1116_17 {L S : List Value} {h : HP} {x : Int32} : pX 1116 17 L (.int x :: S) h = if x = 0 then pX 1116 23 L S h else pX 1116 20 L S h := pX_if_eq d1116_17 (by decide)
theorem x1116_20 {L S : List Value} {h : HP} : pX 1116 20 L S h = pX 1116 22 L (.int (-3) :: S) h := pX_bipush d1116_20 (by decide)
theorem x1116_22 {L : List Value} {h : HP} {x : Int32} : pX 1116 22 L [.int x] h = some (some (.int x), h) := pX_ret d1116_22 rfl
theorem x1116_23 {S : List Value} {h : HP} {l1 l2 l3 : Value} {a0 : Nat} : pX 1116 23 [.ref a0, l1, l2, l3] S h = pX 1116 24 [.ref a0, l1, l2, l3] (.ref a0 :: S) h := pX_stp d1116_23 rfl rfl rfl
theorem x1116_24 {L S : List Value} {h : HP} {a : Nat} (hk : hp_k h a = 12) : pX 1116 24 L (.ref a :: S) h = pX 1116 27 L (.ref (hp_a h a 11) :: S) h := pX_get d1116_24 rfl rfl hk
theorem x1116_27 {S : List Value} {h : HP} {l0 l2 l3 : Value} {x0 : Int32} : pX 1116 27 [l0, .int x0, l2, l3] S h = pX 1116 28 [l0, .int x0, l2, l3] (.int x0 :: S) h := pX_stp d1116_27 rfl rfl rfl
theorem x1116_28 {L S : List Value} {h : HP} {a : Nat} {j : Int32} (hk : hp_k h a = 100) (hj : inb j (hp_l h a) = true) : pX 1116 28 L (.int j :: .ref a :: S) h = pX 1116 29 L (.int (hp_i h a (ix j)) :: S) h := pX_ild d1116_28 hk hj
theorem x1116_29 {S : List Value} {h : HP} {l0 l1 l2 l3 : Value} {x0 : Int32} : pX 1116 29 [l0, l1, l2, l3] (.int x0 :: S) h = pX 1116 30 [l0, l1, l2, .int x0] S h := pX_stp d1116_29 rfl rfl rfl
theorem x1116_30 {S : List Value} {h : HP} {l1 l2 l3 : Value} {a0 : Nat} : pX 1116 30 [.ref a0, l1, l2, l3] S h = pX 1116 31 [.ref a0, l1, l2, l3] (.ref a0 :: S) h := pX_stp d1116_30 rfl rfl rfl
theorem x1116_31 {L S : List Value} {h : HP} {a : Nat} (hk : hp_k h a = 12) : pX 1116 31 L (.ref a :: S) h = pX 1116 34 L (.ref (hp_a h a 11) :: S) h := pX_get d1116_31 rfl rfl hk
theorem x1116_34 {S : List Value} {h : HP} {l0 l2 l3 : Value} {x0 : Int32} : pX 1116 34 [l0, .int x0, l2, l3] S h = pX 1116 35 [l0, .int x0, l2, l3] (.int x0 :: S) h := pX_stp d1116_34 rfl rfl rfl
theorem x1116_35 {S : List Value} {h : HP} {l0 l1 l3 : Value} {x0 : Int32} : pX 1116 35 [l0, l1, .int x0, l3] S h = pX 1116 36 [l0, l1, .int x0, l3] (.int x0 :: S) h := pX_stp d1116_35 rfl rfl rfl
theorem x1116_36 {L S : List Value} {h : HP} {a : Nat} {j x : Int32} (hk : hp_k h a = 100) (hj : inb j (hp_l h a) = true) : pX 1116 36 L (.int x :: .int j :: .ref a :: S) h = pX 1116 37 L S (hp_wi h a (ix j) x) := pX_ist d1116_36 hk hj
theorem x1116_37 {S : List Value} {h : HP} {l0 l1 l2 : Value} {x0 : Int32} : pX 1116 37 [l0, l1, l2, .int x0] S h = pX 1116 38 [l0, l1, l2, .int x0] (.int x0 :: S) h := pX_stp d1116_37 rfl rfl rfl
theorem x1116_38 {L : List Value} {h : HP} {x : Int32} : pX 1116 38 L [.int x] h = some (some (.int x), h) := pX_ret d1116_38 rfl
theorem d1117_0 : decode (mb 1117) 0 = .ok (.iload_n 1, 1) := by decide +kernel
theorem d1117_1 : decode (mb 1117) 1 = .ok (.iconst 0, 1) := by decide +kernel
theorem d1117_2 : decode (mb 1117) 2 = .ok (.bipush 11, 2) := by decide +kernel
theorem d1117_4 : decode (mb 1117) 4 = .ok (.invokestatic 111, 3) := by decide +kernel
theorem d1117_7 : decode (mb 1117) 7 = .ok (.ifCond .eq 12, 3) := by decide +kernel
theorem d1117_10 : decode (mb 1117) 10 = .ok (.aload_n 0, 1) := by decide +kernel
theorem d1117_11 : decode (mb 1117) 11 = .ok (.getfield 34, 3) := by decide +kernel
theorem d1117_14 : decode (mb 1117) 14 = .ok (.iload_n 1, 1) := by decide +kernel
theorem d1117_15 : decode (mb 1117) 15 = .ok (.iaload, 1) := by decide +kernel
theorem d1117_16 : decode (mb 1117) 16 = .ok (.goto 5, 3) := by decide +kernel
theorem d1117_19 : decode (mb 1117) 19 = .ok (.bipush (-2), 2) := by decide +kernel
theorem d1117_21 : decode (mb 1117) 21 = .ok (.ireturn, 1) := by decide +kernel
theorem x1117_0 {S : List Value} {h : HP} {l0 : Value} {x0 : Int32} : pX 1117 0 [l0, .int x0] S h = pX 1117 1 [l0, .int x0] (.int x0 :: S) h := pX_stp d1117_0 rfl rfl rfl
theorem x1117_1 {L S : List Value} {h : HP} : pX 1117 1 L S h = pX 1117 2 L (.int 0 :: S) h := pX_iconst d1117_1 (by decide)
theorem x1117_2 {L S : List Value} {h : HP} : pX 1117 2 L S h = pX 1117 4 L (.int 11 :: S) h := pX_bipush d1117_2 (by decide)
theorem x1117_4 {L : List Value} {h : HP} {x0 : Int32} {x1 : Int32} {x2 : Int32} : pX 1117 4 L [.int x0, .int x1, .int x2] h = (pX 1101 0 [.int x2, .int x1, .int x0] [] h).bind (fun q => pX 1117 7 L (q.1.toList ++ []) q.2) := pX_ins 1101 [.int x2, .int x1, .int x0] [] d1117_4 rfl rfl rfl
theorem x1117_7 {L S : List Value} {h : HP} {x : Int32} : pX 1117 7 L (.int x :: S) h = if x = 0 then pX 1117 19 L S h else pX 1117 10 L S h := pX_if_eq d1117_7 (by decide)
theorem x1117_10 {S : List Value} {h : HP} {l1 : Value} {a0 : Nat} : pX 1117 10 [.ref a0, l1] S h = pX 1117 11 [.ref a0, l1] (.ref a0 :: S) h := pX_stp d1117_10 rfl rfl rfl
theorem x1117_11 {L S : List Value} {h : HP} {a : Nat} (hk : hp_k h a = 12) : pX 1117 11 L (.ref a :: S) h = pX 1117 14 L (.ref (hp_a h a 11) :: S) h := pX_get d1117_11 rfl rfl hk
theorem x1117_14 {S : List Value} {h : HP} {l0 : Value} {x0 : Int32} : pX 1117 14 [l0, .int x0] S h = pX 1117 15 [l0, .int x0] (.int x0 :: S) h := pX_stp d1117_14 rfl rfl rfl
theorem x1117_15 {L S : List Value} {h : HP} {a : Nat} {j : Int32} (hk : hp_k h a = 100) (hj : inb j (hp_l h a) = true) : pX 1117 15 L (.int j :: .ref a :: S) h = pX 1117 16 L (.int (hp_i h a (ix j)) :: S) h := pX_ild d1117_15 hk hj
theorem x1117_16 {L S : List Value} {h : HP} : pX 1117 16 L S h = pX 1117 21 L S h := pX_goto d1117_16 (by decide)
theorem x1117_19 {L S : List Value} {h : HP} : pX 1117 19 L S h = pX 1117 21 L (.int (-2) :: S) h := pX_bipush d1117_19 (by decide)
theorem x1117_21 {L : List Value} {h : HP} {x : Int32} : pX 1117 21 L [.int x] h = some (some (.int x), h) := pX_ret d1117_21 rfl
theorem d1118_0 : decode (mb 1118) 0 = .ok (.iload_n 1, 1) := by decide +kernel
theorem d1118_1 : decode (mb 1118) 1 = .ok (.iconst 0, 1) := by decide +kernel
theorem d1118_2 : decode (mb 1118) 2 = .ok (.iconst 2, 1) := by decide +kernel
theorem d1118_3 : decode (mb 1118) 3 = .ok (.invokestatic 111, 3) := by decide +kernel
theorem d1118_6 : decode (mb 1118) 6 = .ok (.ifCond .eq 12, 3) := by decide +kernel
theorem d1118_9 : decode (mb 1118) 9 = .ok (.iload_n 2, 1) := by decide +kernel
theorem d1118_10 : decode (mb 1118) 10 = .ok (.iconst 0, 1) := by decide +kernel
theorem d1118_11 : decode (mb 1118) 11 = .ok (.iconst 2, 1) := by decide +kernel
theorem d1118_12 : decode (mb 1118) 12 = .ok (.invokestatic 111, 3) := by decide +kernel
theorem d1118_15 : decode (mb 1118) 15 = .ok (.ifCond .ne 6, 3) := by decide +kernel
theorem d1118_18 : decode (mb 1118) 18 = .ok (.bipush (-2), 2) := by decide +kernel
theorem d1118_20 : decode (mb 1118) 20 = .ok (.ireturn, 1) := by decide +kernel
theorem d1118_21 : decode (mb 1118) 21 = .ok (.aload_n 0, 1) := by decide +kernel
theorem d1118_22 : decode (mb 1118) 22 = .ok (.getfield 40, 3) := by decide +kernel
theorem d1118_25 : decode (mb 1118) 25 = .ok (.iload_n 1, 1) := by decide +kernel
theorem d1118_26 : decode (mb 1118) 26 = .ok (.iload_n 2, 1) := by decide +kernel
theorem d1118_27 : decode (mb 1118) 27 = .ok (.ifCond .ne 7, 3) := by decide +kernel
theorem d1118_30 : decode (mb 1118) 30 = .ok (.iconst 0, 1) := by decide +kernel
theorem d1118_31 : decode (mb 1118) 31 = .ok (.goto 16, 3) := by decide +kernel
theorem d1118_34 : decode (mb 1118) 34 = .ok (.iload_n 2, 1) := by decide +kernel
theorem d1118_35 : decode (mb 1118) 35 = .ok (.iconst 1, 1) := by decide +kernel
theorem d1118_36 : decode (mb 1118) 36 = .ok (.if_icmp .ne 7, 3) := by decide +kernel
theorem d1118_39 : decode (mb 1118) 39 = .ok (.iconst 1, 1) := by decide +kernel
theorem d1118_40 : decode (mb 1118) 40 = .ok (.goto 7, 3) := by decide +kernel
theorem d1118_43 : decode (mb 1118) 43 = .ok (.aload_n 0, 1) := by decide +kernel
theorem d1118_44 : decode (mb 1118) 44 = .ok (.getfield 147, 3) := by decide +kernel
theorem d1118_47 : decode (mb 1118) 47 = .ok (.iastore, 1) := by decide +kernel
theorem d1118_48 : decode (mb 1118) 48 = .ok (.aload_n 0, 1) := by decide +kernel
theorem d1118_49 : decode (mb 1118) 49 = .ok (.getfield 43, 3) := by decide +kernel
theorem d1118_52 : decode (mb 1118) 52 = .ok (.iload_n 1, 1) := by decide +kernel
theorem d1118_53 : decode (mb 1118) 53 = .ok (.iload_n 2, 1) := by decide +kernel
theorem d1118_54 : decode (mb 1118) 54 = .ok (.ifCond .ne 7, 3) := by decide +kernel
theorem d1118_57 : decode (mb 1118) 57 = .ok (.iconst 0, 1) := by decide +kernel
theorem d1118_58 : decode (mb 1118) 58 = .ok (.goto 16, 3) := by decide +kernel
theorem d1118_61 : decode (mb 1118) 61 = .ok (.iload_n 2, 1) := by decide +kernel
theorem d1118_62 : decode (mb 1118) 62 = .ok (.iconst 1, 1) := by decide +kernel
theorem d1118_63 : decode (mb 1118) 63 = .ok (.if_icmp .ne 7, 3) := by decide +kernel
theorem d1118_66 : decode (mb 1118) 66 = .ok (.iload_n 3, 1) := by decide +kernel
theorem d1118_67 : decode (mb 1118) 67 = .ok (.goto 7, 3) := by decide +kernel
theorem d1118_70 : decode (mb 1118) 70 = .ok (.aload_n 0, 1) := by decide +kernel
theorem d1118_71 : decode (mb 1118) 71 = .ok (.getfield 150, 3) := by decide +kernel
theorem d1118_74 : decode (mb 1118) 74 = .ok (.iastore, 1) := by decide +kernel
theorem d1118_75 : decode (mb 1118) 75 = .ok (.iconst 1, 1) := by decide +kernel
theorem d1118_76 : decode (mb 1118) 76 = .ok (.ireturn, 1) := by decide +kernel
theorem x1118_0 {S : List Value} {h : HP} {l0 l2 l3 : Value} {x0 : Int32} : pX 1118 0 [l0, .int x0, l2, l3] S h = pX 1118 1 [l0, .int x0, l2, l3] (.int x0 :: S) h := pX_stp d1118_0 rfl rfl rfl
theorem x1118_1 {L S : List Value} {h : HP} : pX 1118 1 L S h = pX 1118 2 L (.int 0 :: S) h := pX_iconst d1118_1 (by decide)
theorem x1118_2 {L S : List Value} {h : HP} : pX 1118 2 L S h = pX 1118 3 L (.int 2 :: S) h := pX_iconst d1118_2 (by decide)
theorem x1118_3 {L : List Value} {h : HP} {x0 : Int32} {x1 : Int32} {x2 : Int32} : pX 1118 3 L [.int x0, .int x1, .int x2] h = (pX 1101 0 [.int x2, .int x1, .int x0] [] h).bind (fun q => pX 1118 6 L (q.1.toList ++ []) q.2) := pX_ins 1101 [.int x2, .int x1, .int x0] [] d1118_3 rfl rfl rfl
theorem x1118_6 {L S : List Value} {h : HP} {x : Int32} : pX 1118 6 L (.int x :: S) h = if x = 0 then pX 1118 18 L S h else pX 1118 9 L S h := pX_if_eq d1118_6 (by decide)
theorem x1118_9 {S : List Value} {h : HP} {l0 l1 l3 : Value} {x0 : Int32} : pX 1118 9 [l0, l1, .int x0, l3] S h = pX 1118 10 [l0, l1, .int x0, l3] (.int x0 :: S) h := pX_stp d1118_9 rfl rfl rfl
theorem x1118_10 {L S : List Value} {h : HP} : pX 1118 10 L S h = pX 1118 11 L (.int 0 :: S) h := pX_iconst d1118_10 (by decide)
theorem x1118_11 {L S : List Value} {h : HP} : pX 1118 11 L S h = pX 1118 12 L (.int 2 :: S) h := pX_iconst d1118_11 (by decide)
theorem x1118_12 {L : List Value} {h : HP} {x0 : Int32} {x1 : Int32} {x2 : Int32} : pX 1118 12 L [.int x0, .int x1, .int x2] h = (pX 1101 0 [.int x2, .int x1, .int x0] [] h).bind (fun q => pX 1118 15 L (q.1.toList ++ []) q.2) := pX_ins 1101 [.int x2, .int x1, .int x0] [] d1118_12 rfl rfl rfl
theorem x1118_15 {L S : List Value} {h : HP} {x : Int32} : pX 1118 15 L (.int x :: S) h = if x = 0 then pX 1118 18 L S h else pX 1118 21 L S h := pX_if_ne d1118_15 (by decide)
theorem x1118_18 {L S : List Value} {h : HP} : pX 1118 18 L S h = pX 1118 20 L (.int (-2) :: S) h := pX_bipush d1118_18 (by decide)
theorem x1118_20 {L : List Value} {h : HP} {x : Int32} : pX 1118 20 L [.int x] h = some (some (.int x), h) := pX_ret d1118_20 rfl
theorem x1118_21 {S : List Value} {h : HP} {l1 l2 l3 : Value} {a0 : Nat} : pX 1118 21 [.ref a0, l1, l2, l3] S h = pX 1118 22 [.ref a0, l1, l2, l3] (.ref a0 :: S) h := pX_stp d1118_21 rfl rfl rfl
theorem x1118_22 {L S : List Value} {h : HP} {a : Nat} (hk : hp_k h a = 12) : pX 1118 22 L (.ref a :: S) h = pX 1118 25 L (.ref (hp_a h a 13) :: S) h := pX_get d1118_22 rfl rfl hk
theorem x1118_25 {S : List Value} {h : HP} {l0 l2 l3 : Value} {x0 : Int32} : pX 1118 25 [l0, .int x0, l2, l3] S h = pX 1118 26 [l0, .int x0, l2, l3] (.int x0 :: S) h := pX_stp d1118_25 rfl rfl rfl
theorem x1118_26 {S : List Value} {h : HP} {l0 l1 l3 : Value} {x0 : Int32} : pX 1118 26 [l0, l1, .int x0, l3] S h = pX 1118 27 [l0, l1, .int x0, l3] (.int x0 :: S) h := pX_stp d1118_26 rfl rfl rfl
theorem x1118_27 {L S : List Value} {h : HP} {x : Int32} : pX 1118 27 L (.int x :: S) h = if x = 0 then pX 1118 30 L S h else pX 1118 34 L S h := pX_if_ne d1118_27 (by decide)
theorem x1118_30 {L S : List Value} {h : HP} : pX 1118 30 L S h = pX 1118 31 L (.int 0 :: S) h := pX_iconst d1118_30 (by decide)
theorem x1118_31 {L S : List Value} {h : HP} : pX 1118 31 L S h = pX 1118 47 L S h := pX_goto d1118_31 (by decide)
theorem x1118_34 {S : List Value} {h : HP} {l0 l1 l3 : Value} {x0 : Int32} : pX 1118 34 [l0, l1, .int x0, l3] S h = pX 1118 35 [l0, l1, .int x0, l3] (.int x0 :: S) h := pX_stp d1118_34 rfl rfl rfl
theorem x1118_35 {L S : List Value} {h : HP} : pX 1118 35 L S h = pX 1118 36 L (.int 1 :: S) h := pX_iconst d1118_35 (by decide)
theorem x1118_36 {L S : List Value} {h : HP} {x y : Int32} : pX 1118 36 L (.int y :: .int x :: S) h = if x = y then pX 1118 39 L S h else pX 1118 43 L S h := pX_icmp_ne d1118_36 (by decide)
theorem x1118_39 {L S : List Value} {h : HP} : pX 1118 39 L S h = pX 1118 40 L (.int 1 :: S) h := pX_iconst d1118_39 (by decide)
theorem x1118_40 {L S : List Value} {h : HP} : pX 1118 40 L S h = pX 1118 47 L S h := pX_goto d1118_40 (by decide)
theorem x1118_43 {S : List Value} {h : HP} {l1 l2 l3 : Value} {a0 : Nat} : pX 1118 43 [.ref a0, l1, l2, l3] S h = pX 1118 44 [.ref a0, l1, l2, l3] (.ref a0 :: S) h := pX_stp d1118_43 rfl rfl rfl
theorem x1118_44 {L S : List Value} {h : HP} {a : Nat} (hk : hp_k h a = 12) : pX 1118 44 L (.ref a :: S) h = pX 1118 47 L (.int (hp_i h a 15) :: S) h := pX_get d1118_44 rfl rfl hk
theorem x1118_47 {L S : List Value} {h : HP} {a : Nat} {j x : Int32} (hk : hp_k h a = 100) (hj : inb j (hp_l h a) = true) : pX 1118 47 L (.int x :: .int j :: .ref a :: S) h = pX 1118 48 L S (hp_wi h a (ix j) x) := pX_ist d1118_47 hk hj
theorem x1118_48 {S : List Value} {h : HP} {l1 l2 l3 : Value} {a0 : Nat} : pX 1118 48 [.ref a0, l1, l2, l3] S h = pX 1118 49 [.ref a0, l1, l2, l3] (.ref a0 :: S) h := pX_stp d1118_48 rfl rfl rfl
theorem x1118_49 {L S : List Value} {h : HP} {a : Nat} (hk : hp_k h a = 12) : pX 1118 49 L (.ref a :: S) h = pX 1118 52 L (.ref (hp_a h a 14) :: S) h := pX_get d1118_49 rfl rfl hk
theorem x1118_52 {S : List Value} {h : HP} {l0 l2 l3 : Value} {x0 : Int32} : pX 1118 52 [l0, .int x0, l2, l3] S h = pX 1118 53 [l0, .int x0, l2, l3] (.int x0 :: S) h := pX_stp d1118_52 rfl rfl rfl
theorem x1118_53 {S : List Value} {h : HP} {l0 l1 l3 : Value} {x0 : Int32} : pX 1118 53 [l0, l1, .int x0, l3] S h = pX 1118 54 [l0, l1, .int x0, l3] (.int x0 :: S) h := pX_stp d1118_53 rfl rfl rfl
theorem x1118_54 {L S : List Value} {h : HP} {x : Int32} : pX 1118 54 L (.int x :: S) h = if x = 0 then pX 1118 57 L S h else pX 1118 61 L S h := pX_if_ne d1118_54 (by decide)
theorem x1118_57 {L S : List Value} {h : HP} : pX 1118 57 L S h = pX 1118 58 L (.int 0 :: S) h := pX_iconst d1118_57 (by decide)
theorem x1118_58 {L S : List Value} {h : HP} : pX 1118 58 L S h = pX 1118 74 L S h := pX_goto d1118_58 (by decide)
theorem x1118_61 {S : List Value} {h : HP} {l0 l1 l3 : Value} {x0 : Int32} : pX 1118 61 [l0, l1, .int x0, l3] S h = pX 1118 62 [l0, l1, .int x0, l3] (.int x0 :: S) h := pX_stp d1118_61 rfl rfl rfl
theorem x1118_62 {L S : List Value} {h : HP} : pX 1118 62 L S h = pX 1118 63 L (.int 1 :: S) h := pX_iconst d1118_62 (by decide)
theorem x1118_63 {L S : List Value} {h : HP} {x y : Int32} : pX 1118 63 L (.int y :: .int x :: S) h = if x = y then pX 1118 66 L S h else pX 1118 70 L S h := pX_icmp_ne d1118_63 (by decide)
theorem x1118_66 {S : List Value} {h : HP} {l0 l1 l2 : Value} {x0 : Int32} : pX 1118 66 [l0, l1, l2, .int x0] S h = pX 1118 67 [l0, l1, l2, .int x0] (.int x0 :: S) h := pX_stp d1118_66 rfl rfl rfl
theorem x1118_67 {L S : List Value} {h : HP} : pX 1118 67 L S h = pX 1118 74 L S h := pX_goto d1118_67 (by decide)
theorem x1118_70 {S : List Value} {h : HP} {l1 l2 l3 : Value} {a0 : Nat} : pX 1118 70 [.ref a0, l1, l2, l3] S h = pX 1118 71 [.ref a0, l1, l2, l3] (.ref a0 :: S) h := pX_stp d1118_70 rfl rfl rfl
theorem x1118_71 {L S : List Value} {h : HP} {a : Nat} (hk : hp_k h a = 12) : pX 1118 71 L (.ref a :: S) h = pX 1118 74 L (.int (hp_i h a 16) :: S) h := pX_get d1118_71 rfl rfl hk
theorem x1118_74 {L S : List Value} {h : HP} {a : Nat} {j x : Int32} (hk : hp_k h a = 100) (hj : inb j (hp_l h a) = true) : pX 1118 74 L (.int x :: .int j :: .ref a :: S) h = pX 1118 75 L S (hp_wi h a (ix j) x) := pX_ist d1118_74 hk hj
theorem x1118_75 {L S : List Value} {h : HP} : pX 1118 75 L S h = pX 1118 76 L (.int 1 :: S) h := pX_iconst d1118_75 (by decide)
theorem x1118_76 {L : List Value} {h : HP} {x : Int32} : pX 1118 76 L [.int x] h = some (some (.int x), h) := pX_ret d1118_76 rfl
theorem d1119_0 : decode (mb 1119) 0 = .ok (.iload_n 1, 1) := by decide +kernel
theorem d1119_1 : decode (mb 1119) 1 = .ok (.ifCond .ne 8, 3) := by decide +kernel
theorem d1119_4 : decode (mb 1119) 4 = .ok (.bipush (-5), 2) := by decide +kernel
theorem d1119_6 : decode (mb 1119) 6 = .ok (.goto 36, 3) := by decide +kernel
theorem d1119_9 : decode (mb 1119) 9 = .ok (.iload_n 1, 1) := by decide +kernel
theorem d1119_10 : decode (mb 1119) 10 = .ok (.iconst 1, 1) := by decide +kernel
theorem d1119_11 : decode (mb 1119) 11 = .ok (.if_icmp .ne 7, 3) := by decide +kernel
theorem d1119_14 : decode (mb 1119) 14 = .ok (.iconst 0, 1) := by decide +kernel
theorem d1119_15 : decode (mb 1119) 15 = .ok (.goto 27, 3) := by decide +kernel
theorem d1119_18 : decode (mb 1119) 18 = .ok (.iload_n 1, 1) := by decide +kernel
theorem d1119_19 : decode (mb 1119) 19 = .ok (.iconst 2, 1) := by decide +kernel
theorem d1119_20 : decode (mb 1119) 20 = .ok (.if_icmp .ne 14, 3) := by decide +kernel
theorem d1119_23 : decode (mb 1119) 23 = .ok (.iconst 1, 1) := by decide +kernel
theorem d1119_24 : decode (mb 1119) 24 = .ok (.aload_n 0, 1) := by decide +kernel
theorem d1119_25 : decode (mb 1119) 25 = .ok (.getfield 46, 3) := by decide +kernel
theorem d1119_28 : decode (mb 1119) 28 = .ok (.iload_n 2, 1) := by decide +kernel
theorem d1119_29 : decode (mb 1119) 29 = .ok (.iaload, 1) := by decide +kernel
theorem d1119_30 : decode (mb 1119) 30 = .ok (.iadd, 1) := by decide +kernel
theorem d1119_31 : decode (mb 1119) 31 = .ok (.goto 11, 3) := by decide +kernel
theorem d1119_34 : decode (mb 1119) 34 = .ok (.iconst 5, 1) := by decide +kernel
theorem d1119_35 : decode (mb 1119) 35 = .ok (.aload_n 0, 1) := by decide +kernel
theorem d1119_36 : decode (mb 1119) 36 = .ok (.getfield 61, 3) := by decide +kernel
theorem d1119_39 : decode (mb 1119) 39 = .ok (.iload_n 2, 1) := by decide +kernel
theorem d1119_40 : decode (mb 1119) 40 = .ok (.iaload, 1) := by decide +kernel
theorem d1119_41 : decode (mb 1119) 41 = .ok (.iadd, 1) := by decide +kernel
theorem d1119_42 : decode (mb 1119) 42 = .ok (.ireturn, 1) := by decide +kernel
theorem x1119_0 {S : List Value} {h : HP} {l0 l2 : Value} {x0 : Int32} : pX 1119 0 [l0, .int x0, l2] S h = pX 1119 1 [l0, .int x0, l2] (.int x0 :: S) h := pX_stp d1119_0 rfl rfl rfl
theorem x1119_1 {L S : List Value} {h : HP} {x : Int32} : pX 1119 1 L (.int x :: S) h = if x = 0 then pX 1119 4 L S h else pX 1119 9 L S h := pX_if_ne d1119_1 (by decide)
theorem x1119_4 {L S : List Value} {h : HP} : pX 1119 4 L S h = pX 1119 6 L (.int (-5) :: S) h := pX_bipush d1119_4 (by decide)
theorem x1119_6 {L S : List Value} {h : HP} : pX 1119 6 L S h = pX 1119 42 L S h := pX_goto d1119_6 (by decide)
theorem x1119_9 {S : List Value} {h : HP} {l0 l2 : Value} {x0 : Int32} : pX 1119 9 [l0, .int x0, l2] S h = pX 1119 10 [l0, .int x0, l2] (.int x0 :: S) h := pX_stp d1119_9 rfl rfl rfl
theorem x1119_10 {L S : List Value} {h : HP} : pX 1119 10 L S h = pX 1119 11 L (.int 1 :: S) h := pX_iconst d1119_10 (by decide)
theorem x1119_11 {L S : List Value} {h : HP} {x y : Int32} : pX 1119 11 L (.int y :: .int x :: S) h = if x = y then pX 1119 14 L S h else pX 1119 18 L S h := pX_icmp_ne d1119_11 (by decide)
theorem x1119_14 {L S : List Value} {h : HP} : pX 1119 14 L S h = pX 1119 15 L (.int 0 :: S) h := pX_iconst d1119_14 (by decide)
theorem x1119_15 {L S : List Value} {h : HP} : pX 1119 15 L S h = pX 1119 42 L S h := pX_goto d1119_15 (by decide)
theorem x1119_18 {S : List Value} {h : HP} {l0 l2 : Value} {x0 : Int32} : pX 1119 18 [l0, .int x0, l2] S h = pX 1119 19 [l0, .int x0, l2] (.int x0 :: S) h := pX_stp d1119_18 rfl rfl rfl
theorem x1119_19 {L S : List Value} {h : HP} : pX 1119 19 L S h = pX 1119 20 L (.int 2 :: S) h := pX_iconst d1119_19 (by decide)
theorem x1119_20 {L S : List Value} {h : HP} {x y : Int32} : pX 1119 20 L (.int y :: .int x :: S) h = if x = y then pX 1119 23 L S h else pX 1119 34 L S h := pX_icmp_ne d1119_20 (by decide)
theorem x1119_23 {L S : List Value} {h : HP} : pX 1119 23 L S h = pX 1119 24 L (.int 1 :: S) h := pX_iconst d1119_23 (by decide)
theorem x1119_24 {S : List Value} {h : HP} {l1 l2 : Value} {a0 : Nat} : pX 1119 24 [.ref a0, l1, l2] S h = pX 1119 25 [.ref a0, l1, l2] (.ref a0 :: S) h := pX_stp d1119_24 rfl rfl rfl
theorem x1119_25 {L S : List Value} {h : HP} {a : Nat} (hk : hp_k h a = 12) : pX 1119 25 L (.ref a :: S) h = pX 1119 28 L (.ref (hp_a h a 18) :: S) h := pX_get d1119_25 rfl rfl hk
theorem x1119_28 {S : List Value} {h : HP} {l0 l1 : Value} {x0 : Int32} : pX 1119 28 [l0, l1, .int x0] S h = pX 1119 29 [l0, l1, .int x0] (.int x0 :: S) h := pX_stp d1119_28 rfl rfl rfl
theorem x1119_29 {L S : List Value} {h : HP} {a : Nat} {j : Int32} (hk : hp_k h a = 100) (hj : inb j (hp_l h a) = true) : pX 1119 29 L (.int j :: .ref a :: S) h = pX 1119 30 L (.int (hp_i h a (ix j)) :: S) h := pX_ild d1119_29 hk hj
theorem x1119_30 {L S : List Value} {h : HP} {x y : Int32} : pX 1119 30 L (.int y :: .int x :: S) h = pX 1119 31 L (.int (x + y) :: S) h := pX_stp d1119_30 rfl rfl rfl
theorem x1119_31 {L S : List Value} {h : HP} : pX 1119 31 L S h = pX 1119 42 L S h := pX_goto d1119_31 (by decide)
theorem x1119_34 {L S : List Value} {h : HP} : pX 1119 34 L S h = pX 1119 35 L (.int 5 :: S) h := pX_iconst d1119_34 (by decide)
theorem x1119_35 {S : List Value} {h : HP} {l1 l2 : Value} {a0 : Nat} : pX 1119 35 [.ref a0, l1, l2] S h = pX 1119 36 [.ref a0, l1, l2] (.ref a0 :: S) h := pX_stp d1119_35 rfl rfl rfl
theorem x1119_36 {L S : List Value} {h : HP} {a : Nat} (hk : hp_k h a = 12) : pX 1119 36 L (.ref a :: S) h = pX 1119 39 L (.ref (hp_a h a 24) :: S) h := pX_get d1119_36 rfl rfl hk
theorem x1119_39 {S : List Value} {h : HP} {l0 l1 : Value} {x0 : Int32} : pX 1119 39 [l0, l1, .int x0] S h = pX 1119 40 [l0, l1, .int x0] (.int x0 :: S) h := pX_stp d1119_39 rfl rfl rfl
theorem x1119_40 {L S : List Value} {h : HP} {a : Nat} {j : Int32} (hk : hp_k h a = 100) (hj : inb j (hp_l h a) = true) : pX 1119 40 L (.int j :: .ref a :: S) h = pX 1119 41 L (.int (hp_i h a (ix j)) :: S) h := pX_ild d1119_40 hk hj
theorem x1119_41 {L S : List Value} {h : HP} {x y : Int32} : pX 1119 41 L (.int y :: .int x :: S) h = pX 1119 42 L (.int (x + y) :: S) h := pX_stp d1119_41 rfl rfl rfl
theorem x1119_42 {L : List Value} {h : HP} {x : Int32} : pX 1119 42 L [.int x] h = some (some (.int x), h) := pX_ret d1119_42 rfl
theorem d1120_0 : decode (mb 1120) 0 = .ok (.iload_n 1, 1) := by decide +kernel
theorem d1120_1 : decode (mb 1120) 1 = .ok (.ifCond .ne 7, 3) := by decide +kernel
theorem d1120_4 : decode (mb 1120) 4 = .ok (.iconst 0, 1) := by decide +kernel
theorem d1120_5 : decode (mb 1120) 5 = .ok (.goto 32, 3) := by decide +kernel
theorem d1120_8 : decode (mb 1120) 8 = .ok (.iload_n 1, 1) := by decide +kernel
theorem d1120_9 : decode (mb 1120) 9 = .ok (.iconst 1, 1) := by decide +kernel
theorem d1120_10 : decode (mb 1120) 10 = .ok (.if_icmp .ne 7, 3) := by decide +kernel
theorem d1120_13 : decode (mb 1120) 13 = .ok (.iload_n 2, 1) := by decide +kernel
theorem d1120_14 : decode (mb 1120) 14 = .ok (.goto 23, 3) := by decide +kernel
theorem d1120_17 : decode (mb 1120) 17 = .ok (.iload_n 1, 1) := by decide +kernel
theorem d1120_18 : decode (mb 1120) 18 = .ok (.iconst 2, 1) := by decide +kernel
theorem d1120_19 : decode (mb 1120) 19 = .ok (.if_icmp .ne 12, 3) := by decide +kernel
theorem d1120_22 : decode (mb 1120) 22 = .ok (.aload_n 0, 1) := by decide +kernel
theorem d1120_23 : decode (mb 1120) 23 = .ok (.getfield 49, 3) := by decide +kernel
theorem d1120_26 : decode (mb 1120) 26 = .ok (.iload_n 2, 1) := by decide +kernel
theorem d1120_27 : decode (mb 1120) 27 = .ok (.iaload, 1) := by decide +kernel
theorem d1120_28 : decode (mb 1120) 28 = .ok (.goto 9, 3) := by decide +kernel
theorem d1120_31 : decode (mb 1120) 31 = .ok (.aload_n 0, 1) := by decide +kernel
theorem d1120_32 : decode (mb 1120) 32 = .ok (.getfield 67, 3) := by decide +kernel
theorem d1120_35 : decode (mb 1120) 35 = .ok (.iload_n 2, 1) := by decide +kernel
theorem d1120_36 : decode (mb 1120) 36 = .ok (.iaload, 1) := by decide +kernel
theorem d1120_37 : decode (mb 1120) 37 = .ok (.ireturn, 1) := by decide +kernel
theorem x1120_0 {S : List Value} {h : HP} {l0 l2 : Value} {x0 : Int32} : pX 1120 0 [l0, .int x0, l2] S h = pX 1120 1 [l0, .int x0, l2] (.int x0 :: S) h := pX_stp d1120_0 rfl rfl rfl
theorem x1120_1 {L S : List Value} {h : HP} {x : Int32} : pX 1120 1 L (.int x :: S) h = if x = 0 then pX 1120 4 L S h else pX 1120 8 L S h := pX_if_ne d1120_1 (by decide)
theorem x1120_4 {L S : List Value} {h : HP} : pX 1120 4 L S h = pX 1120 5 L (.int 0 :: S) h := pX_iconst d1120_4 (by decide)
theorem x1120_5 {L S : List Value} {h : HP} : pX 1120 5 L S h = pX 1120 37 L S h := pX_goto d1120_5 (by decide)
theorem x1120_8 {S : List Value} {h : HP} {l0 l2 : Value} {x0 : Int32} : pX 1120 8 [l0, .int x0, l2] S h = pX 1120 9 [l0, .int x0, l2] (.int x0 :: S) h := pX_stp d1120_8 rfl rfl rfl
theorem x1120_9 {L S : List Value} {h : HP} : pX 1120 9 L S h = pX 1120 10 L (.int 1 :: S) h := pX_iconst d1120_9 (by decide)
theorem x1120_10 {L S : List Value} {h : HP} {x y : Int32} : pX 1120 10 L (.int y :: .int x :: S) h = if x = y then pX 1120 13 L S h else pX 1120 17 L S h := pX_icmp_ne d1120_10 (by decide)
theorem x1120_13 {S : List Value} {h : HP} {l0 l1 : Value} {x0 : Int32} : pX 1120 13 [l0, l1, .int x0] S h = pX 1120 14 [l0, l1, .int x0] (.int x0 :: S) h := pX_stp d1120_13 rfl rfl rfl
theorem x1120_14 {L S : List Value} {h : HP} : pX 1120 14 L S h = pX 1120 37 L S h := pX_goto d1120_14 (by decide)
theorem x1120_17 {S : List Value} {h : HP} {l0 l2 : Value} {x0 : Int32} : pX 1120 17 [l0, .int x0, l2] S h = pX 1120 18 [l0, .int x0, l2] (.int x0 :: S) h := pX_stp d1120_17 rfl rfl rfl
theorem x1120_18 {L S : List Value} {h : HP} : pX 1120 18 L S h = pX 1120 19 L (.int 2 :: S) h := pX_iconst d1120_18 (by decide)
theorem x1120_19 {L S : List Value} {h : HP} {x y : Int32} : pX 1120 19 L (.int y :: .int x :: S) h = if x = y then pX 1120 22 L S h else pX 1120 31 L S h := pX_icmp_ne d1120_19 (by decide)
theorem x1120_22 {S : List Value} {h : HP} {l1 l2 : Value} {a0 : Nat} : pX 1120 22 [.ref a0, l1, l2] S h = pX 1120 23 [.ref a0, l1, l2] (.ref a0 :: S) h := pX_stp d1120_22 rfl rfl rfl
theorem x1120_23 {L S : List Value} {h : HP} {a : Nat} (hk : hp_k h a = 12) : pX 1120 23 L (.ref a :: S) h = pX 1120 26 L (.ref (hp_a h a 19) :: S) h := pX_get d1120_23 rfl rfl hk
theorem x1120_26 {S : List Value} {h : HP} {l0 l1 : Value} {x0 : Int32} : pX 1120 26 [l0, l1, .int x0] S h = pX 1120 27 [l0, l1, .int x0] (.int x0 :: S) h := pX_stp d1120_26 rfl rfl rfl
theorem x1120_27 {L S : List Value} {h : HP} {a : Nat} {j : Int32} (hk : hp_k h a = 100) (hj : inb j (hp_l h a) = true) : pX 1120 27 L (.int j :: .ref a :: S) h = pX 1120 28 L (.int (hp_i h a (ix j)) :: S) h := pX_ild d1120_27 hk hj
theorem x1120_28 {L S : List Value} {h : HP} : pX 1120 28 L S h = pX 1120 37 L S h := pX_goto d1120_28 (by decide)
theorem x1120_31 {S : List Value} {h : HP} {l1 l2 : Value} {a0 : Nat} : pX 1120 31 [.ref a0, l1, l2] S h = pX 1120 32 [.ref a0, l1, l2] (.ref a0 :: S) h := pX_stp d1120_31 rfl rfl rfl
theorem x1120_32 {L S : List Value} {h : HP} {a : Nat} (hk : hp_k h a = 12) : pX 1120 32 L (.ref a :: S) h = pX 1120 35 L (.ref (hp_a h a 26) :: S) h := pX_get d1120_32 rfl rfl hk
theorem x1120_35 {S : List Value} {h : HP} {l0 l1 : Value} {x0 : Int32} : pX 1120 35 [l0, l1, .int x0] S h = pX 1120 36 [l0, l1, .int x0] (.int x0 :: S) h := pX_stp d1120_35 rfl rfl rfl
theorem x1120_36 {L S : List Value} {h : HP} {a : Nat} {j : Int32} (hk : hp_k h a = 100) (hj : inb j (hp_l h a) = true) : pX 1120 36 L (.int j :: .ref a :: S) h = pX 1120 37 L (.int (hp_i h a (ix j)) :: S) h := pX_ild d1120_36 hk hj
theorem x1120_37 {L : List Value} {h : HP} {x : Int32} : pX 1120 37 L [.int x] h = some (some (.int x), h) := pX_ret d1120_37 rfl
theorem d1121_0 : decode (mb 1121) 0 = .ok (.aload_n 0, 1) := by decide +kernel
theorem d1121_1 : decode (mb 1121) 1 = .ok (.iload_n 1, 1) := by decide +kernel
theorem d1121_2 : decode (mb 1121) 2 = .ok (.iload_n 2, 1) := by decide +kernel
theorem d1121_3 : decode (mb 1121) 3 = .ok (.invokevirtual 153, 3) := by decide +kernel
theorem d1121_6 : decode (mb 1121) 6 = .ok (.istore 4, 2) := by decide +kernel
theorem d1121_8 : decode (mb 1121) 8 = .ok (.iload 4, 2) := by decide +kernel
theorem d1121_10 : decode (mb 1121) 10 = .ok (.bipush (-5), 2) := by decide +kernel
theorem d1121_12 : decode (mb 1121) 12 = .ok (.if_icmp .ne 5, 3) := by decide +kernel
theorem d1121_15 : decode (mb 1121) 15 = .ok (.iconst 0, 1) := by decide +kernel
theorem d1121_16 : decode (mb 1121) 16 = .ok (.ireturn, 1) := by decide +kernel
theorem d1121_17 : decode (mb 1121) 17 = .ok (.iload_n 3, 1) := by decide +kernel
theorem d1121_18 : decode (mb 1121) 18 = .ok (.bipush 11, 2) := by decide +kernel
theorem d1121_20 : decode (mb 1121) 20 = .ok (.if_icmp .eq 48, 3) := by decide +kernel
theorem d1121_23 : decode (mb 1121) 23 = .ok (.iload_n 3, 1) := by decide +kernel
theorem d1121_24 : decode (mb 1121) 24 = .ok (.bipush 10, 2) := by decide +kernel
theorem d1121_26 : decode (mb 1121) 26 = .ok (.if_icmp .ne 12, 3) := by decide +kernel
theorem d1121_29 : decode (mb 1121) 29 = .ok (.iload 4, 2) := by decide +kernel
theorem d1121_31 : decode (mb 1121) 31 = .ok (.iconst 4, 1) := by decide +kernel
theorem d1121_32 : decode (mb 1121) 32 = .ok (.if_icmp .le 40, 3) := by decide +kernel
theorem d1121_35 : decode (mb 1121) 35 = .ok (.goto 33, 3) := by decide +kernel
theorem d1121_38 : decode (mb 1121) 38 = .ok (.iload_n 3, 1) := by decide +kernel
theorem d1121_39 : decode (mb 1121) 39 = .ok (.ifCond .le 23, 3) := by decide +kernel
theorem d1121_42 : decode (mb 1121) 42 = .ok (.iload_n 3, 1) := by decide +kernel
theorem d1121_43 : decode (mb 1121) 43 = .ok (.iconst 5, 1) := by decide +kernel
theorem d1121_44 : decode (mb 1121) 44 = .ok (.if_icmp .ge 18, 3) := by decide +kernel
theorem d1121_47 : decode (mb 1121) 47 = .ok (.iload 4, 2) := by decide +kernel
theorem d1121_49 : decode (mb 1121) 49 = .ok (.iload_n 3, 1) := by decide +kernel
theorem d1121_50 : decode (mb 1121) 50 = .ok (.if_icmp .lt 22, 3) := by decide +kernel
theorem d1121_53 : decode (mb 1121) 53 = .ok (.iload 4, 2) := by decide +kernel
theorem d1121_55 : decode (mb 1121) 55 = .ok (.iconst 5, 1) := by decide +kernel
theorem d1121_56 : decode (mb 1121) 56 = .ok (.if_icmp .ge 16, 3) := by decide +kernel
theorem d1121_59 : decode (mb 1121) 59 = .ok (.goto 9, 3) := by decide +kernel
theorem d1121_62 : decode (mb 1121) 62 = .ok (.iload 4, 2) := by decide +kernel
theorem d1121_64 : decode (mb 1121) 64 = .ok (.iload_n 3, 1) := by decide +kernel
theorem d1121_65 : decode (mb 1121) 65 = .ok (.if_icmp .ne 7, 3) := by decide +kernel
theorem d1121_68 : decode (mb 1121) 68 = .ok (.iconst 1, 1) := by decide +kernel
theorem d1121_69 : decode (mb 1121) 69 = .ok (.goto 4, 3) := by decide +kernel
theorem d1121_72 : decode (mb 1121) 72 = .ok (.iconst 0, 1) := by decide +kernel
theorem d1121_73 : decode (mb 1121) 73 = .ok (.ireturn, 1) := by decide +kernel
theorem x1121_0 {S : List Value} {h : HP} {l1 l2 l3 l4 : Value} {a0 : Nat} : pX 1121 0 [.ref a0, l1, l2, l3, l4] S h = pX 1121 1 [.ref a0, l1, l2, l3, l4] (.ref a0 :: S) h := pX_stp d1121_0 rfl rfl rfl
theorem x1121_1 {S : List Value} {h : HP} {l0 l2 l3 l4 : Value} {x0 : Int32} : pX 1121 1 [l0, .int x0, l2, l3, l4] S h = pX 1121 2 [l0, .int x0, l2, l3, l4] (.int x0 :: S) h := pX_stp d1121_1 rfl rfl rfl
theorem x1121_2 {S : List Value} {h : HP} {l0 l1 l3 l4 : Value} {x0 : Int32} : pX 1121 2 [l0, l1, .int x0, l3, l4] S h = pX 1121 3 [l0, l1, .int x0, l3, l4] (.int x0 :: S) h := pX_stp d1121_2 rfl rfl rfl
theorem x1121_3 {L : List Value} {h : HP} {x0 : Int32} {x1 : Int32} {a0 : Nat} (hk : hp_k h a0 = 12) : pX 1121 3 L [.int x0, .int x1, .ref a0] h = (pX 1119 0 [.ref a0, .int x1, .int x0] [] h).bind (fun q => pX 1121 6 L (q.1.toList ++ []) q.2) := pX_inv (a := a0) (t := 12) 1119 [.ref a0, .int x1, .int x0] [] d1121_3 rfl rfl rfl hk
theorem x1121_6 {S : List Value} {h : HP} {l0 l1 l2 l3 l4 : Value} {x0 : Int32} : pX 1121 6 [l0, l1, l2, l3, l4] (.int x0 :: S) h = pX 1121 8 [l0, l1, l2, l3, .int x0] S h := pX_stp d1121_6 rfl rfl rfl
theorem x1121_8 {S : List Value} {h : HP} {l0 l1 l2 l3 : Value} {x0 : Int32} : pX 1121 8 [l0, l1, l2, l3, .int x0] S h = pX 1121 10 [l0, l1, l2, l3, .int x0] (.int x0 :: S) h := pX_stp d1121_8 rfl rfl rfl
theorem x1121_10 {L S : List Value} {h : HP} : pX 1121 10 L S h = pX 1121 12 L (.int (-5) :: S) h := pX_bipush d1121_10 (by decide)
theorem x1121_12 {L S : List Value} {h : HP} {x y : Int32} : pX 1121 12 L (.int y :: .int x :: S) h = if x = y then pX 1121 15 L S h else pX 1121 17 L S h := pX_icmp_ne d1121_12 (by decide)
theorem x1121_15 {L S : List Value} {h : HP} : pX 1121 15 L S h = pX 1121 16 L (.int 0 :: S) h := pX_iconst d1121_15 (by decide)
theorem x1121_16 {L : List Value} {h : HP} {x : Int32} (hx : x = 0 ∨ x = 1) : pX 1121 16 L [.int x] h = some (some (.int x), h) := pX_ret d1121_16 (by rcases hx with rfl | rfl <;> rfl)
theorem x1121_17 {S : List Value} {h : HP} {l0 l1 l2 l4 : Value} {x0 : Int32} : pX 1121 17 [l0, l1, l2, .int x0, l4] S h = pX 1121 18 [l0, l1, l2, .int x0, l4] (.int x0 :: S) h := pX_stp d1121_17 rfl rfl rfl
theorem x1121_18 {L S : List Value} {h : HP} : pX 1121 18 L S h = pX 1121 20 L (.int 11 :: S) h := pX_bipush d1121_18 (by decide)
theorem x1121_20 {L S : List Value} {h : HP} {x y : Int32} : pX 1121 20 L (.int y :: .int x :: S) h = if x = y then pX 1121 68 L S h else pX 1121 23 L S h := pX_icmp_eq d1121_20 (by decide)
theorem x1121_23 {S : List Value} {h : HP} {l0 l1 l2 l4 : Value} {x0 : Int32} : pX 1121 23 [l0, l1, l2, .int x0, l4] S h = pX 1121 24 [l0, l1, l2, .int x0, l4] (.int x0 :: S) h := pX_stp d1121_23 rfl rfl rfl
theorem x1121_24 {L S : List Value} {h : HP} : pX 1121 24 L S h = pX 1121 26 L (.int 10 :: S) h := pX_bipush d1121_24 (by decide)
theorem x1121_26 {L S : List Value} {h : HP} {x y : Int32} : pX 1121 26 L (.int y :: .int x :: S) h = if x = y then pX 1121 29 L S h else pX 1121 38 L S h := pX_icmp_ne d1121_26 (by decide)
theorem x1121_29 {S : List Value} {h : HP} {l0 l1 l2 l3 : Value} {x0 : Int32} : pX 1121 29 [l0, l1, l2, l3, .int x0] S h = pX 1121 31 [l0, l1, l2, l3, .int x0] (.int x0 :: S) h := pX_stp d1121_29 rfl rfl rfl
theorem x1121_31 {L S : List Value} {h : HP} : pX 1121 31 L S h = pX 1121 32 L (.int 4 :: S) h := pX_iconst d1121_31 (by decide)
theorem x1121_32 {L S : List Value} {h : HP} {x y : Int32} : pX 1121 32 L (.int y :: .int x :: S) h = if x ≤ y then pX 1121 72 L S h else pX 1121 35 L S h := pX_icmp_le d1121_32 (by decide)
theorem x1121_35 {L S : List Value} {h : HP} : pX 1121 35 L S h = pX 1121 68 L S h := pX_goto d1121_35 (by decide)
theorem x1121_38 {S : List Value} {h : HP} {l0 l1 l2 l4 : Value} {x0 : Int32} : pX 1121 38 [l0, l1, l2, .int x0, l4] S h = pX 1121 39 [l0, l1, l2, .int x0, l4] (.int x0 :: S) h := pX_stp d1121_38 rfl rfl rfl
theorem x1121_39 {L S : List Value} {h : HP} {x : Int32} : pX 1121 39 L (.int x :: S) h = if x ≤ 0 then pX 1121 62 L S h else pX 1121 42 L S h := pX_if_le d1121_39 (by decide)
theorem x1121_42 {S : List Value} {h : HP} {l0 l1 l2 l4 : Value} {x0 : Int32} : pX 1121 42 [l0, l1, l2, .int x0, l4] S h = pX 1121 43 [l0, l1, l2, .int x0, l4] (.int x0 :: S) h := pX_stp d1121_42 rfl rfl rfl
theorem x1121_43 {L S : List Value} {h : HP} : pX 1121 43 L S h = pX 1121 44 L (.int 5 :: S) h := pX_iconst d1121_43 (by decide)
theorem x1121_44 {L S : List Value} {h : HP} {x y : Int32} : pX 1121 44 L (.int y :: .int x :: S) h = if y ≤ x then pX 1121 62 L S h else pX 1121 47 L S h := pX_icmp_ge d1121_44 (by decide)
theorem x1121_47 {S : List Value} {h : HP} {l0 l1 l2 l3 : Value} {x0 : Int32} : pX 1121 47 [l0, l1, l2, l3, .int x0] S h = pX 1121 49 [l0, l1, l2, l3, .int x0] (.int x0 :: S) h := pX_stp d1121_47 rfl rfl rfl
theorem x1121_49 {S : List Value} {h : HP} {l0 l1 l2 l4 : Value} {x0 : Int32} : pX 1121 49 [l0, l1, l2, .int x0, l4] S h = pX 1121 50 [l0, l1, l2, .int x0, l4] (.int x0 :: S) h := pX_stp d1121_49 rfl rfl rfl
theorem x1121_50 {L S : List Value} {h : HP} {x y : Int32} : pX 1121 50 L (.int y :: .int x :: S) h = if x < y then pX 1121 72 L S h else pX 1121 53 L S h := pX_icmp_lt d1121_50 (by decide)
theorem x1121_53 {S : List Value} {h : HP} {l0 l1 l2 l3 : Value} {x0 : Int32} : pX 1121 53 [l0, l1, l2, l3, .int x0] S h = pX 1121 55 [l0, l1, l2, l3, .int x0] (.int x0 :: S) h := pX_stp d1121_53 rfl rfl rfl
theorem x1121_55 {L S : List Value} {h : HP} : pX 1121 55 L S h = pX 1121 56 L (.int 5 :: S) h := pX_iconst d1121_55 (by decide)
theorem x1121_56 {L S : List Value} {h : HP} {x y : Int32} : pX 1121 56 L (.int y :: .int x :: S) h = if y ≤ x then pX 1121 72 L S h else pX 1121 59 L S h := pX_icmp_ge d1121_56 (by decide)
theorem x1121_59 {L S : List Value} {h : HP} : pX 1121 59 L S h = pX 1121 68 L S h := pX_goto d1121_59 (by decide)
theorem x1121_62 {S : List Value} {h : HP} {l0 l1 l2 l3 : Value} {x0 : Int32} : pX 1121 62 [l0, l1, l2, l3, .int x0] S h = pX 1121 64 [l0, l1, l2, l3, .int x0] (.int x0 :: S) h := pX_stp d1121_62 rfl rfl rfl
theorem x1121_64 {S : List Value} {h : HP} {l0 l1 l2 l4 : Value} {x0 : Int32} : pX 1121 64 [l0, l1, l2, .int x0, l4] S h = pX 1121 65 [l0, l1, l2, .int x0, l4] (.int x0 :: S) h := pX_stp d1121_64 rfl rfl rfl
theorem x1121_65 {L S : List Value} {h : HP} {x y : Int32} : pX 1121 65 L (.int y :: .int x :: S) h = if x = y then pX 1121 68 L S h else pX 1121 72 L S h := pX_icmp_ne d1121_65 (by decide)
theorem x1121_68 {L S : List Value} {h : HP} : pX 1121 68 L S h = pX 1121 69 L (.int 1 :: S) h := pX_iconst d1121_68 (by decide)
theorem x1121_69 {L S : List Value} {h : HP} : pX 1121 69 L S h = pX 1121 73 L S h := pX_goto d1121_69 (by decide)
theorem x1121_72 {L S : List Value} {h : HP} : pX 1121 72 L S h = pX 1121 73 L (.int 0 :: S) h := pX_iconst d1121_72 (by decide)
theorem x1121_73 {L : List Value} {h : HP} {x : Int32} (hx : x = 0 ∨ x = 1) : pX 1121 73 L [.int x] h = some (some (.int x), h) := pX_ret d1121_73 (by rcases hx with rfl | rfl <;> rfl)
theorem d1122_0 : decode (mb 1122) 0 = .ok (.lload_n 1, 1) := by decide +kernel
theorem d1122_1 : decode (mb 1122) 1 = .ok (.aload_n 0, 1) := by decide +kernel
theorem d1122_2 : decode (mb 1122) 2 = .ok (.getfield 157, 3) := by decide +kernel
theorem d1122_5 : decode (mb 1122) 5 = .ok (.i2l, 1) := by decide +kernel
theorem d1122_6 : decode (mb 1122) 6 = .ok (.lcmp, 1) := by decide +kernel
theorem d1122_7 : decode (mb 1122) 7 = .ok (.ifCond .gt 13, 3) := by decide +kernel
theorem d1122_10 : decode (mb 1122) 10 = .ok (.lload_n 1, 1) := by decide +kernel
theorem d1122_11 : decode (mb 1122) 11 = .ok (.aload_n 0, 1) := by decide +kernel
theorem d1122_12 : decode (mb 1122) 12 = .ok (.getfield 104, 3) := by decide +kernel
theorem d1122_15 : decode (mb 1122) 15 = .ok (.i2l, 1) := by decide +kernel
theorem d1122_16 : decode (mb 1122) 16 = .ok (.lcmp, 1) := by decide +kernel
theorem d1122_17 : decode (mb 1122) 17 = .ok (.ifCond .le 5, 3) := by decide +kernel
theorem d1122_20 : decode (mb 1122) 20 = .ok (.iconst 0, 1) := by decide +kernel
theorem d1122_21 : decode (mb 1122) 21 = .ok (.ireturn, 1) := by decide +kernel
theorem d1122_22 : decode (mb 1122) 22 = .ok (.aload_n 0, 1) := by decide +kernel
theorem d1122_23 : decode (mb 1122) 23 = .ok (.dup, 1) := by decide +kernel
theorem d1122_24 : decode (mb 1122) 24 = .ok (.getfield 157, 3) := by decide +kernel
theorem d1122_27 : decode (mb 1122) 27 = .ok (.lload_n 1, 1) := by decide +kernel
theorem d1122_28 : decode (mb 1122) 28 = .ok (.l2i, 1) := by decide +kernel
theorem d1122_29 : decode (mb 1122) 29 = .ok (.isub, 1) := by decide +kernel
theorem d1122_30 : decode (mb 1122) 30 = .ok (.putfield 157, 3) := by decide +kernel
theorem d1122_33 : decode (mb 1122) 33 = .ok (.aload_n 0, 1) := by decide +kernel
theorem d1122_34 : decode (mb 1122) 34 = .ok (.dup, 1) := by decide +kernel
theorem d1122_35 : decode (mb 1122) 35 = .ok (.getfield 104, 3) := by decide +kernel
theorem d1122_38 : decode (mb 1122) 38 = .ok (.lload_n 1, 1) := by decide +kernel
theorem d1122_39 : decode (mb 1122) 39 = .ok (.l2i, 1) := by decide +kernel
theorem d1122_40 : decode (mb 1122) 40 = .ok (.isub, 1) := by decide +kernel
theorem d1122_41 : decode (mb 1122) 41 = .ok (.putfield 104, 3) := by decide +kernel
theorem d1122_44 : decode (mb 1122) 44 = .ok (.aload_n 0, 1) := by decide +kernel
theorem d1122_45 : decode (mb 1122) 45 = .ok (.getfield 95, 3) := by decide +kernel
theorem d1122_48 : decode (mb 1122) 48 = .ok (.iconst 0, 1) := by decide +kernel
theorem d1122_49 : decode (mb 1122) 49 = .ok (.dup2, 1) := by decide +kernel
theorem d1122_50 : decode (mb 1122) 50 = .ok (.iaload, 1) := by decide +kernel
theorem d1122_51 : decode (mb 1122) 51 = .ok (.lload_n 1, 1) := by decide +kernel
theorem d1122_52 : decode (mb 1122) 52 = .ok (.l2i, 1) := by decide +kernel
theorem d1122_53 : decode (mb 1122) 53 = .ok (.iadd, 1) := by decide +kernel
theorem d1122_54 : decode (mb 1122) 54 = .ok (.iastore, 1) := by decide +kernel
theorem d1122_55 : decode (mb 1122) 55 = .ok (.iconst 1, 1) := by decide +kernel
theorem d1122_56 : decode (mb 1122) 56 = .ok (.ireturn, 1) := by decide +kernel
theorem x1122_0 {S : List Value} {h : HP} {l0 l2 : Value} {z0 : Int64} : pX 1122 0 [l0, .long z0, l2] S h = pX 1122 1 [l0, .long z0, l2] (.long z0 :: S) h := pX_stp d1122_0 rfl rfl rfl
theorem x1122_1 {S : List Value} {h : HP} {l1 l2 : Value} {a0 : Nat} : pX 1122 1 [.ref a0, l1, l2] S h = pX 1122 2 [.ref a0, l1, l2] (.ref a0 :: S) h := pX_stp d1122_1 rfl rfl rfl
theorem x1122_2 {L S : List Value} {h : HP} {a : Nat} (hk : hp_k h a = 12) : pX 1122 2 L (.ref a :: S) h = pX 1122 5 L (.int (hp_i h a 37) :: S) h := pX_get d1122_2 rfl rfl hk
theorem x1122_5 {L S : List Value} {h : HP} {x : Int32} : pX 1122 5 L (.int x :: S) h = pX 1122 6 L (.long x.toInt64 :: S) h := pX_stp d1122_5 rfl rfl rfl
theorem x1122_6 {L S : List Value} {h : HP} {x y : Int64} : pX 1122 6 L (.long y :: .long x :: S) h = pX 1122 7 L (.int (lg_cmp x y) :: S) h := pX_stp d1122_6 rfl rfl rfl
theorem x1122_7 {L S : List Value} {h : HP} {x : Int32} : pX 1122 7 L (.int x :: S) h = if 0 < x then pX 1122 20 L S h else pX 1122 10 L S h := pX_if_gt d1122_7 (by decide)
theorem x1122_10 {S : List Value} {h : HP} {l0 l2 : Value} {z0 : Int64} : pX 1122 10 [l0, .long z0, l2] S h = pX 1122 11 [l0, .long z0, l2] (.long z0 :: S) h := pX_stp d1122_10 rfl rfl rfl
theorem x1122_11 {S : List Value} {h : HP} {l1 l2 : Value} {a0 : Nat} : pX 1122 11 [.ref a0, l1, l2] S h = pX 1122 12 [.ref a0, l1, l2] (.ref a0 :: S) h := pX_stp d1122_11 rfl rfl rfl
theorem x1122_12 {L S : List Value} {h : HP} {a : Nat} (hk : hp_k h a = 12) : pX 1122 12 L (.ref a :: S) h = pX 1122 15 L (.int (hp_i h a 38) :: S) h := pX_get d1122_12 rfl rfl hk
theorem x1122_15 {L S : List Value} {h : HP} {x : Int32} : pX 1122 15 L (.int x :: S) h = pX 1122 16 L (.long x.toInt64 :: S) h := pX_stp d1122_15 rfl rfl rfl
theorem x1122_16 {L S : List Value} {h : HP} {x y : Int64} : pX 1122 16 L (.long y :: .long x :: S) h = pX 1122 17 L (.int (lg_cmp x y) :: S) h := pX_stp d1122_16 rfl rfl rfl
theorem x1122_17 {L S : List Value} {h : HP} {x : Int32} : pX 1122 17 L (.int x :: S) h = if x ≤ 0 then pX 1122 22 L S h else pX 1122 20 L S h := pX_if_le d1122_17 (by decide)
theorem x1122_20 {L S : List Value} {h : HP} : pX 1122 20 L S h = pX 1122 21 L (.int 0 :: S) h := pX_iconst d1122_20 (by decide)
theorem x1122_21 {L : List Value} {h : HP} {x : Int32} (hx : x = 0 ∨ x = 1) : pX 1122 21 L [.int x] h = some (some (.int x), h) := pX_ret d1122_21 (by rcases hx with rfl | rfl <;> rfl)
theorem x1122_22 {S : List Value} {h : HP} {l1 l2 : Value} {a0 : Nat} : pX 1122 22 [.ref a0, l1, l2] S h = pX 1122 23 [.ref a0, l1, l2] (.ref a0 :: S) h := pX_stp d1122_22 rfl rfl rfl
theorem x1122_23 {L S : List Value} {h : HP} {a0 : Nat} : pX 1122 23 L (.ref a0 :: S) h = pX 1122 24 L (.ref a0 :: .ref a0 :: S) h := pX_stp d1122_23 rfl rfl rfl
theorem x1122_24 {L S : List Value} {h : HP} {a : Nat} (hk : hp_k h a = 12) : pX 1122 24 L (.ref a :: S) h = pX 1122 27 L (.int (hp_i h a 37) :: S) h := pX_get d1122_24 rfl rfl hk
theorem x1122_27 {S : List Value} {h : HP} {l0 l2 : Value} {z0 : Int64} : pX 1122 27 [l0, .long z0, l2] S h = pX 1122 28 [l0, .long z0, l2] (.long z0 :: S) h := pX_stp d1122_27 rfl rfl rfl
theorem x1122_28 {L S : List Value} {h : HP} {x : Int64} : pX 1122 28 L (.long x :: S) h = pX 1122 29 L (.int x.toInt32 :: S) h := pX_stp d1122_28 rfl rfl rfl
theorem x1122_29 {L S : List Value} {h : HP} {x y : Int32} : pX 1122 29 L (.int y :: .int x :: S) h = pX 1122 30 L (.int (x - y) :: S) h := pX_stp d1122_29 rfl rfl rfl
theorem x1122_30 {L S : List Value} {h : HP} {a : Nat} {x : Int32} (hk : hp_k h a = 12) : pX 1122 30 L (.int x :: .ref a :: S) h = pX 1122 33 L S (hp_wi h a 37 x) := pX_put d1122_30 rfl rfl rfl hk
theorem x1122_33 {S : List Value} {h : HP} {l1 l2 : Value} {a0 : Nat} : pX 1122 33 [.ref a0, l1, l2] S h = pX 1122 34 [.ref a0, l1, l2] (.ref a0 :: S) h := pX_stp d1122_33 rfl rfl rfl
theorem x1122_34 {L S : List Value} {h : HP} {a0 : Nat} : pX 1122 34 L (.ref a0 :: S) h = pX 1122 35 L (.ref a0 :: .ref a0 :: S) h := pX_stp d1122_34 rfl rfl rfl
theorem x1122_35 {L S : List Value} {h : HP} {a : Nat} (hk : hp_k h a = 12) : pX 1122 35 L (.ref a :: S) h = pX 1122 38 L (.int (hp_i h a 38) :: S) h := pX_get d1122_35 rfl rfl hk
theorem x1122_38 {S : List Value} {h : HP} {l0 l2 : Value} {z0 : Int64} : pX 1122 38 [l0, .long z0, l2] S h = pX 1122 39 [l0, .long z0, l2] (.long z0 :: S) h := pX_stp d1122_38 rfl rfl rfl
theorem x1122_39 {L S : List Value} {h : HP} {x : Int64} : pX 1122 39 L (.long x :: S) h = pX 1122 40 L (.int x.toInt32 :: S) h := pX_stp d1122_39 rfl rfl rfl
theorem x1122_40 {L S : List Value} {h : HP} {x y : Int32} : pX 1122 40 L (.int y :: .int x :: S) h = pX 1122 41 L (.int (x - y) :: S) h := pX_stp d1122_40 rfl rfl rfl
theorem x1122_41 {L S : List Value} {h : HP} {a : Nat} {x : Int32} (hk : hp_k h a = 12) : pX 1122 41 L (.int x :: .ref a :: S) h = pX 1122 44 L S (hp_wi h a 38 x) := pX_put d1122_41 rfl rfl rfl hk
theorem x1122_44 {S : List Value} {h : HP} {l1 l2 : Value} {a0 : Nat} : pX 1122 44 [.ref a0, l1, l2] S h = pX 1122 45 [.ref a0, l1, l2] (.ref a0 :: S) h := pX_stp d1122_44 rfl rfl rfl
theorem x1122_45 {L S : List Value} {h : HP} {a : Nat} (hk : hp_k h a = 12) : pX 1122 45 L (.ref a :: S) h = pX 1122 48 L (.ref (hp_a h a 39) :: S) h := pX_get d1122_45 rfl rfl hk
theorem x1122_48 {L S : List Value} {h : HP} : pX 1122 48 L S h = pX 1122 49 L (.int 0 :: S) h := pX_iconst d1122_48 (by decide)
theorem x1122_49 {L S : List Value} {h : HP} {x0 : Int32} {a0 : Nat} : pX 1122 49 L (.int x0 :: .ref a0 :: S) h = pX 1122 50 L (.int x0 :: .ref a0 :: .int x0 :: .ref a0 :: S) h := pX_stp d1122_49 rfl rfl rfl
theorem x1122_50 {L S : List Value} {h : HP} {a : Nat} {j : Int32} (hk : hp_k h a = 100) (hj : inb j (hp_l h a) = true) : pX 1122 50 L (.int j :: .ref a :: S) h = pX 1122 51 L (.int (hp_i h a (ix j)) :: S) h := pX_ild d1122_50 hk hj
theorem x1122_51 {S : List Value} {h : HP} {l0 l2 : Value} {z0 : Int64} : pX 1122 51 [l0, .long z0, l2] S h = pX 1122 52 [l0, .long z0, l2] (.long z0 :: S) h := pX_stp d1122_51 rfl rfl rfl
theorem x1122_52 {L S : List Value} {h : HP} {x : Int64} : pX 1122 52 L (.long x :: S) h = pX 1122 53 L (.int x.toInt32 :: S) h := pX_stp d1122_52 rfl rfl rfl
theorem x1122_53 {L S : List Value} {h : HP} {x y : Int32} : pX 1122 53 L (.int y :: .int x :: S) h = pX 1122 54 L (.int (x + y) :: S) h := pX_stp d1122_53 rfl rfl rfl
theorem x1122_54 {L S : List Value} {h : HP} {a : Nat} {j x : Int32} (hk : hp_k h a = 100) (hj : inb j (hp_l h a) = true) : pX 1122 54 L (.int x :: .int j :: .ref a :: S) h = pX 1122 55 L S (hp_wi h a (ix j) x) := pX_ist d1122_54 hk hj
theorem x1122_55 {L S : List Value} {h : HP} : pX 1122 55 L S h = pX 1122 56 L (.int 1 :: S) h := pX_iconst d1122_55 (by decide)
theorem x1122_56 {L : List Value} {h : HP} {x : Int32} (hx : x = 0 ∨ x = 1) : pX 1122 56 L [.int x] h = some (some (.int x), h) := pX_ret d1122_56 (by rcases hx with rfl | rfl <;> rfl)
theorem d1123_0 : decode (mb 1123) 0 = .ok (.aload_n 0, 1) := by decide +kernel
theorem d1123_1 : decode (mb 1123) 1 = .ok (.getfield 160, 3) := by decide +kernel
theorem d1123_4 : decode (mb 1123) 4 = .ok (.bipush 100, 2) := by decide +kernel
theorem d1123_6 : decode (mb 1123) 6 = .ok (.if_icmp .ge 23, 3) := by decide +kernel
theorem d1123_9 : decode (mb 1123) 9 = .ok (.aload_n 0, 1) := by decide +kernel
theorem d1123_10 : decode (mb 1123) 10 = .ok (.getfield 98, 3) := by decide +kernel
theorem d1123_13 : decode (mb 1123) 13 = .ok (.aload_n 0, 1) := by decide +kernel
theorem d1123_14 : decode (mb 1123) 14 = .ok (.getfield 160, 3) := by decide +kernel
theorem d1123_17 : decode (mb 1123) 17 = .ok (.iload_n 1, 1) := by decide +kernel
theorem d1123_18 : decode (mb 1123) 18 = .ok (.iastore, 1) := by decide +kernel
theorem d1123_19 : decode (mb 1123) 19 = .ok (.aload_n 0, 1) := by decide +kernel
theorem d1123_20 : decode (mb 1123) 20 = .ok (.dup, 1) := by decide +kernel
theorem d1123_21 : decode (mb 1123) 21 = .ok (.getfield 160, 3) := by decide +kernel
theorem d1123_24 : decode (mb 1123) 24 = .ok (.iconst 1, 1) := by decide +kernel
theorem d1123_25 : decode (mb 1123) 25 = .ok (.iadd, 1) := by decide +kernel
theorem d1123_26 : decode (mb 1123) 26 = .ok (.putfield 160, 3) := by decide +kernel
theorem d1123_29 : decode (mb 1123) 29 = .ok (.return_, 1) := by decide +kernel
theorem x1123_0 {S : List Value} {h : HP} {l1 : Value} {a0 : Nat} : pX 1123 0 [.ref a0, l1] S h = pX 1123 1 [.ref a0, l1] (.ref a0 :: S) h := pX_stp d1123_0 rfl rfl rfl
theorem x1123_1 {L S : List Value} {h : HP} {a : Nat} (hk : hp_k h a = 12) : pX 1123 1 L (.ref a :: S) h = pX 1123 4 L (.int (hp_i h a 41) :: S) h := pX_get d1123_1 rfl rfl hk
theorem x1123_4 {L S : List Value} {h : HP} : pX 1123 4 L S h = pX 1123 6 L (.int 100 :: S) h := pX_bipush d1123_4 (by decide)
theorem x1123_6 {L S : List Value} {h : HP} {x y : Int32} : pX 1123 6 L (.int y :: .int x :: S) h = if y ≤ x then pX 1123 29 L S h else pX 1123 9 L S h := pX_icmp_ge d1123_6 (by decide)
theorem x1123_9 {S : List Value} {h : HP} {l1 : Value} {a0 : Nat} : pX 1123 9 [.ref a0, l1] S h = pX 1123 10 [.ref a0, l1] (.ref a0 :: S) h := pX_stp d1123_9 rfl rfl rfl
theorem x1123_10 {L S : List Value} {h : HP} {a : Nat} (hk : hp_k h a = 12) : pX 1123 10 L (.ref a :: S) h = pX 1123 13 L (.ref (hp_a h a 40) :: S) h := pX_get d1123_10 rfl rfl hk
theorem x1123_13 {S : List Value} {h : HP} {l1 : Value} {a0 : Nat} : pX 1123 13 [.ref a0, l1] S h = pX 1123 14 [.ref a0, l1] (.ref a0 :: S) h := pX_stp d1123_13 rfl rfl rfl
theorem x1123_14 {L S : List Value} {h : HP} {a : Nat} (hk : hp_k h a = 12) : pX 1123 14 L (.ref a :: S) h = pX 1123 17 L (.int (hp_i h a 41) :: S) h := pX_get d1123_14 rfl rfl hk
theorem x1123_17 {S : List Value} {h : HP} {l0 : Value} {x0 : Int32} : pX 1123 17 [l0, .int x0] S h = pX 1123 18 [l0, .int x0] (.int x0 :: S) h := pX_stp d1123_17 rfl rfl rfl
theorem x1123_18 {L S : List Value} {h : HP} {a : Nat} {j x : Int32} (hk : hp_k h a = 100) (hj : inb j (hp_l h a) = true) : pX 1123 18 L (.int x :: .int j :: .ref a :: S) h = pX 1123 19 L S (hp_wi h a (ix j) x) := pX_ist d1123_18 hk hj
theorem x1123_19 {S : List Value} {h : HP} {l1 : Value} {a0 : Nat} : pX 1123 19 [.ref a0, l1] S h = pX 1123 20 [.ref a0, l1] (.ref a0 :: S) h := pX_stp d1123_19 rfl rfl rfl
theorem x1123_20 {L S : List Value} {h : HP} {a0 : Nat} : pX 1123 20 L (.ref a0 :: S) h = pX 1123 21 L (.ref a0 :: .ref a0 :: S) h := pX_stp d1123_20 rfl rfl rfl
theorem x1123_21 {L S : List Value} {h : HP} {a : Nat} (hk : hp_k h a = 12) : pX 1123 21 L (.ref a :: S) h = pX 1123 24 L (.int (hp_i h a 41) :: S) h := pX_get d1123_21 rfl rfl hk
theorem x1123_24 {L S : List Value} {h : HP} : pX 1123 24 L S h = pX 1123 25 L (.int 1 :: S) h := pX_iconst d1123_24 (by decide)
theorem x1123_25 {L S : List Value} {h : HP} {x y : Int32} : pX 1123 25 L (.int y :: .int x :: S) h = pX 1123 26 L (.int (x + y) :: S) h := pX_stp d1123_25 rfl rfl rfl
theorem x1123_26 {L S : List Value} {h : HP} {a : Nat} {x : Int32} (hk : hp_k h a = 12) : pX 1123 26 L (.int x :: .ref a :: S) h = pX 1123 29 L S (hp_wi h a 41 x) := pX_put d1123_26 rfl rfl rfl hk
theorem x1123_29 {L : List Value} {h : HP} : pX 1123 29 L [] h = some (none, h) := pX_ret d1123_29 rfl
theorem d1124_0 : decode (mb 1124) 0 = .ok (.aload_n 0, 1) := by decide +kernel
theorem d1124_1 : decode (mb 1124) 1 = .ok (.getfield 88, 3) := by decide +kernel
theorem d1124_4 : decode (mb 1124) 4 = .ok (.iload_n 1, 1) := by decide +kernel
theorem d1124_5 : decode (mb 1124) 5 = .ok (.iaload, 1) := by decide +kernel
theorem d1124_6 : decode (mb 1124) 6 = .ok (.ifCond .le 76, 3) := by decide +kernel
theorem d1124_9 : decode (mb 1124) 9 = .ok (.aload_n 0, 1) := by decide +kernel
theorem d1124_10 : decode (mb 1124) 10 = .ok (.getfield 95, 3) := by decide +kernel
theorem d1124_13 : decode (mb 1124) 13 = .ok (.bipush 8, 2) := by decide +kernel
theorem d1124_15 : decode (mb 1124) 15 = .ok (.dup2, 1) := by decide +kernel
theorem d1124_16 : decode (mb 1124) 16 = .ok (.iaload, 1) := by decide +kernel
theorem d1124_17 : decode (mb 1124) 17 = .ok (.aload_n 0, 1) := by decide +kernel
theorem d1124_18 : decode (mb 1124) 18 = .ok (.getfield 88, 3) := by decide +kernel
theorem d1124_21 : decode (mb 1124) 21 = .ok (.iload_n 1, 1) := by decide +kernel
theorem d1124_22 : decode (mb 1124) 22 = .ok (.iaload, 1) := by decide +kernel
theorem d1124_23 : decode (mb 1124) 23 = .ok (.iadd, 1) := by decide +kernel
theorem d1124_24 : decode (mb 1124) 24 = .ok (.iastore, 1) := by decide +kernel
theorem d1124_25 : decode (mb 1124) 25 = .ok (.iconst 0, 1) := by decide +kernel
theorem d1124_26 : decode (mb 1124) 26 = .ok (.istore_n 2, 1) := by decide +kernel
theorem d1124_27 : decode (mb 1124) 27 = .ok (.iload_n 2, 1) := by decide +kernel
theorem d1124_28 : decode (mb 1124) 28 = .ok (.aload_n 0, 1) := by decide +kernel
theorem d1124_29 : decode (mb 1124) 29 = .ok (.getfield 163, 3) := by decide +kernel
theorem d1124_32 : decode (mb 1124) 32 = .ok (.if_icmp .ge 43, 3) := by decide +kernel
theorem d1124_35 : decode (mb 1124) 35 = .ok (.aload_n 0, 1) := by decide +kernel
theorem d1124_36 : decode (mb 1124) 36 = .ok (.getfield 58, 3) := by decide +kernel
theorem d1124_39 : decode (mb 1124) 39 = .ok (.iload_n 2, 1) := by decide +kernel
theorem d1124_40 : decode (mb 1124) 40 = .ok (.dup2, 1) := by decide +kernel
theorem d1124_41 : decode (mb 1124) 41 = .ok (.iaload, 1) := by decide +kernel
theorem d1124_42 : decode (mb 1124) 42 = .ok (.aload_n 0, 1) := by decide +kernel
theorem d1124_43 : decode (mb 1124) 43 = .ok (.getfield 92, 3) := by decide +kernel
theorem d1124_46 : decode (mb 1124) 46 = .ok (.sipush 6000, 3) := by decide +kernel
theorem d1124_49 : decode (mb 1124) 49 = .ok (.iload_n 1, 1) := by decide +kernel
theorem d1124_50 : decode (mb 1124) 50 = .ok (.imul, 1) := by decide +kernel
theorem d1124_51 : decode (mb 1124) 51 = .ok (.iload_n 2, 1) := by decide +kernel
theorem d1124_52 : decode (mb 1124) 52 = .ok (.iadd, 1) := by decide +kernel
theorem d1124_53 : decode (mb 1124) 53 = .ok (.iaload, 1) := by decide +kernel
theorem d1124_54 : decode (mb 1124) 54 = .ok (.isub, 1) := by decide +kernel
theorem d1124_55 : decode (mb 1124) 55 = .ok (.iastore, 1) := by decide +kernel
theorem d1124_56 : decode (mb 1124) 56 = .ok (.aload_n 0, 1) := by decide +kernel
theorem d1124_57 : decode (mb 1124) 57 = .ok (.getfield 92, 3) := by decide +kernel
theorem d1124_60 : decode (mb 1124) 60 = .ok (.sipush 6000, 3) := by decide +kernel
theorem d1124_63 : decode (mb 1124) 63 = .ok (.iload_n 1, 1) := by decide +kernel
theorem d1124_64 : decode (mb 1124) 64 = .ok (.imul, 1) := by decide +kernel
theorem d1124_65 : decode (mb 1124) 65 = .ok (.iload_n 2, 1) := by decide +kernel
theorem d1124_66 : decode (mb 1124) 66 = .ok (.iadd, 1) := by decide +kernel
theorem d1124_67 : decode (mb 1124) 67 = .ok (.iconst 0, 1) := by decide +kernel
theorem d1124_68 : decode (mb 1124) 68 = .ok (.iastore, 1) := by decide +kernel
theorem d1124_69 : decode (mb 1124) 69 = .ok (.iinc 2 1, 3) := by decide +kernel
theorem d1124_72 : decode (mb 1124) 72 = .ok (.goto (-45), 3) := by decide +kernel
theorem d1124_75 : decode (mb 1124) 75 = .ok (.aload_n 0, 1) := by decide +kernel
theorem d1124_76 : decode (mb 1124) 76 = .ok (.getfield 88, 3) := by decide +kernel
theorem d1124_79 : decode (mb 1124) 79 = .ok (.iload_n 1, 1) := by decide +kernel
theorem d1124_80 : decode (mb 1124) 80 = .ok (.iconst 0, 1) := by decide +kernel
theorem d1124_81 : decode (mb 1124) 81 = .ok (.iastore, 1) := by decide +kernel
theorem d1124_82 : decode (mb 1124) 82 = .ok (.return_, 1) := by decide +kernel
theorem x1124_0 {S : List Value} {h : HP} {l1 l2 : Value} {a0 : Nat} : pX 1124 0 [.ref a0, l1, l2] S h = pX 1124 1 [.ref a0, l1, l2] (.ref a0 :: S) h := pX_stp d1124_0 rfl rfl rfl
theorem x1124_1 {L S : List Value} {h : HP} {a : Nat} (hk : hp_k h a = 12) : pX 1124 1 L (.ref a :: S) h = pX 1124 4 L (.ref (hp_a h a 35) :: S) h := pX_get d1124_1 rfl rfl hk
theorem x1124_4 {S : List Value} {h : HP} {l0 l2 : Value} {x0 : Int32} : pX 1124 4 [l0, .int x0, l2] S h = pX 1124 5 [l0, .int x0, l2] (.int x0 :: S) h := pX_stp d1124_4 rfl rfl rfl
theorem x1124_5 {L S : List Value} {h : HP} {a : Nat} {j : Int32} (hk : hp_k h a = 100) (hj : inb j (hp_l h a) = true) : pX 1124 5 L (.int j :: .ref a :: S) h = pX 1124 6 L (.int (hp_i h a (ix j)) :: S) h := pX_ild d1124_5 hk hj
theorem x1124_6 {L S : List Value} {h : HP} {x : Int32} : pX 1124 6 L (.int x :: S) h = if x ≤ 0 then pX 1124 82 L S h else pX 1124 9 L S h := pX_if_le d1124_6 (by decide)
theorem x1124_9 {S : List Value} {h : HP} {l1 l2 : Value} {a0 : Nat} : pX 1124 9 [.ref a0, l1, l2] S h = pX 1124 10 [.ref a0, l1, l2] (.ref a0 :: S) h := pX_stp d1124_9 rfl rfl rfl
theorem x1124_10 {L S : List Value} {h : HP} {a : Nat} (hk : hp_k h a = 12) : pX 1124 10 L (.ref a :: S) h = pX 1124 13 L (.ref (hp_a h a 39) :: S) h := pX_get d1124_10 rfl rfl hk
theorem x1124_13 {L S : List Value} {h : HP} : pX 1124 13 L S h = pX 1124 15 L (.int 8 :: S) h := pX_bipush d1124_13 (by decide)
theorem x1124_15 {L S : List Value} {h : HP} {x0 : Int32} {a0 : Nat} : pX 1124 15 L (.int x0 :: .ref a0 :: S) h = pX 1124 16 L (.int x0 :: .ref a0 :: .int x0 :: .ref a0 :: S) h := pX_stp d1124_15 rfl rfl rfl
theorem x1124_16 {L S : List Value} {h : HP} {a : Nat} {j : Int32} (hk : hp_k h a = 100) (hj : inb j (hp_l h a) = true) : pX 1124 16 L (.int j :: .ref a :: S) h = pX 1124 17 L (.int (hp_i h a (ix j)) :: S) h := pX_ild d1124_16 hk hj
theorem x1124_17 {S : List Value} {h : HP} {l1 l2 : Value} {a0 : Nat} : pX 1124 17 [.ref a0, l1, l2] S h = pX 1124 18 [.ref a0, l1, l2] (.ref a0 :: S) h := pX_stp d1124_17 rfl rfl rfl
theorem x1124_18 {L S : List Value} {h : HP} {a : Nat} (hk : hp_k h a = 12) : pX 1124 18 L (.ref a :: S) h = pX 1124 21 L (.ref (hp_a h a 35) :: S) h := pX_get d1124_18 rfl rfl hk
theorem x1124_21 {S : List Value} {h : HP} {l0 l2 : Value} {x0 : Int32} : pX 1124 21 [l0, .int x0, l2] S h = pX 1124 22 [l0, .int x0, l2] (.int x0 :: S) h := pX_stp d1124_21 rfl rfl rfl
theorem x1124_22 {L S : List Value} {h : HP} {a : Nat} {j : Int32} (hk : hp_k h a = 100) (hj : inb j (hp_l h a) = true) : pX 1124 22 L (.int j :: .ref a :: S) h = pX 1124 23 L (.int (hp_i h a (ix j)) :: S) h := pX_ild d1124_22 hk hj
theorem x1124_23 {L S : List Value} {h : HP} {x y : Int32} : pX 1124 23 L (.int y :: .int x :: S) h = pX 1124 24 L (.int (x + y) :: S) h := pX_stp d1124_23 rfl rfl rfl
theorem x1124_24 {L S : List Value} {h : HP} {a : Nat} {j x : Int32} (hk : hp_k h a = 100) (hj : inb j (hp_l h a) = true) : pX 1124 24 L (.int x :: .int j :: .ref a :: S) h = pX 1124 25 L S (hp_wi h a (ix j) x) := pX_ist d1124_24 hk hj
theorem x1124_25 {L S : List Value} {h : HP} : pX 1124 25 L S h = pX 1124 26 L (.int 0 :: S) h := pX_iconst d1124_25 (by decide)
theorem x1124_26 {S : List Value} {h : HP} {l0 l1 l2 : Value} {x0 : Int32} : pX 1124 26 [l0, l1, l2] (.int x0 :: S) h = pX 1124 27 [l0, l1, .int x0] S h := pX_stp d1124_26 rfl rfl rfl
theorem x1124_27 {S : List Value} {h : HP} {l0 l1 : Value} {x0 : Int32} : pX 1124 27 [l0, l1, .int x0] S h = pX 1124 28 [l0, l1, .int x0] (.int x0 :: S) h := pX_stp d1124_27 rfl rfl rfl
theorem x1124_28 {S : List Value} {h : HP} {l1 l2 : Value} {a0 : Nat} : pX 1124 28 [.ref a0, l1, l2] S h = pX 1124 29 [.ref a0, l1, l2] (.ref a0 :: S) h := pX_stp d1124_28 rfl rfl rfl
theorem x1124_29 {L S : List Value} {h : HP} {a : Nat} (hk : hp_k h a = 12) : pX 1124 29 L (.ref a :: S) h = pX 1124 32 L (.int (hp_i h a 17) :: S) h := pX_get d1124_29 rfl rfl hk
theorem x1124_32 {L S : List Value} {h : HP} {x y : Int32} : pX 1124 32 L (.int y :: .int x :: S) h = if y ≤ x then pX 1124 75 L S h else pX 1124 35 L S h := pX_icmp_ge d1124_32 (by decide)
theorem x1124_35 {S : List Value} {h : HP} {l1 l2 : Value} {a0 : Nat} : pX 1124 35 [.ref a0, l1, l2] S h = pX 1124 36 [.ref a0, l1, l2] (.ref a0 :: S) h := pX_stp d1124_35 rfl rfl rfl
theorem x1124_36 {L S : List Value} {h : HP} {a : Nat} (hk : hp_k h a = 12) : pX 1124 36 L (.ref a :: S) h = pX 1124 39 L (.ref (hp_a h a 22) :: S) h := pX_get d1124_36 rfl rfl hk
theorem x1124_39 {S : List Value} {h : HP} {l0 l1 : Value} {x0 : Int32} : pX 1124 39 [l0, l1, .int x0] S h = pX 1124 40 [l0, l1, .int x0] (.int x0 :: S) h := pX_stp d1124_39 rfl rfl rfl
theorem x1124_40 {L S : List Value} {h : HP} {x0 : Int32} {a0 : Nat} : pX 1124 40 L (.int x0 :: .ref a0 :: S) h = pX 1124 41 L (.int x0 :: .ref a0 :: .int x0 :: .ref a0 :: S) h := pX_stp d1124_40 rfl rfl rfl
theorem x1124_41 {L S : List Value} {h : HP} {a : Nat} {j : Int32} (hk : hp_k h a = 100) (hj : inb j (hp_l h a) = true) : pX 1124 41 L (.int j :: .ref a :: S) h = pX 1124 42 L (.int (hp_i h a (ix j)) :: S) h := pX_ild d1124_41 hk hj
theorem x1124_42 {S : List Value} {h : HP} {l1 l2 : Value} {a0 : Nat} : pX 1124 42 [.ref a0, l1, l2] S h = pX 1124 43 [.ref a0, l1, l2] (.ref a0 :: S) h := pX_stp d1124_42 rfl rfl rfl
theorem x1124_43 {L S : List Value} {h : HP} {a : Nat} (hk : hp_k h a = 12) : pX 1124 43 L (.ref a :: S) h = pX 1124 46 L (.ref (hp_a h a 36) :: S) h := pX_get d1124_43 rfl rfl hk
theorem x1124_46 {L S : List Value} {h : HP} : pX 1124 46 L S h = pX 1124 49 L (.int 6000 :: S) h := pX_sipush d1124_46 (by decide)
theorem x1124_49 {S : List Value} {h : HP} {l0 l2 : Value} {x0 : Int32} : pX 1124 49 [l0, .int x0, l2] S h = pX 1124 50 [l0, .int x0, l2] (.int x0 :: S) h := pX_stp d1124_49 rfl rfl rfl
theorem x1124_50 {L S : List Value} {h : HP} {x y : Int32} : pX 1124 50 L (.int y :: .int x :: S) h = pX 1124 51 L (.int (x * y) :: S) h := pX_stp d1124_50 rfl rfl rfl
theorem x1124_51 {S : List Value} {h : HP} {l0 l1 : Value} {x0 : Int32} : pX 1124 51 [l0, l1, .int x0] S h = pX 1124 52 [l0, l1, .int x0] (.int x0 :: S) h := pX_stp d1124_51 rfl rfl rfl
theorem x1124_52 {L S : List Value} {h : HP} {x y : Int32} : pX 1124 52 L (.int y :: .int x :: S) h = pX 1124 53 L (.int (x + y) :: S) h := pX_stp d1124_52 rfl rfl rfl
theorem x1124_53 {L S : List Value} {h : HP} {a : Nat} {j : Int32} (hk : hp_k h a = 100) (hj : inb j (hp_l h a) = true) : pX 1124 53 L (.int j :: .ref a :: S) h = pX 1124 54 L (.int (hp_i h a (ix j)) :: S) h := pX_ild d1124_53 hk hj
theorem x1124_54 {L S : List Value} {h : HP} {x y : Int32} : pX 1124 54 L (.int y :: .int x :: S) h = pX 1124 55 L (.int (x - y) :: S) h := pX_stp d1124_54 rfl rfl rfl
theorem x1124_55 {L S : List Value} {h : HP} {a : Nat} {j x : Int32} (hk : hp_k h a = 100) (hj : inb j (hp_l h a) = true) : pX 1124 55 L (.int x :: .int j :: .ref a :: S) h = pX 1124 56 L S (hp_wi h a (ix j) x) := pX_ist d1124_55 hk hj
theorem x1124_56 {S : List Value} {h : HP} {l1 l2 : Value} {a0 : Nat} : pX 1124 56 [.ref a0, l1, l2] S h = pX 1124 57 [.ref a0, l1, l2] (.ref a0 :: S) h := pX_stp d1124_56 rfl rfl rfl
theorem x1124_57 {L S : List Value} {h : HP} {a : Nat} (hk : hp_k h a = 12) : pX 1124 57 L (.ref a :: S) h = pX 1124 60 L (.ref (hp_a h a 36) :: S) h := pX_get d1124_57 rfl rfl hk
theorem x1124_60 {L S : List Value} {h : HP} : pX 1124 60 L S h = pX 1124 63 L (.int 6000 :: S) h := pX_sipush d1124_60 (by decide)
theorem x1124_63 {S : List Value} {h : HP} {l0 l2 : Value} {x0 : Int32} : pX 1124 63 [l0, .int x0, l2] S h = pX 1124 64 [l0, .int x0, l2] (.int x0 :: S) h := pX_stp d1124_63 rfl rfl rfl
theorem x1124_64 {L S : List Value} {h : HP} {x y : Int32} : pX 1124 64 L (.int y :: .int x :: S) h = pX 1124 65 L (.int (x * y) :: S) h := pX_stp d1124_64 rfl rfl rfl
theorem x1124_65 {S : List Value} {h : HP} {l0 l1 : Value} {x0 : Int32} : pX 1124 65 [l0, l1, .int x0] S h = pX 1124 66 [l0, l1, .int x0] (.int x0 :: S) h := pX_stp d1124_65 rfl rfl rfl
theorem x1124_66 {L S : List Value} {h : HP} {x y : Int32} : pX 1124 66 L (.int y :: .int x :: S) h = pX 1124 67 L (.int (x + y) :: S) h := pX_stp d1124_66 rfl rfl rfl
theorem x1124_67 {L S : List Value} {h : HP} : pX 1124 67 L S h = pX 1124 68 L (.int 0 :: S) h := pX_iconst d1124_67 (by decide)
theorem x1124_68 {L S : List Value} {h : HP} {a : Nat} {j x : Int32} (hk : hp_k h a = 100) (hj : inb j (hp_l h a) = true) : pX 1124 68 L (.int x :: .int j :: .ref a :: S) h = pX 1124 69 L S (hp_wi h a (ix j) x) := pX_ist d1124_68 hk hj
theorem x1124_69 {S : List Value} {h : HP} {x0 : Int32} {l0 l1 : Value} : pX 1124 69 [l0, l1, .int x0] S h = pX 1124 72 [l0, l1, .int (x0 + 1)] S h := pX_iinc (x := x0) d1124_69 (by decide) rfl (Nat.le_of_ble_eq_true rfl) rfl rfl
theorem x1124_72 {L S : List Value} {h : HP} : pX 1124 72 L S h = pX 1124 27 L S h := pX_goto d1124_72 (by decide)
theorem x1124_75 {S : List Value} {h : HP} {l1 l2 : Value} {a0 : Nat} : pX 1124 75 [.ref a0, l1, l2] S h = pX 1124 76 [.ref a0, l1, l2] (.ref a0 :: S) h := pX_stp d1124_75 rfl rfl rfl
theorem x1124_76 {L S : List Value} {h : HP} {a : Nat} (hk : hp_k h a = 12) : pX 1124 76 L (.ref a :: S) h = pX 1124 79 L (.ref (hp_a h a 35) :: S) h := pX_get d1124_76 rfl rfl hk
theorem x1124_79 {S : List Value} {h : HP} {l0 l2 : Value} {x0 : Int32} : pX 1124 79 [l0, .int x0, l2] S h = pX 1124 80 [l0, .int x0, l2] (.int x0 :: S) h := pX_stp d1124_79 rfl rfl rfl
theorem x1124_80 {L S : List Value} {h : HP} : pX 1124 80 L S h = pX 1124 81 L (.int 0 :: S) h := pX_iconst d1124_80 (by decide)
theorem x1124_81 {L S : List Value} {h : HP} {a : Nat} {j x : Int32} (hk : hp_k h a = 100) (hj : inb j (hp_l h a) = true) : pX 1124 81 L (.int x :: .int j :: .ref a :: S) h = pX 1124 82 L S (hp_wi h a (ix j) x) := pX_ist d1124_81 hk hj
theorem x1124_82 {L : List Value} {h : HP} : pX 1124 82 L [] h = some (none, h) := pX_ret d1124_82 rfl
theorem d1125_0 : decode (mb 1125) 0 = .ok (.aload_n 0, 1) := by decide +kernel
theorem d1125_1 : decode (mb 1125) 1 = .ok (.aload_n 0, 1) := by decide +kernel
theorem d1125_2 : decode (mb 1125) 2 = .ok (.getfield 28, 3) := by decide +kernel
theorem d1125_5 : decode (mb 1125) 5 = .ok (.iconst 0, 1) := by decide +kernel
theorem d1125_6 : decode (mb 1125) 6 = .ok (.iaload, 1) := by decide +kernel
theorem d1125_7 : decode (mb 1125) 7 = .ok (.i2l, 1) := by decide +kernel
theorem d1125_8 : decode (mb 1125) 8 = .ok (.invokevirtual 166, 3) := by decide +kernel
theorem d1125_11 : decode (mb 1125) 11 = .ok (.ifCond .ne 5, 3) := by decide +kernel
theorem d1125_14 : decode (mb 1125) 14 = .ok (.iconst 0, 1) := by decide +kernel
theorem d1125_15 : decode (mb 1125) 15 = .ok (.ireturn, 1) := by decide +kernel
theorem d1125_16 : decode (mb 1125) 16 = .ok (.aload_n 0, 1) := by decide +kernel
theorem d1125_17 : decode (mb 1125) 17 = .ok (.getfield 95, 3) := by decide +kernel
theorem d1125_20 : decode (mb 1125) 20 = .ok (.iconst 1, 1) := by decide +kernel
theorem d1125_21 : decode (mb 1125) 21 = .ok (.dup2, 1) := by decide +kernel
theorem d1125_22 : decode (mb 1125) 22 = .ok (.iaload, 1) := by decide +kernel
theorem d1125_23 : decode (mb 1125) 23 = .ok (.iconst 1, 1) := by decide +kernel
theorem d1125_24 : decode (mb 1125) 24 = .ok (.iadd, 1) := by decide +kernel
theorem d1125_25 : decode (mb 1125) 25 = .ok (.iastore, 1) := by decide +kernel
theorem d1125_26 : decode (mb 1125) 26 = .ok (.aload_n 0, 1) := by decide +kernel
theorem d1125_27 : decode (mb 1125) 27 = .ok (.bipush 100, 2) := by decide +kernel
theorem d1125_29 : decode (mb 1125) 29 = .ok (.iload_n 1, 1) := by decide +kernel
theorem d1125_30 : decode (mb 1125) 30 = .ok (.iadd, 1) := by decide +kernel
theorem d1125_31 : decode (mb 1125) 31 = .ok (.invokevirtual 170, 3) := by decide +kernel
theorem d1125_34 : decode (mb 1125) 34 = .ok (.aload_n 0, 1) := by decide +kernel
theorem d1125_35 : decode (mb 1125) 35 = .ok (.getfield 25, 3) := by decide +kernel
theorem d1125_38 : decode (mb 1125) 38 = .ok (.iload_n 1, 1) := by decide +kernel
theorem d1125_39 : decode (mb 1125) 39 = .ok (.dup2, 1) := by decide +kernel
theorem d1125_40 : decode (mb 1125) 40 = .ok (.iaload, 1) := by decide +kernel
theorem d1125_41 : decode (mb 1125) 41 = .ok (.iconst 1, 1) := by decide +kernel
theorem d1125_42 : decode (mb 1125) 42 = .ok (.iadd, 1) := by decide +kernel
theorem d1125_43 : decode (mb 1125) 43 = .ok (.iastore, 1) := by decide +kernel
theorem d1125_44 : decode (mb 1125) 44 = .ok (.aload_n 0, 1) := by decide +kernel
theorem d1125_45 : decode (mb 1125) 45 = .ok (.getfield 73, 3) := by decide +kernel
theorem d1125_48 : decode (mb 1125) 48 = .ok (.aload_n 0, 1) := by decide +kernel
theorem d1125_49 : decode (mb 1125) 49 = .ok (.getfield 174, 3) := by decide +kernel
theorem d1125_52 : decode (mb 1125) 52 = .ok (.iload_n 1, 1) := by decide +kernel
theorem d1125_53 : decode (mb 1125) 53 = .ok (.iastore, 1) := by decide +kernel
theorem d1125_54 : decode (mb 1125) 54 = .ok (.aload_n 0, 1) := by decide +kernel
theorem d1125_55 : decode (mb 1125) 55 = .ok (.getfield 76, 3) := by decide +kernel
theorem d1125_58 : decode (mb 1125) 58 = .ok (.aload_n 0, 1) := by decide +kernel
theorem d1125_59 : decode (mb 1125) 59 = .ok (.getfield 174, 3) := by decide +kernel
theorem d1125_62 : decode (mb 1125) 62 = .ok (.iconst 0, 1) := by decide +kernel
theorem d1125_63 : decode (mb 1125) 63 = .ok (.iastore, 1) := by decide +kernel
theorem d1125_64 : decode (mb 1125) 64 = .ok (.aload_n 0, 1) := by decide +kernel
theorem d1125_65 : decode (mb 1125) 65 = .ok (.getfield 79, 3) := by decide +kernel
theorem d1125_68 : decode (mb 1125) 68 = .ok (.aload_n 0, 1) := by decide +kernel
theorem d1125_69 : decode (mb 1125) 69 = .ok (.getfield 174, 3) := by decide +kernel
theorem d1125_72 : decode (mb 1125) 72 = .ok (.iload_n 2, 1) := by decide +kernel
theorem d1125_73 : decode (mb 1125) 73 = .ok (.iastore, 1) := by decide +kernel
theorem d1125_74 : decode (mb 1125) 74 = .ok (.aload_n 0, 1) := by decide +kernel
theorem d1125_75 : decode (mb 1125) 75 = .ok (.getfield 88, 3) := by decide +kernel
theorem d1125_78 : decode (mb 1125) 78 = .ok (.aload_n 0, 1) := by decide +kernel
theorem d1125_79 : decode (mb 1125) 79 = .ok (.getfield 174, 3) := by decide +kernel
theorem d1125_82 : decode (mb 1125) 82 = .ok (.iconst 0, 1) := by decide +kernel
theorem d1125_83 : decode (mb 1125) 83 = .ok (.iastore, 1) := by decide +kernel
theorem d1125_84 : decode (mb 1125) 84 = .ok (.aload_n 0, 1) := by decide +kernel
theorem d1125_85 : decode (mb 1125) 85 = .ok (.dup, 1) := by decide +kernel
theorem d1125_86 : decode (mb 1125) 86 = .ok (.getfield 174, 3) := by decide +kernel
theorem d1125_89 : decode (mb 1125) 89 = .ok (.iconst 1, 1) := by decide +kernel
theorem d1125_90 : decode (mb 1125) 90 = .ok (.iadd, 1) := by decide +kernel
theorem d1125_91 : decode (mb 1125) 91 = .ok (.putfield 174, 3) := by decide +kernel
theorem d1125_94 : decode (mb 1125) 94 = .ok (.aload_n 0, 1) := by decide +kernel
theorem d1125_95 : decode (mb 1125) 95 = .ok (.getfield 95, 3) := by decide +kernel
theorem d1125_98 : decode (mb 1125) 98 = .ok (.bipush 6, 2) := by decide +kernel
theorem d1125_100 : decode (mb 1125) 100 = .ok (.aload_n 0, 1) := by decide +kernel
theorem d1125_101 : decode (mb 1125) 101 = .ok (.getfield 174, 3) := by decide +kernel
theorem d1125_104 : decode (mb 1125) 104 = .ok (.aload_n 0, 1) := by decide +kernel
theorem d1125_105 : decode (mb 1125) 105 = .ok (.getfield 95, 3) := by decide +kernel
theorem d1125_108 : decode (mb 1125) 108 = .ok (.bipush 6, 2) := by decide +kernel
theorem d1125_110 : decode (mb 1125) 110 = .ok (.iaload, 1) := by decide +kernel
theorem d1125_111 : decode (mb 1125) 111 = .ok (.if_icmp .le 10, 3) := by decide +kernel
theorem d1125_114 : decode (mb 1125) 114 = .ok (.aload_n 0, 1) := by decide +kernel
theorem d1125_115 : decode (mb 1125) 115 = .ok (.getfield 174, 3) := by decide +kernel
theorem d1125_118 : decode (mb 1125) 118 = .ok (.goto 10, 3) := by decide +kernel
theorem d1125_121 : decode (mb 1125) 121 = .ok (.aload_n 0, 1) := by decide +kernel
theorem d1125_122 : decode (mb 1125) 122 = .ok (.getfield 95, 3) := by decide +kernel
theorem d1125_125 : decode (mb 1125) 125 = .ok (.bipush 6, 2) := by decide +kernel
theorem d1125_127 : decode (mb 1125) 127 = .ok (.iaload, 1) := by decide +kernel
theorem d1125_128 : decode (mb 1125) 128 = .ok (.iastore, 1) := by decide +kernel
theorem d1125_129 : decode (mb 1125) 129 = .ok (.iconst 1, 1) := by decide +kernel
theorem d1125_130 : decode (mb 1125) 130 = .ok (.ireturn, 1) := by decide +kernel
theorem x1125_0 {S : List Value} {h : HP} {l1 l2 : Value} {a0 : Nat} : pX 1125 0 [.ref a0, l1, l2] S h = pX 1125 1 [.ref a0, l1, l2] (.ref a0 :: S) h := pX_stp d1125_0 rfl rfl rfl
theorem x1125_1 {S : List Value} {h : HP} {l1 l2 : Value} {a0 : Nat} : pX 1125 1 [.ref a0, l1, l2] S h = pX 1125 2 [.ref a0, l1, l2] (.ref a0 :: S) h := pX_stp d1125_1 rfl rfl rfl
theorem x1125_2 {L S : List Value} {h : HP} {a : Nat} (hk : hp_k h a = 12) : pX 1125 2 L (.ref a :: S) h = pX 1125 5 L (.ref (hp_a h a 7) :: S) h := pX_get d1125_2 rfl rfl hk
theorem x1125_5 {L S : List Value} {h : HP} : pX 1125 5 L S h = pX 1125 6 L (.int 0 :: S) h := pX_iconst d1125_5 (by decide)
theorem x1125_6 {L S : List Value} {h : HP} {a : Nat} {j : Int32} (hk : hp_k h a = 100) (hj : inb j (hp_l h a) = true) : pX 1125 6 L (.int j :: .ref a :: S) h = pX 1125 7 L (.int (hp_i h a (ix j)) :: S) h := pX_ild d1125_6 hk hj
theorem x1125_7 {L S : List Value} {h : HP} {x : Int32} : pX 1125 7 L (.int x :: S) h = pX 1125 8 L (.long x.toInt64 :: S) h := pX_stp d1125_7 rfl rfl rfl
theorem x1125_8 {L : List Value} {h : HP} {z0 : Int64} {a0 : Nat} (hk : hp_k h a0 = 12) : pX 1125 8 L [.long z0, .ref a0] h = (pX 1122 0 [.ref a0, .long z0, .retAddr 0] [] h).bind (fun q => pX 1125 11 L (q.1.toList ++ []) q.2) := pX_inv (a := a0) (t := 12) 1122 [.ref a0, .long z0] [] d1125_8 rfl rfl rfl hk
theorem x1125_11 {L S : List Value} {h : HP} {x : Int32} : pX 1125 11 L (.int x :: S) h = if x = 0 then pX 1125 14 L S h else pX 1125 16 L S h := pX_if_ne d1125_11 (by decide)
theorem x1125_14 {L S : List Value} {h : HP} : pX 1125 14 L S h = pX 1125 15 L (.int 0 :: S) h := pX_iconst d1125_14 (by decide)
theorem x1125_15 {L : List Value} {h : HP} {x : Int32} (hx : x = 0 ∨ x = 1) : pX 1125 15 L [.int x] h = some (some (.int x), h) := pX_ret d1125_15 (by rcases hx with rfl | rfl <;> rfl)
theorem x1125_16 {S : List Value} {h : HP} {l1 l2 : Value} {a0 : Nat} : pX 1125 16 [.ref a0, l1, l2] S h = pX 1125 17 [.ref a0, l1, l2] (.ref a0 :: S) h := pX_stp d1125_16 rfl rfl rfl
theorem x1125_17 {L S : List Value} {h : HP} {a : Nat} (hk : hp_k h a = 12) : pX 1125 17 L (.ref a :: S) h = pX 1125 20 L (.ref (hp_a h a 39) :: S) h := pX_get d1125_17 rfl rfl hk
theorem x1125_20 {L S : List Value} {h : HP} : pX 1125 20 L S h = pX 1125 21 L (.int 1 :: S) h := pX_iconst d1125_20 (by decide)
theorem x1125_21 {L S : List Value} {h : HP} {x0 : Int32} {a0 : Nat} : pX 1125 21 L (.int x0 :: .ref a0 :: S) h = pX 1125 22 L (.int x0 :: .ref a0 :: .int x0 :: .ref a0 :: S) h := pX_stp d1125_21 rfl rfl rfl
theorem x1125_22 {L S : List Value} {h : HP} {a : Nat} {j : Int32} (hk : hp_k h a = 100) (hj : inb j (hp_l h a) = true) : pX 1125 22 L (.int j :: .ref a :: S) h = pX 1125 23 L (.int (hp_i h a (ix j)) :: S) h := pX_ild d1125_22 hk hj
theorem x1125_23 {L S : List Value} {h : HP} : pX 1125 23 L S h = pX 1125 24 L (.int 1 :: S) h := pX_iconst d1125_23 (by decide)
theorem x1125_24 {L S : List Value} {h : HP} {x y : Int32} : pX 1125 24 L (.int y :: .int x :: S) h = pX 1125 25 L (.int (x + y) :: S) h := pX_stp d1125_24 rfl rfl rfl
theorem x1125_25 {L S : List Value} {h : HP} {a : Nat} {j x : Int32} (hk : hp_k h a = 100) (hj : inb j (hp_l h a) = true) : pX 1125 25 L (.int x :: .int j :: .ref a :: S) h = pX 1125 26 L S (hp_wi h a (ix j) x) := pX_ist d1125_25 hk hj
theorem x1125_26 {S : List Value} {h : HP} {l1 l2 : Value} {a0 : Nat} : pX 1125 26 [.ref a0, l1, l2] S h = pX 1125 27 [.ref a0, l1, l2] (.ref a0 :: S) h := pX_stp d1125_26 rfl rfl rfl
theorem x1125_27 {L S : List Value} {h : HP} : pX 1125 27 L S h = pX 1125 29 L (.int 100 :: S) h := pX_bipush d1125_27 (by decide)
theorem x1125_29 {S : List Value} {h : HP} {l0 l2 : Value} {x0 : Int32} : pX 1125 29 [l0, .int x0, l2] S h = pX 1125 30 [l0, .int x0, l2] (.int x0 :: S) h := pX_stp d1125_29 rfl rfl rfl
theorem x1125_30 {L S : List Value} {h : HP} {x y : Int32} : pX 1125 30 L (.int y :: .int x :: S) h = pX 1125 31 L (.int (x + y) :: S) h := pX_stp d1125_30 rfl rfl rfl
theorem x1125_31 {L : List Value} {h : HP} {x0 : Int32} {a0 : Nat} (hk : hp_k h a0 = 12) : pX 1125 31 L [.int x0, .ref a0] h = (pX 1123 0 [.ref a0, .int x0] [] h).bind (fun q => pX 1125 34 L (q.1.toList ++ []) q.2) := pX_inv (a := a0) (t := 12) 1123 [.ref a0, .int x0] [] d1125_31 rfl rfl rfl hk
theorem x1125_34 {S : List Value} {h : HP} {l1 l2 : Value} {a0 : Nat} : pX 1125 34 [.ref a0, l1, l2] S h = pX 1125 35 [.ref a0, l1, l2] (.ref a0 :: S) h := pX_stp d1125_34 rfl rfl rfl
theorem x1125_35 {L S : List Value} {h : HP} {a : Nat} (hk : hp_k h a = 12) : pX 1125 35 L (.ref a :: S) h = pX 1125 38 L (.ref (hp_a h a 6) :: S) h := pX_get d1125_35 rfl rfl hk
theorem x1125_38 {S : List Value} {h : HP} {l0 l2 : Value} {x0 : Int32} : pX 1125 38 [l0, .int x0, l2] S h = pX 1125 39 [l0, .int x0, l2] (.int x0 :: S) h := pX_stp d1125_38 rfl rfl rfl
theorem x1125_39 {L S : List Value} {h : HP} {x0 : Int32} {a0 : Nat} : pX 1125 39 L (.int x0 :: .ref a0 :: S) h = pX 1125 40 L (.int x0 :: .ref a0 :: .int x0 :: .ref a0 :: S) h := pX_stp d1125_39 rfl rfl rfl
theorem x1125_40 {L S : List Value} {h : HP} {a : Nat} {j : Int32} (hk : hp_k h a = 100) (hj : inb j (hp_l h a) = true) : pX 1125 40 L (.int j :: .ref a :: S) h = pX 1125 41 L (.int (hp_i h a (ix j)) :: S) h := pX_ild d1125_40 hk hj
theorem x1125_41 {L S : List Value} {h : HP} : pX 1125 41 L S h = pX 1125 42 L (.int 1 :: S) h := pX_iconst d1125_41 (by decide)
theorem x1125_42 {L S : List Value} {h : HP} {x y : Int32} : pX 1125 42 L (.int y :: .int x :: S) h = pX 1125 43 L (.int (x + y) :: S) h := pX_stp d1125_42 rfl rfl rfl
theorem x1125_43 {L S : List Value} {h : HP} {a : Nat} {j x : Int32} (hk : hp_k h a = 100) (hj : inb j (hp_l h a) = true) : pX 1125 43 L (.int x :: .int j :: .ref a :: S) h = pX 1125 44 L S (hp_wi h a (ix j) x) := pX_ist d1125_43 hk hj
theorem x1125_44 {S : List Value} {h : HP} {l1 l2 : Value} {a0 : Nat} : pX 1125 44 [.ref a0, l1, l2] S h = pX 1125 45 [.ref a0, l1, l2] (.ref a0 :: S) h := pX_stp d1125_44 rfl rfl rfl
theorem x1125_45 {L S : List Value} {h : HP} {a : Nat} (hk : hp_k h a = 12) : pX 1125 45 L (.ref a :: S) h = pX 1125 48 L (.ref (hp_a h a 30) :: S) h := pX_get d1125_45 rfl rfl hk
theorem x1125_48 {S : List Value} {h : HP} {l1 l2 : Value} {a0 : Nat} : pX 1125 48 [.ref a0, l1, l2] S h = pX 1125 49 [.ref a0, l1, l2] (.ref a0 :: S) h := pX_stp d1125_48 rfl rfl rfl
theorem x1125_49 {L S : List Value} {h : HP} {a : Nat} (hk : hp_k h a = 12) : pX 1125 49 L (.ref a :: S) h = pX 1125 52 L (.int (hp_i h a 29) :: S) h := pX_get d1125_49 rfl rfl hk
theorem x1125_52 {S : List Value} {h : HP} {l0 l2 : Value} {x0 : Int32} : pX 1125 52 [l0, .int x0, l2] S h = pX 1125 53 [l0, .int x0, l2] (.int x0 :: S) h := pX_stp d1125_52 rfl rfl rfl
theorem x1125_53 {L S : List Value} {h : HP} {a : Nat} {j x : Int32} (hk : hp_k h a = 100) (hj : inb j (hp_l h a) = true) : pX 1125 53 L (.int x :: .int j :: .ref a :: S) h = pX 1125 54 L S (hp_wi h a (ix j) x) := pX_ist d1125_53 hk hj
theorem x1125_54 {S : List Value} {h : HP} {l1 l2 : Value} {a0 : Nat} : pX 1125 54 [.ref a0, l1, l2] S h = pX 1125 55 [.ref a0, l1, l2] (.ref a0 :: S) h := pX_stp d1125_54 rfl rfl rfl
theorem x1125_55 {L S : List Value} {h : HP} {a : Nat} (hk : hp_k h a = 12) : pX 1125 55 L (.ref a :: S) h = pX 1125 58 L (.ref (hp_a h a 31) :: S) h := pX_get d1125_55 rfl rfl hk
theorem x1125_58 {S : List Value} {h : HP} {l1 l2 : Value} {a0 : Nat} : pX 1125 58 [.ref a0, l1, l2] S h = pX 1125 59 [.ref a0, l1, l2] (.ref a0 :: S) h := pX_stp d1125_58 rfl rfl rfl
theorem x1125_59 {L S : List Value} {h : HP} {a : Nat} (hk : hp_k h a = 12) : pX 1125 59 L (.ref a :: S) h = pX 1125 62 L (.int (hp_i h a 29) :: S) h := pX_get d1125_59 rfl rfl hk
theorem x1125_62 {L S : List Value} {h : HP} : pX 1125 62 L S h = pX 1125 63 L (.int 0 :: S) h := pX_iconst d1125_62 (by decide)
theorem x1125_63 {L S : List Value} {h : HP} {a : Nat} {j x : Int32} (hk : hp_k h a = 100) (hj : inb j (hp_l h a) = true) : pX 1125 63 L (.int x :: .int j :: .ref a :: S) h = pX 1125 64 L S (hp_wi h a (ix j) x) := pX_ist d1125_63 hk hj
theorem x1125_64 {S : List Value} {h : HP} {l1 l2 : Value} {a0 : Nat} : pX 1125 64 [.ref a0, l1, l2] S h = pX 1125 65 [.ref a0, l1, l2] (.ref a0 :: S) h := pX_stp d1125_64 rfl rfl rfl
theorem x1125_65 {L S : List Value} {h : HP} {a : Nat} (hk : hp_k h a = 12) : pX 1125 65 L (.ref a :: S) h = pX 1125 68 L (.ref (hp_a h a 32) :: S) h := pX_get d1125_65 rfl rfl hk
theorem x1125_68 {S : List Value} {h : HP} {l1 l2 : Value} {a0 : Nat} : pX 1125 68 [.ref a0, l1, l2] S h = pX 1125 69 [.ref a0, l1, l2] (.ref a0 :: S) h := pX_stp d1125_68 rfl rfl rfl
theorem x1125_69 {L S : List Value} {h : HP} {a : Nat} (hk : hp_k h a = 12) : pX 1125 69 L (.ref a :: S) h = pX 1125 72 L (.int (hp_i h a 29) :: S) h := pX_get d1125_69 rfl rfl hk
theorem x1125_72 {S : List Value} {h : HP} {l0 l1 : Value} {x0 : Int32} : pX 1125 72 [l0, l1, .int x0] S h = pX 1125 73 [l0, l1, .int x0] (.int x0 :: S) h := pX_stp d1125_72 rfl rfl rfl
theorem x1125_73 {L S : List Value} {h : HP} {a : Nat} {j x : Int32} (hk : hp_k h a = 100) (hj : inb j (hp_l h a) = true) : pX 1125 73 L (.int x :: .int j :: .ref a :: S) h = pX 1125 74 L S (hp_wi h a (ix j) x) := pX_ist d1125_73 hk hj
theorem x1125_74 {S : List Value} {h : HP} {l1 l2 : Value} {a0 : Nat} : pX 1125 74 [.ref a0, l1, l2] S h = pX 1125 75 [.ref a0, l1, l2] (.ref a0 :: S) h := pX_stp d1125_74 rfl rfl rfl
theorem x1125_75 {L S : List Value} {h : HP} {a : Nat} (hk : hp_k h a = 12) : pX 1125 75 L (.ref a :: S) h = pX 1125 78 L (.ref (hp_a h a 35) :: S) h := pX_get d1125_75 rfl rfl hk
theorem x1125_78 {S : List Value} {h : HP} {l1 l2 : Value} {a0 : Nat} : pX 1125 78 [.ref a0, l1, l2] S h = pX 1125 79 [.ref a0, l1, l2] (.ref a0 :: S) h := pX_stp d1125_78 rfl rfl rfl
theorem x1125_79 {L S : List Value} {h : HP} {a : Nat} (hk : hp_k h a = 12) : pX 1125 79 L (.ref a :: S) h = pX 1125 82 L (.int (hp_i h a 29) :: S) h := pX_get d1125_79 rfl rfl hk
theorem x1125_82 {L S : List Value} {h : HP} : pX 1125 82 L S h = pX 1125 83 L (.int 0 :: S) h := pX_iconst d1125_82 (by decide)
theorem x1125_83 {L S : List Value} {h : HP} {a : Nat} {j x : Int32} (hk : hp_k h a = 100) (hj : inb j (hp_l h a) = true) : pX 1125 83 L (.int x :: .int j :: .ref a :: S) h = pX 1125 84 L S (hp_wi h a (ix j) x) := pX_ist d1125_83 hk hj
theorem x1125_84 {S : List Value} {h : HP} {l1 l2 : Value} {a0 : Nat} : pX 1125 84 [.ref a0, l1, l2] S h = pX 1125 85 [.ref a0, l1, l2] (.ref a0 :: S) h := pX_stp d1125_84 rfl rfl rfl
theorem x1125_85 {L S : List Value} {h : HP} {a0 : Nat} : pX 1125 85 L (.ref a0 :: S) h = pX 1125 86 L (.ref a0 :: .ref a0 :: S) h := pX_stp d1125_85 rfl rfl rfl
theorem x1125_86 {L S : List Value} {h : HP} {a : Nat} (hk : hp_k h a = 12) : pX 1125 86 L (.ref a :: S) h = pX 1125 89 L (.int (hp_i h a 29) :: S) h := pX_get d1125_86 rfl rfl hk
theorem x1125_89 {L S : List Value} {h : HP} : pX 1125 89 L S h = pX 1125 90 L (.int 1 :: S) h := pX_iconst d1125_89 (by decide)
theorem x1125_90 {L S : List Value} {h : HP} {x y : Int32} : pX 1125 90 L (.int y :: .int x :: S) h = pX 1125 91 L (.int (x + y) :: S) h := pX_stp d1125_90 rfl rfl rfl
theorem x1125_91 {L S : List Value} {h : HP} {a : Nat} {x : Int32} (hk : hp_k h a = 12) : pX 1125 91 L (.int x :: .ref a :: S) h = pX 1125 94 L S (hp_wi h a 29 x) := pX_put d1125_91 rfl rfl rfl hk
theorem x1125_94 {S : List Value} {h : HP} {l1 l2 : Value} {a0 : Nat} : pX 1125 94 [.ref a0, l1, l2] S h = pX 1125 95 [.ref a0, l1, l2] (.ref a0 :: S) h := pX_stp d1125_94 rfl rfl rfl
theorem x1125_95 {L S : List Value} {h : HP} {a : Nat} (hk : hp_k h a = 12) : pX 1125 95 L (.ref a :: S) h = pX 1125 98 L (.ref (hp_a h a 39) :: S) h := pX_get d1125_95 rfl rfl hk
theorem x1125_98 {L S : List Value} {h : HP} : pX 1125 98 L S h = pX 1125 100 L (.int 6 :: S) h := pX_bipush d1125_98 (by decide)
theorem x1125_100 {S : List Value} {h : HP} {l1 l2 : Value} {a0 : Nat} : pX 1125 100 [.ref a0, l1, l2] S h = pX 1125 101 [.ref a0, l1, l2] (.ref a0 :: S) h := pX_stp d1125_100 rfl rfl rfl
theorem x1125_101 {L S : List Value} {h : HP} {a : Nat} (hk : hp_k h a = 12) : pX 1125 101 L (.ref a :: S) h = pX 1125 104 L (.int (hp_i h a 29) :: S) h := pX_get d1125_101 rfl rfl hk
theorem x1125_104 {S : List Value} {h : HP} {l1 l2 : Value} {a0 : Nat} : pX 1125 104 [.ref a0, l1, l2] S h = pX 1125 105 [.ref a0, l1, l2] (.ref a0 :: S) h := pX_stp d1125_104 rfl rfl rfl
theorem x1125_105 {L S : List Value} {h : HP} {a : Nat} (hk : hp_k h a = 12) : pX 1125 105 L (.ref a :: S) h = pX 1125 108 L (.ref (hp_a h a 39) :: S) h := pX_get d1125_105 rfl rfl hk
theorem x1125_108 {L S : List Value} {h : HP} : pX 1125 108 L S h = pX 1125 110 L (.int 6 :: S) h := pX_bipush d1125_108 (by decide)
theorem x1125_110 {L S : List Value} {h : HP} {a : Nat} {j : Int32} (hk : hp_k h a = 100) (hj : inb j (hp_l h a) = true) : pX 1125 110 L (.int j :: .ref a :: S) h = pX 1125 111 L (.int (hp_i h a (ix j)) :: S) h := pX_ild d1125_110 hk hj
theorem x1125_111 {L S : List Value} {h : HP} {x y : Int32} : pX 1125 111 L (.int y :: .int x :: S) h = if x ≤ y then pX 1125 121 L S h else pX 1125 114 L S h := pX_icmp_le d1125_111 (by decide)
theorem x1125_114 {S : List Value} {h : HP} {l1 l2 : Value} {a0 : Nat} : pX 1125 114 [.ref a0, l1, l2] S h = pX 1125 115 [.ref a0, l1, l2] (.ref a0 :: S) h := pX_stp d1125_114 rfl rfl rfl
theorem x1125_115 {L S : List Value} {h : HP} {a : Nat} (hk : hp_k h a = 12) : pX 1125 115 L (.ref a :: S) h = pX 1125 118 L (.int (hp_i h a 29) :: S) h := pX_get d1125_115 rfl rfl hk
theorem x1125_118 {L S : List Value} {h : HP} : pX 1125 118 L S h = pX 1125 128 L S h := pX_goto d1125_118 (by decide)
theorem x1125_121 {S : List Value} {h : HP} {l1 l2 : Value} {a0 : Nat} : pX 1125 121 [.ref a0, l1, l2] S h = pX 1125 122 [.ref a0, l1, l2] (.ref a0 :: S) h := pX_stp d1125_121 rfl rfl rfl
theorem x1125_122 {L S : List Value} {h : HP} {a : Nat} (hk : hp_k h a = 12) : pX 1125 122 L (.ref a :: S) h = pX 1125 125 L (.ref (hp_a h a 39) :: S) h := pX_get d1125_122 rfl rfl hk
theorem x1125_125 {L S : List Value} {h : HP} : pX 1125 125 L S h = pX 1125 127 L (.int 6 :: S) h := pX_bipush d1125_125 (by decide)
theorem x1125_127 {L S : List Value} {h : HP} {a : Nat} {j : Int32} (hk : hp_k h a = 100) (hj : inb j (hp_l h a) = true) : pX 1125 127 L (.int j :: .ref a :: S) h = pX 1125 128 L (.int (hp_i h a (ix j)) :: S) h := pX_ild d1125_127 hk hj
theorem x1125_128 {L S : List Value} {h : HP} {a : Nat} {j x : Int32} (hk : hp_k h a = 100) (hj : inb j (hp_l h a) = true) : pX 1125 128 L (.int x :: .int j :: .ref a :: S) h = pX 1125 129 L S (hp_wi h a (ix j) x) := pX_ist d1125_128 hk hj
theorem x1125_129 {L S : List Value} {h : HP} : pX 1125 129 L S h = pX 1125 130 L (.int 1 :: S) h := pX_iconst d1125_129 (by decide)
theorem x1125_130 {L : List Value} {h : HP} {x : Int32} (hx : x = 0 ∨ x = 1) : pX 1125 130 L [.int x] h = some (some (.int x), h) := pX_ret d1125_130 (by rcases hx with rfl | rfl <;> rfl)
theorem d1126_0 : decode (mb 1126) 0 = .ok (.aload_n 0, 1) := by decide +kernel
theorem d1126_1 : decode (mb 1126) 1 = .ok (.getfield 174, 3) := by decide +kernel
theorem d1126_4 : decode (mb 1126) 4 = .ok (.ifCond .le 24, 3) := by decide +kernel
theorem d1126_7 : decode (mb 1126) 7 = .ok (.aload_n 0, 1) := by decide +kernel
theorem d1126_8 : decode (mb 1126) 8 = .ok (.dup, 1) := by decide +kernel
theorem d1126_9 : decode (mb 1126) 9 = .ok (.getfield 174, 3) := by decide +kernel
theorem d1126_12 : decode (mb 1126) 12 = .ok (.iconst 1, 1) := by decide +kernel
theorem d1126_13 : decode (mb 1126) 13 = .ok (.isub, 1) := by decide +kernel
theorem d1126_14 : decode (mb 1126) 14 = .ok (.putfield 174, 3) := by decide +kernel
theorem d1126_17 : decode (mb 1126) 17 = .ok (.aload_n 0, 1) := by decide +kernel
theorem d1126_18 : decode (mb 1126) 18 = .ok (.aload_n 0, 1) := by decide +kernel
theorem d1126_19 : decode (mb 1126) 19 = .ok (.getfield 174, 3) := by decide +kernel
theorem d1126_22 : decode (mb 1126) 22 = .ok (.invokevirtual 177, 3) := by decide +kernel
theorem d1126_25 : decode (mb 1126) 25 = .ok (.goto (-25), 3) := by decide +kernel
theorem d1126_28 : decode (mb 1126) 28 = .ok (.iconst 0, 1) := by decide +kernel
theorem d1126_29 : decode (mb 1126) 29 = .ok (.istore_n 1, 1) := by decide +kernel
theorem d1126_30 : decode (mb 1126) 30 = .ok (.iload_n 1, 1) := by decide +kernel
theorem d1126_31 : decode (mb 1126) 31 = .ok (.bipush 12, 2) := by decide +kernel
theorem d1126_33 : decode (mb 1126) 33 = .ok (.if_icmp .ge 21, 3) := by decide +kernel
theorem d1126_36 : decode (mb 1126) 36 = .ok (.aload_n 0, 1) := by decide +kernel
theorem d1126_37 : decode (mb 1126) 37 = .ok (.getfield 34, 3) := by decide +kernel
theorem d1126_40 : decode (mb 1126) 40 = .ok (.iload_n 1, 1) := by decide +kernel
theorem d1126_41 : decode (mb 1126) 41 = .ok (.aload_n 0, 1) := by decide +kernel
theorem d1126_42 : decode (mb 1126) 42 = .ok (.getfield 37, 3) := by decide +kernel
theorem d1126_45 : decode (mb 1126) 45 = .ok (.iload_n 1, 1) := by decide +kernel
theorem d1126_46 : decode (mb 1126) 46 = .ok (.iaload, 1) := by decide +kernel
theorem d1126_47 : decode (mb 1126) 47 = .ok (.iastore, 1) := by decide +kernel
theorem d1126_48 : decode (mb 1126) 48 = .ok (.iinc 1 1, 3) := by decide +kernel
theorem d1126_51 : decode (mb 1126) 51 = .ok (.goto (-21), 3) := by decide +kernel
theorem d1126_54 : decode (mb 1126) 54 = .ok (.aload_n 0, 1) := by decide +kernel
theorem d1126_55 : decode (mb 1126) 55 = .ok (.iconst 0, 1) := by decide +kernel
theorem d1126_56 : decode (mb 1126) 56 = .ok (.putfield 147, 3) := by decide +kernel
theorem d1126_59 : decode (mb 1126) 59 = .ok (.aload_n 0, 1) := by decide +kernel
theorem d1126_60 : decode (mb 1126) 60 = .ok (.iconst 0, 1) := by decide +kernel
theorem d1126_61 : decode (mb 1126) 61 = .ok (.putfield 150, 3) := by decide +kernel
theorem d1126_64 : decode (mb 1126) 64 = .ok (.aload_n 0, 1) := by decide +kernel
theorem d1126_65 : decode (mb 1126) 65 = .ok (.getfield 101, 3) := by decide +kernel
theorem d1126_68 : decode (mb 1126) 68 = .ok (.iconst 2, 1) := by decide +kernel
theorem d1126_69 : decode (mb 1126) 69 = .ok (.dup2, 1) := by decide +kernel
theorem d1126_70 : decode (mb 1126) 70 = .ok (.iaload, 1) := by decide +kernel
theorem d1126_71 : decode (mb 1126) 71 = .ok (.iconst 1, 1) := by decide +kernel
theorem d1126_72 : decode (mb 1126) 72 = .ok (.iadd, 1) := by decide +kernel
theorem d1126_73 : decode (mb 1126) 73 = .ok (.iastore, 1) := by decide +kernel
theorem d1126_74 : decode (mb 1126) 74 = .ok (.aload_n 0, 1) := by decide +kernel
theorem d1126_75 : decode (mb 1126) 75 = .ok (.bipush (-9), 2) := by decide +kernel
theorem d1126_77 : decode (mb 1126) 77 = .ok (.putfield 180, 3) := by decide +kernel
theorem d1126_80 : decode (mb 1126) 80 = .ok (.return_, 1) := by decide +kernel
theorem x1126_0 {S : List Value} {h : HP} {l1 : Value} {a0 : Nat} : pX 1126 0 [.ref a0, l1] S h = pX 1126 1 [.ref a0, l1] (.ref a0 :: S) h := pX_stp d1126_0 rfl rfl rfl
theorem x1126_1 {L S : List Value} {h : HP} {a : Nat} (hk : hp_k h a = 12) : pX 1126 1 L (.ref a :: S) h = pX 1126 4 L (.int (hp_i h a 29) :: S) h := pX_get d1126_1 rfl rfl hk
theorem x1126_4 {L S : List Value} {h : HP} {x : Int32} : pX 1126 4 L (.int x :: S) h = if x ≤ 0 then pX 1126 28 L S h else pX 1126 7 L S h := pX_if_le d1126_4 (by decide)
theorem x1126_7 {S : List Value} {h : HP} {l1 : Value} {a0 : Nat} : pX 1126 7 [.ref a0, l1] S h = pX 1126 8 [.ref a0, l1] (.ref a0 :: S) h := pX_stp d1126_7 rfl rfl rfl
theorem x1126_8 {L S : List Value} {h : HP} {a0 : Nat} : pX 1126 8 L (.ref a0 :: S) h = pX 1126 9 L (.ref a0 :: .ref a0 :: S) h := pX_stp d1126_8 rfl rfl rfl
theorem x1126_9 {L S : List Value} {h : HP} {a : Nat} (hk : hp_k h a = 12) : pX 1126 9 L (.ref a :: S) h = pX 1126 12 L (.int (hp_i h a 29) :: S) h := pX_get d1126_9 rfl rfl hk
theorem x1126_12 {L S : List Value} {h : HP} : pX 1126 12 L S h = pX 1126 13 L (.int 1 :: S) h := pX_iconst d1126_12 (by decide)
theorem x1126_13 {L S : List Value} {h : HP} {x y : Int32} : pX 1126 13 L (.int y :: .int x :: S) h = pX 1126 14 L (.int (x - y) :: S) h := pX_stp d1126_13 rfl rfl rfl
theorem x1126_14 {L S : List Value} {h : HP} {a : Nat} {x : Int32} (hk : hp_k h a = 12) : pX 1126 14 L (.int x :: .ref a :: S) h = pX 1126 17 L S (hp_wi h a 29 x) := pX_put d1126_14 rfl rfl rfl hk
theorem x1126_17 {S : List Value} {h : HP} {l1 : Value} {a0 : Nat} : pX 1126 17 [.ref a0, l1] S h = pX 1126 18 [.ref a0, l1] (.ref a0 :: S) h := pX_stp d1126_17 rfl rfl rfl
theorem x1126_18 {S : List Value} {h : HP} {l1 : Value} {a0 : Nat} : pX 1126 18 [.ref a0, l1] S h = pX 1126 19 [.ref a0, l1] (.ref a0 :: S) h := pX_stp d1126_18 rfl rfl rfl
theorem x1126_19 {L S : List Value} {h : HP} {a : Nat} (hk : hp_k h a = 12) : pX 1126 19 L (.ref a :: S) h = pX 1126 22 L (.int (hp_i h a 29) :: S) h := pX_get d1126_19 rfl rfl hk
theorem x1126_22 {L : List Value} {h : HP} {x0 : Int32} {a0 : Nat} (hk : hp_k h a0 = 12) : pX 1126 22 L [.int x0, .ref a0] h = (pX 1124 0 [.ref a0, .int x0, .retAddr 0] [] h).bind (fun q => pX 1126 25 L (q.1.toList ++ []) q.2) := pX_inv (a := a0) (t := 12) 1124 [.ref a0, .int x0] [] d1126_22 rfl rfl rfl hk
theorem x1126_25 {L S : List Value} {h : HP} : pX 1126 25 L S h = pX 1126 0 L S h := pX_goto d1126_25 (by decide)
theorem x1126_28 {L S : List Value} {h : HP} : pX 1126 28 L S h = pX 1126 29 L (.int 0 :: S) h := pX_iconst d1126_28 (by decide)
theorem x1126_29 {S : List Value} {h : HP} {l0 l1 : Value} {x0 : Int32} : pX 1126 29 [l0, l1] (.int x0 :: S) h = pX 1126 30 [l0, .int x0] S h := pX_stp d1126_29 rfl rfl rfl
theorem x1126_30 {S : List Value} {h : HP} {l0 : Value} {x0 : Int32} : pX 1126 30 [l0, .int x0] S h = pX 1126 31 [l0, .int x0] (.int x0 :: S) h := pX_stp d1126_30 rfl rfl rfl
theorem x1126_31 {L S : List Value} {h : HP} : pX 1126 31 L S h = pX 1126 33 L (.int 12 :: S) h := pX_bipush d1126_31 (by decide)
theorem x1126_33 {L S : List Value} {h : HP} {x y : Int32} : pX 1126 33 L (.int y :: .int x :: S) h = if y ≤ x then pX 1126 54 L S h else pX 1126 36 L S h := pX_icmp_ge d1126_33 (by decide)
theorem x1126_36 {S : List Value} {h : HP} {l1 : Value} {a0 : Nat} : pX 1126 36 [.ref a0, l1] S h = pX 1126 37 [.ref a0, l1] (.ref a0 :: S) h := pX_stp d1126_36 rfl rfl rfl
theorem x1126_37 {L S : List Value} {h : HP} {a : Nat} (hk : hp_k h a = 12) : pX 1126 37 L (.ref a :: S) h = pX 1126 40 L (.ref (hp_a h a 11) :: S) h := pX_get d1126_37 rfl rfl hk
theorem x1126_40 {S : List Value} {h : HP} {l0 : Value} {x0 : Int32} : pX 1126 40 [l0, .int x0] S h = pX 1126 41 [l0, .int x0] (.int x0 :: S) h := pX_stp d1126_40 rfl rfl rfl
theorem x1126_41 {S : List Value} {h : HP} {l1 : Value} {a0 : Nat} : pX 1126 41 [.ref a0, l1] S h = pX 1126 42 [.ref a0, l1] (.ref a0 :: S) h := pX_stp d1126_41 rfl rfl rfl
theorem x1126_42 {L S : List Value} {h : HP} {a : Nat} (hk : hp_k h a = 12) : pX 1126 42 L (.ref a :: S) h = pX 1126 45 L (.ref (hp_a h a 12) :: S) h := pX_get d1126_42 rfl rfl hk
theorem x1126_45 {S : List Value} {h : HP} {l0 : Value} {x0 : Int32} : pX 1126 45 [l0, .int x0] S h = pX 1126 46 [l0, .int x0] (.int x0 :: S) h := pX_stp d1126_45 rfl rfl rfl
theorem x1126_46 {L S : List Value} {h : HP} {a : Nat} {j : Int32} (hk : hp_k h a = 100) (hj : inb j (hp_l h a) = true) : pX 1126 46 L (.int j :: .ref a :: S) h = pX 1126 47 L (.int (hp_i h a (ix j)) :: S) h := pX_ild d1126_46 hk hj
theorem x1126_47 {L S : List Value} {h : HP} {a : Nat} {j x : Int32} (hk : hp_k h a = 100) (hj : inb j (hp_l h a) = true) : pX 1126 47 L (.int x :: .int j :: .ref a :: S) h = pX 1126 48 L S (hp_wi h a (ix j) x) := pX_ist d1126_47 hk hj
theorem x1126_48 {S : List Value} {h : HP} {x0 : Int32} {l0 : Value} : pX 1126 48 [l0, .int x0] S h = pX 1126 51 [l0, .int (x0 + 1)] S h := pX_iinc (x := x0) d1126_48 (by decide) rfl (Nat.le_of_ble_eq_true rfl) rfl rfl
theorem x1126_51 {L S : List Value} {h : HP} : pX 1126 51 L S h = pX 1126 30 L S h := pX_goto d1126_51 (by decide)
theorem x1126_54 {S : List Value} {h : HP} {l1 : Value} {a0 : Nat} : pX 1126 54 [.ref a0, l1] S h = pX 1126 55 [.ref a0, l1] (.ref a0 :: S) h := pX_stp d1126_54 rfl rfl rfl
theorem x1126_55 {L S : List Value} {h : HP} : pX 1126 55 L S h = pX 1126 56 L (.int 0 :: S) h := pX_iconst d1126_55 (by decide)
theorem x1126_56 {L S : List Value} {h : HP} {a : Nat} {x : Int32} (hk : hp_k h a = 12) : pX 1126 56 L (.int x :: .ref a :: S) h = pX 1126 59 L S (hp_wi h a 15 x) := pX_put d1126_56 rfl rfl rfl hk
theorem x1126_59 {S : List Value} {h : HP} {l1 : Value} {a0 : Nat} : pX 1126 59 [.ref a0, l1] S h = pX 1126 60 [.ref a0, l1] (.ref a0 :: S) h := pX_stp d1126_59 rfl rfl rfl
theorem x1126_60 {L S : List Value} {h : HP} : pX 1126 60 L S h = pX 1126 61 L (.int 0 :: S) h := pX_iconst d1126_60 (by decide)
theorem x1126_61 {L S : List Value} {h : HP} {a : Nat} {x : Int32} (hk : hp_k h a = 12) : pX 1126 61 L (.int x :: .ref a :: S) h = pX 1126 64 L S (hp_wi h a 16 x) := pX_put d1126_61 rfl rfl rfl hk
theorem x1126_64 {S : List Value} {h : HP} {l1 : Value} {a0 : Nat} : pX 1126 64 [.ref a0, l1] S h = pX 1126 65 [.ref a0, l1] (.ref a0 :: S) h := pX_stp d1126_64 rfl rfl rfl
theorem x1126_65 {L S : List Value} {h : HP} {a : Nat} (hk : hp_k h a = 12) : pX 1126 65 L (.ref a :: S) h = pX 1126 68 L (.ref (hp_a h a 43) :: S) h := pX_get d1126_65 rfl rfl hk
theorem x1126_68 {L S : List Value} {h : HP} : pX 1126 68 L S h = pX 1126 69 L (.int 2 :: S) h := pX_iconst d1126_68 (by decide)
theorem x1126_69 {L S : List Value} {h : HP} {x0 : Int32} {a0 : Nat} : pX 1126 69 L (.int x0 :: .ref a0 :: S) h = pX 1126 70 L (.int x0 :: .ref a0 :: .int x0 :: .ref a0 :: S) h := pX_stp d1126_69 rfl rfl rfl
theorem x1126_70 {L S : List Value} {h : HP} {a : Nat} {j : Int32} (hk : hp_k h a = 100) (hj : inb j (hp_l h a) = true) : pX 1126 70 L (.int j :: .ref a :: S) h = pX 1126 71 L (.int (hp_i h a (ix j)) :: S) h := pX_ild d1126_70 hk hj
theorem x1126_71 {L S : List Value} {h : HP} : pX 1126 71 L S h = pX 1126 72 L (.int 1 :: S) h := pX_iconst d1126_71 (by decide)
theorem x1126_72 {L S : List Value} {h : HP} {x y : Int32} : pX 1126 72 L (.int y :: .int x :: S) h = pX 1126 73 L (.int (x + y) :: S) h := pX_stp d1126_72 rfl rfl rfl
theorem x1126_73 {L S : List Value} {h : HP} {a : Nat} {j x : Int32} (hk : hp_k h a = 100) (hj : inb j (hp_l h a) = true) : pX 1126 73 L (.int x :: .int j :: .ref a :: S) h = pX 1126 74 L S (hp_wi h a (ix j) x) := pX_ist d1126_73 hk hj
theorem x1126_74 {S : List Value} {h : HP} {l1 : Value} {a0 : Nat} : pX 1126 74 [.ref a0, l1] S h = pX 1126 75 [.ref a0, l1] (.ref a0 :: S) h := pX_stp d1126_74 rfl rfl rfl
theorem x1126_75 {L S : List Value} {h : HP} : pX 1126 75 L S h = pX 1126 77 L (.int (-9) :: S) h := pX_bipush d1126_75 (by decide)
theorem x1126_77 {L S : List Value} {h : HP} {a : Nat} {x : Int32} (hk : hp_k h a = 12) : pX 1126 77 L (.int x :: .ref a :: S) h = pX 1126 80 L S (hp_wi h a 44 x) := pX_put d1126_77 rfl rfl rfl hk
theorem x1126_80 {L : List Value} {h : HP} : pX 1126 80 L [] h = some (none, h) := pX_ret d1126_80 rfl
theorem d1127_0 : decode (mb 1127) 0 = .ok (.aload_n 0, 1) := by decide +kernel
theorem d1127_1 : decode (mb 1127) 1 = .ok (.dup, 1) := by decide +kernel
theorem d1127_2 : decode (mb 1127) 2 = .ok (.getfield 174, 3) := by decide +kernel
theorem d1127_5 : decode (mb 1127) 5 = .ok (.iconst 1, 1) := by decide +kernel
theorem d1127_6 : decode (mb 1127) 6 = .ok (.isub, 1) := by decide +kernel
theorem d1127_7 : decode (mb 1127) 7 = .ok (.putfield 174, 3) := by decide +kernel
theorem d1127_10 : decode (mb 1127) 10 = .ok (.aload_n 0, 1) := by decide +kernel
theorem d1127_11 : decode (mb 1127) 11 = .ok (.aload_n 0, 1) := by decide +kernel
theorem d1127_12 : decode (mb 1127) 12 = .ok (.getfield 174, 3) := by decide +kernel
theorem d1127_15 : decode (mb 1127) 15 = .ok (.invokevirtual 177, 3) := by decide +kernel
theorem d1127_18 : decode (mb 1127) 18 = .ok (.aload_n 0, 1) := by decide +kernel
theorem d1127_19 : decode (mb 1127) 19 = .ok (.getfield 174, 3) := by decide +kernel
theorem d1127_22 : decode (mb 1127) 22 = .ok (.ifCond .le 55, 3) := by decide +kernel
theorem d1127_25 : decode (mb 1127) 25 = .ok (.bipush 8, 2) := by decide +kernel
theorem d1127_27 : decode (mb 1127) 27 = .ok (.aload_n 0, 1) := by decide +kernel
theorem d1127_28 : decode (mb 1127) 28 = .ok (.getfield 174, 3) := by decide +kernel
theorem d1127_31 : decode (mb 1127) 31 = .ok (.iconst 1, 1) := by decide +kernel
theorem d1127_32 : decode (mb 1127) 32 = .ok (.isub, 1) := by decide +kernel
theorem d1127_33 : decode (mb 1127) 33 = .ok (.imul, 1) := by decide +kernel
theorem d1127_34 : decode (mb 1127) 34 = .ok (.aload_n 0, 1) := by decide +kernel
theorem d1127_35 : decode (mb 1127) 35 = .ok (.getfield 79, 3) := by decide +kernel
theorem d1127_38 : decode (mb 1127) 38 = .ok (.aload_n 0, 1) := by decide +kernel
theorem d1127_39 : decode (mb 1127) 39 = .ok (.getfield 174, 3) := by decide +kernel
theorem d1127_42 : decode (mb 1127) 42 = .ok (.iaload, 1) := by decide +kernel
theorem d1127_43 : decode (mb 1127) 43 = .ok (.iadd, 1) := by decide +kernel
theorem d1127_44 : decode (mb 1127) 44 = .ok (.istore_n 3, 1) := by decide +kernel
theorem d1127_45 : decode (mb 1127) 45 = .ok (.aload_n 0, 1) := by decide +kernel
theorem d1127_46 : decode (mb 1127) 46 = .ok (.getfield 82, 3) := by decide +kernel
theorem d1127_49 : decode (mb 1127) 49 = .ok (.iload_n 3, 1) := by decide +kernel
theorem d1127_50 : decode (mb 1127) 50 = .ok (.iload_n 1, 1) := by decide +kernel
theorem d1127_51 : decode (mb 1127) 51 = .ok (.iastore, 1) := by decide +kernel
theorem d1127_52 : decode (mb 1127) 52 = .ok (.aload_n 0, 1) := by decide +kernel
theorem d1127_53 : decode (mb 1127) 53 = .ok (.getfield 85, 3) := by decide +kernel
theorem d1127_56 : decode (mb 1127) 56 = .ok (.iload_n 3, 1) := by decide +kernel
theorem d1127_57 : decode (mb 1127) 57 = .ok (.iload_n 2, 1) := by decide +kernel
theorem d1127_58 : decode (mb 1127) 58 = .ok (.iastore, 1) := by decide +kernel
theorem d1127_59 : decode (mb 1127) 59 = .ok (.aload_n 0, 1) := by decide +kernel
theorem d1127_60 : decode (mb 1127) 60 = .ok (.getfield 76, 3) := by decide +kernel
theorem d1127_63 : decode (mb 1127) 63 = .ok (.aload_n 0, 1) := by decide +kernel
theorem d1127_64 : decode (mb 1127) 64 = .ok (.getfield 174, 3) := by decide +kernel
theorem d1127_67 : decode (mb 1127) 67 = .ok (.iconst 1, 1) := by decide +kernel
theorem d1127_68 : decode (mb 1127) 68 = .ok (.isub, 1) := by decide +kernel
theorem d1127_69 : decode (mb 1127) 69 = .ok (.dup2, 1) := by decide +kernel
theorem d1127_70 : decode (mb 1127) 70 = .ok (.iaload, 1) := by decide +kernel
theorem d1127_71 : decode (mb 1127) 71 = .ok (.iconst 1, 1) := by decide +kernel
theorem d1127_72 : decode (mb 1127) 72 = .ok (.iadd, 1) := by decide +kernel
theorem d1127_73 : decode (mb 1127) 73 = .ok (.iastore, 1) := by decide +kernel
theorem d1127_74 : decode (mb 1127) 74 = .ok (.goto 28, 3) := by decide +kernel
theorem d1127_77 : decode (mb 1127) 77 = .ok (.aload_n 0, 1) := by decide +kernel
theorem d1127_78 : decode (mb 1127) 78 = .ok (.iload_n 1, 1) := by decide +kernel
theorem d1127_79 : decode (mb 1127) 79 = .ok (.putfield 147, 3) := by decide +kernel
theorem d1127_82 : decode (mb 1127) 82 = .ok (.aload_n 0, 1) := by decide +kernel
theorem d1127_83 : decode (mb 1127) 83 = .ok (.iload_n 2, 1) := by decide +kernel
theorem d1127_84 : decode (mb 1127) 84 = .ok (.putfield 150, 3) := by decide +kernel
theorem d1127_87 : decode (mb 1127) 87 = .ok (.aload_n 0, 1) := by decide +kernel
theorem d1127_88 : decode (mb 1127) 88 = .ok (.getfield 101, 3) := by decide +kernel
theorem d1127_91 : decode (mb 1127) 91 = .ok (.iconst 4, 1) := by decide +kernel
theorem d1127_92 : decode (mb 1127) 92 = .ok (.dup2, 1) := by decide +kernel
theorem d1127_93 : decode (mb 1127) 93 = .ok (.iaload, 1) := by decide +kernel
theorem d1127_94 : decode (mb 1127) 94 = .ok (.iconst 1, 1) := by decide +kernel
theorem d1127_95 : decode (mb 1127) 95 = .ok (.iadd, 1) := by decide +kernel
theorem d1127_96 : decode (mb 1127) 96 = .ok (.iastore, 1) := by decide +kernel
theorem d1127_97 : decode (mb 1127) 97 = .ok (.aload_n 0, 1) := by decide +kernel
theorem d1127_98 : decode (mb 1127) 98 = .ok (.iconst 0, 1) := by decide +kernel
theorem d1127_99 : decode (mb 1127) 99 = .ok (.putfield 180, 3) := by decide +kernel
theorem d1127_102 : decode (mb 1127) 102 = .ok (.return_, 1) := by decide +kernel
theorem x1127_0 {S : List Value} {h : HP} {l1 l2 l3 : Value} {a0 : Nat} : pX 1127 0 [.ref a0, l1, l2, l3] S h = pX 1127 1 [.ref a0, l1, l2, l3] (.ref a0 :: S) h := pX_stp d1127_0 rfl rfl rfl
theorem x1127_1 {L S : List Value} {h : HP} {a0 : Nat} : pX 1127 1 L (.ref a0 :: S) h = pX 1127 2 L (.ref a0 :: .ref a0 :: S) h := pX_stp d1127_1 rfl rfl rfl
theorem x1127_2 {L S : List Value} {h : HP} {a : Nat} (hk : hp_k h a = 12) : pX 1127 2 L (.ref a :: S) h = pX 1127 5 L (.int (hp_i h a 29) :: S) h := pX_get d1127_2 rfl rfl hk
theorem x1127_5 {L S : List Value} {h : HP} : pX 1127 5 L S h = pX 1127 6 L (.int 1 :: S) h := pX_iconst d1127_5 (by decide)
theorem x1127_6 {L S : List Value} {h : HP} {x y : Int32} : pX 1127 6 L (.int y :: .int x :: S) h = pX 1127 7 L (.int (x - y) :: S) h := pX_stp d1127_6 rfl rfl rfl
theorem x1127_7 {L S : List Value} {h : HP} {a : Nat} {x : Int32} (hk : hp_k h a = 12) : pX 1127 7 L (.int x :: .ref a :: S) h = pX 1127 10 L S (hp_wi h a 29 x) := pX_put d1127_7 rfl rfl rfl hk
theorem x1127_10 {S : List Value} {h : HP} {l1 l2 l3 : Value} {a0 : Nat} : pX 1127 10 [.ref a0, l1, l2, l3] S h = pX 1127 11 [.ref a0, l1, l2, l3] (.ref a0 :: S) h := pX_stp d1127_10 rfl rfl rfl
theorem x1127_11 {S : List Value} {h : HP} {l1 l2 l3 : Value} {a0 : Nat} : pX 1127 11 [.ref a0, l1, l2, l3] S h = pX 1127 12 [.ref a0, l1, l2, l3] (.ref a0 :: S) h := pX_stp d1127_11 rfl rfl rfl
theorem x1127_12 {L S : List Value} {h : HP} {a : Nat} (hk : hp_k h a = 12) : pX 1127 12 L (.ref a :: S) h = pX 1127 15 L (.int (hp_i h a 29) :: S) h := pX_get d1127_12 rfl rfl hk
theorem x1127_15 {L : List Value} {h : HP} {x0 : Int32} {a0 : Nat} (hk : hp_k h a0 = 12) : pX 1127 15 L [.int x0, .ref a0] h = (pX 1124 0 [.ref a0, .int x0, .retAddr 0] [] h).bind (fun q => pX 1127 18 L (q.1.toList ++ []) q.2) := pX_inv (a := a0) (t := 12) 1124 [.ref a0, .int x0] [] d1127_15 rfl rfl rfl hk
theorem x1127_18 {S : List Value} {h : HP} {l1 l2 l3 : Value} {a0 : Nat} : pX 1127 18 [.ref a0, l1, l2, l3] S h = pX 1127 19 [.ref a0, l1, l2, l3] (.ref a0 :: S) h := pX_stp d1127_18 rfl rfl rfl
theorem x1127_19 {L S : List Value} {h : HP} {a : Nat} (hk : hp_k h a = 12) : pX 1127 19 L (.ref a :: S) h = pX 1127 22 L (.int (hp_i h a 29) :: S) h := pX_get d1127_19 rfl rfl hk
theorem x1127_22 {L S : List Value} {h : HP} {x : Int32} : pX 1127 22 L (.int x :: S) h = if x ≤ 0 then pX 1127 77 L S h else pX 1127 25 L S h := pX_if_le d1127_22 (by decide)
theorem x1127_25 {L S : List Value} {h : HP} : pX 1127 25 L S h = pX 1127 27 L (.int 8 :: S) h := pX_bipush d1127_25 (by decide)
theorem x1127_27 {S : List Value} {h : HP} {l1 l2 l3 : Value} {a0 : Nat} : pX 1127 27 [.ref a0, l1, l2, l3] S h = pX 1127 28 [.ref a0, l1, l2, l3] (.ref a0 :: S) h := pX_stp d1127_27 rfl rfl rfl
theorem x1127_28 {L S : List Value} {h : HP} {a : Nat} (hk : hp_k h a = 12) : pX 1127 28 L (.ref a :: S) h = pX 1127 31 L (.int (hp_i h a 29) :: S) h := pX_get d1127_28 rfl rfl hk
theorem x1127_31 {L S : List Value} {h : HP} : pX 1127 31 L S h = pX 1127 32 L (.int 1 :: S) h := pX_iconst d1127_31 (by decide)
theorem x1127_32 {L S : List Value} {h : HP} {x y : Int32} : pX 1127 32 L (.int y :: .int x :: S) h = pX 1127 33 L (.int (x - y) :: S) h := pX_stp d1127_32 rfl rfl rfl
theorem x1127_33 {L S : List Value} {h : HP} {x y : Int32} : pX 1127 33 L (.int y :: .int x :: S) h = pX 1127 34 L (.int (x * y) :: S) h := pX_stp d1127_33 rfl rfl rfl
theorem x1127_34 {S : List Value} {h : HP} {l1 l2 l3 : Value} {a0 : Nat} : pX 1127 34 [.ref a0, l1, l2, l3] S h = pX 1127 35 [.ref a0, l1, l2, l3] (.ref a0 :: S) h := pX_stp d1127_34 rfl rfl rfl
theorem x1127_35 {L S : List Value} {h : HP} {a : Nat} (hk : hp_k h a = 12) : pX 1127 35 L (.ref a :: S) h = pX 1127 38 L (.ref (hp_a h a 32) :: S) h := pX_get d1127_35 rfl rfl hk
theorem x1127_38 {S : List Value} {h : HP} {l1 l2 l3 : Value} {a0 : Nat} : pX 1127 38 [.ref a0, l1, l2, l3] S h = pX 1127 39 [.ref a0, l1, l2, l3] (.ref a0 :: S) h := pX_stp d1127_38 rfl rfl rfl
theorem x1127_39 {L S : List Value} {h : HP} {a : Nat} (hk : hp_k h a = 12) : pX 1127 39 L (.ref a :: S) h = pX 1127 42 L (.int (hp_i h a 29) :: S) h := pX_get d1127_39 rfl rfl hk
theorem x1127_42 {L S : List Value} {h : HP} {a : Nat} {j : Int32} (hk : hp_k h a = 100) (hj : inb j (hp_l h a) = true) : pX 1127 42 L (.int j :: .ref a :: S) h = pX 1127 43 L (.int (hp_i h a (ix j)) :: S) h := pX_ild d1127_42 hk hj
theorem x1127_43 {L S : List Value} {h : HP} {x y : Int32} : pX 1127 43 L (.int y :: .int x :: S) h = pX 1127 44 L (.int (x + y) :: S) h := pX_stp d1127_43 rfl rfl rfl
theorem x1127_44 {S : List Value} {h : HP} {l0 l1 l2 l3 : Value} {x0 : Int32} : pX 1127 44 [l0, l1, l2, l3] (.int x0 :: S) h = pX 1127 45 [l0, l1, l2, .int x0] S h := pX_stp d1127_44 rfl rfl rfl
theorem x1127_45 {S : List Value} {h : HP} {l1 l2 l3 : Value} {a0 : Nat} : pX 1127 45 [.ref a0, l1, l2, l3] S h = pX 1127 46 [.ref a0, l1, l2, l3] (.ref a0 :: S) h := pX_stp d1127_45 rfl rfl rfl
theorem x1127_46 {L S : List Value} {h : HP} {a : Nat} (hk : hp_k h a = 12) : pX 1127 46 L (.ref a :: S) h = pX 1127 49 L (.ref (hp_a h a 33) :: S) h := pX_get d1127_46 rfl rfl hk
theorem x1127_49 {S : List Value} {h : HP} {l0 l1 l2 : Value} {x0 : Int32} : pX 1127 49 [l0, l1, l2, .int x0] S h = pX 1127 50 [l0, l1, l2, .int x0] (.int x0 :: S) h := pX_stp d1127_49 rfl rfl rfl
theorem x1127_50 {S : List Value} {h : HP} {l0 l2 l3 : Value} {x0 : Int32} : pX 1127 50 [l0, .int x0, l2, l3] S h = pX 1127 51 [l0, .int x0, l2, l3] (.int x0 :: S) h := pX_stp d1127_50 rfl rfl rfl
theorem x1127_51 {L S : List Value} {h : HP} {a : Nat} {j x : Int32} (hk : hp_k h a = 100) (hj : inb j (hp_l h a) = true) : pX 1127 51 L (.int x :: .int j :: .ref a :: S) h = pX 1127 52 L S (hp_wi h a (ix j) x) := pX_ist d1127_51 hk hj
theorem x1127_52 {S : List Value} {h : HP} {l1 l2 l3 : Value} {a0 : Nat} : pX 1127 52 [.ref a0, l1, l2, l3] S h = pX 1127 53 [.ref a0, l1, l2, l3] (.ref a0 :: S) h := pX_stp d1127_52 rfl rfl rfl
theorem x1127_53 {L S : List Value} {h : HP} {a : Nat} (hk : hp_k h a = 12) : pX 1127 53 L (.ref a :: S) h = pX 1127 56 L (.ref (hp_a h a 34) :: S) h := pX_get d1127_53 rfl rfl hk
theorem x1127_56 {S : List Value} {h : HP} {l0 l1 l2 : Value} {x0 : Int32} : pX 1127 56 [l0, l1, l2, .int x0] S h = pX 1127 57 [l0, l1, l2, .int x0] (.int x0 :: S) h := pX_stp d1127_56 rfl rfl rfl
theorem x1127_57 {S : List Value} {h : HP} {l0 l1 l3 : Value} {x0 : Int32} : pX 1127 57 [l0, l1, .int x0, l3] S h = pX 1127 58 [l0, l1, .int x0, l3] (.int x0 :: S) h := pX_stp d1127_57 rfl rfl rfl
theorem x1127_58 {L S : List Value} {h : HP} {a : Nat} {j x : Int32} (hk : hp_k h a = 100) (hj : inb j (hp_l h a) = true) : pX 1127 58 L (.int x :: .int j :: .ref a :: S) h = pX 1127 59 L S (hp_wi h a (ix j) x) := pX_ist d1127_58 hk hj
theorem x1127_59 {S : List Value} {h : HP} {l1 l2 l3 : Value} {a0 : Nat} : pX 1127 59 [.ref a0, l1, l2, l3] S h = pX 1127 60 [.ref a0, l1, l2, l3] (.ref a0 :: S) h := pX_stp d1127_59 rfl rfl rfl
theorem x1127_60 {L S : List Value} {h : HP} {a : Nat} (hk : hp_k h a = 12) : pX 1127 60 L (.ref a :: S) h = pX 1127 63 L (.ref (hp_a h a 31) :: S) h := pX_get d1127_60 rfl rfl hk
theorem x1127_63 {S : List Value} {h : HP} {l1 l2 l3 : Value} {a0 : Nat} : pX 1127 63 [.ref a0, l1, l2, l3] S h = pX 1127 64 [.ref a0, l1, l2, l3] (.ref a0 :: S) h := pX_stp d1127_63 rfl rfl rfl
theorem x1127_64 {L S : List Value} {h : HP} {a : Nat} (hk : hp_k h a = 12) : pX 1127 64 L (.ref a :: S) h = pX 1127 67 L (.int (hp_i h a 29) :: S) h := pX_get d1127_64 rfl rfl hk
theorem x1127_67 {L S : List Value} {h : HP} : pX 1127 67 L S h = pX 1127 68 L (.int 1 :: S) h := pX_iconst d1127_67 (by decide)
theorem x1127_68 {L S : List Value} {h : HP} {x y : Int32} : pX 1127 68 L (.int y :: .int x :: S) h = pX 1127 69 L (.int (x - y) :: S) h := pX_stp d1127_68 rfl rfl rfl
theorem x1127_69 {L S : List Value} {h : HP} {x0 : Int32} {a0 : Nat} : pX 1127 69 L (.int x0 :: .ref a0 :: S) h = pX 1127 70 L (.int x0 :: .ref a0 :: .int x0 :: .ref a0 :: S) h := pX_stp d1127_69 rfl rfl rfl
theorem x1127_70 {L S : List Value} {h : HP} {a : Nat} {j : Int32} (hk : hp_k h a = 100) (hj : inb j (hp_l h a) = true) : pX 1127 70 L (.int j :: .ref a :: S) h = pX 1127 71 L (.int (hp_i h a (ix j)) :: S) h := pX_ild d1127_70 hk hj
theorem x1127_71 {L S : List Value} {h : HP} : pX 1127 71 L S h = pX 1127 72 L (.int 1 :: S) h := pX_iconst d1127_71 (by decide)
theorem x1127_72 {L S : List Value} {h : HP} {x y : Int32} : pX 1127 72 L (.int y :: .int x :: S) h = pX 1127 73 L (.int (x + y) :: S) h := pX_stp d1127_72 rfl rfl rfl
theorem x1127_73 {L S : List Value} {h : HP} {a : Nat} {j x : Int32} (hk : hp_k h a = 100) (hj : inb j (hp_l h a) = true) : pX 1127 73 L (.int x :: .int j :: .ref a :: S) h = pX 1127 74 L S (hp_wi h a (ix j) x) := pX_ist d1127_73 hk hj
theorem x1127_74 {L S : List Value} {h : HP} : pX 1127 74 L S h = pX 1127 102 L S h := pX_goto d1127_74 (by decide)
theorem x1127_77 {S : List Value} {h : HP} {l1 l2 l3 : Value} {a0 : Nat} : pX 1127 77 [.ref a0, l1, l2, l3] S h = pX 1127 78 [.ref a0, l1, l2, l3] (.ref a0 :: S) h := pX_stp d1127_77 rfl rfl rfl
theorem x1127_78 {S : List Value} {h : HP} {l0 l2 l3 : Value} {x0 : Int32} : pX 1127 78 [l0, .int x0, l2, l3] S h = pX 1127 79 [l0, .int x0, l2, l3] (.int x0 :: S) h := pX_stp d1127_78 rfl rfl rfl
theorem x1127_79 {L S : List Value} {h : HP} {a : Nat} {x : Int32} (hk : hp_k h a = 12) : pX 1127 79 L (.int x :: .ref a :: S) h = pX 1127 82 L S (hp_wi h a 15 x) := pX_put d1127_79 rfl rfl rfl hk
theorem x1127_82 {S : List Value} {h : HP} {l1 l2 l3 : Value} {a0 : Nat} : pX 1127 82 [.ref a0, l1, l2, l3] S h = pX 1127 83 [.ref a0, l1, l2, l3] (.ref a0 :: S) h := pX_stp d1127_82 rfl rfl rfl
theorem x1127_83 {S : List Value} {h : HP} {l0 l1 l3 : Value} {x0 : Int32} : pX 1127 83 [l0, l1, .int x0, l3] S h = pX 1127 84 [l0, l1, .int x0, l3] (.int x0 :: S) h := pX_stp d1127_83 rfl rfl rfl
theorem x1127_84 {L S : List Value} {h : HP} {a : Nat} {x : Int32} (hk : hp_k h a = 12) : pX 1127 84 L (.int x :: .ref a :: S) h = pX 1127 87 L S (hp_wi h a 16 x) := pX_put d1127_84 rfl rfl rfl hk
theorem x1127_87 {S : List Value} {h : HP} {l1 l2 l3 : Value} {a0 : Nat} : pX 1127 87 [.ref a0, l1, l2, l3] S h = pX 1127 88 [.ref a0, l1, l2, l3] (.ref a0 :: S) h := pX_stp d1127_87 rfl rfl rfl
theorem x1127_88 {L S : List Value} {h : HP} {a : Nat} (hk : hp_k h a = 12) : pX 1127 88 L (.ref a :: S) h = pX 1127 91 L (.ref (hp_a h a 43) :: S) h := pX_get d1127_88 rfl rfl hk
theorem x1127_91 {L S : List Value} {h : HP} : pX 1127 91 L S h = pX 1127 92 L (.int 4 :: S) h := pX_iconst d1127_91 (by decide)
theorem x1127_92 {L S : List Value} {h : HP} {x0 : Int32} {a0 : Nat} : pX 1127 92 L (.int x0 :: .ref a0 :: S) h = pX 1127 93 L (.int x0 :: .ref a0 :: .int x0 :: .ref a0 :: S) h := pX_stp d1127_92 rfl rfl rfl
theorem x1127_93 {L S : List Value} {h : HP} {a : Nat} {j : Int32} (hk : hp_k h a = 100) (hj : inb j (hp_l h a) = true) : pX 1127 93 L (.int j :: .ref a :: S) h = pX 1127 94 L (.int (hp_i h a (ix j)) :: S) h := pX_ild d1127_93 hk hj
theorem x1127_94 {L S : List Value} {h : HP} : pX 1127 94 L S h = pX 1127 95 L (.int 1 :: S) h := pX_iconst d1127_94 (by decide)
theorem x1127_95 {L S : List Value} {h : HP} {x y : Int32} : pX 1127 95 L (.int y :: .int x :: S) h = pX 1127 96 L (.int (x + y) :: S) h := pX_stp d1127_95 rfl rfl rfl
theorem x1127_96 {L S : List Value} {h : HP} {a : Nat} {j x : Int32} (hk : hp_k h a = 100) (hj : inb j (hp_l h a) = true) : pX 1127 96 L (.int x :: .int j :: .ref a :: S) h = pX 1127 97 L S (hp_wi h a (ix j) x) := pX_ist d1127_96 hk hj
theorem x1127_97 {S : List Value} {h : HP} {l1 l2 l3 : Value} {a0 : Nat} : pX 1127 97 [.ref a0, l1, l2, l3] S h = pX 1127 98 [.ref a0, l1, l2, l3] (.ref a0 :: S) h := pX_stp d1127_97 rfl rfl rfl
theorem x1127_98 {L S : List Value} {h : HP} : pX 1127 98 L S h = pX 1127 99 L (.int 0 :: S) h := pX_iconst d1127_98 (by decide)
theorem x1127_99 {L S : List Value} {h : HP} {a : Nat} {x : Int32} (hk : hp_k h a = 12) : pX 1127 99 L (.int x :: .ref a :: S) h = pX 1127 102 L S (hp_wi h a 44 x) := pX_put d1127_99 rfl rfl rfl hk
theorem x1127_102 {L : List Value} {h : HP} : pX 1127 102 L [] h = some (none, h) := pX_ret d1127_102 rfl
theorem d1128_0 : decode (mb 1128) 0 = .ok (.aload_n 0, 1) := by decide +kernel
theorem d1128_1 : decode (mb 1128) 1 = .ok (.getfield 174, 3) := by decide +kernel
theorem d1128_4 : decode (mb 1128) 4 = .ok (.ifCond .le 213, 3) := by decide +kernel
theorem d1128_7 : decode (mb 1128) 7 = .ok (.aload_n 0, 1) := by decide +kernel
theorem d1128_8 : decode (mb 1128) 8 = .ok (.getfield 174, 3) := by decide +kernel
theorem d1128_11 : decode (mb 1128) 11 = .ok (.iconst 1, 1) := by decide +kernel
theorem d1128_12 : decode (mb 1128) 12 = .ok (.isub, 1) := by decide +kernel
theorem d1128_13 : decode (mb 1128) 13 = .ok (.istore_n 2, 1) := by decide +kernel
theorem d1128_14 : decode (mb 1128) 14 = .ok (.aload_n 0, 1) := by decide +kernel
theorem d1128_15 : decode (mb 1128) 15 = .ok (.getfield 73, 3) := by decide +kernel
theorem d1128_18 : decode (mb 1128) 18 = .ok (.iload_n 2, 1) := by decide +kernel
theorem d1128_19 : decode (mb 1128) 19 = .ok (.iaload, 1) := by decide +kernel
theorem d1128_20 : decode (mb 1128) 20 = .ok (.istore_n 3, 1) := by decide +kernel
theorem d1128_21 : decode (mb 1128) 21 = .ok (.bipush 24, 2) := by decide +kernel
theorem d1128_23 : decode (mb 1128) 23 = .ok (.iload_n 3, 1) := by decide +kernel
theorem d1128_24 : decode (mb 1128) 24 = .ok (.imul, 1) := by decide +kernel
theorem d1128_25 : decode (mb 1128) 25 = .ok (.istore 4, 2) := by decide +kernel
theorem d1128_27 : decode (mb 1128) 27 = .ok (.iload 4, 2) := by decide +kernel
theorem d1128_29 : decode (mb 1128) 29 = .ok (.bipush 24, 2) := by decide +kernel
theorem d1128_31 : decode (mb 1128) 31 = .ok (.iload_n 3, 1) := by decide +kernel
theorem d1128_32 : decode (mb 1128) 32 = .ok (.imul, 1) := by decide +kernel
theorem d1128_33 : decode (mb 1128) 33 = .ok (.iconst 4, 1) := by decide +kernel
theorem d1128_34 : decode (mb 1128) 34 = .ok (.aload_n 0, 1) := by decide +kernel
theorem d1128_35 : decode (mb 1128) 35 = .ok (.getfield 19, 3) := by decide +kernel
theorem d1128_38 : decode (mb 1128) 38 = .ok (.iload_n 3, 1) := by decide +kernel
theorem d1128_39 : decode (mb 1128) 39 = .ok (.iaload, 1) := by decide +kernel
theorem d1128_40 : decode (mb 1128) 40 = .ok (.imul, 1) := by decide +kernel
theorem d1128_41 : decode (mb 1128) 41 = .ok (.iadd, 1) := by decide +kernel
theorem d1128_42 : decode (mb 1128) 42 = .ok (.if_icmp .ge 157, 3) := by decide +kernel
theorem d1128_45 : decode (mb 1128) 45 = .ok (.aload_n 0, 1) := by decide +kernel
theorem d1128_46 : decode (mb 1128) 46 = .ok (.getfield 22, 3) := by decide +kernel
theorem d1128_49 : decode (mb 1128) 49 = .ok (.iload 4, 2) := by decide +kernel
theorem d1128_51 : decode (mb 1128) 51 = .ok (.iaload, 1) := by decide +kernel
theorem d1128_52 : decode (mb 1128) 52 = .ok (.aload_n 0, 1) := by decide +kernel
theorem d1128_53 : decode (mb 1128) 53 = .ok (.getfield 76, 3) := by decide +kernel
theorem d1128_56 : decode (mb 1128) 56 = .ok (.iload_n 2, 1) := by decide +kernel
theorem d1128_57 : decode (mb 1128) 57 = .ok (.iaload, 1) := by decide +kernel
theorem d1128_58 : decode (mb 1128) 58 = .ok (.if_icmp .gt 135, 3) := by decide +kernel
theorem d1128_61 : decode (mb 1128) 61 = .ok (.aload_n 0, 1) := by decide +kernel
theorem d1128_62 : decode (mb 1128) 62 = .ok (.getfield 76, 3) := by decide +kernel
theorem d1128_65 : decode (mb 1128) 65 = .ok (.iload_n 2, 1) := by decide +kernel
theorem d1128_66 : decode (mb 1128) 66 = .ok (.iaload, 1) := by decide +kernel
theorem d1128_67 : decode (mb 1128) 67 = .ok (.aload_n 0, 1) := by decide +kernel
theorem d1128_68 : decode (mb 1128) 68 = .ok (.getfield 22, 3) := by decide +kernel
theorem d1128_71 : decode (mb 1128) 71 = .ok (.iload 4, 2) := by decide +kernel
theorem d1128_73 : decode (mb 1128) 73 = .ok (.iconst 1, 1) := by decide +kernel
theorem d1128_74 : decode (mb 1128) 74 = .ok (.iadd, 1) := by decide +kernel
theorem d1128_75 : decode (mb 1128) 75 = .ok (.iaload, 1) := by decide +kernel
theorem d1128_76 : decode (mb 1128) 76 = .ok (.if_icmp .ge 117, 3) := by decide +kernel
theorem d1128_79 : decode (mb 1128) 79 = .ok (.aload_n 0, 1) := by decide +kernel
theorem d1128_80 : decode (mb 1128) 80 = .ok (.getfield 22, 3) := by decide +kernel
theorem d1128_83 : decode (mb 1128) 83 = .ok (.iload 4, 2) := by decide +kernel
theorem d1128_85 : decode (mb 1128) 85 = .ok (.iconst 2, 1) := by decide +kernel
theorem d1128_86 : decode (mb 1128) 86 = .ok (.iadd, 1) := by decide +kernel
theorem d1128_87 : decode (mb 1128) 87 = .ok (.iaload, 1) := by decide +kernel
theorem d1128_88 : decode (mb 1128) 88 = .ok (.ifCond .eq 16, 3) := by decide +kernel
theorem d1128_91 : decode (mb 1128) 91 = .ok (.aload_n 0, 1) := by decide +kernel
theorem d1128_92 : decode (mb 1128) 92 = .ok (.getfield 22, 3) := by decide +kernel
theorem d1128_95 : decode (mb 1128) 95 = .ok (.iload 4, 2) := by decide +kernel
theorem d1128_97 : decode (mb 1128) 97 = .ok (.iconst 2, 1) := by decide +kernel
theorem d1128_98 : decode (mb 1128) 98 = .ok (.iadd, 1) := by decide +kernel
theorem d1128_99 : decode (mb 1128) 99 = .ok (.iaload, 1) := by decide +kernel
theorem d1128_100 : decode (mb 1128) 100 = .ok (.iload_n 1, 1) := by decide +kernel
theorem d1128_101 : decode (mb 1128) 101 = .ok (.if_icmp .ne 92, 3) := by decide +kernel
theorem d1128_104 : decode (mb 1128) 104 = .ok (.aload_n 0, 1) := by decide +kernel
theorem d1128_105 : decode (mb 1128) 105 = .ok (.aload_n 0, 1) := by decide +kernel
theorem d1128_106 : decode (mb 1128) 106 = .ok (.getfield 28, 3) := by decide +kernel
theorem d1128_109 : decode (mb 1128) 109 = .ok (.iconst 2, 1) := by decide +kernel
theorem d1128_110 : decode (mb 1128) 110 = .ok (.iaload, 1) := by decide +kernel
theorem d1128_111 : decode (mb 1128) 111 = .ok (.i2l, 1) := by decide +kernel
theorem d1128_112 : decode (mb 1128) 112 = .ok (.invokevirtual 166, 3) := by decide +kernel
theorem d1128_115 : decode (mb 1128) 115 = .ok (.ifCond .ne 8, 3) := by decide +kernel
theorem d1128_118 : decode (mb 1128) 118 = .ok (.aload_n 0, 1) := by decide +kernel
theorem d1128_119 : decode (mb 1128) 119 = .ok (.invokevirtual 183, 3) := by decide +kernel
theorem d1128_122 : decode (mb 1128) 122 = .ok (.return_, 1) := by decide +kernel
theorem d1128_123 : decode (mb 1128) 123 = .ok (.aload_n 0, 1) := by decide +kernel
theorem d1128_124 : decode (mb 1128) 124 = .ok (.getfield 95, 3) := by decide +kernel
theorem d1128_127 : decode (mb 1128) 127 = .ok (.iconst 3, 1) := by decide +kernel
theorem d1128_128 : decode (mb 1128) 128 = .ok (.dup2, 1) := by decide +kernel
theorem d1128_129 : decode (mb 1128) 129 = .ok (.iaload, 1) := by decide +kernel
theorem d1128_130 : decode (mb 1128) 130 = .ok (.iconst 1, 1) := by decide +kernel
theorem d1128_131 : decode (mb 1128) 131 = .ok (.iadd, 1) := by decide +kernel
theorem d1128_132 : decode (mb 1128) 132 = .ok (.iastore, 1) := by decide +kernel
theorem d1128_133 : decode (mb 1128) 133 = .ok (.aload_n 0, 1) := by decide +kernel
theorem d1128_134 : decode (mb 1128) 134 = .ok (.iload_n 1, 1) := by decide +kernel
theorem d1128_135 : decode (mb 1128) 135 = .ok (.invokevirtual 170, 3) := by decide +kernel
theorem d1128_138 : decode (mb 1128) 138 = .ok (.aload_n 0, 1) := by decide +kernel
theorem d1128_139 : decode (mb 1128) 139 = .ok (.getfield 82, 3) := by decide +kernel
theorem d1128_142 : decode (mb 1128) 142 = .ok (.bipush 8, 2) := by decide +kernel
theorem d1128_144 : decode (mb 1128) 144 = .ok (.iload_n 2, 1) := by decide +kernel
theorem d1128_145 : decode (mb 1128) 145 = .ok (.imul, 1) := by decide +kernel
theorem d1128_146 : decode (mb 1128) 146 = .ok (.bipush 7, 2) := by decide +kernel
theorem d1128_148 : decode (mb 1128) 148 = .ok (.iadd, 1) := by decide +kernel
theorem d1128_149 : decode (mb 1128) 149 = .ok (.iconst 1, 1) := by decide +kernel
theorem d1128_150 : decode (mb 1128) 150 = .ok (.iastore, 1) := by decide +kernel
theorem d1128_151 : decode (mb 1128) 151 = .ok (.aload_n 0, 1) := by decide +kernel
theorem d1128_152 : decode (mb 1128) 152 = .ok (.getfield 85, 3) := by decide +kernel
theorem d1128_155 : decode (mb 1128) 155 = .ok (.bipush 8, 2) := by decide +kernel
theorem d1128_157 : decode (mb 1128) 157 = .ok (.iload_n 2, 1) := by decide +kernel
theorem d1128_158 : decode (mb 1128) 158 = .ok (.imul, 1) := by decide +kernel
theorem d1128_159 : decode (mb 1128) 159 = .ok (.bipush 7, 2) := by decide +kernel
theorem d1128_161 : decode (mb 1128) 161 = .ok (.iadd, 1) := by decide +kernel
theorem d1128_162 : decode (mb 1128) 162 = .ok (.iload_n 1, 1) := by decide +kernel
theorem d1128_163 : decode (mb 1128) 163 = .ok (.bipush 9, 2) := by decide +kernel
theorem d1128_165 : decode (mb 1128) 165 = .ok (.if_icmp .ne 10, 3) := by decide +kernel
theorem d1128_168 : decode (mb 1128) 168 = .ok (.aload_n 0, 1) := by decide +kernel
theorem d1128_169 : decode (mb 1128) 169 = .ok (.getfield 186, 3) := by decide +kernel
theorem d1128_172 : decode (mb 1128) 172 = .ok (.goto 4, 3) := by decide +kernel
theorem d1128_175 : decode (mb 1128) 175 = .ok (.iload_n 1, 1) := by decide +kernel
theorem d1128_176 : decode (mb 1128) 176 = .ok (.iastore, 1) := by decide +kernel
theorem d1128_177 : decode (mb 1128) 177 = .ok (.aload_n 0, 1) := by decide +kernel
theorem d1128_178 : decode (mb 1128) 178 = .ok (.getfield 76, 3) := by decide +kernel
theorem d1128_181 : decode (mb 1128) 181 = .ok (.iload_n 2, 1) := by decide +kernel
theorem d1128_182 : decode (mb 1128) 182 = .ok (.aload_n 0, 1) := by decide +kernel
theorem d1128_183 : decode (mb 1128) 183 = .ok (.getfield 22, 3) := by decide +kernel
theorem d1128_186 : decode (mb 1128) 186 = .ok (.iload 4, 2) := by decide +kernel
theorem d1128_188 : decode (mb 1128) 188 = .ok (.iconst 3, 1) := by decide +kernel
theorem d1128_189 : decode (mb 1128) 189 = .ok (.iadd, 1) := by decide +kernel
theorem d1128_190 : decode (mb 1128) 190 = .ok (.iaload, 1) := by decide +kernel
theorem d1128_191 : decode (mb 1128) 191 = .ok (.iastore, 1) := by decide +kernel
theorem d1128_192 : decode (mb 1128) 192 = .ok (.return_, 1) := by decide +kernel
theorem d1128_193 : decode (mb 1128) 193 = .ok (.iinc 4 4, 3) := by decide +kernel
theorem d1128_196 : decode (mb 1128) 196 = .ok (.goto (-169), 3) := by decide +kernel
theorem d1128_199 : decode (mb 1128) 199 = .ok (.aload_n 0, 1) := by decide +kernel
theorem d1128_200 : decode (mb 1128) 200 = .ok (.dup, 1) := by decide +kernel
theorem d1128_201 : decode (mb 1128) 201 = .ok (.getfield 174, 3) := by decide +kernel
theorem d1128_204 : decode (mb 1128) 204 = .ok (.iconst 1, 1) := by decide +kernel
theorem d1128_205 : decode (mb 1128) 205 = .ok (.isub, 1) := by decide +kernel
theorem d1128_206 : decode (mb 1128) 206 = .ok (.putfield 174, 3) := by decide +kernel
theorem d1128_209 : decode (mb 1128) 209 = .ok (.aload_n 0, 1) := by decide +kernel
theorem d1128_210 : decode (mb 1128) 210 = .ok (.iload_n 2, 1) := by decide +kernel
theorem d1128_211 : decode (mb 1128) 211 = .ok (.invokevirtual 177, 3) := by decide +kernel
theorem d1128_214 : decode (mb 1128) 214 = .ok (.goto (-214), 3) := by decide +kernel
theorem d1128_217 : decode (mb 1128) 217 = .ok (.aload_n 0, 1) := by decide +kernel
theorem d1128_218 : decode (mb 1128) 218 = .ok (.iconst 0, 1) := by decide +kernel
theorem d1128_219 : decode (mb 1128) 219 = .ok (.putfield 147, 3) := by decide +kernel
theorem d1128_222 : decode (mb 1128) 222 = .ok (.aload_n 0, 1) := by decide +kernel
theorem d1128_223 : decode (mb 1128) 223 = .ok (.iconst 0, 1) := by decide +kernel
theorem d1128_224 : decode (mb 1128) 224 = .ok (.putfield 150, 3) := by decide +kernel
theorem d1128_227 : decode (mb 1128) 227 = .ok (.aload_n 0, 1) := by decide +kernel
theorem d1128_228 : decode (mb 1128) 228 = .ok (.getfield 101, 3) := by decide +kernel
theorem d1128_231 : decode (mb 1128) 231 = .ok (.iconst 3, 1) := by decide +kernel
theorem d1128_232 : decode (mb 1128) 232 = .ok (.dup2, 1) := by decide +kernel
theorem d1128_233 : decode (mb 1128) 233 = .ok (.iaload, 1) := by decide +kernel
theorem d1128_234 : decode (mb 1128) 234 = .ok (.iconst 1, 1) := by decide +kernel
theorem d1128_235 : decode (mb 1128) 235 = .ok (.iadd, 1) := by decide +kernel
theorem d1128_236 : decode (mb 1128) 236 = .ok (.iastore, 1) := by decide +kernel
theorem d1128_237 : decode (mb 1128) 237 = .ok (.aload_n 0, 1) := by decide +kernel
theorem d1128_238 : decode (mb 1128) 238 = .ok (.bipush (-10), 2) := by decide +kernel
theorem d1128_240 : decode (mb 1128) 240 = .ok (.iload_n 1, 1) := by decide +kernel
theorem d1128_241 : decode (mb 1128) 241 = .ok (.isub, 1) := by decide +kernel
theorem d1128_242 : decode (mb 1128) 242 = .ok (.putfield 180, 3) := by decide +kernel
theorem d1128_245 : decode (mb 1128) 245 = .ok (.return_, 1) := by decide +kernel
theorem x1128_0 {S : List Value} {h : HP} {l1 l2 l3 l4 : Value} {a0 : Nat} : pX 1128 0 [.ref a0, l1, l2, l3, l4] S h = pX 1128 1 [.ref a0, l1, l2, l3, l4] (.ref a0 :: S) h := pX_stp d1128_0 rfl rfl rfl
theorem x1128_1 {L S : List Value} {h : HP} {a : Nat} (hk : hp_k h a = 12) : pX 1128 1 L (.ref a :: S) h = pX 1128 4 L (.int (hp_i h a 29) :: S) h := pX_get d1128_1 rfl rfl hk
theorem x1128_4 {L S : List Value} {h : HP} {x : Int32} : pX 1128 4 L (.int x :: S) h = if x ≤ 0 then pX 1128 217 L S h else pX 1128 7 L S h := pX_if_le d1128_4 (by decide)
theorem x1128_7 {S : List Value} {h : HP} {l1 l2 l3 l4 : Value} {a0 : Nat} : pX 1128 7 [.ref a0, l1, l2, l3, l4] S h = pX 1128 8 [.ref a0, l1, l2, l3, l4] (.ref a0 :: S) h := pX_stp d1128_7 rfl rfl rfl
theorem x1128_8 {L S : List Value} {h : HP} {a : Nat} (hk : hp_k h a = 12) : pX 1128 8 L (.ref a :: S) h = pX 1128 11 L (.int (hp_i h a 29) :: S) h := pX_get d1128_8 rfl rfl hk
theorem x1128_11 {L S : List Value} {h : HP} : pX 1128 11 L S h = pX 1128 12 L (.int 1 :: S) h := pX_iconst d1128_11 (by decide)
theorem x1128_12 {L S : List Value} {h : HP} {x y : Int32} : pX 1128 12 L (.int y :: .int x :: S) h = pX 1128 13 L (.int (x - y) :: S) h := pX_stp d1128_12 rfl rfl rfl
theorem x1128_13 {S : List Value} {h : HP} {l0 l1 l2 l3 l4 : Value} {x0 : Int32} : pX 1128 13 [l0, l1, l2, l3, l4] (.int x0 :: S) h = pX 1128 14 [l0, l1, .int x0, l3, l4] S h := pX_stp d1128_13 rfl rfl rfl
theorem x1128_14 {S : List Value} {h : HP} {l1 l2 l3 l4 : Value} {a0 : Nat} : pX 1128 14 [.ref a0, l1, l2, l3, l4] S h = pX 1128 15 [.ref a0, l1, l2, l3, l4] (.ref a0 :: S) h := pX_stp d1128_14 rfl rfl rfl
theorem x1128_15 {L S : List Value} {h : HP} {a : Nat} (hk : hp_k h a = 12) : pX 1128 15 L (.ref a :: S) h = pX 1128 18 L (.ref (hp_a h a 30) :: S) h := pX_get d1128_15 rfl rfl hk
theorem x1128_18 {S : List Value} {h : HP} {l0 l1 l3 l4 : Value} {x0 : Int32} : pX 1128 18 [l0, l1, .int x0, l3, l4] S h = pX 1128 19 [l0, l1, .int x0, l3, l4] (.int x0 :: S) h := pX_stp d1128_18 rfl rfl rfl
theorem x1128_19 {L S : List Value} {h : HP} {a : Nat} {j : Int32} (hk : hp_k h a = 100) (hj : inb j (hp_l h a) = true) : pX 1128 19 L (.int j :: .ref a :: S) h = pX 1128 20 L (.int (hp_i h a (ix j)) :: S) h := pX_ild d1128_19 hk hj
theorem x1128_20 {S : List Value} {h : HP} {l0 l1 l2 l3 l4 : Value} {x0 : Int32} : pX 1128 20 [l0, l1, l2, l3, l4] (.int x0 :: S) h = pX 1128 21 [l0, l1, l2, .int x0, l4] S h := pX_stp d1128_20 rfl rfl rfl
theorem x1128_21 {L S : List Value} {h : HP} : pX 1128 21 L S h = pX 1128 23 L (.int 24 :: S) h := pX_bipush d1128_21 (by decide)
theorem x1128_23 {S : List Value} {h : HP} {l0 l1 l2 l4 : Value} {x0 : Int32} : pX 1128 23 [l0, l1, l2, .int x0, l4] S h = pX 1128 24 [l0, l1, l2, .int x0, l4] (.int x0 :: S) h := pX_stp d1128_23 rfl rfl rfl
theorem x1128_24 {L S : List Value} {h : HP} {x y : Int32} : pX 1128 24 L (.int y :: .int x :: S) h = pX 1128 25 L (.int (x * y) :: S) h := pX_stp d1128_24 rfl rfl rfl
theorem x1128_25 {S : List Value} {h : HP} {l0 l1 l2 l3 l4 : Value} {x0 : Int32} : pX 1128 25 [l0, l1, l2, l3, l4] (.int x0 :: S) h = pX 1128 27 [l0, l1, l2, l3, .int x0] S h := pX_stp d1128_25 rfl rfl rfl
theorem x1128_27 {S : List Value} {h : HP} {l0 l1 l2 l3 : Value} {x0 : Int32} : pX 1128 27 [l0, l1, l2, l3, .int x0] S h = pX 1128 29 [l0, l1, l2, l3, .int x0] (.int x0 :: S) h := pX_stp d1128_27 rfl rfl rfl
theorem x1128_29 {L S : List Value} {h : HP} : pX 1128 29 L S h = pX 1128 31 L (.int 24 :: S) h := pX_bipush d1128_29 (by decide)
theorem x1128_31 {S : List Value} {h : HP} {l0 l1 l2 l4 : Value} {x0 : Int32} : pX 1128 31 [l0, l1, l2, .int x0, l4] S h = pX 1128 32 [l0, l1, l2, .int x0, l4] (.int x0 :: S) h := pX_stp d1128_31 rfl rfl rfl
theorem x1128_32 {L S : List Value} {h : HP} {x y : Int32} : pX 1128 32 L (.int y :: .int x :: S) h = pX 1128 33 L (.int (x * y) :: S) h := pX_stp d1128_32 rfl rfl rfl
theorem x1128_33 {L S : List Value} {h : HP} : pX 1128 33 L S h = pX 1128 34 L (.int 4 :: S) h := pX_iconst d1128_33 (by decide)
theorem x1128_34 {S : List Value} {h : HP} {l1 l2 l3 l4 : Value} {a0 : Nat} : pX 1128 34 [.ref a0, l1, l2, l3, l4] S h = pX 1128 35 [.ref a0, l1, l2, l3, l4] (.ref a0 :: S) h := pX_stp d1128_34 rfl rfl rfl
theorem x1128_35 {L S : List Value} {h : HP} {a : Nat} (hk : hp_k h a = 12) : pX 1128 35 L (.ref a :: S) h = pX 1128 38 L (.ref (hp_a h a 4) :: S) h := pX_get d1128_35 rfl rfl hk
theorem x1128_38 {S : List Value} {h : HP} {l0 l1 l2 l4 : Value} {x0 : Int32} : pX 1128 38 [l0, l1, l2, .int x0, l4] S h = pX 1128 39 [l0, l1, l2, .int x0, l4] (.int x0 :: S) h := pX_stp d1128_38 rfl rfl rfl
theorem x1128_39 {L S : List Value} {h : HP} {a : Nat} {j : Int32} (hk : hp_k h a = 100) (hj : inb j (hp_l h a) = true) : pX 1128 39 L (.int j :: .ref a :: S) h = pX 1128 40 L (.int (hp_i h a (ix j)) :: S) h := pX_ild d1128_39 hk hj
theorem x1128_40 {L S : List Value} {h : HP} {x y : Int32} : pX 1128 40 L (.int y :: .int x :: S) h = pX 1128 41 L (.int (x * y) :: S) h := pX_stp d1128_40 rfl rfl rfl
theorem x1128_41 {L S : List Value} {h : HP} {x y : Int32} : pX 1128 41 L (.int y :: .int x :: S) h = pX 1128 42 L (.int (x + y) :: S) h := pX_stp d1128_41 rfl rfl rfl
theorem x1128_42 {L S : List Value} {h : HP} {x y : Int32} : pX 1128 42 L (.int y :: .int x :: S) h = if y ≤ x then pX 1128 199 L S h else pX 1128 45 L S h := pX_icmp_ge d1128_42 (by decide)
theorem x1128_45 {S : List Value} {h : HP} {l1 l2 l3 l4 : Value} {a0 : Nat} : pX 1128 45 [.ref a0, l1, l2, l3, l4] S h = pX 1128 46 [.ref a0, l1, l2, l3, l4] (.ref a0 :: S) h := pX_stp d1128_45 rfl rfl rfl
theorem x1128_46 {L S : List Value} {h : HP} {a : Nat} (hk : hp_k h a = 12) : pX 1128 46 L (.ref a :: S) h = pX 1128 49 L (.ref (hp_a h a 5) :: S) h := pX_get d1128_46 rfl rfl hk
theorem x1128_49 {S : List Value} {h : HP} {l0 l1 l2 l3 : Value} {x0 : Int32} : pX 1128 49 [l0, l1, l2, l3, .int x0] S h = pX 1128 51 [l0, l1, l2, l3, .int x0] (.int x0 :: S) h := pX_stp d1128_49 rfl rfl rfl
theorem x1128_51 {L S : List Value} {h : HP} {a : Nat} {j : Int32} (hk : hp_k h a = 100) (hj : inb j (hp_l h a) = true) : pX 1128 51 L (.int j :: .ref a :: S) h = pX 1128 52 L (.int (hp_i h a (ix j)) :: S) h := pX_ild d1128_51 hk hj
theorem x1128_52 {S : List Value} {h : HP} {l1 l2 l3 l4 : Value} {a0 : Nat} : pX 1128 52 [.ref a0, l1, l2, l3, l4] S h = pX 1128 53 [.ref a0, l1, l2, l3, l4] (.ref a0 :: S) h := pX_stp d1128_52 rfl rfl rfl
theorem x1128_53 {L S : List Value} {h : HP} {a : Nat} (hk : hp_k h a = 12) : pX 1128 53 L (.ref a :: S) h = pX 1128 56 L (.ref (hp_a h a 31) :: S) h := pX_get d1128_53 rfl rfl hk
theorem x1128_56 {S : List Value} {h : HP} {l0 l1 l3 l4 : Value} {x0 : Int32} : pX 1128 56 [l0, l1, .int x0, l3, l4] S h = pX 1128 57 [l0, l1, .int x0, l3, l4] (.int x0 :: S) h := pX_stp d1128_56 rfl rfl rfl
theorem x1128_57 {L S : List Value} {h : HP} {a : Nat} {j : Int32} (hk : hp_k h a = 100) (hj : inb j (hp_l h a) = true) : pX 1128 57 L (.int j :: .ref a :: S) h = pX 1128 58 L (.int (hp_i h a (ix j)) :: S) h := pX_ild d1128_57 hk hj
theorem x1128_58 {L S : List Value} {h : HP} {x y : Int32} : pX 1128 58 L (.int y :: .int x :: S) h = if y < x then pX 1128 193 L S h else pX 1128 61 L S h := pX_icmp_gt d1128_58 (by decide)
theorem x1128_61 {S : List Value} {h : HP} {l1 l2 l3 l4 : Value} {a0 : Nat} : pX 1128 61 [.ref a0, l1, l2, l3, l4] S h = pX 1128 62 [.ref a0, l1, l2, l3, l4] (.ref a0 :: S) h := pX_stp d1128_61 rfl rfl rfl
theorem x1128_62 {L S : List Value} {h : HP} {a : Nat} (hk : hp_k h a = 12) : pX 1128 62 L (.ref a :: S) h = pX 1128 65 L (.ref (hp_a h a 31) :: S) h := pX_get d1128_62 rfl rfl hk
theorem x1128_65 {S : List Value} {h : HP} {l0 l1 l3 l4 : Value} {x0 : Int32} : pX 1128 65 [l0, l1, .int x0, l3, l4] S h = pX 1128 66 [l0, l1, .int x0, l3, l4] (.int x0 :: S) h := pX_stp d1128_65 rfl rfl rfl
theorem x1128_66 {L S : List Value} {h : HP} {a : Nat} {j : Int32} (hk : hp_k h a = 100) (hj : inb j (hp_l h a) = true) : pX 1128 66 L (.int j :: .ref a :: S) h = pX 1128 67 L (.int (hp_i h a (ix j)) :: S) h := pX_ild d1128_66 hk hj
theorem x1128_67 {S : List Value} {h : HP} {l1 l2 l3 l4 : Value} {a0 : Nat} : pX 1128 67 [.ref a0, l1, l2, l3, l4] S h = pX 1128 68 [.ref a0, l1, l2, l3, l4] (.ref a0 :: S) h := pX_stp d1128_67 rfl rfl rfl
theorem x1128_68 {L S : List Value} {h : HP} {a : Nat} (hk : hp_k h a = 12) : pX 1128 68 L (.ref a :: S) h = pX 1128 71 L (.ref (hp_a h a 5) :: S) h := pX_get d1128_68 rfl rfl hk
theorem x1128_71 {S : List Value} {h : HP} {l0 l1 l2 l3 : Value} {x0 : Int32} : pX 1128 71 [l0, l1, l2, l3, .int x0] S h = pX 1128 73 [l0, l1, l2, l3, .int x0] (.int x0 :: S) h := pX_stp d1128_71 rfl rfl rfl
theorem x1128_73 {L S : List Value} {h : HP} : pX 1128 73 L S h = pX 1128 74 L (.int 1 :: S) h := pX_iconst d1128_73 (by decide)
theorem x1128_74 {L S : List Value} {h : HP} {x y : Int32} : pX 1128 74 L (.int y :: .int x :: S) h = pX 1128 75 L (.int (x + y) :: S) h := pX_stp d1128_74 rfl rfl rfl
theorem x1128_75 {L S : List Value} {h : HP} {a : Nat} {j : Int32} (hk : hp_k h a = 100) (hj : inb j (hp_l h a) = true) : pX 1128 75 L (.int j :: .ref a :: S) h = pX 1128 76 L (.int (hp_i h a (ix j)) :: S) h := pX_ild d1128_75 hk hj
theorem x1128_76 {L S : List Value} {h : HP} {x y : Int32} : pX 1128 76 L (.int y :: .int x :: S) h = if y ≤ x then pX 1128 193 L S h else pX 1128 79 L S h := pX_icmp_ge d1128_76 (by decide)
theorem x1128_79 {S : List Value} {h : HP} {l1 l2 l3 l4 : Value} {a0 : Nat} : pX 1128 79 [.ref a0, l1, l2, l3, l4] S h = pX 1128 80 [.ref a0, l1, l2, l3, l4] (.ref a0 :: S) h := pX_stp d1128_79 rfl rfl rfl
theorem x1128_80 {L S : List Value} {h : HP} {a : Nat} (hk : hp_k h a = 12) : pX 1128 80 L (.ref a :: S) h = pX 1128 83 L (.ref (hp_a h a 5) :: S) h := pX_get d1128_80 rfl rfl hk
theorem x1128_83 {S : List Value} {h : HP} {l0 l1 l2 l3 : Value} {x0 : Int32} : pX 1128 83 [l0, l1, l2, l3, .int x0] S h = pX 1128 85 [l0, l1, l2, l3, .int x0] (.int x0 :: S) h := pX_stp d1128_83 rfl rfl rfl
theorem x1128_85 {L S : List Value} {h : HP} : pX 1128 85 L S h = pX 1128 86 L (.int 2 :: S) h := pX_iconst d1128_85 (by decide)
theorem x1128_86 {L S : List Value} {h : HP} {x y : Int32} : pX 1128 86 L (.int y :: .int x :: S) h = pX 1128 87 L (.int (x + y) :: S) h := pX_stp d1128_86 rfl rfl rfl
theorem x1128_87 {L S : List Value} {h : HP} {a : Nat} {j : Int32} (hk : hp_k h a = 100) (hj : inb j (hp_l h a) = true) : pX 1128 87 L (.int j :: .ref a :: S) h = pX 1128 88 L (.int (hp_i h a (ix j)) :: S) h := pX_ild d1128_87 hk hj
theorem x1128_88 {L S : List Value} {h : HP} {x : Int32} : pX 1128 88 L (.int x :: S) h = if x = 0 then pX 1128 104 L S h else pX 1128 91 L S h := pX_if_eq d1128_88 (by decide)
theorem x1128_91 {S : List Value} {h : HP} {l1 l2 l3 l4 : Value} {a0 : Nat} : pX 1128 91 [.ref a0, l1, l2, l3, l4] S h = pX 1128 92 [.ref a0, l1, l2, l3, l4] (.ref a0 :: S) h := pX_stp d1128_91 rfl rfl rfl
theorem x1128_92 {L S : List Value} {h : HP} {a : Nat} (hk : hp_k h a = 12) : pX 1128 92 L (.ref a :: S) h = pX 1128 95 L (.ref (hp_a h a 5) :: S) h := pX_get d1128_92 rfl rfl hk
theorem x1128_95 {S : List Value} {h : HP} {l0 l1 l2 l3 : Value} {x0 : Int32} : pX 1128 95 [l0, l1, l2, l3, .int x0] S h = pX 1128 97 [l0, l1, l2, l3, .int x0] (.int x0 :: S) h := pX_stp d1128_95 rfl rfl rfl
theorem x1128_97 {L S : List Value} {h : HP} : pX 1128 97 L S h = pX 1128 98 L (.int 2 :: S) h := pX_iconst d1128_97 (by decide)
theorem x1128_98 {L S : List Value} {h : HP} {x y : Int32} : pX 1128 98 L (.int y :: .int x :: S) h = pX 1128 99 L (.int (x + y) :: S) h := pX_stp d1128_98 rfl rfl rfl
theorem x1128_99 {L S : List Value} {h : HP} {a : Nat} {j : Int32} (hk : hp_k h a = 100) (hj : inb j (hp_l h a) = true) : pX 1128 99 L (.int j :: .ref a :: S) h = pX 1128 100 L (.int (hp_i h a (ix j)) :: S) h := pX_ild d1128_99 hk hj
theorem x1128_100 {S : List Value} {h : HP} {l0 l2 l3 l4 : Value} {x0 : Int32} : pX 1128 100 [l0, .int x0, l2, l3, l4] S h = pX 1128 101 [l0, .int x0, l2, l3, l4] (.int x0 :: S) h := pX_stp d1128_100 rfl rfl rfl
theorem x1128_101 {L S : List Value} {h : HP} {x y : Int32} : pX 1128 101 L (.int y :: .int x :: S) h = if x = y then pX 1128 104 L S h else pX 1128 193 L S h := pX_icmp_ne d1128_101 (by decide)
theorem x1128_104 {S : List Value} {h : HP} {l1 l2 l3 l4 : Value} {a0 : Nat} : pX 1128 104 [.ref a0, l1, l2, l3, l4] S h = pX 1128 105 [.ref a0, l1, l2, l3, l4] (.ref a0 :: S) h := pX_stp d1128_104 rfl rfl rfl
theorem x1128_105 {S : List Value} {h : HP} {l1 l2 l3 l4 : Value} {a0 : Nat} : pX 1128 105 [.ref a0, l1, l2, l3, l4] S h = pX 1128 106 [.ref a0, l1, l2, l3, l4] (.ref a0 :: S) h := pX_stp d1128_105 rfl rfl rfl
theorem x1128_106 {L S : List Value} {h : HP} {a : Nat} (hk : hp_k h a = 12) : pX 1128 106 L (.ref a :: S) h = pX 1128 109 L (.ref (hp_a h a 7) :: S) h := pX_get d1128_106 rfl rfl hk
theorem x1128_109 {L S : List Value} {h : HP} : pX 1128 109 L S h = pX 1128 110 L (.int 2 :: S) h := pX_iconst d1128_109 (by decide)
theorem x1128_110 {L S : List Value} {h : HP} {a : Nat} {j : Int32} (hk : hp_k h a = 100) (hj : inb j (hp_l h a) = true) : pX 1128 110 L (.int j :: .ref a :: S) h = pX 1128 111 L (.int (hp_i h a (ix j)) :: S) h := pX_ild d1128_110 hk hj
theorem x1128_111 {L S : List Value} {h : HP} {x : Int32} : pX 1128 111 L (.int x :: S) h = pX 1128 112 L (.long x.toInt64 :: S) h := pX_stp d1128_111 rfl rfl rfl
theorem x1128_112 {L : List Value} {h : HP} {z0 : Int64} {a0 : Nat} (hk : hp_k h a0 = 12) : pX 1128 112 L [.long z0, .ref a0] h = (pX 1122 0 [.ref a0, .long z0, .retAddr 0] [] h).bind (fun q => pX 1128 115 L (q.1.toList ++ []) q.2) := pX_inv (a := a0) (t := 12) 1122 [.ref a0, .long z0] [] d1128_112 rfl rfl rfl hk
theorem x1128_115 {L S : List Value} {h : HP} {x : Int32} : pX 1128 115 L (.int x :: S) h = if x = 0 then pX 1128 118 L S h else pX 1128 123 L S h := pX_if_ne d1128_115 (by decide)
theorem x1128_118 {S : List Value} {h : HP} {l1 l2 l3 l4 : Value} {a0 : Nat} : pX 1128 118 [.ref a0, l1, l2, l3, l4] S h = pX 1128 119 [.ref a0, l1, l2, l3, l4] (.ref a0 :: S) h := pX_stp d1128_118 rfl rfl rfl
theorem x1128_119 {L : List Value} {h : HP} {a0 : Nat} (hk : hp_k h a0 = 12) : pX 1128 119 L [.ref a0] h = (pX 1126 0 [.ref a0, .retAddr 0] [] h).bind (fun q => pX 1128 122 L (q.1.toList ++ []) q.2) := pX_inv (a := a0) (t := 12) 1126 [.ref a0] [] d1128_119 rfl rfl rfl hk
theorem x1128_122 {L : List Value} {h : HP} : pX 1128 122 L [] h = some (none, h) := pX_ret d1128_122 rfl
theorem x1128_123 {S : List Value} {h : HP} {l1 l2 l3 l4 : Value} {a0 : Nat} : pX 1128 123 [.ref a0, l1, l2, l3, l4] S h = pX 1128 124 [.ref a0, l1, l2, l3, l4] (.ref a0 :: S) h := pX_stp d1128_123 rfl rfl rfl
theorem x1128_124 {L S : List Value} {h : HP} {a : Nat} (hk : hp_k h a = 12) : pX 1128 124 L (.ref a :: S) h = pX 1128 127 L (.ref (hp_a h a 39) :: S) h := pX_get d1128_124 rfl rfl hk
theorem x1128_127 {L S : List Value} {h : HP} : pX 1128 127 L S h = pX 1128 128 L (.int 3 :: S) h := pX_iconst d1128_127 (by decide)
theorem x1128_128 {L S : List Value} {h : HP} {x0 : Int32} {a0 : Nat} : pX 1128 128 L (.int x0 :: .ref a0 :: S) h = pX 1128 129 L (.int x0 :: .ref a0 :: .int x0 :: .ref a0 :: S) h := pX_stp d1128_128 rfl rfl rfl
theorem x1128_129 {L S : List Value} {h : HP} {a : Nat} {j : Int32} (hk : hp_k h a = 100) (hj : inb j (hp_l h a) = true) : pX 1128 129 L (.int j :: .ref a :: S) h = pX 1128 130 L (.int (hp_i h a (ix j)) :: S) h := pX_ild d1128_129 hk hj
theorem x1128_130 {L S : List Value} {h : HP} : pX 1128 130 L S h = pX 1128 131 L (.int 1 :: S) h := pX_iconst d1128_130 (by decide)
theorem x1128_131 {L S : List Value} {h : HP} {x y : Int32} : pX 1128 131 L (.int y :: .int x :: S) h = pX 1128 132 L (.int (x + y) :: S) h := pX_stp d1128_131 rfl rfl rfl
theorem x1128_132 {L S : List Value} {h : HP} {a : Nat} {j x : Int32} (hk : hp_k h a = 100) (hj : inb j (hp_l h a) = true) : pX 1128 132 L (.int x :: .int j :: .ref a :: S) h = pX 1128 133 L S (hp_wi h a (ix j) x) := pX_ist d1128_132 hk hj
theorem x1128_133 {S : List Value} {h : HP} {l1 l2 l3 l4 : Value} {a0 : Nat} : pX 1128 133 [.ref a0, l1, l2, l3, l4] S h = pX 1128 134 [.ref a0, l1, l2, l3, l4] (.ref a0 :: S) h := pX_stp d1128_133 rfl rfl rfl
theorem x1128_134 {S : List Value} {h : HP} {l0 l2 l3 l4 : Value} {x0 : Int32} : pX 1128 134 [l0, .int x0, l2, l3, l4] S h = pX 1128 135 [l0, .int x0, l2, l3, l4] (.int x0 :: S) h := pX_stp d1128_134 rfl rfl rfl
theorem x1128_135 {L : List Value} {h : HP} {x0 : Int32} {a0 : Nat} (hk : hp_k h a0 = 12) : pX 1128 135 L [.int x0, .ref a0] h = (pX 1123 0 [.ref a0, .int x0] [] h).bind (fun q => pX 1128 138 L (q.1.toList ++ []) q.2) := pX_inv (a := a0) (t := 12) 1123 [.ref a0, .int x0] [] d1128_135 rfl rfl rfl hk
theorem x1128_138 {S : List Value} {h : HP} {l1 l2 l3 l4 : Value} {a0 : Nat} : pX 1128 138 [.ref a0, l1, l2, l3, l4] S h = pX 1128 139 [.ref a0, l1, l2, l3, l4] (.ref a0 :: S) h := pX_stp d1128_138 rfl rfl rfl
theorem x1128_139 {L S : List Value} {h : HP} {a : Nat} (hk : hp_k h a = 12) : pX 1128 139 L (.ref a :: S) h = pX 1128 142 L (.ref (hp_a h a 33) :: S) h := pX_get d1128_139 rfl rfl hk
theorem x1128_142 {L S : List Value} {h : HP} : pX 1128 142 L S h = pX 1128 144 L (.int 8 :: S) h := pX_bipush d1128_142 (by decide)
theorem x1128_144 {S : List Value} {h : HP} {l0 l1 l3 l4 : Value} {x0 : Int32} : pX 1128 144 [l0, l1, .int x0, l3, l4] S h = pX 1128 145 [l0, l1, .int x0, l3, l4] (.int x0 :: S) h := pX_stp d1128_144 rfl rfl rfl
theorem x1128_145 {L S : List Value} {h : HP} {x y : Int32} : pX 1128 145 L (.int y :: .int x :: S) h = pX 1128 146 L (.int (x * y) :: S) h := pX_stp d1128_145 rfl rfl rfl
theorem x1128_146 {L S : List Value} {h : HP} : pX 1128 146 L S h = pX 1128 148 L (.int 7 :: S) h := pX_bipush d1128_146 (by decide)
theorem x1128_148 {L S : List Value} {h : HP} {x y : Int32} : pX 1128 148 L (.int y :: .int x :: S) h = pX 1128 149 L (.int (x + y) :: S) h := pX_stp d1128_148 rfl rfl rfl
theorem x1128_149 {L S : List Value} {h : HP} : pX 1128 149 L S h = pX 1128 150 L (.int 1 :: S) h := pX_iconst d1128_149 (by decide)
theorem x1128_150 {L S : List Value} {h : HP} {a : Nat} {j x : Int32} (hk : hp_k h a = 100) (hj : inb j (hp_l h a) = true) : pX 1128 150 L (.int x :: .int j :: .ref a :: S) h = pX 1128 151 L S (hp_wi h a (ix j) x) := pX_ist d1128_150 hk hj
theorem x1128_151 {S : List Value} {h : HP} {l1 l2 l3 l4 : Value} {a0 : Nat} : pX 1128 151 [.ref a0, l1, l2, l3, l4] S h = pX 1128 152 [.ref a0, l1, l2, l3, l4] (.ref a0 :: S) h := pX_stp d1128_151 rfl rfl rfl
theorem x1128_152 {L S : List Value} {h : HP} {a : Nat} (hk : hp_k h a = 12) : pX 1128 152 L (.ref a :: S) h = pX 1128 155 L (.ref (hp_a h a 34) :: S) h := pX_get d1128_152 rfl rfl hk
theorem x1128_155 {L S : List Value} {h : HP} : pX 1128 155 L S h = pX 1128 157 L (.int 8 :: S) h := pX_bipush d1128_155 (by decide)
theorem x1128_157 {S : List Value} {h : HP} {l0 l1 l3 l4 : Value} {x0 : Int32} : pX 1128 157 [l0, l1, .int x0, l3, l4] S h = pX 1128 158 [l0, l1, .int x0, l3, l4] (.int x0 :: S) h := pX_stp d1128_157 rfl rfl rfl
theorem x1128_158 {L S : List Value} {h : HP} {x y : Int32} : pX 1128 158 L (.int y :: .int x :: S) h = pX 1128 159 L (.int (x * y) :: S) h := pX_stp d1128_158 rfl rfl rfl
theorem x1128_159 {L S : List Value} {h : HP} : pX 1128 159 L S h = pX 1128 161 L (.int 7 :: S) h := pX_bipush d1128_159 (by decide)
theorem x1128_161 {L S : List Value} {h : HP} {x y : Int32} : pX 1128 161 L (.int y :: .int x :: S) h = pX 1128 162 L (.int (x + y) :: S) h := pX_stp d1128_161 rfl rfl rfl
theorem x1128_162 {S : List Value} {h : HP} {l0 l2 l3 l4 : Value} {x0 : Int32} : pX 1128 162 [l0, .int x0, l2, l3, l4] S h = pX 1128 163 [l0, .int x0, l2, l3, l4] (.int x0 :: S) h := pX_stp d1128_162 rfl rfl rfl
theorem x1128_163 {L S : List Value} {h : HP} : pX 1128 163 L S h = pX 1128 165 L (.int 9 :: S) h := pX_bipush d1128_163 (by decide)
theorem x1128_165 {L S : List Value} {h : HP} {x y : Int32} : pX 1128 165 L (.int y :: .int x :: S) h = if x = y then pX 1128 168 L S h else pX 1128 175 L S h := pX_icmp_ne d1128_165 (by decide)
theorem x1128_168 {S : List Value} {h : HP} {l1 l2 l3 l4 : Value} {a0 : Nat} : pX 1128 168 [.ref a0, l1, l2, l3, l4] S h = pX 1128 169 [.ref a0, l1, l2, l3, l4] (.ref a0 :: S) h := pX_stp d1128_168 rfl rfl rfl
theorem x1128_169 {L S : List Value} {h : HP} {a : Nat} (hk : hp_k h a = 12) : pX 1128 169 L (.ref a :: S) h = pX 1128 172 L (.int (hp_i h a 42) :: S) h := pX_get d1128_169 rfl rfl hk
theorem x1128_172 {L S : List Value} {h : HP} : pX 1128 172 L S h = pX 1128 176 L S h := pX_goto d1128_172 (by decide)
theorem x1128_175 {S : List Value} {h : HP} {l0 l2 l3 l4 : Value} {x0 : Int32} : pX 1128 175 [l0, .int x0, l2, l3, l4] S h = pX 1128 176 [l0, .int x0, l2, l3, l4] (.int x0 :: S) h := pX_stp d1128_175 rfl rfl rfl
theorem x1128_176 {L S : List Value} {h : HP} {a : Nat} {j x : Int32} (hk : hp_k h a = 100) (hj : inb j (hp_l h a) = true) : pX 1128 176 L (.int x :: .int j :: .ref a :: S) h = pX 1128 177 L S (hp_wi h a (ix j) x) := pX_ist d1128_176 hk hj
theorem x1128_177 {S : List Value} {h : HP} {l1 l2 l3 l4 : Value} {a0 : Nat} : pX 1128 177 [.ref a0, l1, l2, l3, l4] S h = pX 1128 178 [.ref a0, l1, l2, l3, l4] (.ref a0 :: S) h := pX_stp d1128_177 rfl rfl rfl
theorem x1128_178 {L S : List Value} {h : HP} {a : Nat} (hk : hp_k h a = 12) : pX 1128 178 L (.ref a :: S) h = pX 1128 181 L (.ref (hp_a h a 31) :: S) h := pX_get d1128_178 rfl rfl hk
theorem x1128_181 {S : List Value} {h : HP} {l0 l1 l3 l4 : Value} {x0 : Int32} : pX 1128 181 [l0, l1, .int x0, l3, l4] S h = pX 1128 182 [l0, l1, .int x0, l3, l4] (.int x0 :: S) h := pX_stp d1128_181 rfl rfl rfl
theorem x1128_182 {S : List Value} {h : HP} {l1 l2 l3 l4 : Value} {a0 : Nat} : pX 1128 182 [.ref a0, l1, l2, l3, l4] S h = pX 1128 183 [.ref a0, l1, l2, l3, l4] (.ref a0 :: S) h := pX_stp d1128_182 rfl rfl rfl
theorem x1128_183 {L S : List Value} {h : HP} {a : Nat} (hk : hp_k h a = 12) : pX 1128 183 L (.ref a :: S) h = pX 1128 186 L (.ref (hp_a h a 5) :: S) h := pX_get d1128_183 rfl rfl hk
theorem x1128_186 {S : List Value} {h : HP} {l0 l1 l2 l3 : Value} {x0 : Int32} : pX 1128 186 [l0, l1, l2, l3, .int x0] S h = pX 1128 188 [l0, l1, l2, l3, .int x0] (.int x0 :: S) h := pX_stp d1128_186 rfl rfl rfl
theorem x1128_188 {L S : List Value} {h : HP} : pX 1128 188 L S h = pX 1128 189 L (.int 3 :: S) h := pX_iconst d1128_188 (by decide)
theorem x1128_189 {L S : List Value} {h : HP} {x y : Int32} : pX 1128 189 L (.int y :: .int x :: S) h = pX 1128 190 L (.int (x + y) :: S) h := pX_stp d1128_189 rfl rfl rfl
theorem x1128_190 {L S : List Value} {h : HP} {a : Nat} {j : Int32} (hk : hp_k h a = 100) (hj : inb j (hp_l h a) = true) : pX 1128 190 L (.int j :: .ref a :: S) h = pX 1128 191 L (.int (hp_i h a (ix j)) :: S) h := pX_ild d1128_190 hk hj
theorem x1128_191 {L S : List Value} {h : HP} {a : Nat} {j x : Int32} (hk : hp_k h a = 100) (hj : inb j (hp_l h a) = true) : pX 1128 191 L (.int x :: .int j :: .ref a :: S) h = pX 1128 192 L S (hp_wi h a (ix j) x) := pX_ist d1128_191 hk hj
theorem x1128_192 {L : List Value} {h : HP} : pX 1128 192 L [] h = some (none, h) := pX_ret d1128_192 rfl
theorem x1128_193 {S : List Value} {h : HP} {x0 : Int32} {l0 l1 l2 l3 : Value} : pX 1128 193 [l0, l1, l2, l3, .int x0] S h = pX 1128 196 [l0, l1, l2, l3, .int (x0 + 4)] S h := pX_iinc (x := x0) d1128_193 (by decide) rfl (Nat.le_of_ble_eq_true rfl) rfl rfl
theorem x1128_196 {L S : List Value} {h : HP} : pX 1128 196 L S h = pX 1128 27 L S h := pX_goto d1128_196 (by decide)
theorem x1128_199 {S : List Value} {h : HP} {l1 l2 l3 l4 : Value} {a0 : Nat} : pX 1128 199 [.ref a0, l1, l2, l3, l4] S h = pX 1128 200 [.ref a0, l1, l2, l3, l4] (.ref a0 :: S) h := pX_stp d1128_199 rfl rfl rfl
theorem x1128_200 {L S : List Value} {h : HP} {a0 : Nat} : pX 1128 200 L (.ref a0 :: S) h = pX 1128 201 L (.ref a0 :: .ref a0 :: S) h := pX_stp d1128_200 rfl rfl rfl
theorem x1128_201 {L S : List Value} {h : HP} {a : Nat} (hk : hp_k h a = 12) : pX 1128 201 L (.ref a :: S) h = pX 1128 204 L (.int (hp_i h a 29) :: S) h := pX_get d1128_201 rfl rfl hk
theorem x1128_204 {L S : List Value} {h : HP} : pX 1128 204 L S h = pX 1128 205 L (.int 1 :: S) h := pX_iconst d1128_204 (by decide)
theorem x1128_205 {L S : List Value} {h : HP} {x y : Int32} : pX 1128 205 L (.int y :: .int x :: S) h = pX 1128 206 L (.int (x - y) :: S) h := pX_stp d1128_205 rfl rfl rfl
theorem x1128_206 {L S : List Value} {h : HP} {a : Nat} {x : Int32} (hk : hp_k h a = 12) : pX 1128 206 L (.int x :: .ref a :: S) h = pX 1128 209 L S (hp_wi h a 29 x) := pX_put d1128_206 rfl rfl rfl hk
theorem x1128_209 {S : List Value} {h : HP} {l1 l2 l3 l4 : Value} {a0 : Nat} : pX 1128 209 [.ref a0, l1, l2, l3, l4] S h = pX 1128 210 [.ref a0, l1, l2, l3, l4] (.ref a0 :: S) h := pX_stp d1128_209 rfl rfl rfl
theorem x1128_210 {S : List Value} {h : HP} {l0 l1 l3 l4 : Value} {x0 : Int32} : pX 1128 210 [l0, l1, .int x0, l3, l4] S h = pX 1128 211 [l0, l1, .int x0, l3, l4] (.int x0 :: S) h := pX_stp d1128_210 rfl rfl rfl
theorem x1128_211 {L : List Value} {h : HP} {x0 : Int32} {a0 : Nat} (hk : hp_k h a0 = 12) : pX 1128 211 L [.int x0, .ref a0] h = (pX 1124 0 [.ref a0, .int x0, .retAddr 0] [] h).bind (fun q => pX 1128 214 L (q.1.toList ++ []) q.2) := pX_inv (a := a0) (t := 12) 1124 [.ref a0, .int x0] [] d1128_211 rfl rfl rfl hk
theorem x1128_214 {L S : List Value} {h : HP} : pX 1128 214 L S h = pX 1128 0 L S h := pX_goto d1128_214 (by decide)
theorem x1128_217 {S : List Value} {h : HP} {l1 l2 l3 l4 : Value} {a0 : Nat} : pX 1128 217 [.ref a0, l1, l2, l3, l4] S h = pX 1128 218 [.ref a0, l1, l2, l3, l4] (.ref a0 :: S) h := pX_stp d1128_217 rfl rfl rfl
theorem x1128_218 {L S : List Value} {h : HP} : pX 1128 218 L S h = pX 1128 219 L (.int 0 :: S) h := pX_iconst d1128_218 (by decide)
theorem x1128_219 {L S : List Value} {h : HP} {a : Nat} {x : Int32} (hk : hp_k h a = 12) : pX 1128 219 L (.int x :: .ref a :: S) h = pX 1128 222 L S (hp_wi h a 15 x) := pX_put d1128_219 rfl rfl rfl hk
theorem x1128_222 {S : List Value} {h : HP} {l1 l2 l3 l4 : Value} {a0 : Nat} : pX 1128 222 [.ref a0, l1, l2, l3, l4] S h = pX 1128 223 [.ref a0, l1, l2, l3, l4] (.ref a0 :: S) h := pX_stp d1128_222 rfl rfl rfl
theorem x1128_223 {L S : List Value} {h : HP} : pX 1128 223 L S h = pX 1128 224 L (.int 0 :: S) h := pX_iconst d1128_223 (by decide)
theorem x1128_224 {L S : List Value} {h : HP} {a : Nat} {x : Int32} (hk : hp_k h a = 12) : pX 1128 224 L (.int x :: .ref a :: S) h = pX 1128 227 L S (hp_wi h a 16 x) := pX_put d1128_224 rfl rfl rfl hk
theorem x1128_227 {S : List Value} {h : HP} {l1 l2 l3 l4 : Value} {a0 : Nat} : pX 1128 227 [.ref a0, l1, l2, l3, l4] S h = pX 1128 228 [.ref a0, l1, l2, l3, l4] (.ref a0 :: S) h := pX_stp d1128_227 rfl rfl rfl
theorem x1128_228 {L S : List Value} {h : HP} {a : Nat} (hk : hp_k h a = 12) : pX 1128 228 L (.ref a :: S) h = pX 1128 231 L (.ref (hp_a h a 43) :: S) h := pX_get d1128_228 rfl rfl hk
theorem x1128_231 {L S : List Value} {h : HP} : pX 1128 231 L S h = pX 1128 232 L (.int 3 :: S) h := pX_iconst d1128_231 (by decide)
theorem x1128_232 {L S : List Value} {h : HP} {x0 : Int32} {a0 : Nat} : pX 1128 232 L (.int x0 :: .ref a0 :: S) h = pX 1128 233 L (.int x0 :: .ref a0 :: .int x0 :: .ref a0 :: S) h := pX_stp d1128_232 rfl rfl rfl
theorem x1128_233 {L S : List Value} {h : HP} {a : Nat} {j : Int32} (hk : hp_k h a = 100) (hj : inb j (hp_l h a) = true) : pX 1128 233 L (.int j :: .ref a :: S) h = pX 1128 234 L (.int (hp_i h a (ix j)) :: S) h := pX_ild d1128_233 hk hj
theorem x1128_234 {L S : List Value} {h : HP} : pX 1128 234 L S h = pX 1128 235 L (.int 1 :: S) h := pX_iconst d1128_234 (by decide)
theorem x1128_235 {L S : List Value} {h : HP} {x y : Int32} : pX 1128 235 L (.int y :: .int x :: S) h = pX 1128 236 L (.int (x + y) :: S) h := pX_stp d1128_235 rfl rfl rfl
theorem x1128_236 {L S : List Value} {h : HP} {a : Nat} {j x : Int32} (hk : hp_k h a = 100) (hj : inb j (hp_l h a) = true) : pX 1128 236 L (.int x :: .int j :: .ref a :: S) h = pX 1128 237 L S (hp_wi h a (ix j) x) := pX_ist d1128_236 hk hj
theorem x1128_237 {S : List Value} {h : HP} {l1 l2 l3 l4 : Value} {a0 : Nat} : pX 1128 237 [.ref a0, l1, l2, l3, l4] S h = pX 1128 238 [.ref a0, l1, l2, l3, l4] (.ref a0 :: S) h := pX_stp d1128_237 rfl rfl rfl
theorem x1128_238 {L S : List Value} {h : HP} : pX 1128 238 L S h = pX 1128 240 L (.int (-10) :: S) h := pX_bipush d1128_238 (by decide)
theorem x1128_240 {S : List Value} {h : HP} {l0 l2 l3 l4 : Value} {x0 : Int32} : pX 1128 240 [l0, .int x0, l2, l3, l4] S h = pX 1128 241 [l0, .int x0, l2, l3, l4] (.int x0 :: S) h := pX_stp d1128_240 rfl rfl rfl
theorem x1128_241 {L S : List Value} {h : HP} {x y : Int32} : pX 1128 241 L (.int y :: .int x :: S) h = pX 1128 242 L (.int (x - y) :: S) h := pX_stp d1128_241 rfl rfl rfl
theorem x1128_242 {L S : List Value} {h : HP} {a : Nat} {x : Int32} (hk : hp_k h a = 12) : pX 1128 242 L (.int x :: .ref a :: S) h = pX 1128 245 L S (hp_wi h a 44 x) := pX_put d1128_242 rfl rfl rfl hk
theorem x1128_245 {L : List Value} {h : HP} : pX 1128 245 L [] h = some (none, h) := pX_ret d1128_245 rfl
theorem d1129_0 : decode (mb 1129) 0 = .ok (.aload_n 0, 1) := by decide +kernel
theorem d1129_1 : decode (mb 1129) 1 = .ok (.getfield 82, 3) := by decide +kernel
theorem d1129_4 : decode (mb 1129) 4 = .ok (.aload_n 0, 1) := by decide +kernel
theorem d1129_5 : decode (mb 1129) 5 = .ok (.getfield 189, 3) := by decide +kernel
theorem d1129_8 : decode (mb 1129) 8 = .ok (.aload_n 0, 1) := by decide +kernel
theorem d1129_9 : decode (mb 1129) 9 = .ok (.getfield 192, 3) := by decide +kernel
theorem d1129_12 : decode (mb 1129) 12 = .ok (.iadd, 1) := by decide +kernel
theorem d1129_13 : decode (mb 1129) 13 = .ok (.iload_n 1, 1) := by decide +kernel
theorem d1129_14 : decode (mb 1129) 14 = .ok (.iastore, 1) := by decide +kernel
theorem d1129_15 : decode (mb 1129) 15 = .ok (.aload_n 0, 1) := by decide +kernel
theorem d1129_16 : decode (mb 1129) 16 = .ok (.getfield 85, 3) := by decide +kernel
theorem d1129_19 : decode (mb 1129) 19 = .ok (.aload_n 0, 1) := by decide +kernel
theorem d1129_20 : decode (mb 1129) 20 = .ok (.getfield 189, 3) := by decide +kernel
theorem d1129_23 : decode (mb 1129) 23 = .ok (.aload_n 0, 1) := by decide +kernel
theorem d1129_24 : decode (mb 1129) 24 = .ok (.getfield 192, 3) := by decide +kernel
theorem d1129_27 : decode (mb 1129) 27 = .ok (.iadd, 1) := by decide +kernel
theorem d1129_28 : decode (mb 1129) 28 = .ok (.iload_n 2, 1) := by decide +kernel
theorem d1129_29 : decode (mb 1129) 29 = .ok (.iastore, 1) := by decide +kernel
theorem d1129_30 : decode (mb 1129) 30 = .ok (.return_, 1) := by decide +kernel
theorem x1129_0 {S : List Value} {h : HP} {l1 l2 : Value} {a0 : Nat} : pX 1129 0 [.ref a0, l1, l2] S h = pX 1129 1 [.ref a0, l1, l2] (.ref a0 :: S) h := pX_stp d1129_0 rfl rfl rfl
theorem x1129_1 {L S : List Value} {h : HP} {a : Nat} (hk : hp_k h a = 12) : pX 1129 1 L (.ref a :: S) h = pX 1129 4 L (.ref (hp_a h a 33) :: S) h := pX_get d1129_1 rfl rfl hk
theorem x1129_4 {S : List Value} {h : HP} {l1 l2 : Value} {a0 : Nat} : pX 1129 4 [.ref a0, l1, l2] S h = pX 1129 5 [.ref a0, l1, l2] (.ref a0 :: S) h := pX_stp d1129_4 rfl rfl rfl
theorem x1129_5 {L S : List Value} {h : HP} {a : Nat} (hk : hp_k h a = 12) : pX 1129 5 L (.ref a :: S) h = pX 1129 8 L (.int (hp_i h a 45) :: S) h := pX_get d1129_5 rfl rfl hk
theorem x1129_8 {S : List Value} {h : HP} {l1 l2 : Value} {a0 : Nat} : pX 1129 8 [.ref a0, l1, l2] S h = pX 1129 9 [.ref a0, l1, l2] (.ref a0 :: S) h := pX_stp d1129_8 rfl rfl rfl
theorem x1129_9 {L S : List Value} {h : HP} {a : Nat} (hk : hp_k h a = 12) : pX 1129 9 L (.ref a :: S) h = pX 1129 12 L (.int (hp_i h a 46) :: S) h := pX_get d1129_9 rfl rfl hk
theorem x1129_12 {L S : List Value} {h : HP} {x y : Int32} : pX 1129 12 L (.int y :: .int x :: S) h = pX 1129 13 L (.int (x + y) :: S) h := pX_stp d1129_12 rfl rfl rfl
theorem x1129_13 {S : List Value} {h : HP} {l0 l2 : Value} {x0 : Int32} : pX 1129 13 [l0, .int x0, l2] S h = pX 1129 14 [l0, .int x0, l2] (.int x0 :: S) h := pX_stp d1129_13 rfl rfl rfl
theorem x1129_14 {L S : List Value} {h : HP} {a : Nat} {j x : Int32} (hk : hp_k h a = 100) (hj : inb j (hp_l h a) = true) : pX 1129 14 L (.int x :: .int j :: .ref a :: S) h = pX 1129 15 L S (hp_wi h a (ix j) x) := pX_ist d1129_14 hk hj
theorem x1129_15 {S : List Value} {h : HP} {l1 l2 : Value} {a0 : Nat} : pX 1129 15 [.ref a0, l1, l2] S h = pX 1129 16 [.ref a0, l1, l2] (.ref a0 :: S) h := pX_stp d1129_15 rfl rfl rfl
theorem x1129_16 {L S : List Value} {h : HP} {a : Nat} (hk : hp_k h a = 12) : pX 1129 16 L (.ref a :: S) h = pX 1129 19 L (.ref (hp_a h a 34) :: S) h := pX_get d1129_16 rfl rfl hk
theorem x1129_19 {S : List Value} {h : HP} {l1 l2 : Value} {a0 : Nat} : pX 1129 19 [.ref a0, l1, l2] S h = pX 1129 20 [.ref a0, l1, l2] (.ref a0 :: S) h := pX_stp d1129_19 rfl rfl rfl
theorem x1129_20 {L S : List Value} {h : HP} {a : Nat} (hk : hp_k h a = 12) : pX 1129 20 L (.ref a :: S) h = pX 1129 23 L (.int (hp_i h a 45) :: S) h := pX_get d1129_20 rfl rfl hk
theorem x1129_23 {S : List Value} {h : HP} {l1 l2 : Value} {a0 : Nat} : pX 1129 23 [.ref a0, l1, l2] S h = pX 1129 24 [.ref a0, l1, l2] (.ref a0 :: S) h := pX_stp d1129_23 rfl rfl rfl
theorem x1129_24 {L S : List Value} {h : HP} {a : Nat} (hk : hp_k h a = 12) : pX 1129 24 L (.ref a :: S) h = pX 1129 27 L (.int (hp_i h a 46) :: S) h := pX_get d1129_24 rfl rfl hk
theorem x1129_27 {L S : List Value} {h : HP} {x y : Int32} : pX 1129 27 L (.int y :: .int x :: S) h = pX 1129 28 L (.int (x + y) :: S) h := pX_stp d1129_27 rfl rfl rfl
theorem x1129_28 {S : List Value} {h : HP} {l0 l1 : Value} {x0 : Int32} : pX 1129 28 [l0, l1, .int x0] S h = pX 1129 29 [l0, l1, .int x0] (.int x0 :: S) h := pX_stp d1129_28 rfl rfl rfl
theorem x1129_29 {L S : List Value} {h : HP} {a : Nat} {j x : Int32} (hk : hp_k h a = 100) (hj : inb j (hp_l h a) = true) : pX 1129 29 L (.int x :: .int j :: .ref a :: S) h = pX 1129 30 L S (hp_wi h a (ix j) x) := pX_ist d1129_29 hk hj
theorem x1129_30 {L : List Value} {h : HP} : pX 1129 30 L [] h = some (none, h) := pX_ret d1129_30 rfl
theorem d1130_0 : decode (mb 1130) 0 = .ok (.aload_n 0, 1) := by decide +kernel
theorem d1130_1 : decode (mb 1130) 1 = .ok (.getfield 82, 3) := by decide +kernel
theorem d1130_4 : decode (mb 1130) 4 = .ok (.aload_n 0, 1) := by decide +kernel
theorem d1130_5 : decode (mb 1130) 5 = .ok (.getfield 189, 3) := by decide +kernel
theorem d1130_8 : decode (mb 1130) 8 = .ok (.iload_n 1, 1) := by decide +kernel
theorem d1130_9 : decode (mb 1130) 9 = .ok (.iadd, 1) := by decide +kernel
theorem d1130_10 : decode (mb 1130) 10 = .ok (.iaload, 1) := by decide +kernel
theorem d1130_11 : decode (mb 1130) 11 = .ok (.ifCond .ne 7, 3) := by decide +kernel
theorem d1130_14 : decode (mb 1130) 14 = .ok (.iconst 1, 1) := by decide +kernel
theorem d1130_15 : decode (mb 1130) 15 = .ok (.goto 23, 3) := by decide +kernel
theorem d1130_18 : decode (mb 1130) 18 = .ok (.aload_n 0, 1) := by decide +kernel
theorem d1130_19 : decode (mb 1130) 19 = .ok (.getfield 82, 3) := by decide +kernel
theorem d1130_22 : decode (mb 1130) 22 = .ok (.aload_n 0, 1) := by decide +kernel
theorem d1130_23 : decode (mb 1130) 23 = .ok (.getfield 189, 3) := by decide +kernel
theorem d1130_26 : decode (mb 1130) 26 = .ok (.iload_n 1, 1) := by decide +kernel
theorem d1130_27 : decode (mb 1130) 27 = .ok (.iadd, 1) := by decide +kernel
theorem d1130_28 : decode (mb 1130) 28 = .ok (.iaload, 1) := by decide +kernel
theorem d1130_29 : decode (mb 1130) 29 = .ok (.iload_n 2, 1) := by decide +kernel
theorem d1130_30 : decode (mb 1130) 30 = .ok (.if_icmp .eq 7, 3) := by decide +kernel
theorem d1130_33 : decode (mb 1130) 33 = .ok (.iconst 3, 1) := by decide +kernel
theorem d1130_34 : decode (mb 1130) 34 = .ok (.goto 4, 3) := by decide +kernel
theorem d1130_37 : decode (mb 1130) 37 = .ok (.iconst 0, 1) := by decide +kernel
theorem d1130_38 : decode (mb 1130) 38 = .ok (.ireturn, 1) := by decide +kernel
theorem x1130_0 {S : List Value} {h : HP} {l1 l2 : Value} {a0 : Nat} : pX 1130 0 [.ref a0, l1, l2] S h = pX 1130 1 [.ref a0, l1, l2] (.ref a0 :: S) h := pX_stp d1130_0 rfl rfl rfl
theorem x1130_1 {L S : List Value} {h : HP} {a : Nat} (hk : hp_k h a = 12) : pX 1130 1 L (.ref a :: S) h = pX 1130 4 L (.ref (hp_a h a 33) :: S) h := pX_get d1130_1 rfl rfl hk
theorem x1130_4 {S : List Value} {h : HP} {l1 l2 : Value} {a0 : Nat} : pX 1130 4 [.ref a0, l1, l2] S h = pX 1130 5 [.ref a0, l1, l2] (.ref a0 :: S) h := pX_stp d1130_4 rfl rfl rfl
theorem x1130_5 {L S : List Value} {h : HP} {a : Nat} (hk : hp_k h a = 12) : pX 1130 5 L (.ref a :: S) h = pX 1130 8 L (.int (hp_i h a 45) :: S) h := pX_get d1130_5 rfl rfl hk
theorem x1130_8 {S : List Value} {h : HP} {l0 l2 : Value} {x0 : Int32} : pX 1130 8 [l0, .int x0, l2] S h = pX 1130 9 [l0, .int x0, l2] (.int x0 :: S) h := pX_stp d1130_8 rfl rfl rfl
theorem x1130_9 {L S : List Value} {h : HP} {x y : Int32} : pX 1130 9 L (.int y :: .int x :: S) h = pX 1130 10 L (.int (x + y) :: S) h := pX_stp d1130_9 rfl rfl rfl
theorem x1130_10 {L S : List Value} {h : HP} {a : Nat} {j : Int32} (hk : hp_k h a = 100) (hj : inb j (hp_l h a) = true) : pX 1130 10 L (.int j :: .ref a :: S) h = pX 1130 11 L (.int (hp_i h a (ix j)) :: S) h := pX_ild d1130_10 hk hj
theorem x1130_11 {L S : List Value} {h : HP} {x : Int32} : pX 1130 11 L (.int x :: S) h = if x = 0 then pX 1130 14 L S h else pX 1130 18 L S h := pX_if_ne d1130_11 (by decide)
theorem x1130_14 {L S : List Value} {h : HP} : pX 1130 14 L S h = pX 1130 15 L (.int 1 :: S) h := pX_iconst d1130_14 (by decide)
theorem x1130_15 {L S : List Value} {h : HP} : pX 1130 15 L S h = pX 1130 38 L S h := pX_goto d1130_15 (by decide)
theorem x1130_18 {S : List Value} {h : HP} {l1 l2 : Value} {a0 : Nat} : pX 1130 18 [.ref a0, l1, l2] S h = pX 1130 19 [.ref a0, l1, l2] (.ref a0 :: S) h := pX_stp d1130_18 rfl rfl rfl
theorem x1130_19 {L S : List Value} {h : HP} {a : Nat} (hk : hp_k h a = 12) : pX 1130 19 L (.ref a :: S) h = pX 1130 22 L (.ref (hp_a h a 33) :: S) h := pX_get d1130_19 rfl rfl hk
theorem x1130_22 {S : List Value} {h : HP} {l1 l2 : Value} {a0 : Nat} : pX 1130 22 [.ref a0, l1, l2] S h = pX 1130 23 [.ref a0, l1, l2] (.ref a0 :: S) h := pX_stp d1130_22 rfl rfl rfl
theorem x1130_23 {L S : List Value} {h : HP} {a : Nat} (hk : hp_k h a = 12) : pX 1130 23 L (.ref a :: S) h = pX 1130 26 L (.int (hp_i h a 45) :: S) h := pX_get d1130_23 rfl rfl hk
theorem x1130_26 {S : List Value} {h : HP} {l0 l2 : Value} {x0 : Int32} : pX 1130 26 [l0, .int x0, l2] S h = pX 1130 27 [l0, .int x0, l2] (.int x0 :: S) h := pX_stp d1130_26 rfl rfl rfl
theorem x1130_27 {L S : List Value} {h : HP} {x y : Int32} : pX 1130 27 L (.int y :: .int x :: S) h = pX 1130 28 L (.int (x + y) :: S) h := pX_stp d1130_27 rfl rfl rfl
theorem x1130_28 {L S : List Value} {h : HP} {a : Nat} {j : Int32} (hk : hp_k h a = 100) (hj : inb j (hp_l h a) = true) : pX 1130 28 L (.int j :: .ref a :: S) h = pX 1130 29 L (.int (hp_i h a (ix j)) :: S) h := pX_ild d1130_28 hk hj
theorem x1130_29 {S : List Value} {h : HP} {l0 l1 : Value} {x0 : Int32} : pX 1130 29 [l0, l1, .int x0] S h = pX 1130 30 [l0, l1, .int x0] (.int x0 :: S) h := pX_stp d1130_29 rfl rfl rfl
theorem x1130_30 {L S : List Value} {h : HP} {x y : Int32} : pX 1130 30 L (.int y :: .int x :: S) h = if x = y then pX 1130 37 L S h else pX 1130 33 L S h := pX_icmp_eq d1130_30 (by decide)
theorem x1130_33 {L S : List Value} {h : HP} : pX 1130 33 L S h = pX 1130 34 L (.int 3 :: S) h := pX_iconst d1130_33 (by decide)
theorem x1130_34 {L S : List Value} {h : HP} : pX 1130 34 L S h = pX 1130 38 L S h := pX_goto d1130_34 (by decide)
theorem x1130_37 {L S : List Value} {h : HP} : pX 1130 37 L S h = pX 1130 38 L (.int 0 :: S) h := pX_iconst d1130_37 (by decide)
theorem x1130_38 {L : List Value} {h : HP} {x : Int32} : pX 1130 38 L [.int x] h = some (some (.int x), h) := pX_ret d1130_38 rfl
theorem d1131_0 : decode (mb 1131) 0 = .ok (.aload_n 0, 1) := by decide +kernel
theorem d1131_1 : decode (mb 1131) 1 = .ok (.getfield 85, 3) := by decide +kernel
theorem d1131_4 : decode (mb 1131) 4 = .ok (.aload_n 0, 1) := by decide +kernel
theorem d1131_5 : decode (mb 1131) 5 = .ok (.getfield 189, 3) := by decide +kernel
theorem d1131_8 : decode (mb 1131) 8 = .ok (.iload_n 1, 1) := by decide +kernel
theorem d1131_9 : decode (mb 1131) 9 = .ok (.iadd, 1) := by decide +kernel
theorem d1131_10 : decode (mb 1131) 10 = .ok (.iaload, 1) := by decide +kernel
theorem d1131_11 : decode (mb 1131) 11 = .ok (.ireturn, 1) := by decide +kernel
theorem x1131_0 {S : List Value} {h : HP} {l1 : Value} {a0 : Nat} : pX 1131 0 [.ref a0, l1] S h = pX 1131 1 [.ref a0, l1] (.ref a0 :: S) h := pX_stp d1131_0 rfl rfl rfl
theorem x1131_1 {L S : List Value} {h : HP} {a : Nat} (hk : hp_k h a = 12) : pX 1131 1 L (.ref a :: S) h = pX 1131 4 L (.ref (hp_a h a 34) :: S) h := pX_get d1131_1 rfl rfl hk
theorem x1131_4 {S : List Value} {h : HP} {l1 : Value} {a0 : Nat} : pX 1131 4 [.ref a0, l1] S h = pX 1131 5 [.ref a0, l1] (.ref a0 :: S) h := pX_stp d1131_4 rfl rfl rfl
theorem x1131_5 {L S : List Value} {h : HP} {a : Nat} (hk : hp_k h a = 12) : pX 1131 5 L (.ref a :: S) h = pX 1131 8 L (.int (hp_i h a 45) :: S) h := pX_get d1131_5 rfl rfl hk
theorem x1131_8 {S : List Value} {h : HP} {l0 : Value} {x0 : Int32} : pX 1131 8 [l0, .int x0] S h = pX 1131 9 [l0, .int x0] (.int x0 :: S) h := pX_stp d1131_8 rfl rfl rfl
theorem x1131_9 {L S : List Value} {h : HP} {x y : Int32} : pX 1131 9 L (.int y :: .int x :: S) h = pX 1131 10 L (.int (x + y) :: S) h := pX_stp d1131_9 rfl rfl rfl
theorem x1131_10 {L S : List Value} {h : HP} {a : Nat} {j : Int32} (hk : hp_k h a = 100) (hj : inb j (hp_l h a) = true) : pX 1131 10 L (.int j :: .ref a :: S) h = pX 1131 11 L (.int (hp_i h a (ix j)) :: S) h := pX_ild d1131_10 hk hj
theorem x1131_11 {L : List Value} {h : HP} {x : Int32} : pX 1131 11 L [.int x] h = some (some (.int x), h) := pX_ret d1131_11 rfl
theorem d1132_0 : decode (mb 1132) 0 = .ok (.aload_n 0, 1) := by decide +kernel
theorem d1132_1 : decode (mb 1132) 1 = .ok (.aload_n 0, 1) := by decide +kernel
theorem d1132_2 : decode (mb 1132) 2 = .ok (.getfield 195, 3) := by decide +kernel
theorem d1132_5 : decode (mb 1132) 5 = .ok (.iconst 1, 1) := by decide +kernel
theorem d1132_6 : decode (mb 1132) 6 = .ok (.invokevirtual 198, 3) := by decide +kernel
theorem d1132_9 : decode (mb 1132) 9 = .ok (.istore_n 1, 1) := by decide +kernel
theorem d1132_10 : decode (mb 1132) 10 = .ok (.iload_n 1, 1) := by decide +kernel
theorem d1132_11 : decode (mb 1132) 11 = .ok (.ifCond .le 7, 3) := by decide +kernel
theorem d1132_14 : decode (mb 1132) 14 = .ok (.iload_n 1, 1) := by decide +kernel
theorem d1132_15 : decode (mb 1132) 15 = .ok (.goto 12, 3) := by decide +kernel
theorem d1132_18 : decode (mb 1132) 18 = .ok (.aload_n 0, 1) := by decide +kernel
theorem d1132_19 : decode (mb 1132) 19 = .ok (.aload_n 0, 1) := by decide +kernel
theorem d1132_20 : decode (mb 1132) 20 = .ok (.getfield 201, 3) := by decide +kernel
theorem d1132_23 : decode (mb 1132) 23 = .ok (.iconst 1, 1) := by decide +kernel
theorem d1132_24 : decode (mb 1132) 24 = .ok (.invokevirtual 198, 3) := by decide +kernel
theorem d1132_27 : decode (mb 1132) 27 = .ok (.ireturn, 1) := by decide +kernel
theorem x1132_0 {S : List Value} {h : HP} {l1 : Value} {a0 : Nat} : pX 1132 0 [.ref a0, l1] S h = pX 1132 1 [.ref a0, l1] (.ref a0 :: S) h := pX_stp d1132_0 rfl rfl rfl
theorem x1132_1 {S : List Value} {h : HP} {l1 : Value} {a0 : Nat} : pX 1132 1 [.ref a0, l1] S h = pX 1132 2 [.ref a0, l1] (.ref a0 :: S) h := pX_stp d1132_1 rfl rfl rfl
theorem x1132_2 {L S : List Value} {h : HP} {a : Nat} (hk : hp_k h a = 12) : pX 1132 2 L (.ref a :: S) h = pX 1132 5 L (.int (hp_i h a 47) :: S) h := pX_get d1132_2 rfl rfl hk
theorem x1132_5 {L S : List Value} {h : HP} : pX 1132 5 L S h = pX 1132 6 L (.int 1 :: S) h := pX_iconst d1132_5 (by decide)
theorem x1132_6 {L : List Value} {h : HP} {x0 : Int32} {x1 : Int32} {a0 : Nat} (hk : hp_k h a0 = 12) : pX 1132 6 L [.int x0, .int x1, .ref a0] h = (pX 1130 0 [.ref a0, .int x1, .int x0] [] h).bind (fun q => pX 1132 9 L (q.1.toList ++ []) q.2) := pX_inv (a := a0) (t := 12) 1130 [.ref a0, .int x1, .int x0] [] d1132_6 rfl rfl rfl hk
theorem x1132_9 {S : List Value} {h : HP} {l0 l1 : Value} {x0 : Int32} : pX 1132 9 [l0, l1] (.int x0 :: S) h = pX 1132 10 [l0, .int x0] S h := pX_stp d1132_9 rfl rfl rfl
theorem x1132_10 {S : List Value} {h : HP} {l0 : Value} {x0 : Int32} : pX 1132 10 [l0, .int x0] S h = pX 1132 11 [l0, .int x0] (.int x0 :: S) h := pX_stp d1132_10 rfl rfl rfl
theorem x1132_11 {L S : List Value} {h : HP} {x : Int32} : pX 1132 11 L (.int x :: S) h = if x ≤ 0 then pX 1132 18 L S h else pX 1132 14 L S h := pX_if_le d1132_11 (by decide)
theorem x1132_14 {S : List Value} {h : HP} {l0 : Value} {x0 : Int32} : pX 1132 14 [l0, .int x0] S h = pX 1132 15 [l0, .int x0] (.int x0 :: S) h := pX_stp d1132_14 rfl rfl rfl
theorem x1132_15 {L S : List Value} {h : HP} : pX 1132 15 L S h = pX 1132 27 L S h := pX_goto d1132_15 (by decide)
theorem x1132_18 {S : List Value} {h : HP} {l1 : Value} {a0 : Nat} : pX 1132 18 [.ref a0, l1] S h = pX 1132 19 [.ref a0, l1] (.ref a0 :: S) h := pX_stp d1132_18 rfl rfl rfl
theorem x1132_19 {S : List Value} {h : HP} {l1 : Value} {a0 : Nat} : pX 1132 19 [.ref a0, l1] S h = pX 1132 20 [.ref a0, l1] (.ref a0 :: S) h := pX_stp d1132_19 rfl rfl rfl
theorem x1132_20 {L S : List Value} {h : HP} {a : Nat} (hk : hp_k h a = 12) : pX 1132 20 L (.ref a :: S) h = pX 1132 23 L (.int (hp_i h a 48) :: S) h := pX_get d1132_20 rfl rfl hk
theorem x1132_23 {L S : List Value} {h : HP} : pX 1132 23 L S h = pX 1132 24 L (.int 1 :: S) h := pX_iconst d1132_23 (by decide)
theorem x1132_24 {L : List Value} {h : HP} {x0 : Int32} {x1 : Int32} {a0 : Nat} (hk : hp_k h a0 = 12) : pX 1132 24 L [.int x0, .int x1, .ref a0] h = (pX 1130 0 [.ref a0, .int x1, .int x0] [] h).bind (fun q => pX 1132 27 L (q.1.toList ++ []) q.2) := pX_inv (a := a0) (t := 12) 1130 [.ref a0, .int x1, .int x0] [] d1132_24 rfl rfl rfl hk
theorem x1132_27 {L : List Value} {h : HP} {x : Int32} : pX 1132 27 L [.int x] h = some (some (.int x), h) := pX_ret d1132_27 rfl
theorem d1133_0 : decode (mb 1133) 0 = .ok (.aload_n 0, 1) := by decide +kernel
theorem d1133_1 : decode (mb 1133) 1 = .ok (.invokevirtual 204, 3) := by decide +kernel
theorem d1133_4 : decode (mb 1133) 4 = .ok (.istore_n 2, 1) := by decide +kernel
theorem d1133_5 : decode (mb 1133) 5 = .ok (.iload_n 2, 1) := by decide +kernel
theorem d1133_6 : decode (mb 1133) 6 = .ok (.ifCond .le 5, 3) := by decide +kernel
theorem d1133_9 : decode (mb 1133) 9 = .ok (.iload_n 2, 1) := by decide +kernel
theorem d1133_10 : decode (mb 1133) 10 = .ok (.ireturn, 1) := by decide +kernel
theorem d1133_11 : decode (mb 1133) 11 = .ok (.aload_n 0, 1) := by decide +kernel
theorem d1133_12 : decode (mb 1133) 12 = .ok (.aload_n 0, 1) := by decide +kernel
theorem d1133_13 : decode (mb 1133) 13 = .ok (.getfield 195, 3) := by decide +kernel
theorem d1133_16 : decode (mb 1133) 16 = .ok (.invokevirtual 208, 3) := by decide +kernel
theorem d1133_19 : decode (mb 1133) 19 = .ok (.istore_n 3, 1) := by decide +kernel
theorem d1133_20 : decode (mb 1133) 20 = .ok (.aload_n 0, 1) := by decide +kernel
theorem d1133_21 : decode (mb 1133) 21 = .ok (.aload_n 0, 1) := by decide +kernel
theorem d1133_22 : decode (mb 1133) 22 = .ok (.getfield 201, 3) := by decide +kernel
theorem d1133_25 : decode (mb 1133) 25 = .ok (.invokevirtual 208, 3) := by decide +kernel
theorem d1133_28 : decode (mb 1133) 28 = .ok (.istore 4, 2) := by decide +kernel
theorem d1133_30 : decode (mb 1133) 30 = .ok (.iload_n 1, 1) := by decide +kernel
theorem d1133_31 : decode (mb 1133) 31 = .ok (.iconst 5, 1) := by decide +kernel
theorem d1133_32 : decode (mb 1133) 32 = .ok (.if_icmp .eq 9, 3) := by decide +kernel
theorem d1133_35 : decode (mb 1133) 35 = .ok (.iload_n 1, 1) := by decide +kernel
theorem d1133_36 : decode (mb 1133) 36 = .ok (.bipush 6, 2) := by decide +kernel
theorem d1133_38 : decode (mb 1133) 38 = .ok (.if_icmp .ne 10, 3) := by decide +kernel
theorem d1133_41 : decode (mb 1133) 41 = .ok (.iload 4, 2) := by decide +kernel
theorem d1133_43 : decode (mb 1133) 43 = .ok (.ifCond .ne 5, 3) := by decide +kernel
theorem d1133_46 : decode (mb 1133) 46 = .ok (.iconst 5, 1) := by decide +kernel
theorem d1133_47 : decode (mb 1133) 47 = .ok (.ireturn, 1) := by decide +kernel
theorem d1133_48 : decode (mb 1133) 48 = .ok (.aload_n 0, 1) := by decide +kernel
theorem d1133_49 : decode (mb 1133) 49 = .ok (.iconst 1, 1) := by decide +kernel
theorem d1133_50 : decode (mb 1133) 50 = .ok (.iload_n 1, 1) := by decide +kernel
theorem d1133_51 : decode (mb 1133) 51 = .ok (.iconst 2, 1) := by decide +kernel
theorem d1133_52 : decode (mb 1133) 52 = .ok (.if_icmp .ne 10, 3) := by decide +kernel
theorem d1133_55 : decode (mb 1133) 55 = .ok (.iload_n 3, 1) := by decide +kernel
theorem d1133_56 : decode (mb 1133) 56 = .ok (.iload 4, 2) := by decide +kernel
theorem d1133_58 : decode (mb 1133) 58 = .ok (.iadd, 1) := by decide +kernel
theorem d1133_59 : decode (mb 1133) 59 = .ok (.goto 63, 3) := by decide +kernel
theorem d1133_62 : decode (mb 1133) 62 = .ok (.iload_n 1, 1) := by decide +kernel
theorem d1133_63 : decode (mb 1133) 63 = .ok (.iconst 3, 1) := by decide +kernel
theorem d1133_64 : decode (mb 1133) 64 = .ok (.if_icmp .ne 10, 3) := by decide +kernel
theorem d1133_67 : decode (mb 1133) 67 = .ok (.iload_n 3, 1) := by decide +kernel
theorem d1133_68 : decode (mb 1133) 68 = .ok (.iload 4, 2) := by decide +kernel
theorem d1133_70 : decode (mb 1133) 70 = .ok (.isub, 1) := by decide +kernel
theorem d1133_71 : decode (mb 1133) 71 = .ok (.goto 51, 3) := by decide +kernel
theorem d1133_74 : decode (mb 1133) 74 = .ok (.iload_n 1, 1) := by decide +kernel
theorem d1133_75 : decode (mb 1133) 75 = .ok (.iconst 4, 1) := by decide +kernel
theorem d1133_76 : decode (mb 1133) 76 = .ok (.if_icmp .ne 10, 3) := by decide +kernel
theorem d1133_79 : decode (mb 1133) 79 = .ok (.iload_n 3, 1) := by decide +kernel
theorem d1133_80 : decode (mb 1133) 80 = .ok (.iload 4, 2) := by decide +kernel
theorem d1133_82 : decode (mb 1133) 82 = .ok (.imul, 1) := by decide +kernel
theorem d1133_83 : decode (mb 1133) 83 = .ok (.goto 39, 3) := by decide +kernel
theorem d1133_86 : decode (mb 1133) 86 = .ok (.iload_n 1, 1) := by decide +kernel
theorem d1133_87 : decode (mb 1133) 87 = .ok (.iconst 5, 1) := by decide +kernel
theorem d1133_88 : decode (mb 1133) 88 = .ok (.if_icmp .ne 10, 3) := by decide +kernel
theorem d1133_91 : decode (mb 1133) 91 = .ok (.iload_n 3, 1) := by decide +kernel
theorem d1133_92 : decode (mb 1133) 92 = .ok (.iload 4, 2) := by decide +kernel
theorem d1133_94 : decode (mb 1133) 94 = .ok (.idiv, 1) := by decide +kernel
theorem d1133_95 : decode (mb 1133) 95 = .ok (.goto 27, 3) := by decide +kernel
theorem d1133_98 : decode (mb 1133) 98 = .ok (.iload_n 1, 1) := by decide +kernel
theorem d1133_99 : decode (mb 1133) 99 = .ok (.bipush 6, 2) := by decide +kernel
theorem d1133_101 : decode (mb 1133) 101 = .ok (.if_icmp .ne 10, 3) := by decide +kernel
theorem d1133_104 : decode (mb 1133) 104 = .ok (.iload_n 3, 1) := by decide +kernel
theorem d1133_105 : decode (mb 1133) 105 = .ok (.iload 4, 2) := by decide +kernel
theorem d1133_107 : decode (mb 1133) 107 = .ok (.irem, 1) := by decide +kernel
theorem d1133_108 : decode (mb 1133) 108 = .ok (.goto 14, 3) := by decide +kernel
theorem d1133_111 : decode (mb 1133) 111 = .ok (.iload_n 3, 1) := by decide +kernel
theorem d1133_112 : decode (mb 1133) 112 = .ok (.iload 4, 2) := by decide +kernel
theorem d1133_114 : decode (mb 1133) 114 = .ok (.if_icmp .ge 7, 3) := by decide +kernel
theorem d1133_117 : decode (mb 1133) 117 = .ok (.iconst 1, 1) := by decide +kernel
theorem d1133_118 : decode (mb 1133) 118 = .ok (.goto 4, 3) := by decide +kernel
theorem d1133_121 : decode (mb 1133) 121 = .ok (.iconst 0, 1) := by decide +kernel
theorem d1133_122 : decode (mb 1133) 122 = .ok (.invokevirtual 211, 3) := by decide +kernel
theorem d1133_125 : decode (mb 1133) 125 = .ok (.iconst 0, 1) := by decide +kernel
theorem d1133_126 : decode (mb 1133) 126 = .ok (.ireturn, 1) := by decide +kernel
theorem x1133_0 {S : List Value} {h : HP} {l1 l2 l3 l4 : Value} {a0 : Nat} : pX 1133 0 [.ref a0, l1, l2, l3, l4] S h = pX 1133 1 [.ref a0, l1, l2, l3, l4] (.ref a0 :: S) h := pX_stp d1133_0 rfl rfl rfl
theorem x1133_1 {L : List Value} {h : HP} {a0 : Nat} (hk : hp_k h a0 = 12) : pX 1133 1 L [.ref a0] h = (pX 1132 0 [.ref a0, .retAddr 0] [] h).bind (fun q => pX 1133 4 L (q.1.toList ++ []) q.2) := pX_inv (a := a0) (t := 12) 1132 [.ref a0] [] d1133_1 rfl rfl rfl hk
theorem x1133_4 {S : List Value} {h : HP} {l0 l1 l2 l3 l4 : Value} {x0 : Int32} : pX 1133 4 [l0, l1, l2, l3, l4] (.int x0 :: S) h = pX 1133 5 [l0, l1, .int x0, l3, l4] S h := pX_stp d1133_4 rfl rfl rfl
theorem x1133_5 {S : List Value} {h : HP} {l0 l1 l3 l4 : Value} {x0 : Int32} : pX 1133 5 [l0, l1, .int x0, l3, l4] S h = pX 1133 6 [l0, l1, .int x0, l3, l4] (.int x0 :: S) h := pX_stp d1133_5 rfl rfl rfl
theorem x1133_6 {L S : List Value} {h : HP} {x : Int32} : pX 1133 6 L (.int x :: S) h = if x ≤ 0 then pX 1133 11 L S h else pX 1133 9 L S h := pX_if_le d1133_6 (by decide)
theorem x1133_9 {S : List Value} {h : HP} {l0 l1 l3 l4 : Value} {x0 : Int32} : pX 1133 9 [l0, l1, .int x0, l3, l4] S h = pX 1133 10 [l0, l1, .int x0, l3, l4] (.int x0 :: S) h := pX_stp d1133_9 rfl rfl rfl
theorem x1133_10 {L : List Value} {h : HP} {x : Int32} : pX 1133 10 L [.int x] h = some (some (.int x), h) := pX_ret d1133_10 rfl
theorem x1133_11 {S : List Value} {h : HP} {l1 l2 l3 l4 : Value} {a0 : Nat} : pX 1133 11 [.ref a0, l1, l2, l3, l4] S h = pX 1133 12 [.ref a0, l1, l2, l3, l4] (.ref a0 :: S) h := pX_stp d1133_11 rfl rfl rfl
theorem x1133_12 {S : List Value} {h : HP} {l1 l2 l3 l4 : Value} {a0 : Nat} : pX 1133 12 [.ref a0, l1, l2, l3, l4] S h = pX 1133 13 [.ref a0, l1, l2, l3, l4] (.ref a0 :: S) h := pX_stp d1133_12 rfl rfl rfl
theorem x1133_13 {L S : List Value} {h : HP} {a : Nat} (hk : hp_k h a = 12) : pX 1133 13 L (.ref a :: S) h = pX 1133 16 L (.int (hp_i h a 47) :: S) h := pX_get d1133_13 rfl rfl hk
theorem x1133_16 {L : List Value} {h : HP} {x0 : Int32} {a0 : Nat} (hk : hp_k h a0 = 12) : pX 1133 16 L [.int x0, .ref a0] h = (pX 1131 0 [.ref a0, .int x0] [] h).bind (fun q => pX 1133 19 L (q.1.toList ++ []) q.2) := pX_inv (a := a0) (t := 12) 1131 [.ref a0, .int x0] [] d1133_16 rfl rfl rfl hk
theorem x1133_19 {S : List Value} {h : HP} {l0 l1 l2 l3 l4 : Value} {x0 : Int32} : pX 1133 19 [l0, l1, l2, l3, l4] (.int x0 :: S) h = pX 1133 20 [l0, l1, l2, .int x0, l4] S h := pX_stp d1133_19 rfl rfl rfl
theorem x1133_20 {S : List Value} {h : HP} {l1 l2 l3 l4 : Value} {a0 : Nat} : pX 1133 20 [.ref a0, l1, l2, l3, l4] S h = pX 1133 21 [.ref a0, l1, l2, l3, l4] (.ref a0 :: S) h := pX_stp d1133_20 rfl rfl rfl
theorem x1133_21 {S : List Value} {h : HP} {l1 l2 l3 l4 : Value} {a0 : Nat} : pX 1133 21 [.ref a0, l1, l2, l3, l4] S h = pX 1133 22 [.ref a0, l1, l2, l3, l4] (.ref a0 :: S) h := pX_stp d1133_21 rfl rfl rfl
theorem x1133_22 {L S : List Value} {h : HP} {a : Nat} (hk : hp_k h a = 12) : pX 1133 22 L (.ref a :: S) h = pX 1133 25 L (.int (hp_i h a 48) :: S) h := pX_get d1133_22 rfl rfl hk
theorem x1133_25 {L : List Value} {h : HP} {x0 : Int32} {a0 : Nat} (hk : hp_k h a0 = 12) : pX 1133 25 L [.int x0, .ref a0] h = (pX 1131 0 [.ref a0, .int x0] [] h).bind (fun q => pX 1133 28 L (q.1.toList ++ []) q.2) := pX_inv (a := a0) (t := 12) 1131 [.ref a0, .int x0] [] d1133_25 rfl rfl rfl hk
theorem x1133_28 {S : List Value} {h : HP} {l0 l1 l2 l3 l4 : Value} {x0 : Int32} : pX 1133 28 [l0, l1, l2, l3, l4] (.int x0 :: S) h = pX 1133 30 [l0, l1, l2, l3, .int x0] S h := pX_stp d1133_28 rfl rfl rfl
theorem x1133_30 {S : List Value} {h : HP} {l0 l2 l3 l4 : Value} {x0 : Int32} : pX 1133 30 [l0, .int x0, l2, l3, l4] S h = pX 1133 31 [l0, .int x0, l2, l3, l4] (.int x0 :: S) h := pX_stp d1133_30 rfl rfl rfl
theorem x1133_31 {L S : List Value} {h : HP} : pX 1133 31 L S h = pX 1133 32 L (.int 5 :: S) h := pX_iconst d1133_31 (by decide)
theorem x1133_32 {L S : List Value} {h : HP} {x y : Int32} : pX 1133 32 L (.int y :: .int x :: S) h = if x = y then pX 1133 41 L S h else pX 1133 35 L S h := pX_icmp_eq d1133_32 (by decide)
theorem x1133_35 {S : List Value} {h : HP} {l0 l2 l3 l4 : Value} {x0 : Int32} : pX 1133 35 [l0, .int x0, l2, l3, l4] S h = pX 1133 36 [l0, .int x0, l2, l3, l4] (.int x0 :: S) h := pX_stp d1133_35 rfl rfl rfl
theorem x1133_36 {L S : List Value} {h : HP} : pX 1133 36 L S h = pX 1133 38 L (.int 6 :: S) h := pX_bipush d1133_36 (by decide)
theorem x1133_38 {L S : List Value} {h : HP} {x y : Int32} : pX 1133 38 L (.int y :: .int x :: S) h = if x = y then pX 1133 41 L S h else pX 1133 48 L S h := pX_icmp_ne d1133_38 (by decide)
theorem x1133_41 {S : List Value} {h : HP} {l0 l1 l2 l3 : Value} {x0 : Int32} : pX 1133 41 [l0, l1, l2, l3, .int x0] S h = pX 1133 43 [l0, l1, l2, l3, .int x0] (.int x0 :: S) h := pX_stp d1133_41 rfl rfl rfl
theorem x1133_43 {L S : List Value} {h : HP} {x : Int32} : pX 1133 43 L (.int x :: S) h = if x = 0 then pX 1133 46 L S h else pX 1133 48 L S h := pX_if_ne d1133_43 (by decide)
theorem x1133_46 {L S : List Value} {h : HP} : pX 1133 46 L S h = pX 1133 47 L (.int 5 :: S) h := pX_iconst d1133_46 (by decide)
theorem x1133_47 {L : List Value} {h : HP} {x : Int32} : pX 1133 47 L [.int x] h = some (some (.int x), h) := pX_ret d1133_47 rfl
theorem x1133_48 {S : List Value} {h : HP} {l1 l2 l3 l4 : Value} {a0 : Nat} : pX 1133 48 [.ref a0, l1, l2, l3, l4] S h = pX 1133 49 [.ref a0, l1, l2, l3, l4] (.ref a0 :: S) h := pX_stp d1133_48 rfl rfl rfl
theorem x1133_49 {L S : List Value} {h : HP} : pX 1133 49 L S h = pX 1133 50 L (.int 1 :: S) h := pX_iconst d1133_49 (by decide)
theorem x1133_50 {S : List Value} {h : HP} {l0 l2 l3 l4 : Value} {x0 : Int32} : pX 1133 50 [l0, .int x0, l2, l3, l4] S h = pX 1133 51 [l0, .int x0, l2, l3, l4] (.int x0 :: S) h := pX_stp d1133_50 rfl rfl rfl
theorem x1133_51 {L S : List Value} {h : HP} : pX 1133 51 L S h = pX 1133 52 L (.int 2 :: S) h := pX_iconst d1133_51 (by decide)
theorem x1133_52 {L S : List Value} {h : HP} {x y : Int32} : pX 1133 52 L (.int y :: .int x :: S) h = if x = y then pX 1133 55 L S h else pX 1133 62 L S h := pX_icmp_ne d1133_52 (by decide)
theorem x1133_55 {S : List Value} {h : HP} {l0 l1 l2 l4 : Value} {x0 : Int32} : pX 1133 55 [l0, l1, l2, .int x0, l4] S h = pX 1133 56 [l0, l1, l2, .int x0, l4] (.int x0 :: S) h := pX_stp d1133_55 rfl rfl rfl
theorem x1133_56 {S : List Value} {h : HP} {l0 l1 l2 l3 : Value} {x0 : Int32} : pX 1133 56 [l0, l1, l2, l3, .int x0] S h = pX 1133 58 [l0, l1, l2, l3, .int x0] (.int x0 :: S) h := pX_stp d1133_56 rfl rfl rfl
theorem x1133_58 {L S : List Value} {h : HP} {x y : Int32} : pX 1133 58 L (.int y :: .int x :: S) h = pX 1133 59 L (.int (x + y) :: S) h := pX_stp d1133_58 rfl rfl rfl
theorem x1133_59 {L S : List Value} {h : HP} : pX 1133 59 L S h = pX 1133 122 L S h := pX_goto d1133_59 (by decide)
theorem x1133_62 {S : List Value} {h : HP} {l0 l2 l3 l4 : Value} {x0 : Int32} : pX 1133 62 [l0, .int x0, l2, l3, l4] S h = pX 1133 63 [l0, .int x0, l2, l3, l4] (.int x0 :: S) h := pX_stp d1133_62 rfl rfl rfl
theorem x1133_63 {L S : List Value} {h : HP} : pX 1133 63 L S h = pX 1133 64 L (.int 3 :: S) h := pX_iconst d1133_63 (by decide)
theorem x1133_64 {L S : List Value} {h : HP} {x y : Int32} : pX 1133 64 L (.int y :: .int x :: S) h = if x = y then pX 1133 67 L S h else pX 1133 74 L S h := pX_icmp_ne d1133_64 (by decide)
theorem x1133_67 {S : List Value} {h : HP} {l0 l1 l2 l4 : Value} {x0 : Int32} : pX 1133 67 [l0, l1, l2, .int x0, l4] S h = pX 1133 68 [l0, l1, l2, .int x0, l4] (.int x0 :: S) h := pX_stp d1133_67 rfl rfl rfl
theorem x1133_68 {S : List Value} {h : HP} {l0 l1 l2 l3 : Value} {x0 : Int32} : pX 1133 68 [l0, l1, l2, l3, .int x0] S h = pX 1133 70 [l0, l1, l2, l3, .int x0] (.int x0 :: S) h := pX_stp d1133_68 rfl rfl rfl
theorem x1133_70 {L S : List Value} {h : HP} {x y : Int32} : pX 1133 70 L (.int y :: .int x :: S) h = pX 1133 71 L (.int (x - y) :: S) h := pX_stp d1133_70 rfl rfl rfl
theorem x1133_71 {L S : List Value} {h : HP} : pX 1133 71 L S h = pX 1133 122 L S h := pX_goto d1133_71 (by decide)
theorem x1133_74 {S : List Value} {h : HP} {l0 l2 l3 l4 : Value} {x0 : Int32} : pX 1133 74 [l0, .int x0, l2, l3, l4] S h = pX 1133 75 [l0, .int x0, l2, l3, l4] (.int x0 :: S) h := pX_stp d1133_74 rfl rfl rfl
theorem x1133_75 {L S : List Value} {h : HP} : pX 1133 75 L S h = pX 1133 76 L (.int 4 :: S) h := pX_iconst d1133_75 (by decide)
theorem x1133_76 {L S : List Value} {h : HP} {x y : Int32} : pX 1133 76 L (.int y :: .int x :: S) h = if x = y then pX 1133 79 L S h else pX 1133 86 L S h := pX_icmp_ne d1133_76 (by decide)
theorem x1133_79 {S : List Value} {h : HP} {l0 l1 l2 l4 : Value} {x0 : Int32} : pX 1133 79 [l0, l1, l2, .int x0, l4] S h = pX 1133 80 [l0, l1, l2, .int x0, l4] (.int x0 :: S) h := pX_stp d1133_79 rfl rfl rfl
theorem x1133_80 {S : List Value} {h : HP} {l0 l1 l2 l3 : Value} {x0 : Int32} : pX 1133 80 [l0, l1, l2, l3, .int x0] S h = pX 1133 82 [l0, l1, l2, l3, .int x0] (.int x0 :: S) h := pX_stp d1133_80 rfl rfl rfl
theorem x1133_82 {L S : List Value} {h : HP} {x y : Int32} : pX 1133 82 L (.int y :: .int x :: S) h = pX 1133 83 L (.int (x * y) :: S) h := pX_stp d1133_82 rfl rfl rfl
theorem x1133_83 {L S : List Value} {h : HP} : pX 1133 83 L S h = pX 1133 122 L S h := pX_goto d1133_83 (by decide)
theorem x1133_86 {S : List Value} {h : HP} {l0 l2 l3 l4 : Value} {x0 : Int32} : pX 1133 86 [l0, .int x0, l2, l3, l4] S h = pX 1133 87 [l0, .int x0, l2, l3, l4] (.int x0 :: S) h := pX_stp d1133_86 rfl rfl rfl
theorem x1133_87 {L S : List Value} {h : HP} : pX 1133 87 L S h = pX 1133 88 L (.int 5 :: S) h := pX_iconst d1133_87 (by decide)
theorem x1133_88 {L S : List Value} {h : HP} {x y : Int32} : pX 1133 88 L (.int y :: .int x :: S) h = if x = y then pX 1133 91 L S h else pX 1133 98 L S h := pX_icmp_ne d1133_88 (by decide)
theorem x1133_91 {S : List Value} {h : HP} {l0 l1 l2 l4 : Value} {x0 : Int32} : pX 1133 91 [l0, l1, l2, .int x0, l4] S h = pX 1133 92 [l0, l1, l2, .int x0, l4] (.int x0 :: S) h := pX_stp d1133_91 rfl rfl rfl
theorem x1133_92 {S : List Value} {h : HP} {l0 l1 l2 l3 : Value} {x0 : Int32} : pX 1133 92 [l0, l1, l2, l3, .int x0] S h = pX 1133 94 [l0, l1, l2, l3, .int x0] (.int x0 :: S) h := pX_stp d1133_92 rfl rfl rfl
theorem x1133_94 {L S : List Value} {h : HP} {x y : Int32} (hy : ¬ y = 0) : pX 1133 94 L (.int y :: .int x :: S) h = pX 1133 95 L (.int (x / y) :: S) h := pX_div d1133_94 hy
theorem x1133_95 {L S : List Value} {h : HP} : pX 1133 95 L S h = pX 1133 122 L S h := pX_goto d1133_95 (by decide)
theorem x1133_98 {S : List Value} {h : HP} {l0 l2 l3 l4 : Value} {x0 : Int32} : pX 1133 98 [l0, .int x0, l2, l3, l4] S h = pX 1133 99 [l0, .int x0, l2, l3, l4] (.int x0 :: S) h := pX_stp d1133_98 rfl rfl rfl
theorem x1133_99 {L S : List Value} {h : HP} : pX 1133 99 L S h = pX 1133 101 L (.int 6 :: S) h := pX_bipush d1133_99 (by decide)
theorem x1133_101 {L S : List Value} {h : HP} {x y : Int32} : pX 1133 101 L (.int y :: .int x :: S) h = if x = y then pX 1133 104 L S h else pX 1133 111 L S h := pX_icmp_ne d1133_101 (by decide)
theorem x1133_104 {S : List Value} {h : HP} {l0 l1 l2 l4 : Value} {x0 : Int32} : pX 1133 104 [l0, l1, l2, .int x0, l4] S h = pX 1133 105 [l0, l1, l2, .int x0, l4] (.int x0 :: S) h := pX_stp d1133_104 rfl rfl rfl
theorem x1133_105 {S : List Value} {h : HP} {l0 l1 l2 l3 : Value} {x0 : Int32} : pX 1133 105 [l0, l1, l2, l3, .int x0] S h = pX 1133 107 [l0, l1, l2, l3, .int x0] (.int x0 :: S) h := pX_stp d1133_105 rfl rfl rfl
theorem x1133_107 {L S : List Value} {h : HP} {x y : Int32} (hy : ¬ y = 0) : pX 1133 107 L (.int y :: .int x :: S) h = pX 1133 108 L (.int (x - x / y * y) :: S) h := pX_rem d1133_107 hy
theorem x1133_108 {L S : List Value} {h : HP} : pX 1133 108 L S h = pX 1133 122 L S h := pX_goto d1133_108 (by decide)
theorem x1133_111 {S : List Value} {h : HP} {l0 l1 l2 l4 : Value} {x0 : Int32} : pX 1133 111 [l0, l1, l2, .int x0, l4] S h = pX 1133 112 [l0, l1, l2, .int x0, l4] (.int x0 :: S) h := pX_stp d1133_111 rfl rfl rfl
theorem x1133_112 {S : List Value} {h : HP} {l0 l1 l2 l3 : Value} {x0 : Int32} : pX 1133 112 [l0, l1, l2, l3, .int x0] S h = pX 1133 114 [l0, l1, l2, l3, .int x0] (.int x0 :: S) h := pX_stp d1133_112 rfl rfl rfl
theorem x1133_114 {L S : List Value} {h : HP} {x y : Int32} : pX 1133 114 L (.int y :: .int x :: S) h = if y ≤ x then pX 1133 121 L S h else pX 1133 117 L S h := pX_icmp_ge d1133_114 (by decide)
theorem x1133_117 {L S : List Value} {h : HP} : pX 1133 117 L S h = pX 1133 118 L (.int 1 :: S) h := pX_iconst d1133_117 (by decide)
theorem x1133_118 {L S : List Value} {h : HP} : pX 1133 118 L S h = pX 1133 122 L S h := pX_goto d1133_118 (by decide)
theorem x1133_121 {L S : List Value} {h : HP} : pX 1133 121 L S h = pX 1133 122 L (.int 0 :: S) h := pX_iconst d1133_121 (by decide)
theorem x1133_122 {L : List Value} {h : HP} {x0 : Int32} {x1 : Int32} {a0 : Nat} (hk : hp_k h a0 = 12) : pX 1133 122 L [.int x0, .int x1, .ref a0] h = (pX 1129 0 [.ref a0, .int x1, .int x0] [] h).bind (fun q => pX 1133 125 L (q.1.toList ++ []) q.2) := pX_inv (a := a0) (t := 12) 1129 [.ref a0, .int x1, .int x0] [] d1133_122 rfl rfl rfl hk
theorem x1133_125 {L S : List Value} {h : HP} : pX 1133 125 L S h = pX 1133 126 L (.int 0 :: S) h := pX_iconst d1133_125 (by decide)
theorem x1133_126 {L : List Value} {h : HP} {x : Int32} : pX 1133 126 L [.int x] h = some (some (.int x), h) := pX_ret d1133_126 rfl
