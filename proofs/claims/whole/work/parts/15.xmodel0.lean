theorem d1100_0 : decode (mb 1100) 0 = .ok (.aload_n 0, 1) := by decide +kernel
theorem d1100_1 : decode (mb 1100) 1 = .ok (.invokespecial 1, 3) := by decide +kernel
theorem d1100_4 : decode (mb 1100) 4 = .ok (.aload_n 0, 1) := by decide +kernel
theorem d1100_5 : decode (mb 1100) 5 = .ok (.bipush 10, 2) := by decide +kernel
theorem d1100_7 : decode (mb 1100) 7 = .ok (.newarray .int, 2) := by decide +kernel
theorem d1100_9 : decode (mb 1100) 9 = .ok (.putfield 7, 3) := by decide +kernel
theorem d1100_12 : decode (mb 1100) 12 = .ok (.aload_n 0, 1) := by decide +kernel
theorem d1100_13 : decode (mb 1100) 13 = .ok (.bipush 10, 2) := by decide +kernel
theorem d1100_15 : decode (mb 1100) 15 = .ok (.newarray .int, 2) := by decide +kernel
theorem d1100_17 : decode (mb 1100) 17 = .ok (.putfield 13, 3) := by decide +kernel
theorem d1100_20 : decode (mb 1100) 20 = .ok (.aload_n 0, 1) := by decide +kernel
theorem d1100_21 : decode (mb 1100) 21 = .ok (.sipush 1600, 3) := by decide +kernel
theorem d1100_24 : decode (mb 1100) 24 = .ok (.newarray .int, 2) := by decide +kernel
theorem d1100_26 : decode (mb 1100) 26 = .ok (.putfield 16, 3) := by decide +kernel
theorem d1100_29 : decode (mb 1100) 29 = .ok (.aload_n 0, 1) := by decide +kernel
theorem d1100_30 : decode (mb 1100) 30 = .ok (.bipush 10, 2) := by decide +kernel
theorem d1100_32 : decode (mb 1100) 32 = .ok (.newarray .int, 2) := by decide +kernel
theorem d1100_34 : decode (mb 1100) 34 = .ok (.putfield 19, 3) := by decide +kernel
theorem d1100_37 : decode (mb 1100) 37 = .ok (.aload_n 0, 1) := by decide +kernel
theorem d1100_38 : decode (mb 1100) 38 = .ok (.sipush 240, 3) := by decide +kernel
theorem d1100_41 : decode (mb 1100) 41 = .ok (.newarray .int, 2) := by decide +kernel
theorem d1100_43 : decode (mb 1100) 43 = .ok (.putfield 22, 3) := by decide +kernel
theorem d1100_46 : decode (mb 1100) 46 = .ok (.aload_n 0, 1) := by decide +kernel
theorem d1100_47 : decode (mb 1100) 47 = .ok (.bipush 10, 2) := by decide +kernel
theorem d1100_49 : decode (mb 1100) 49 = .ok (.newarray .int, 2) := by decide +kernel
theorem d1100_51 : decode (mb 1100) 51 = .ok (.putfield 25, 3) := by decide +kernel
theorem d1100_54 : decode (mb 1100) 54 = .ok (.aload_n 0, 1) := by decide +kernel
theorem d1100_55 : decode (mb 1100) 55 = .ok (.iconst 5, 1) := by decide +kernel
theorem d1100_56 : decode (mb 1100) 56 = .ok (.newarray .int, 2) := by decide +kernel
theorem d1100_58 : decode (mb 1100) 58 = .ok (.putfield 28, 3) := by decide +kernel
theorem d1100_61 : decode (mb 1100) 61 = .ok (.aload_n 0, 1) := by decide +kernel
theorem d1100_62 : decode (mb 1100) 62 = .ok (.bipush 41, 2) := by decide +kernel
theorem d1100_64 : decode (mb 1100) 64 = .ok (.newarray .int, 2) := by decide +kernel
theorem d1100_66 : decode (mb 1100) 66 = .ok (.putfield 31, 3) := by decide +kernel
theorem d1100_69 : decode (mb 1100) 69 = .ok (.aload_n 0, 1) := by decide +kernel
theorem d1100_70 : decode (mb 1100) 70 = .ok (.bipush 12, 2) := by decide +kernel
theorem d1100_72 : decode (mb 1100) 72 = .ok (.newarray .int, 2) := by decide +kernel
theorem d1100_74 : decode (mb 1100) 74 = .ok (.putfield 34, 3) := by decide +kernel
theorem d1100_77 : decode (mb 1100) 77 = .ok (.aload_n 0, 1) := by decide +kernel
theorem d1100_78 : decode (mb 1100) 78 = .ok (.bipush 12, 2) := by decide +kernel
theorem d1100_80 : decode (mb 1100) 80 = .ok (.newarray .int, 2) := by decide +kernel
theorem d1100_82 : decode (mb 1100) 82 = .ok (.putfield 37, 3) := by decide +kernel
theorem d1100_85 : decode (mb 1100) 85 = .ok (.aload_n 0, 1) := by decide +kernel
theorem d1100_86 : decode (mb 1100) 86 = .ok (.iconst 3, 1) := by decide +kernel
theorem d1100_87 : decode (mb 1100) 87 = .ok (.newarray .int, 2) := by decide +kernel
theorem d1100_89 : decode (mb 1100) 89 = .ok (.putfield 40, 3) := by decide +kernel
theorem d1100_92 : decode (mb 1100) 92 = .ok (.aload_n 0, 1) := by decide +kernel
theorem d1100_93 : decode (mb 1100) 93 = .ok (.iconst 3, 1) := by decide +kernel
theorem d1100_94 : decode (mb 1100) 94 = .ok (.newarray .int, 2) := by decide +kernel
theorem d1100_96 : decode (mb 1100) 96 = .ok (.putfield 43, 3) := by decide +kernel
theorem d1100_99 : decode (mb 1100) 99 = .ok (.aload_n 0, 1) := by decide +kernel
theorem d1100_100 : decode (mb 1100) 100 = .ok (.sipush 6000, 3) := by decide +kernel
theorem d1100_103 : decode (mb 1100) 103 = .ok (.newarray .int, 2) := by decide +kernel
theorem d1100_105 : decode (mb 1100) 105 = .ok (.putfield 46, 3) := by decide +kernel
theorem d1100_108 : decode (mb 1100) 108 = .ok (.aload_n 0, 1) := by decide +kernel
theorem d1100_109 : decode (mb 1100) 109 = .ok (.sipush 6000, 3) := by decide +kernel
theorem d1100_112 : decode (mb 1100) 112 = .ok (.newarray .int, 2) := by decide +kernel
theorem d1100_114 : decode (mb 1100) 114 = .ok (.putfield 49, 3) := by decide +kernel
theorem d1100_117 : decode (mb 1100) 117 = .ok (.aload_n 0, 1) := by decide +kernel
theorem d1100_118 : decode (mb 1100) 118 = .ok (.sipush 6000, 3) := by decide +kernel
theorem d1100_121 : decode (mb 1100) 121 = .ok (.newarray .int, 2) := by decide +kernel
theorem d1100_123 : decode (mb 1100) 123 = .ok (.putfield 52, 3) := by decide +kernel
theorem d1100_126 : decode (mb 1100) 126 = .ok (.aload_n 0, 1) := by decide +kernel
theorem d1100_127 : decode (mb 1100) 127 = .ok (.sipush 6000, 3) := by decide +kernel
theorem d1100_130 : decode (mb 1100) 130 = .ok (.newarray .int, 2) := by decide +kernel
theorem d1100_132 : decode (mb 1100) 132 = .ok (.putfield 55, 3) := by decide +kernel
theorem d1100_135 : decode (mb 1100) 135 = .ok (.aload_n 0, 1) := by decide +kernel
theorem d1100_136 : decode (mb 1100) 136 = .ok (.sipush 6000, 3) := by decide +kernel
theorem d1100_139 : decode (mb 1100) 139 = .ok (.newarray .int, 2) := by decide +kernel
theorem d1100_141 : decode (mb 1100) 141 = .ok (.putfield 58, 3) := by decide +kernel
theorem d1100_144 : decode (mb 1100) 144 = .ok (.aload_n 0, 1) := by decide +kernel
theorem d1100_145 : decode (mb 1100) 145 = .ok (.sipush 6000, 3) := by decide +kernel
theorem d1100_148 : decode (mb 1100) 148 = .ok (.newarray .int, 2) := by decide +kernel
theorem d1100_150 : decode (mb 1100) 150 = .ok (.putfield 61, 3) := by decide +kernel
theorem d1100_153 : decode (mb 1100) 153 = .ok (.aload_n 0, 1) := by decide +kernel
theorem d1100_154 : decode (mb 1100) 154 = .ok (.sipush 6000, 3) := by decide +kernel
theorem d1100_157 : decode (mb 1100) 157 = .ok (.newarray .int, 2) := by decide +kernel
theorem d1100_159 : decode (mb 1100) 159 = .ok (.putfield 64, 3) := by decide +kernel
theorem d1100_162 : decode (mb 1100) 162 = .ok (.aload_n 0, 1) := by decide +kernel
theorem d1100_163 : decode (mb 1100) 163 = .ok (.sipush 6000, 3) := by decide +kernel
theorem d1100_166 : decode (mb 1100) 166 = .ok (.newarray .int, 2) := by decide +kernel
theorem d1100_168 : decode (mb 1100) 168 = .ok (.putfield 67, 3) := by decide +kernel
theorem d1100_171 : decode (mb 1100) 171 = .ok (.aload_n 0, 1) := by decide +kernel
theorem d1100_172 : decode (mb 1100) 172 = .ok (.sipush 6000, 3) := by decide +kernel
theorem d1100_175 : decode (mb 1100) 175 = .ok (.newarray .int, 2) := by decide +kernel
theorem d1100_177 : decode (mb 1100) 177 = .ok (.putfield 70, 3) := by decide +kernel
theorem d1100_180 : decode (mb 1100) 180 = .ok (.aload_n 0, 1) := by decide +kernel
theorem d1100_181 : decode (mb 1100) 181 = .ok (.bipush 12, 2) := by decide +kernel
theorem d1100_183 : decode (mb 1100) 183 = .ok (.newarray .int, 2) := by decide +kernel
theorem d1100_185 : decode (mb 1100) 185 = .ok (.putfield 73, 3) := by decide +kernel
theorem d1100_188 : decode (mb 1100) 188 = .ok (.aload_n 0, 1) := by decide +kernel
theorem d1100_189 : decode (mb 1100) 189 = .ok (.bipush 12, 2) := by decide +kernel
theorem d1100_191 : decode (mb 1100) 191 = .ok (.newarray .int, 2) := by decide +kernel
theorem d1100_193 : decode (mb 1100) 193 = .ok (.putfield 76, 3) := by decide +kernel
theorem d1100_196 : decode (mb 1100) 196 = .ok (.aload_n 0, 1) := by decide +kernel
theorem d1100_197 : decode (mb 1100) 197 = .ok (.bipush 12, 2) := by decide +kernel
theorem d1100_199 : decode (mb 1100) 199 = .ok (.newarray .int, 2) := by decide +kernel
theorem d1100_201 : decode (mb 1100) 201 = .ok (.putfield 79, 3) := by decide +kernel
theorem d1100_204 : decode (mb 1100) 204 = .ok (.aload_n 0, 1) := by decide +kernel
theorem d1100_205 : decode (mb 1100) 205 = .ok (.bipush 96, 2) := by decide +kernel
theorem d1100_207 : decode (mb 1100) 207 = .ok (.newarray .int, 2) := by decide +kernel
theorem d1100_209 : decode (mb 1100) 209 = .ok (.putfield 82, 3) := by decide +kernel
theorem d1100_212 : decode (mb 1100) 212 = .ok (.aload_n 0, 1) := by decide +kernel
theorem d1100_213 : decode (mb 1100) 213 = .ok (.bipush 96, 2) := by decide +kernel
theorem d1100_215 : decode (mb 1100) 215 = .ok (.newarray .int, 2) := by decide +kernel
theorem d1100_217 : decode (mb 1100) 217 = .ok (.putfield 85, 3) := by decide +kernel
theorem d1100_220 : decode (mb 1100) 220 = .ok (.aload_n 0, 1) := by decide +kernel
theorem d1100_221 : decode (mb 1100) 221 = .ok (.bipush 12, 2) := by decide +kernel
theorem d1100_223 : decode (mb 1100) 223 = .ok (.newarray .int, 2) := by decide +kernel
theorem d1100_225 : decode (mb 1100) 225 = .ok (.putfield 88, 3) := by decide +kernel
theorem d1100_228 : decode (mb 1100) 228 = .ok (.aload_n 0, 1) := by decide +kernel
theorem d1100_229 : decode (mb 1100) 229 = .ok (.ldc 91, 2) := by decide +kernel
theorem d1100_231 : decode (mb 1100) 231 = .ok (.newarray .int, 2) := by decide +kernel
theorem d1100_233 : decode (mb 1100) 233 = .ok (.putfield 92, 3) := by decide +kernel
theorem d1100_236 : decode (mb 1100) 236 = .ok (.aload_n 0, 1) := by decide +kernel
theorem d1100_237 : decode (mb 1100) 237 = .ok (.bipush 9, 2) := by decide +kernel
theorem d1100_239 : decode (mb 1100) 239 = .ok (.newarray .int, 2) := by decide +kernel
theorem d1100_241 : decode (mb 1100) 241 = .ok (.putfield 95, 3) := by decide +kernel
theorem d1100_244 : decode (mb 1100) 244 = .ok (.aload_n 0, 1) := by decide +kernel
theorem d1100_245 : decode (mb 1100) 245 = .ok (.bipush 100, 2) := by decide +kernel
theorem d1100_247 : decode (mb 1100) 247 = .ok (.newarray .int, 2) := by decide +kernel
theorem d1100_249 : decode (mb 1100) 249 = .ok (.putfield 98, 3) := by decide +kernel
theorem d1100_252 : decode (mb 1100) 252 = .ok (.aload_n 0, 1) := by decide +kernel
theorem d1100_253 : decode (mb 1100) 253 = .ok (.iconst 5, 1) := by decide +kernel
theorem d1100_254 : decode (mb 1100) 254 = .ok (.newarray .int, 2) := by decide +kernel
theorem d1100_256 : decode (mb 1100) 256 = .ok (.putfield 101, 3) := by decide +kernel
theorem d1100_259 : decode (mb 1100) 259 = .ok (.iconst 0, 1) := by decide +kernel
theorem d1100_260 : decode (mb 1100) 260 = .ok (.istore_n 1, 1) := by decide +kernel
theorem d1100_261 : decode (mb 1100) 261 = .ok (.iload_n 1, 1) := by decide +kernel
theorem d1100_262 : decode (mb 1100) 262 = .ok (.iconst 5, 1) := by decide +kernel
theorem d1100_263 : decode (mb 1100) 263 = .ok (.if_icmp .ge 16, 3) := by decide +kernel
theorem d1100_266 : decode (mb 1100) 266 = .ok (.aload_n 0, 1) := by decide +kernel
theorem d1100_267 : decode (mb 1100) 267 = .ok (.getfield 28, 3) := by decide +kernel
theorem d1100_270 : decode (mb 1100) 270 = .ok (.iload_n 1, 1) := by decide +kernel
theorem d1100_271 : decode (mb 1100) 271 = .ok (.iconst 1, 1) := by decide +kernel
theorem d1100_272 : decode (mb 1100) 272 = .ok (.iastore, 1) := by decide +kernel
theorem d1100_273 : decode (mb 1100) 273 = .ok (.iinc 1 1, 3) := by decide +kernel
theorem d1100_276 : decode (mb 1100) 276 = .ok (.goto (-15), 3) := by decide +kernel
theorem d1100_279 : decode (mb 1100) 279 = .ok (.aload_n 0, 1) := by decide +kernel
theorem d1100_280 : decode (mb 1100) 280 = .ok (.sipush 6000, 3) := by decide +kernel
theorem d1100_283 : decode (mb 1100) 283 = .ok (.putfield 104, 3) := by decide +kernel
theorem d1100_286 : decode (mb 1100) 286 = .ok (.return_, 1) := by decide +kernel
theorem x1100_0 {S : List Value} {h : HP} {l1 : Value} {a0 : Nat} : pX 1100 0 [.ref a0, l1] S h = pX 1100 1 [.ref a0, l1] (.ref a0 :: S) h := pX_stp d1100_0 rfl rfl rfl
theorem x1100_1 {L : List Value} {h : HP} {a0 : Nat} (ha : ¬ a0 = 0) : pX 1100 1 L [.ref a0] h = pX 1100 4 L [] h := pX_oinit d1100_1 rfl (Nat.le_of_ble_eq_true rfl) ha
theorem x1100_4 {S : List Value} {h : HP} {l1 : Value} {a0 : Nat} : pX 1100 4 [.ref a0, l1] S h = pX 1100 5 [.ref a0, l1] (.ref a0 :: S) h := pX_stp d1100_4 rfl rfl rfl
theorem x1100_5 {L S : List Value} {h : HP} : pX 1100 5 L S h = pX 1100 7 L (.int 10 :: S) h := pX_bipush d1100_5 (by decide)
theorem x1100_7 {L S : List Value} {h : HP} {j : Int32} (h0 : 0 ≤ j) (h1 : ix j ≤ 134217728) : pX 1100 7 L (.int j :: S) h = pX 1100 9 L (.ref (hp_n h) :: S) (hp_mk h 100 (ix j) (ix j)) := pX_newa d1100_7 h0 h1
theorem x1100_9 {L S : List Value} {h : HP} {a b : Nat} (hk : hp_k h a = 12) : pX 1100 9 L (.ref b :: .ref a :: S) h = pX 1100 12 L S (hp_wa h a 1 b) := pX_put d1100_9 rfl rfl rfl hk
theorem x1100_12 {S : List Value} {h : HP} {l1 : Value} {a0 : Nat} : pX 1100 12 [.ref a0, l1] S h = pX 1100 13 [.ref a0, l1] (.ref a0 :: S) h := pX_stp d1100_12 rfl rfl rfl
theorem x1100_13 {L S : List Value} {h : HP} : pX 1100 13 L S h = pX 1100 15 L (.int 10 :: S) h := pX_bipush d1100_13 (by decide)
theorem x1100_15 {L S : List Value} {h : HP} {j : Int32} (h0 : 0 ≤ j) (h1 : ix j ≤ 134217728) : pX 1100 15 L (.int j :: S) h = pX 1100 17 L (.ref (hp_n h) :: S) (hp_mk h 100 (ix j) (ix j)) := pX_newa d1100_15 h0 h1
theorem x1100_17 {L S : List Value} {h : HP} {a b : Nat} (hk : hp_k h a = 12) : pX 1100 17 L (.ref b :: .ref a :: S) h = pX 1100 20 L S (hp_wa h a 2 b) := pX_put d1100_17 rfl rfl rfl hk
theorem x1100_20 {S : List Value} {h : HP} {l1 : Value} {a0 : Nat} : pX 1100 20 [.ref a0, l1] S h = pX 1100 21 [.ref a0, l1] (.ref a0 :: S) h := pX_stp d1100_20 rfl rfl rfl
theorem x1100_21 {L S : List Value} {h : HP} : pX 1100 21 L S h = pX 1100 24 L (.int 1600 :: S) h := pX_sipush d1100_21 (by decide)
theorem x1100_24 {L S : List Value} {h : HP} {j : Int32} (h0 : 0 ≤ j) (h1 : ix j ≤ 134217728) : pX 1100 24 L (.int j :: S) h = pX 1100 26 L (.ref (hp_n h) :: S) (hp_mk h 100 (ix j) (ix j)) := pX_newa d1100_24 h0 h1
theorem x1100_26 {L S : List Value} {h : HP} {a b : Nat} (hk : hp_k h a = 12) : pX 1100 26 L (.ref b :: .ref a :: S) h = pX 1100 29 L S (hp_wa h a 3 b) := pX_put d1100_26 rfl rfl rfl hk
theorem x1100_29 {S : List Value} {h : HP} {l1 : Value} {a0 : Nat} : pX 1100 29 [.ref a0, l1] S h = pX 1100 30 [.ref a0, l1] (.ref a0 :: S) h := pX_stp d1100_29 rfl rfl rfl
theorem x1100_30 {L S : List Value} {h : HP} : pX 1100 30 L S h = pX 1100 32 L (.int 10 :: S) h := pX_bipush d1100_30 (by decide)
theorem x1100_32 {L S : List Value} {h : HP} {j : Int32} (h0 : 0 ≤ j) (h1 : ix j ≤ 134217728) : pX 1100 32 L (.int j :: S) h = pX 1100 34 L (.ref (hp_n h) :: S) (hp_mk h 100 (ix j) (ix j)) := pX_newa d1100_32 h0 h1
theorem x1100_34 {L S : List Value} {h : HP} {a b : Nat} (hk : hp_k h a = 12) : pX 1100 34 L (.ref b :: .ref a :: S) h = pX 1100 37 L S (hp_wa h a 4 b) := pX_put d1100_34 rfl rfl rfl hk
theorem x1100_37 {S : List Value} {h : HP} {l1 : Value} {a0 : Nat} : pX 1100 37 [.ref a0, l1] S h = pX 1100 38 [.ref a0, l1] (.ref a0 :: S) h := pX_stp d1100_37 rfl rfl rfl
theorem x1100_38 {L S : List Value} {h : HP} : pX 1100 38 L S h = pX 1100 41 L (.int 240 :: S) h := pX_sipush d1100_38 (by decide)
theorem x1100_41 {L S : List Value} {h : HP} {j : Int32} (h0 : 0 ≤ j) (h1 : ix j ≤ 134217728) : pX 1100 41 L (.int j :: S) h = pX 1100 43 L (.ref (hp_n h) :: S) (hp_mk h 100 (ix j) (ix j)) := pX_newa d1100_41 h0 h1
theorem x1100_43 {L S : List Value} {h : HP} {a b : Nat} (hk : hp_k h a = 12) : pX 1100 43 L (.ref b :: .ref a :: S) h = pX 1100 46 L S (hp_wa h a 5 b) := pX_put d1100_43 rfl rfl rfl hk
theorem x1100_46 {S : List Value} {h : HP} {l1 : Value} {a0 : Nat} : pX 1100 46 [.ref a0, l1] S h = pX 1100 47 [.ref a0, l1] (.ref a0 :: S) h := pX_stp d1100_46 rfl rfl rfl
theorem x1100_47 {L S : List Value} {h : HP} : pX 1100 47 L S h = pX 1100 49 L (.int 10 :: S) h := pX_bipush d1100_47 (by decide)
theorem x1100_49 {L S : List Value} {h : HP} {j : Int32} (h0 : 0 ≤ j) (h1 : ix j ≤ 134217728) : pX 1100 49 L (.int j :: S) h = pX 1100 51 L (.ref (hp_n h) :: S) (hp_mk h 100 (ix j) (ix j)) := pX_newa d1100_49 h0 h1
theorem x1100_51 {L S : List Value} {h : HP} {a b : Nat} (hk : hp_k h a = 12) : pX 1100 51 L (.ref b :: .ref a :: S) h = pX 1100 54 L S (hp_wa h a 6 b) := pX_put d1100_51 rfl rfl rfl hk
theorem x1100_54 {S : List Value} {h : HP} {l1 : Value} {a0 : Nat} : pX 1100 54 [.ref a0, l1] S h = pX 1100 55 [.ref a0, l1] (.ref a0 :: S) h := pX_stp d1100_54 rfl rfl rfl
theorem x1100_55 {L S : List Value} {h : HP} : pX 1100 55 L S h = pX 1100 56 L (.int 5 :: S) h := pX_iconst d1100_55 (by decide)
theorem x1100_56 {L S : List Value} {h : HP} {j : Int32} (h0 : 0 ≤ j) (h1 : ix j ≤ 134217728) : pX 1100 56 L (.int j :: S) h = pX 1100 58 L (.ref (hp_n h) :: S) (hp_mk h 100 (ix j) (ix j)) := pX_newa d1100_56 h0 h1
theorem x1100_58 {L S : List Value} {h : HP} {a b : Nat} (hk : hp_k h a = 12) : pX 1100 58 L (.ref b :: .ref a :: S) h = pX 1100 61 L S (hp_wa h a 7 b) := pX_put d1100_58 rfl rfl rfl hk
theorem x1100_61 {S : List Value} {h : HP} {l1 : Value} {a0 : Nat} : pX 1100 61 [.ref a0, l1] S h = pX 1100 62 [.ref a0, l1] (.ref a0 :: S) h := pX_stp d1100_61 rfl rfl rfl
theorem x1100_62 {L S : List Value} {h : HP} : pX 1100 62 L S h = pX 1100 64 L (.int 41 :: S) h := pX_bipush d1100_62 (by decide)
theorem x1100_64 {L S : List Value} {h : HP} {j : Int32} (h0 : 0 ≤ j) (h1 : ix j ≤ 134217728) : pX 1100 64 L (.int j :: S) h = pX 1100 66 L (.ref (hp_n h) :: S) (hp_mk h 100 (ix j) (ix j)) := pX_newa d1100_64 h0 h1
theorem x1100_66 {L S : List Value} {h : HP} {a b : Nat} (hk : hp_k h a = 12) : pX 1100 66 L (.ref b :: .ref a :: S) h = pX 1100 69 L S (hp_wa h a 9 b) := pX_put d1100_66 rfl rfl rfl hk
theorem x1100_69 {S : List Value} {h : HP} {l1 : Value} {a0 : Nat} : pX 1100 69 [.ref a0, l1] S h = pX 1100 70 [.ref a0, l1] (.ref a0 :: S) h := pX_stp d1100_69 rfl rfl rfl
theorem x1100_70 {L S : List Value} {h : HP} : pX 1100 70 L S h = pX 1100 72 L (.int 12 :: S) h := pX_bipush d1100_70 (by decide)
theorem x1100_72 {L S : List Value} {h : HP} {j : Int32} (h0 : 0 ≤ j) (h1 : ix j ≤ 134217728) : pX 1100 72 L (.int j :: S) h = pX 1100 74 L (.ref (hp_n h) :: S) (hp_mk h 100 (ix j) (ix j)) := pX_newa d1100_72 h0 h1
theorem x1100_74 {L S : List Value} {h : HP} {a b : Nat} (hk : hp_k h a = 12) : pX 1100 74 L (.ref b :: .ref a :: S) h = pX 1100 77 L S (hp_wa h a 11 b) := pX_put d1100_74 rfl rfl rfl hk
theorem x1100_77 {S : List Value} {h : HP} {l1 : Value} {a0 : Nat} : pX 1100 77 [.ref a0, l1] S h = pX 1100 78 [.ref a0, l1] (.ref a0 :: S) h := pX_stp d1100_77 rfl rfl rfl
theorem x1100_78 {L S : List Value} {h : HP} : pX 1100 78 L S h = pX 1100 80 L (.int 12 :: S) h := pX_bipush d1100_78 (by decide)
theorem x1100_80 {L S : List Value} {h : HP} {j : Int32} (h0 : 0 ≤ j) (h1 : ix j ≤ 134217728) : pX 1100 80 L (.int j :: S) h = pX 1100 82 L (.ref (hp_n h) :: S) (hp_mk h 100 (ix j) (ix j)) := pX_newa d1100_80 h0 h1
theorem x1100_82 {L S : List Value} {h : HP} {a b : Nat} (hk : hp_k h a = 12) : pX 1100 82 L (.ref b :: .ref a :: S) h = pX 1100 85 L S (hp_wa h a 12 b) := pX_put d1100_82 rfl rfl rfl hk
theorem x1100_85 {S : List Value} {h : HP} {l1 : Value} {a0 : Nat} : pX 1100 85 [.ref a0, l1] S h = pX 1100 86 [.ref a0, l1] (.ref a0 :: S) h := pX_stp d1100_85 rfl rfl rfl
theorem x1100_86 {L S : List Value} {h : HP} : pX 1100 86 L S h = pX 1100 87 L (.int 3 :: S) h := pX_iconst d1100_86 (by decide)
theorem x1100_87 {L S : List Value} {h : HP} {j : Int32} (h0 : 0 ≤ j) (h1 : ix j ≤ 134217728) : pX 1100 87 L (.int j :: S) h = pX 1100 89 L (.ref (hp_n h) :: S) (hp_mk h 100 (ix j) (ix j)) := pX_newa d1100_87 h0 h1
theorem x1100_89 {L S : List Value} {h : HP} {a b : Nat} (hk : hp_k h a = 12) : pX 1100 89 L (.ref b :: .ref a :: S) h = pX 1100 92 L S (hp_wa h a 13 b) := pX_put d1100_89 rfl rfl rfl hk
theorem x1100_92 {S : List Value} {h : HP} {l1 : Value} {a0 : Nat} : pX 1100 92 [.ref a0, l1] S h = pX 1100 93 [.ref a0, l1] (.ref a0 :: S) h := pX_stp d1100_92 rfl rfl rfl
theorem x1100_93 {L S : List Value} {h : HP} : pX 1100 93 L S h = pX 1100 94 L (.int 3 :: S) h := pX_iconst d1100_93 (by decide)
theorem x1100_94 {L S : List Value} {h : HP} {j : Int32} (h0 : 0 ≤ j) (h1 : ix j ≤ 134217728) : pX 1100 94 L (.int j :: S) h = pX 1100 96 L (.ref (hp_n h) :: S) (hp_mk h 100 (ix j) (ix j)) := pX_newa d1100_94 h0 h1
theorem x1100_96 {L S : List Value} {h : HP} {a b : Nat} (hk : hp_k h a = 12) : pX 1100 96 L (.ref b :: .ref a :: S) h = pX 1100 99 L S (hp_wa h a 14 b) := pX_put d1100_96 rfl rfl rfl hk
theorem x1100_99 {S : List Value} {h : HP} {l1 : Value} {a0 : Nat} : pX 1100 99 [.ref a0, l1] S h = pX 1100 100 [.ref a0, l1] (.ref a0 :: S) h := pX_stp d1100_99 rfl rfl rfl
theorem x1100_100 {L S : List Value} {h : HP} : pX 1100 100 L S h = pX 1100 103 L (.int 6000 :: S) h := pX_sipush d1100_100 (by decide)
theorem x1100_103 {L S : List Value} {h : HP} {j : Int32} (h0 : 0 ≤ j) (h1 : ix j ≤ 134217728) : pX 1100 103 L (.int j :: S) h = pX 1100 105 L (.ref (hp_n h) :: S) (hp_mk h 100 (ix j) (ix j)) := pX_newa d1100_103 h0 h1
theorem x1100_105 {L S : List Value} {h : HP} {a b : Nat} (hk : hp_k h a = 12) : pX 1100 105 L (.ref b :: .ref a :: S) h = pX 1100 108 L S (hp_wa h a 18 b) := pX_put d1100_105 rfl rfl rfl hk
theorem x1100_108 {S : List Value} {h : HP} {l1 : Value} {a0 : Nat} : pX 1100 108 [.ref a0, l1] S h = pX 1100 109 [.ref a0, l1] (.ref a0 :: S) h := pX_stp d1100_108 rfl rfl rfl
theorem x1100_109 {L S : List Value} {h : HP} : pX 1100 109 L S h = pX 1100 112 L (.int 6000 :: S) h := pX_sipush d1100_109 (by decide)
theorem x1100_112 {L S : List Value} {h : HP} {j : Int32} (h0 : 0 ≤ j) (h1 : ix j ≤ 134217728) : pX 1100 112 L (.int j :: S) h = pX 1100 114 L (.ref (hp_n h) :: S) (hp_mk h 100 (ix j) (ix j)) := pX_newa d1100_112 h0 h1
theorem x1100_114 {L S : List Value} {h : HP} {a b : Nat} (hk : hp_k h a = 12) : pX 1100 114 L (.ref b :: .ref a :: S) h = pX 1100 117 L S (hp_wa h a 19 b) := pX_put d1100_114 rfl rfl rfl hk
theorem x1100_117 {S : List Value} {h : HP} {l1 : Value} {a0 : Nat} : pX 1100 117 [.ref a0, l1] S h = pX 1100 118 [.ref a0, l1] (.ref a0 :: S) h := pX_stp d1100_117 rfl rfl rfl
theorem x1100_118 {L S : List Value} {h : HP} : pX 1100 118 L S h = pX 1100 121 L (.int 6000 :: S) h := pX_sipush d1100_118 (by decide)
theorem x1100_121 {L S : List Value} {h : HP} {j : Int32} (h0 : 0 ≤ j) (h1 : ix j ≤ 134217728) : pX 1100 121 L (.int j :: S) h = pX 1100 123 L (.ref (hp_n h) :: S) (hp_mk h 100 (ix j) (ix j)) := pX_newa d1100_121 h0 h1
theorem x1100_123 {L S : List Value} {h : HP} {a b : Nat} (hk : hp_k h a = 12) : pX 1100 123 L (.ref b :: .ref a :: S) h = pX 1100 126 L S (hp_wa h a 20 b) := pX_put d1100_123 rfl rfl rfl hk
theorem x1100_126 {S : List Value} {h : HP} {l1 : Value} {a0 : Nat} : pX 1100 126 [.ref a0, l1] S h = pX 1100 127 [.ref a0, l1] (.ref a0 :: S) h := pX_stp d1100_126 rfl rfl rfl
theorem x1100_127 {L S : List Value} {h : HP} : pX 1100 127 L S h = pX 1100 130 L (.int 6000 :: S) h := pX_sipush d1100_127 (by decide)
theorem x1100_130 {L S : List Value} {h : HP} {j : Int32} (h0 : 0 ≤ j) (h1 : ix j ≤ 134217728) : pX 1100 130 L (.int j :: S) h = pX 1100 132 L (.ref (hp_n h) :: S) (hp_mk h 100 (ix j) (ix j)) := pX_newa d1100_130 h0 h1
theorem x1100_132 {L S : List Value} {h : HP} {a b : Nat} (hk : hp_k h a = 12) : pX 1100 132 L (.ref b :: .ref a :: S) h = pX 1100 135 L S (hp_wa h a 21 b) := pX_put d1100_132 rfl rfl rfl hk
theorem x1100_135 {S : List Value} {h : HP} {l1 : Value} {a0 : Nat} : pX 1100 135 [.ref a0, l1] S h = pX 1100 136 [.ref a0, l1] (.ref a0 :: S) h := pX_stp d1100_135 rfl rfl rfl
theorem x1100_136 {L S : List Value} {h : HP} : pX 1100 136 L S h = pX 1100 139 L (.int 6000 :: S) h := pX_sipush d1100_136 (by decide)
theorem x1100_139 {L S : List Value} {h : HP} {j : Int32} (h0 : 0 ≤ j) (h1 : ix j ≤ 134217728) : pX 1100 139 L (.int j :: S) h = pX 1100 141 L (.ref (hp_n h) :: S) (hp_mk h 100 (ix j) (ix j)) := pX_newa d1100_139 h0 h1
theorem x1100_141 {L S : List Value} {h : HP} {a b : Nat} (hk : hp_k h a = 12) : pX 1100 141 L (.ref b :: .ref a :: S) h = pX 1100 144 L S (hp_wa h a 22 b) := pX_put d1100_141 rfl rfl rfl hk
theorem x1100_144 {S : List Value} {h : HP} {l1 : Value} {a0 : Nat} : pX 1100 144 [.ref a0, l1] S h = pX 1100 145 [.ref a0, l1] (.ref a0 :: S) h := pX_stp d1100_144 rfl rfl rfl
theorem x1100_145 {L S : List Value} {h : HP} : pX 1100 145 L S h = pX 1100 148 L (.int 6000 :: S) h := pX_sipush d1100_145 (by decide)
theorem x1100_148 {L S : List Value} {h : HP} {j : Int32} (h0 : 0 ≤ j) (h1 : ix j ≤ 134217728) : pX 1100 148 L (.int j :: S) h = pX 1100 150 L (.ref (hp_n h) :: S) (hp_mk h 100 (ix j) (ix j)) := pX_newa d1100_148 h0 h1
theorem x1100_150 {L S : List Value} {h : HP} {a b : Nat} (hk : hp_k h a = 12) : pX 1100 150 L (.ref b :: .ref a :: S) h = pX 1100 153 L S (hp_wa h a 24 b) := pX_put d1100_150 rfl rfl rfl hk
theorem x1100_153 {S : List Value} {h : HP} {l1 : Value} {a0 : Nat} : pX 1100 153 [.ref a0, l1] S h = pX 1100 154 [.ref a0, l1] (.ref a0 :: S) h := pX_stp d1100_153 rfl rfl rfl
theorem x1100_154 {L S : List Value} {h : HP} : pX 1100 154 L S h = pX 1100 157 L (.int 6000 :: S) h := pX_sipush d1100_154 (by decide)
theorem x1100_157 {L S : List Value} {h : HP} {j : Int32} (h0 : 0 ≤ j) (h1 : ix j ≤ 134217728) : pX 1100 157 L (.int j :: S) h = pX 1100 159 L (.ref (hp_n h) :: S) (hp_mk h 100 (ix j) (ix j)) := pX_newa d1100_157 h0 h1
theorem x1100_159 {L S : List Value} {h : HP} {a b : Nat} (hk : hp_k h a = 12) : pX 1100 159 L (.ref b :: .ref a :: S) h = pX 1100 162 L S (hp_wa h a 25 b) := pX_put d1100_159 rfl rfl rfl hk
theorem x1100_162 {S : List Value} {h : HP} {l1 : Value} {a0 : Nat} : pX 1100 162 [.ref a0, l1] S h = pX 1100 163 [.ref a0, l1] (.ref a0 :: S) h := pX_stp d1100_162 rfl rfl rfl
theorem x1100_163 {L S : List Value} {h : HP} : pX 1100 163 L S h = pX 1100 166 L (.int 6000 :: S) h := pX_sipush d1100_163 (by decide)
theorem x1100_166 {L S : List Value} {h : HP} {j : Int32} (h0 : 0 ≤ j) (h1 : ix j ≤ 134217728) : pX 1100 166 L (.int j :: S) h = pX 1100 168 L (.ref (hp_n h) :: S) (hp_mk h 100 (ix j) (ix j)) := pX_newa d1100_166 h0 h1
theorem x1100_168 {L S : List Value} {h : HP} {a b : Nat} (hk : hp_k h a = 12) : pX 1100 168 L (.ref b :: .ref a :: S) h = pX 1100 171 L S (hp_wa h a 26 b) := pX_put d1100_168 rfl rfl rfl hk
theorem x1100_171 {S : List Value} {h : HP} {l1 : Value} {a0 : Nat} : pX 1100 171 [.ref a0, l1] S h = pX 1100 172 [.ref a0, l1] (.ref a0 :: S) h := pX_stp d1100_171 rfl rfl rfl
theorem x1100_172 {L S : List Value} {h : HP} : pX 1100 172 L S h = pX 1100 175 L (.int 6000 :: S) h := pX_sipush d1100_172 (by decide)
theorem x1100_175 {L S : List Value} {h : HP} {j : Int32} (h0 : 0 ≤ j) (h1 : ix j ≤ 134217728) : pX 1100 175 L (.int j :: S) h = pX 1100 177 L (.ref (hp_n h) :: S) (hp_mk h 100 (ix j) (ix j)) := pX_newa d1100_175 h0 h1
theorem x1100_177 {L S : List Value} {h : HP} {a b : Nat} (hk : hp_k h a = 12) : pX 1100 177 L (.ref b :: .ref a :: S) h = pX 1100 180 L S (hp_wa h a 27 b) := pX_put d1100_177 rfl rfl rfl hk
theorem x1100_180 {S : List Value} {h : HP} {l1 : Value} {a0 : Nat} : pX 1100 180 [.ref a0, l1] S h = pX 1100 181 [.ref a0, l1] (.ref a0 :: S) h := pX_stp d1100_180 rfl rfl rfl
theorem x1100_181 {L S : List Value} {h : HP} : pX 1100 181 L S h = pX 1100 183 L (.int 12 :: S) h := pX_bipush d1100_181 (by decide)
theorem x1100_183 {L S : List Value} {h : HP} {j : Int32} (h0 : 0 ≤ j) (h1 : ix j ≤ 134217728) : pX 1100 183 L (.int j :: S) h = pX 1100 185 L (.ref (hp_n h) :: S) (hp_mk h 100 (ix j) (ix j)) := pX_newa d1100_183 h0 h1
theorem x1100_185 {L S : List Value} {h : HP} {a b : Nat} (hk : hp_k h a = 12) : pX 1100 185 L (.ref b :: .ref a :: S) h = pX 1100 188 L S (hp_wa h a 30 b) := pX_put d1100_185 rfl rfl rfl hk
theorem x1100_188 {S : List Value} {h : HP} {l1 : Value} {a0 : Nat} : pX 1100 188 [.ref a0, l1] S h = pX 1100 189 [.ref a0, l1] (.ref a0 :: S) h := pX_stp d1100_188 rfl rfl rfl
theorem x1100_189 {L S : List Value} {h : HP} : pX 1100 189 L S h = pX 1100 191 L (.int 12 :: S) h := pX_bipush d1100_189 (by decide)
theorem x1100_191 {L S : List Value} {h : HP} {j : Int32} (h0 : 0 ≤ j) (h1 : ix j ≤ 134217728) : pX 1100 191 L (.int j :: S) h = pX 1100 193 L (.ref (hp_n h) :: S) (hp_mk h 100 (ix j) (ix j)) := pX_newa d1100_191 h0 h1
theorem x1100_193 {L S : List Value} {h : HP} {a b : Nat} (hk : hp_k h a = 12) : pX 1100 193 L (.ref b :: .ref a :: S) h = pX 1100 196 L S (hp_wa h a 31 b) := pX_put d1100_193 rfl rfl rfl hk
theorem x1100_196 {S : List Value} {h : HP} {l1 : Value} {a0 : Nat} : pX 1100 196 [.ref a0, l1] S h = pX 1100 197 [.ref a0, l1] (.ref a0 :: S) h := pX_stp d1100_196 rfl rfl rfl
theorem x1100_197 {L S : List Value} {h : HP} : pX 1100 197 L S h = pX 1100 199 L (.int 12 :: S) h := pX_bipush d1100_197 (by decide)
theorem x1100_199 {L S : List Value} {h : HP} {j : Int32} (h0 : 0 ≤ j) (h1 : ix j ≤ 134217728) : pX 1100 199 L (.int j :: S) h = pX 1100 201 L (.ref (hp_n h) :: S) (hp_mk h 100 (ix j) (ix j)) := pX_newa d1100_199 h0 h1
theorem x1100_201 {L S : List Value} {h : HP} {a b : Nat} (hk : hp_k h a = 12) : pX 1100 201 L (.ref b :: .ref a :: S) h = pX 1100 204 L S (hp_wa h a 32 b) := pX_put d1100_201 rfl rfl rfl hk
theorem x1100_204 {S : List Value} {h : HP} {l1 : Value} {a0 : Nat} : pX 1100 204 [.ref a0, l1] S h = pX 1100 205 [.ref a0, l1] (.ref a0 :: S) h := pX_stp d1100_204 rfl rfl rfl
theorem x1100_205 {L S : List Value} {h : HP} : pX 1100 205 L S h = pX 1100 207 L (.int 96 :: S) h := pX_bipush d1100_205 (by decide)
theorem x1100_207 {L S : List Value} {h : HP} {j : Int32} (h0 : 0 ≤ j) (h1 : ix j ≤ 134217728) : pX 1100 207 L (.int j :: S) h = pX 1100 209 L (.ref (hp_n h) :: S) (hp_mk h 100 (ix j) (ix j)) := pX_newa d1100_207 h0 h1
theorem x1100_209 {L S : List Value} {h : HP} {a b : Nat} (hk : hp_k h a = 12) : pX 1100 209 L (.ref b :: .ref a :: S) h = pX 1100 212 L S (hp_wa h a 33 b) := pX_put d1100_209 rfl rfl rfl hk
theorem x1100_212 {S : List Value} {h : HP} {l1 : Value} {a0 : Nat} : pX 1100 212 [.ref a0, l1] S h = pX 1100 213 [.ref a0, l1] (.ref a0 :: S) h := pX_stp d1100_212 rfl rfl rfl
theorem x1100_213 {L S : List Value} {h : HP} : pX 1100 213 L S h = pX 1100 215 L (.int 96 :: S) h := pX_bipush d1100_213 (by decide)
theorem x1100_215 {L S : List Value} {h : HP} {j : Int32} (h0 : 0 ≤ j) (h1 : ix j ≤ 134217728) : pX 1100 215 L (.int j :: S) h = pX 1100 217 L (.ref (hp_n h) :: S) (hp_mk h 100 (ix j) (ix j)) := pX_newa d1100_215 h0 h1
theorem x1100_217 {L S : List Value} {h : HP} {a b : Nat} (hk : hp_k h a = 12) : pX 1100 217 L (.ref b :: .ref a :: S) h = pX 1100 220 L S (hp_wa h a 34 b) := pX_put d1100_217 rfl rfl rfl hk
theorem x1100_220 {S : List Value} {h : HP} {l1 : Value} {a0 : Nat} : pX 1100 220 [.ref a0, l1] S h = pX 1100 221 [.ref a0, l1] (.ref a0 :: S) h := pX_stp d1100_220 rfl rfl rfl
theorem x1100_221 {L S : List Value} {h : HP} : pX 1100 221 L S h = pX 1100 223 L (.int 12 :: S) h := pX_bipush d1100_221 (by decide)
theorem x1100_223 {L S : List Value} {h : HP} {j : Int32} (h0 : 0 ≤ j) (h1 : ix j ≤ 134217728) : pX 1100 223 L (.int j :: S) h = pX 1100 225 L (.ref (hp_n h) :: S) (hp_mk h 100 (ix j) (ix j)) := pX_newa d1100_223 h0 h1
theorem x1100_225 {L S : List Value} {h : HP} {a b : Nat} (hk : hp_k h a = 12) : pX 1100 225 L (.ref b :: .ref a :: S) h = pX 1100 228 L S (hp_wa h a 35 b) := pX_put d1100_225 rfl rfl rfl hk
theorem x1100_228 {S : List Value} {h : HP} {l1 : Value} {a0 : Nat} : pX 1100 228 [.ref a0, l1] S h = pX 1100 229 [.ref a0, l1] (.ref a0 :: S) h := pX_stp d1100_228 rfl rfl rfl
theorem x1100_229 {L S : List Value} {h : HP} : pX 1100 229 L S h = pX 1100 231 L (.int 72000 :: S) h := pX_ldc d1100_229 rfl
theorem x1100_231 {L S : List Value} {h : HP} {j : Int32} (h0 : 0 ≤ j) (h1 : ix j ≤ 134217728) : pX 1100 231 L (.int j :: S) h = pX 1100 233 L (.ref (hp_n h) :: S) (hp_mk h 100 (ix j) (ix j)) := pX_newa d1100_231 h0 h1
theorem x1100_233 {L S : List Value} {h : HP} {a b : Nat} (hk : hp_k h a = 12) : pX 1100 233 L (.ref b :: .ref a :: S) h = pX 1100 236 L S (hp_wa h a 36 b) := pX_put d1100_233 rfl rfl rfl hk
theorem x1100_236 {S : List Value} {h : HP} {l1 : Value} {a0 : Nat} : pX 1100 236 [.ref a0, l1] S h = pX 1100 237 [.ref a0, l1] (.ref a0 :: S) h := pX_stp d1100_236 rfl rfl rfl
theorem x1100_237 {L S : List Value} {h : HP} : pX 1100 237 L S h = pX 1100 239 L (.int 9 :: S) h := pX_bipush d1100_237 (by decide)
theorem x1100_239 {L S : List Value} {h : HP} {j : Int32} (h0 : 0 ≤ j) (h1 : ix j ≤ 134217728) : pX 1100 239 L (.int j :: S) h = pX 1100 241 L (.ref (hp_n h) :: S) (hp_mk h 100 (ix j) (ix j)) := pX_newa d1100_239 h0 h1
theorem x1100_241 {L S : List Value} {h : HP} {a b : Nat} (hk : hp_k h a = 12) : pX 1100 241 L (.ref b :: .ref a :: S) h = pX 1100 244 L S (hp_wa h a 39 b) := pX_put d1100_241 rfl rfl rfl hk
theorem x1100_244 {S : List Value} {h : HP} {l1 : Value} {a0 : Nat} : pX 1100 244 [.ref a0, l1] S h = pX 1100 245 [.ref a0, l1] (.ref a0 :: S) h := pX_stp d1100_244 rfl rfl rfl
theorem x1100_245 {L S : List Value} {h : HP} : pX 1100 245 L S h = pX 1100 247 L (.int 100 :: S) h := pX_bipush d1100_245 (by decide)
theorem x1100_247 {L S : List Value} {h : HP} {j : Int32} (h0 : 0 ≤ j) (h1 : ix j ≤ 134217728) : pX 1100 247 L (.int j :: S) h = pX 1100 249 L (.ref (hp_n h) :: S) (hp_mk h 100 (ix j) (ix j)) := pX_newa d1100_247 h0 h1
theorem x1100_249 {L S : List Value} {h : HP} {a b : Nat} (hk : hp_k h a = 12) : pX 1100 249 L (.ref b :: .ref a :: S) h = pX 1100 252 L S (hp_wa h a 40 b) := pX_put d1100_249 rfl rfl rfl hk
theorem x1100_252 {S : List Value} {h : HP} {l1 : Value} {a0 : Nat} : pX 1100 252 [.ref a0, l1] S h = pX 1100 253 [.ref a0, l1] (.ref a0 :: S) h := pX_stp d1100_252 rfl rfl rfl
theorem x1100_253 {L S : List Value} {h : HP} : pX 1100 253 L S h = pX 1100 254 L (.int 5 :: S) h := pX_iconst d1100_253 (by decide)
theorem x1100_254 {L S : List Value} {h : HP} {j : Int32} (h0 : 0 ≤ j) (h1 : ix j ≤ 134217728) : pX 1100 254 L (.int j :: S) h = pX 1100 256 L (.ref (hp_n h) :: S) (hp_mk h 100 (ix j) (ix j)) := pX_newa d1100_254 h0 h1
theorem x1100_256 {L S : List Value} {h : HP} {a b : Nat} (hk : hp_k h a = 12) : pX 1100 256 L (.ref b :: .ref a :: S) h = pX 1100 259 L S (hp_wa h a 43 b) := pX_put d1100_256 rfl rfl rfl hk
theorem x1100_259 {L S : List Value} {h : HP} : pX 1100 259 L S h = pX 1100 260 L (.int 0 :: S) h := pX_iconst d1100_259 (by decide)
theorem x1100_260 {S : List Value} {h : HP} {l0 l1 : Value} {x0 : Int32} : pX 1100 260 [l0, l1] (.int x0 :: S) h = pX 1100 261 [l0, .int x0] S h := pX_stp d1100_260 rfl rfl rfl
theorem x1100_261 {S : List Value} {h : HP} {l0 : Value} {x0 : Int32} : pX 1100 261 [l0, .int x0] S h = pX 1100 262 [l0, .int x0] (.int x0 :: S) h := pX_stp d1100_261 rfl rfl rfl
theorem x1100_262 {L S : List Value} {h : HP} : pX 1100 262 L S h = pX 1100 263 L (.int 5 :: S) h := pX_iconst d1100_262 (by decide)
theorem x1100_263 {L S : List Value} {h : HP} {x y : Int32} : pX 1100 263 L (.int y :: .int x :: S) h = if y ≤ x then pX 1100 279 L S h else pX 1100 266 L S h := pX_icmp_ge d1100_263 (by decide)
theorem x1100_266 {S : List Value} {h : HP} {l1 : Value} {a0 : Nat} : pX 1100 266 [.ref a0, l1] S h = pX 1100 267 [.ref a0, l1] (.ref a0 :: S) h := pX_stp d1100_266 rfl rfl rfl
theorem x1100_267 {L S : List Value} {h : HP} {a : Nat} (hk : hp_k h a = 12) : pX 1100 267 L (.ref a :: S) h = pX 1100 270 L (.ref (hp_a h a 7) :: S) h := pX_get d1100_267 rfl rfl hk
theorem x1100_270 {S : List Value} {h : HP} {l0 : Value} {x0 : Int32} : pX 1100 270 [l0, .int x0] S h = pX 1100 271 [l0, .int x0] (.int x0 :: S) h := pX_stp d1100_270 rfl rfl rfl
theorem x1100_271 {L S : List Value} {h : HP} : pX 1100 271 L S h = pX 1100 272 L (.int 1 :: S) h := pX_iconst d1100_271 (by decide)
theorem x1100_272 {L S : List Value} {h : HP} {a : Nat} {j x : Int32} (hk : hp_k h a = 100) (hj : inb j (hp_l h a) = true) : pX 1100 272 L (.int x :: .int j :: .ref a :: S) h = pX 1100 273 L S (hp_wi h a (ix j) x) := pX_ist d1100_272 hk hj
theorem x1100_273 {S : List Value} {h : HP} {x0 : Int32} {l0 : Value} : pX 1100 273 [l0, .int x0] S h = pX 1100 276 [l0, .int (x0 + 1)] S h := pX_iinc (x := x0) d1100_273 (by decide) rfl (Nat.le_of_ble_eq_true rfl) rfl rfl
theorem x1100_276 {L S : List Value} {h : HP} : pX 1100 276 L S h = pX 1100 261 L S h := pX_goto d1100_276 (by decide)
theorem x1100_279 {S : List Value} {h : HP} {l1 : Value} {a0 : Nat} : pX 1100 279 [.ref a0, l1] S h = pX 1100 280 [.ref a0, l1] (.ref a0 :: S) h := pX_stp d1100_279 rfl rfl rfl
theorem x1100_280 {L S : List Value} {h : HP} : pX 1100 280 L S h = pX 1100 283 L (.int 6000 :: S) h := pX_sipush d1100_280 (by decide)
theorem x1100_283 {L S : List Value} {h : HP} {a : Nat} {x : Int32} (hk : hp_k h a = 12) : pX 1100 283 L (.int x :: .ref a :: S) h = pX 1100 286 L S (hp_wi h a 38 x) := pX_put d1100_283 rfl rfl rfl hk
theorem x1100_286 {L : List Value} {h : HP} : pX 1100 286 L [] h = some (none, h) := pX_ret d1100_286 rfl
theorem d1101_0 : decode (mb 1101) 0 = .ok (.iload_n 0, 1) := by decide +kernel
theorem d1101_1 : decode (mb 1101) 1 = .ok (.iload_n 1, 1) := by decide +kernel
theorem d1101_2 : decode (mb 1101) 2 = .ok (.if_icmp .lt 12, 3) := by decide +kernel
theorem d1101_5 : decode (mb 1101) 5 = .ok (.iload_n 0, 1) := by decide +kernel
theorem d1101_6 : decode (mb 1101) 6 = .ok (.iload_n 2, 1) := by decide +kernel
theorem d1101_7 : decode (mb 1101) 7 = .ok (.if_icmp .gt 7, 3) := by decide +kernel
theorem d1101_10 : decode (mb 1101) 10 = .ok (.iconst 1, 1) := by decide +kernel
theorem d1101_11 : decode (mb 1101) 11 = .ok (.goto 4, 3) := by decide +kernel
theorem d1101_14 : decode (mb 1101) 14 = .ok (.iconst 0, 1) := by decide +kernel
theorem d1101_15 : decode (mb 1101) 15 = .ok (.ireturn, 1) := by decide +kernel
theorem x1101_0 {S : List Value} {h : HP} {l1 l2 : Value} {x0 : Int32} : pX 1101 0 [.int x0, l1, l2] S h = pX 1101 1 [.int x0, l1, l2] (.int x0 :: S) h := pX_stp d1101_0 rfl rfl rfl
theorem x1101_1 {S : List Value} {h : HP} {l0 l2 : Value} {x0 : Int32} : pX 1101 1 [l0, .int x0, l2] S h = pX 1101 2 [l0, .int x0, l2] (.int x0 :: S) h := pX_stp d1101_1 rfl rfl rfl
theorem x1101_2 {L S : List Value} {h : HP} {x y : Int32} : pX 1101 2 L (.int y :: .int x :: S) h = if x < y then pX 1101 14 L S h else pX 1101 5 L S h := pX_icmp_lt d1101_2 (by decide)
theorem x1101_5 {S : List Value} {h : HP} {l1 l2 : Value} {x0 : Int32} : pX 1101 5 [.int x0, l1, l2] S h = pX 1101 6 [.int x0, l1, l2] (.int x0 :: S) h := pX_stp d1101_5 rfl rfl rfl
theorem x1101_6 {S : List Value} {h : HP} {l0 l1 : Value} {x0 : Int32} : pX 1101 6 [l0, l1, .int x0] S h = pX 1101 7 [l0, l1, .int x0] (.int x0 :: S) h := pX_stp d1101_6 rfl rfl rfl
theorem x1101_7 {L S : List Value} {h : HP} {x y : Int32} : pX 1101 7 L (.int y :: .int x :: S) h = if y < x then pX 1101 14 L S h else pX 1101 10 L S h := pX_icmp_gt d1101_7 (by decide)
theorem x1101_10 {L S : List Value} {h : HP} : pX 1101 10 L S h = pX 1101 11 L (.int 1 :: S) h := pX_iconst d1101_10 (by decide)
theorem x1101_11 {L S : List Value} {h : HP} : pX 1101 11 L S h = pX 1101 15 L S h := pX_goto d1101_11 (by decide)
theorem x1101_14 {L S : List Value} {h : HP} : pX 1101 14 L S h = pX 1101 15 L (.int 0 :: S) h := pX_iconst d1101_14 (by decide)
theorem x1101_15 {L : List Value} {h : HP} {x : Int32} (hx : x = 0 ∨ x = 1) : pX 1101 15 L [.int x] h = some (some (.int x), h) := pX_ret d1101_15 (by rcases hx with rfl | rfl <;> rfl)
theorem d1102_0 : decode (mb 1102) 0 = .ok (.iload_n 1, 1) := by decide +kernel
theorem d1102_1 : decode (mb 1102) 1 = .ok (.iconst 0, 1) := by decide +kernel
theorem d1102_2 : decode (mb 1102) 2 = .ok (.aload_n 0, 1) := by decide +kernel
theorem d1102_3 : decode (mb 1102) 3 = .ok (.getfield 108, 3) := by decide +kernel
theorem d1102_6 : decode (mb 1102) 6 = .ok (.iconst 1, 1) := by decide +kernel
theorem d1102_7 : decode (mb 1102) 7 = .ok (.isub, 1) := by decide +kernel
theorem d1102_8 : decode (mb 1102) 8 = .ok (.invokestatic 111, 3) := by decide +kernel
theorem d1102_11 : decode (mb 1102) 11 = .ok (.ireturn, 1) := by decide +kernel
theorem x1102_0 {S : List Value} {h : HP} {l0 : Value} {x0 : Int32} : pX 1102 0 [l0, .int x0] S h = pX 1102 1 [l0, .int x0] (.int x0 :: S) h := pX_stp d1102_0 rfl rfl rfl
theorem x1102_1 {L S : List Value} {h : HP} : pX 1102 1 L S h = pX 1102 2 L (.int 0 :: S) h := pX_iconst d1102_1 (by decide)
theorem x1102_2 {S : List Value} {h : HP} {l1 : Value} {a0 : Nat} : pX 1102 2 [.ref a0, l1] S h = pX 1102 3 [.ref a0, l1] (.ref a0 :: S) h := pX_stp d1102_2 rfl rfl rfl
theorem x1102_3 {L S : List Value} {h : HP} {a : Nat} (hk : hp_k h a = 12) : pX 1102 3 L (.ref a :: S) h = pX 1102 6 L (.int (hp_i h a 0) :: S) h := pX_get d1102_3 rfl rfl hk
theorem x1102_6 {L S : List Value} {h : HP} : pX 1102 6 L S h = pX 1102 7 L (.int 1 :: S) h := pX_iconst d1102_6 (by decide)
theorem x1102_7 {L S : List Value} {h : HP} {x y : Int32} : pX 1102 7 L (.int y :: .int x :: S) h = pX 1102 8 L (.int (x - y) :: S) h := pX_stp d1102_7 rfl rfl rfl
theorem x1102_8 {L : List Value} {h : HP} {x0 : Int32} {x1 : Int32} {x2 : Int32} : pX 1102 8 L [.int x0, .int x1, .int x2] h = (pX 1101 0 [.int x2, .int x1, .int x0] [] h).bind (fun q => pX 1102 11 L (q.1.toList ++ []) q.2) := pX_ins 1101 [.int x2, .int x1, .int x0] [] d1102_8 rfl rfl rfl
theorem x1102_11 {L : List Value} {h : HP} {x : Int32} (hx : x = 0 ∨ x = 1) : pX 1102 11 L [.int x] h = some (some (.int x), h) := pX_ret d1102_11 (by rcases hx with rfl | rfl <;> rfl)
theorem d1103_0 : decode (mb 1103) 0 = .ok (.iload_n 1, 1) := by decide +kernel
theorem d1103_1 : decode (mb 1103) 1 = .ok (.iconst 0, 1) := by decide +kernel
theorem d1103_2 : decode (mb 1103) 2 = .ok (.iconst 3, 1) := by decide +kernel
theorem d1103_3 : decode (mb 1103) 3 = .ok (.invokestatic 111, 3) := by decide +kernel
theorem d1103_6 : decode (mb 1103) 6 = .ok (.ifCond .ne 6, 3) := by decide +kernel
theorem d1103_9 : decode (mb 1103) 9 = .ok (.bipush (-2), 2) := by decide +kernel
theorem d1103_11 : decode (mb 1103) 11 = .ok (.ireturn, 1) := by decide +kernel
theorem d1103_12 : decode (mb 1103) 12 = .ok (.aload_n 0, 1) := by decide +kernel
theorem d1103_13 : decode (mb 1103) 13 = .ok (.getfield 115, 3) := by decide +kernel
theorem d1103_16 : decode (mb 1103) 16 = .ok (.ifCond .eq 6, 3) := by decide +kernel
theorem d1103_19 : decode (mb 1103) 19 = .ok (.bipush (-3), 2) := by decide +kernel
theorem d1103_21 : decode (mb 1103) 21 = .ok (.ireturn, 1) := by decide +kernel
theorem d1103_22 : decode (mb 1103) 22 = .ok (.aload_n 0, 1) := by decide +kernel
theorem d1103_23 : decode (mb 1103) 23 = .ok (.getfield 108, 3) := by decide +kernel
theorem d1103_26 : decode (mb 1103) 26 = .ok (.bipush 10, 2) := by decide +kernel
theorem d1103_28 : decode (mb 1103) 28 = .ok (.if_icmp .ne 6, 3) := by decide +kernel
theorem d1103_31 : decode (mb 1103) 31 = .ok (.bipush (-4), 2) := by decide +kernel
theorem d1103_33 : decode (mb 1103) 33 = .ok (.ireturn, 1) := by decide +kernel
theorem d1103_34 : decode (mb 1103) 34 = .ok (.aload_n 0, 1) := by decide +kernel
theorem d1103_35 : decode (mb 1103) 35 = .ok (.getfield 7, 3) := by decide +kernel
theorem d1103_38 : decode (mb 1103) 38 = .ok (.aload_n 0, 1) := by decide +kernel
theorem d1103_39 : decode (mb 1103) 39 = .ok (.getfield 108, 3) := by decide +kernel
theorem d1103_42 : decode (mb 1103) 42 = .ok (.iload_n 1, 1) := by decide +kernel
theorem d1103_43 : decode (mb 1103) 43 = .ok (.iastore, 1) := by decide +kernel
theorem d1103_44 : decode (mb 1103) 44 = .ok (.aload_n 0, 1) := by decide +kernel
theorem d1103_45 : decode (mb 1103) 45 = .ok (.dup, 1) := by decide +kernel
theorem d1103_46 : decode (mb 1103) 46 = .ok (.getfield 108, 3) := by decide +kernel
theorem d1103_49 : decode (mb 1103) 49 = .ok (.iconst 1, 1) := by decide +kernel
theorem d1103_50 : decode (mb 1103) 50 = .ok (.iadd, 1) := by decide +kernel
theorem d1103_51 : decode (mb 1103) 51 = .ok (.putfield 108, 3) := by decide +kernel
theorem d1103_54 : decode (mb 1103) 54 = .ok (.aload_n 0, 1) := by decide +kernel
theorem d1103_55 : decode (mb 1103) 55 = .ok (.getfield 108, 3) := by decide +kernel
theorem d1103_58 : decode (mb 1103) 58 = .ok (.iconst 1, 1) := by decide +kernel
theorem d1103_59 : decode (mb 1103) 59 = .ok (.isub, 1) := by decide +kernel
theorem d1103_60 : decode (mb 1103) 60 = .ok (.ireturn, 1) := by decide +kernel
theorem x1103_0 {S : List Value} {h : HP} {l0 : Value} {x0 : Int32} : pX 1103 0 [l0, .int x0] S h = pX 1103 1 [l0, .int x0] (.int x0 :: S) h := pX_stp d1103_0 rfl rfl rfl
theorem x1103_1 {L S : List Value} {h : HP} : pX 1103 1 L S h = pX 1103 2 L (.int 0 :: S) h := pX_iconst d1103_1 (by decide)
theorem x1103_2 {L S : List Value} {h : HP} : pX 1103 2 L S h = pX 1103 3 L (.int 3 :: S) h := pX_iconst d1103_2 (by decide)
theorem x1103_3 {L : List Value} {h : HP} {x0 : Int32} {x1 : Int32} {x2 : Int32} : pX 1103 3 L [.int x0, .int x1, .int x2] h = (pX 1101 0 [.int x2, .int x1, .int x0] [] h).bind (fun q => pX 1103 6 L (q.1.toList ++ []) q.2) := pX_ins 1101 [.int x2, .int x1, .int x0] [] d1103_3 rfl rfl rfl
theorem x1103_6 {L S : List Value} {h : HP} {x : Int32} : pX 1103 6 L (.int x :: S) h = if x = 0 then pX 1103 9 L S h else pX 1103 12 L S h := pX_if_ne d1103_6 (by decide)
theorem x1103_9 {L S : List Value} {h : HP} : pX 1103 9 L S h = pX 1103 11 L (.int (-2) :: S) h := pX_bipush d1103_9 (by decide)
theorem x1103_11 {L : List Value} {h : HP} {x : Int32} : pX 1103 11 L [.int x] h = some (some (.int x), h) := pX_ret d1103_11 rfl
theorem x1103_12 {S : List Value} {h : HP} {l1 : Value} {a0 : Nat} : pX 1103 12 [.ref a0, l1] S h = pX 1103 13 [.ref a0, l1] (.ref a0 :: S) h := pX_stp d1103_12 rfl rfl rfl
theorem x1103_13 {L S : List Value} {h : HP} {a : Nat} (hk : hp_k h a = 12) : pX 1103 13 L (.ref a :: S) h = pX 1103 16 L (.int (hp_i h a 8) :: S) h := pX_get d1103_13 rfl rfl hk
theorem x1103_16 {L S : List Value} {h : HP} {x : Int32} : pX 1103 16 L (.int x :: S) h = if x = 0 then pX 1103 22 L S h else pX 1103 19 L S h := pX_if_eq d1103_16 (by decide)
theorem x1103_19 {L S : List Value} {h : HP} : pX 1103 19 L S h = pX 1103 21 L (.int (-3) :: S) h := pX_bipush d1103_19 (by decide)
theorem x1103_21 {L : List Value} {h : HP} {x : Int32} : pX 1103 21 L [.int x] h = some (some (.int x), h) := pX_ret d1103_21 rfl
theorem x1103_22 {S : List Value} {h : HP} {l1 : Value} {a0 : Nat} : pX 1103 22 [.ref a0, l1] S h = pX 1103 23 [.ref a0, l1] (.ref a0 :: S) h := pX_stp d1103_22 rfl rfl rfl
theorem x1103_23 {L S : List Value} {h : HP} {a : Nat} (hk : hp_k h a = 12) : pX 1103 23 L (.ref a :: S) h = pX 1103 26 L (.int (hp_i h a 0) :: S) h := pX_get d1103_23 rfl rfl hk
theorem x1103_26 {L S : List Value} {h : HP} : pX 1103 26 L S h = pX 1103 28 L (.int 10 :: S) h := pX_bipush d1103_26 (by decide)
theorem x1103_28 {L S : List Value} {h : HP} {x y : Int32} : pX 1103 28 L (.int y :: .int x :: S) h = if x = y then pX 1103 31 L S h else pX 1103 34 L S h := pX_icmp_ne d1103_28 (by decide)
theorem x1103_31 {L S : List Value} {h : HP} : pX 1103 31 L S h = pX 1103 33 L (.int (-4) :: S) h := pX_bipush d1103_31 (by decide)
theorem x1103_33 {L : List Value} {h : HP} {x : Int32} : pX 1103 33 L [.int x] h = some (some (.int x), h) := pX_ret d1103_33 rfl
theorem x1103_34 {S : List Value} {h : HP} {l1 : Value} {a0 : Nat} : pX 1103 34 [.ref a0, l1] S h = pX 1103 35 [.ref a0, l1] (.ref a0 :: S) h := pX_stp d1103_34 rfl rfl rfl
theorem x1103_35 {L S : List Value} {h : HP} {a : Nat} (hk : hp_k h a = 12) : pX 1103 35 L (.ref a :: S) h = pX 1103 38 L (.ref (hp_a h a 1) :: S) h := pX_get d1103_35 rfl rfl hk
theorem x1103_38 {S : List Value} {h : HP} {l1 : Value} {a0 : Nat} : pX 1103 38 [.ref a0, l1] S h = pX 1103 39 [.ref a0, l1] (.ref a0 :: S) h := pX_stp d1103_38 rfl rfl rfl
theorem x1103_39 {L S : List Value} {h : HP} {a : Nat} (hk : hp_k h a = 12) : pX 1103 39 L (.ref a :: S) h = pX 1103 42 L (.int (hp_i h a 0) :: S) h := pX_get d1103_39 rfl rfl hk
theorem x1103_42 {S : List Value} {h : HP} {l0 : Value} {x0 : Int32} : pX 1103 42 [l0, .int x0] S h = pX 1103 43 [l0, .int x0] (.int x0 :: S) h := pX_stp d1103_42 rfl rfl rfl
theorem x1103_43 {L S : List Value} {h : HP} {a : Nat} {j x : Int32} (hk : hp_k h a = 100) (hj : inb j (hp_l h a) = true) : pX 1103 43 L (.int x :: .int j :: .ref a :: S) h = pX 1103 44 L S (hp_wi h a (ix j) x) := pX_ist d1103_43 hk hj
theorem x1103_44 {S : List Value} {h : HP} {l1 : Value} {a0 : Nat} : pX 1103 44 [.ref a0, l1] S h = pX 1103 45 [.ref a0, l1] (.ref a0 :: S) h := pX_stp d1103_44 rfl rfl rfl
theorem x1103_45 {L S : List Value} {h : HP} {a0 : Nat} : pX 1103 45 L (.ref a0 :: S) h = pX 1103 46 L (.ref a0 :: .ref a0 :: S) h := pX_stp d1103_45 rfl rfl rfl
theorem x1103_46 {L S : List Value} {h : HP} {a : Nat} (hk : hp_k h a = 12) : pX 1103 46 L (.ref a :: S) h = pX 1103 49 L (.int (hp_i h a 0) :: S) h := pX_get d1103_46 rfl rfl hk
theorem x1103_49 {L S : List Value} {h : HP} : pX 1103 49 L S h = pX 1103 50 L (.int 1 :: S) h := pX_iconst d1103_49 (by decide)
theorem x1103_50 {L S : List Value} {h : HP} {x y : Int32} : pX 1103 50 L (.int y :: .int x :: S) h = pX 1103 51 L (.int (x + y) :: S) h := pX_stp d1103_50 rfl rfl rfl
theorem x1103_51 {L S : List Value} {h : HP} {a : Nat} {x : Int32} (hk : hp_k h a = 12) : pX 1103 51 L (.int x :: .ref a :: S) h = pX 1103 54 L S (hp_wi h a 0 x) := pX_put d1103_51 rfl rfl rfl hk
theorem x1103_54 {S : List Value} {h : HP} {l1 : Value} {a0 : Nat} : pX 1103 54 [.ref a0, l1] S h = pX 1103 55 [.ref a0, l1] (.ref a0 :: S) h := pX_stp d1103_54 rfl rfl rfl
theorem x1103_55 {L S : List Value} {h : HP} {a : Nat} (hk : hp_k h a = 12) : pX 1103 55 L (.ref a :: S) h = pX 1103 58 L (.int (hp_i h a 0) :: S) h := pX_get d1103_55 rfl rfl hk
theorem x1103_58 {L S : List Value} {h : HP} : pX 1103 58 L S h = pX 1103 59 L (.int 1 :: S) h := pX_iconst d1103_58 (by decide)
theorem x1103_59 {L S : List Value} {h : HP} {x y : Int32} : pX 1103 59 L (.int y :: .int x :: S) h = pX 1103 60 L (.int (x - y) :: S) h := pX_stp d1103_59 rfl rfl rfl
theorem x1103_60 {L : List Value} {h : HP} {x : Int32} : pX 1103 60 L [.int x] h = some (some (.int x), h) := pX_ret d1103_60 rfl
theorem d1104_0 : decode (mb 1104) 0 = .ok (.iload_n 0, 1) := by decide +kernel
theorem d1104_1 : decode (mb 1104) 1 = .ok (.tableswitch 135 0 27 #[127, 131, 135, 135, 135, 135, 135, 135, 135, 129, 127, 131, 127, 135, 135, 131, 131, 133, 131, 127, 127, 127, 127, 133, 127, 131, 131, 131], 127) := by decide +kernel
theorem d1104_128 : decode (mb 1104) 128 = .ok (.iconst 1, 1) := by decide +kernel
theorem d1104_129 : decode (mb 1104) 129 = .ok (.ireturn, 1) := by decide +kernel
theorem d1104_130 : decode (mb 1104) 130 = .ok (.iconst 0, 1) := by decide +kernel
theorem d1104_131 : decode (mb 1104) 131 = .ok (.ireturn, 1) := by decide +kernel
theorem d1104_132 : decode (mb 1104) 132 = .ok (.iconst 3, 1) := by decide +kernel
theorem d1104_133 : decode (mb 1104) 133 = .ok (.ireturn, 1) := by decide +kernel
theorem d1104_134 : decode (mb 1104) 134 = .ok (.iconst 5, 1) := by decide +kernel
theorem d1104_135 : decode (mb 1104) 135 = .ok (.ireturn, 1) := by decide +kernel
theorem d1104_136 : decode (mb 1104) 136 = .ok (.bipush 7, 2) := by decide +kernel
theorem d1104_138 : decode (mb 1104) 138 = .ok (.ireturn, 1) := by decide +kernel
theorem x1104_0 {S : List Value} {h : HP}  {x0 : Int32} : pX 1104 0 [.int x0] S h = pX 1104 1 [.int x0] (.int x0 :: S) h := pX_stp d1104_0 rfl rfl rfl
theorem x1104_1_0 {L S : List Value} {h : HP} : pX 1104 1 L (.int 0 :: S) h = pX 1104 128 L S h := pX_tabIn (off := 127) d1104_1 (by decide) (by decide) (by decide) (by decide)
theorem x1104_1_1 {L S : List Value} {h : HP} : pX 1104 1 L (.int 1 :: S) h = pX 1104 132 L S h := pX_tabIn (off := 131) d1104_1 (by decide) (by decide) (by decide) (by decide)
theorem x1104_1_2 {L S : List Value} {h : HP} : pX 1104 1 L (.int 2 :: S) h = pX 1104 136 L S h := pX_tabIn (off := 135) d1104_1 (by decide) (by decide) (by decide) (by decide)
theorem x1104_1_3 {L S : List Value} {h : HP} : pX 1104 1 L (.int 3 :: S) h = pX 1104 136 L S h := pX_tabIn (off := 135) d1104_1 (by decide) (by decide) (by decide) (by decide)
theorem x1104_1_4 {L S : List Value} {h : HP} : pX 1104 1 L (.int 4 :: S) h = pX 1104 136 L S h := pX_tabIn (off := 135) d1104_1 (by decide) (by decide) (by decide) (by decide)
theorem x1104_1_5 {L S : List Value} {h : HP} : pX 1104 1 L (.int 5 :: S) h = pX 1104 136 L S h := pX_tabIn (off := 135) d1104_1 (by decide) (by decide) (by decide) (by decide)
theorem x1104_1_6 {L S : List Value} {h : HP} : pX 1104 1 L (.int 6 :: S) h = pX 1104 136 L S h := pX_tabIn (off := 135) d1104_1 (by decide) (by decide) (by decide) (by decide)
theorem x1104_1_7 {L S : List Value} {h : HP} : pX 1104 1 L (.int 7 :: S) h = pX 1104 136 L S h := pX_tabIn (off := 135) d1104_1 (by decide) (by decide) (by decide) (by decide)
theorem x1104_1_8 {L S : List Value} {h : HP} : pX 1104 1 L (.int 8 :: S) h = pX 1104 136 L S h := pX_tabIn (off := 135) d1104_1 (by decide) (by decide) (by decide) (by decide)
theorem x1104_1_9 {L S : List Value} {h : HP} : pX 1104 1 L (.int 9 :: S) h = pX 1104 130 L S h := pX_tabIn (off := 129) d1104_1 (by decide) (by decide) (by decide) (by decide)
theorem x1104_1_10 {L S : List Value} {h : HP} : pX 1104 1 L (.int 10 :: S) h = pX 1104 128 L S h := pX_tabIn (off := 127) d1104_1 (by decide) (by decide) (by decide) (by decide)
theorem x1104_1_11 {L S : List Value} {h : HP} : pX 1104 1 L (.int 11 :: S) h = pX 1104 132 L S h := pX_tabIn (off := 131) d1104_1 (by decide) (by decide) (by decide) (by decide)
theorem x1104_1_12 {L S : List Value} {h : HP} : pX 1104 1 L (.int 12 :: S) h = pX 1104 128 L S h := pX_tabIn (off := 127) d1104_1 (by decide) (by decide) (by decide) (by decide)
theorem x1104_1_13 {L S : List Value} {h : HP} : pX 1104 1 L (.int 13 :: S) h = pX 1104 136 L S h := pX_tabIn (off := 135) d1104_1 (by decide) (by decide) (by decide) (by decide)
theorem x1104_1_14 {L S : List Value} {h : HP} : pX 1104 1 L (.int 14 :: S) h = pX 1104 136 L S h := pX_tabIn (off := 135) d1104_1 (by decide) (by decide) (by decide) (by decide)
theorem x1104_1_15 {L S : List Value} {h : HP} : pX 1104 1 L (.int 15 :: S) h = pX 1104 132 L S h := pX_tabIn (off := 131) d1104_1 (by decide) (by decide) (by decide) (by decide)
theorem x1104_1_16 {L S : List Value} {h : HP} : pX 1104 1 L (.int 16 :: S) h = pX 1104 132 L S h := pX_tabIn (off := 131) d1104_1 (by decide) (by decide) (by decide) (by decide)
theorem x1104_1_17 {L S : List Value} {h : HP} : pX 1104 1 L (.int 17 :: S) h = pX 1104 134 L S h := pX_tabIn (off := 133) d1104_1 (by decide) (by decide) (by decide) (by decide)
theorem x1104_1_18 {L S : List Value} {h : HP} : pX 1104 1 L (.int 18 :: S) h = pX 1104 132 L S h := pX_tabIn (off := 131) d1104_1 (by decide) (by decide) (by decide) (by decide)
theorem x1104_1_19 {L S : List Value} {h : HP} : pX 1104 1 L (.int 19 :: S) h = pX 1104 128 L S h := pX_tabIn (off := 127) d1104_1 (by decide) (by decide) (by decide) (by decide)
theorem x1104_1_20 {L S : List Value} {h : HP} : pX 1104 1 L (.int 20 :: S) h = pX 1104 128 L S h := pX_tabIn (off := 127) d1104_1 (by decide) (by decide) (by decide) (by decide)
theorem x1104_1_21 {L S : List Value} {h : HP} : pX 1104 1 L (.int 21 :: S) h = pX 1104 128 L S h := pX_tabIn (off := 127) d1104_1 (by decide) (by decide) (by decide) (by decide)
theorem x1104_1_22 {L S : List Value} {h : HP} : pX 1104 1 L (.int 22 :: S) h = pX 1104 128 L S h := pX_tabIn (off := 127) d1104_1 (by decide) (by decide) (by decide) (by decide)
theorem x1104_1_23 {L S : List Value} {h : HP} : pX 1104 1 L (.int 23 :: S) h = pX 1104 134 L S h := pX_tabIn (off := 133) d1104_1 (by decide) (by decide) (by decide) (by decide)
theorem x1104_1_24 {L S : List Value} {h : HP} : pX 1104 1 L (.int 24 :: S) h = pX 1104 128 L S h := pX_tabIn (off := 127) d1104_1 (by decide) (by decide) (by decide) (by decide)
theorem x1104_1_25 {L S : List Value} {h : HP} : pX 1104 1 L (.int 25 :: S) h = pX 1104 132 L S h := pX_tabIn (off := 131) d1104_1 (by decide) (by decide) (by decide) (by decide)
theorem x1104_1_26 {L S : List Value} {h : HP} : pX 1104 1 L (.int 26 :: S) h = pX 1104 132 L S h := pX_tabIn (off := 131) d1104_1 (by decide) (by decide) (by decide) (by decide)
theorem x1104_1_27 {L S : List Value} {h : HP} : pX 1104 1 L (.int 27 :: S) h = pX 1104 132 L S h := pX_tabIn (off := 131) d1104_1 (by decide) (by decide) (by decide) (by decide)
theorem x1104_1_d {L S : List Value} {h : HP} {x : Int32} (hx : x.toInt < 0 ∨ 27 < x.toInt) : pX 1104 1 L (.int x :: S) h = pX 1104 136 L S h := pX_tabOut d1104_1 hx (by decide)
theorem x1104_128 {L S : List Value} {h : HP} : pX 1104 128 L S h = pX 1104 129 L (.int 1 :: S) h := pX_iconst d1104_128 (by decide)
theorem x1104_129 {L : List Value} {h : HP} {x : Int32} : pX 1104 129 L [.int x] h = some (some (.int x), h) := pX_ret d1104_129 rfl
theorem x1104_130 {L S : List Value} {h : HP} : pX 1104 130 L S h = pX 1104 131 L (.int 0 :: S) h := pX_iconst d1104_130 (by decide)
theorem x1104_131 {L : List Value} {h : HP} {x : Int32} : pX 1104 131 L [.int x] h = some (some (.int x), h) := pX_ret d1104_131 rfl
theorem x1104_132 {L S : List Value} {h : HP} : pX 1104 132 L S h = pX 1104 133 L (.int 3 :: S) h := pX_iconst d1104_132 (by decide)
theorem x1104_133 {L : List Value} {h : HP} {x : Int32} : pX 1104 133 L [.int x] h = some (some (.int x), h) := pX_ret d1104_133 rfl
theorem x1104_134 {L S : List Value} {h : HP} : pX 1104 134 L S h = pX 1104 135 L (.int 5 :: S) h := pX_iconst d1104_134 (by decide)
theorem x1104_135 {L : List Value} {h : HP} {x : Int32} : pX 1104 135 L [.int x] h = some (some (.int x), h) := pX_ret d1104_135 rfl
theorem x1104_136 {L S : List Value} {h : HP} : pX 1104 136 L S h = pX 1104 138 L (.int 7 :: S) h := pX_bipush d1104_136 (by decide)
theorem x1104_138 {L : List Value} {h : HP} {x : Int32} : pX 1104 138 L [.int x] h = some (some (.int x), h) := pX_ret d1104_138 rfl
theorem d1105_0 : decode (mb 1105) 0 = .ok (.iload_n 0, 1) := by decide +kernel
theorem d1105_1 : decode (mb 1105) 1 = .ok (.invokestatic 119, 3) := by decide +kernel
theorem d1105_4 : decode (mb 1105) 4 = .ok (.istore 4, 2) := by decide +kernel
theorem d1105_6 : decode (mb 1105) 6 = .ok (.iload 4, 2) := by decide +kernel
theorem d1105_8 : decode (mb 1105) 8 = .ok (.iconst 1, 1) := by decide +kernel
theorem d1105_9 : decode (mb 1105) 9 = .ok (.iand, 1) := by decide +kernel
theorem d1105_10 : decode (mb 1105) 10 = .ok (.iconst 1, 1) := by decide +kernel
theorem d1105_11 : decode (mb 1105) 11 = .ok (.if_icmp .ne 13, 3) := by decide +kernel
theorem d1105_14 : decode (mb 1105) 14 = .ok (.iload_n 1, 1) := by decide +kernel
theorem d1105_15 : decode (mb 1105) 15 = .ok (.iconst 0, 1) := by decide +kernel
theorem d1105_16 : decode (mb 1105) 16 = .ok (.bipush 7, 2) := by decide +kernel
theorem d1105_18 : decode (mb 1105) 18 = .ok (.invokestatic 111, 3) := by decide +kernel
theorem d1105_21 : decode (mb 1105) 21 = .ok (.ifCond .eq 39, 3) := by decide +kernel
theorem d1105_24 : decode (mb 1105) 24 = .ok (.iload 4, 2) := by decide +kernel
theorem d1105_26 : decode (mb 1105) 26 = .ok (.iconst 2, 1) := by decide +kernel
theorem d1105_27 : decode (mb 1105) 27 = .ok (.iand, 1) := by decide +kernel
theorem d1105_28 : decode (mb 1105) 28 = .ok (.iconst 2, 1) := by decide +kernel
theorem d1105_29 : decode (mb 1105) 29 = .ok (.if_icmp .ne 13, 3) := by decide +kernel
theorem d1105_32 : decode (mb 1105) 32 = .ok (.iload_n 2, 1) := by decide +kernel
theorem d1105_33 : decode (mb 1105) 33 = .ok (.iconst 0, 1) := by decide +kernel
theorem d1105_34 : decode (mb 1105) 34 = .ok (.bipush 7, 2) := by decide +kernel
theorem d1105_36 : decode (mb 1105) 36 = .ok (.invokestatic 111, 3) := by decide +kernel
theorem d1105_39 : decode (mb 1105) 39 = .ok (.ifCond .eq 21, 3) := by decide +kernel
theorem d1105_42 : decode (mb 1105) 42 = .ok (.iload 4, 2) := by decide +kernel
theorem d1105_44 : decode (mb 1105) 44 = .ok (.iconst 4, 1) := by decide +kernel
theorem d1105_45 : decode (mb 1105) 45 = .ok (.iand, 1) := by decide +kernel
theorem d1105_46 : decode (mb 1105) 46 = .ok (.iconst 4, 1) := by decide +kernel
theorem d1105_47 : decode (mb 1105) 47 = .ok (.if_icmp .ne 15, 3) := by decide +kernel
theorem d1105_50 : decode (mb 1105) 50 = .ok (.iload_n 3, 1) := by decide +kernel
theorem d1105_51 : decode (mb 1105) 51 = .ok (.iconst 0, 1) := by decide +kernel
theorem d1105_52 : decode (mb 1105) 52 = .ok (.bipush 7, 2) := by decide +kernel
theorem d1105_54 : decode (mb 1105) 54 = .ok (.invokestatic 111, 3) := by decide +kernel
theorem d1105_57 : decode (mb 1105) 57 = .ok (.ifCond .ne 5, 3) := by decide +kernel
theorem d1105_60 : decode (mb 1105) 60 = .ok (.iconst 0, 1) := by decide +kernel
theorem d1105_61 : decode (mb 1105) 61 = .ok (.ireturn, 1) := by decide +kernel
theorem d1105_62 : decode (mb 1105) 62 = .ok (.iload_n 0, 1) := by decide +kernel
theorem d1105_63 : decode (mb 1105) 63 = .ok (.tableswitch 117 9 19 #[57, 65, 73, 80, 117, 117, 117, 87, 94, 101, 109], 57) := by decide +kernel
theorem d1105_120 : decode (mb 1105) 120 = .ok (.iload_n 1, 1) := by decide +kernel
theorem d1105_121 : decode (mb 1105) 121 = .ok (.iconst 0, 1) := by decide +kernel
theorem d1105_122 : decode (mb 1105) 122 = .ok (.bipush 40, 2) := by decide +kernel
theorem d1105_124 : decode (mb 1105) 124 = .ok (.invokestatic 111, 3) := by decide +kernel
theorem d1105_127 : decode (mb 1105) 127 = .ok (.ireturn, 1) := by decide +kernel
theorem d1105_128 : decode (mb 1105) 128 = .ok (.iload_n 2, 1) := by decide +kernel
theorem d1105_129 : decode (mb 1105) 129 = .ok (.iconst 0, 1) := by decide +kernel
theorem d1105_130 : decode (mb 1105) 130 = .ok (.bipush 40, 2) := by decide +kernel
theorem d1105_132 : decode (mb 1105) 132 = .ok (.invokestatic 111, 3) := by decide +kernel
theorem d1105_135 : decode (mb 1105) 135 = .ok (.ireturn, 1) := by decide +kernel
theorem d1105_136 : decode (mb 1105) 136 = .ok (.iload_n 3, 1) := by decide +kernel
theorem d1105_137 : decode (mb 1105) 137 = .ok (.iconst 0, 1) := by decide +kernel
theorem d1105_138 : decode (mb 1105) 138 = .ok (.iconst 4, 1) := by decide +kernel
theorem d1105_139 : decode (mb 1105) 139 = .ok (.invokestatic 111, 3) := by decide +kernel
theorem d1105_142 : decode (mb 1105) 142 = .ok (.ireturn, 1) := by decide +kernel
theorem d1105_143 : decode (mb 1105) 143 = .ok (.iload_n 2, 1) := by decide +kernel
theorem d1105_144 : decode (mb 1105) 144 = .ok (.iconst 0, 1) := by decide +kernel
theorem d1105_145 : decode (mb 1105) 145 = .ok (.iconst 3, 1) := by decide +kernel
theorem d1105_146 : decode (mb 1105) 146 = .ok (.invokestatic 111, 3) := by decide +kernel
theorem d1105_149 : decode (mb 1105) 149 = .ok (.ireturn, 1) := by decide +kernel
theorem d1105_150 : decode (mb 1105) 150 = .ok (.iload_n 3, 1) := by decide +kernel
theorem d1105_151 : decode (mb 1105) 151 = .ok (.iconst 0, 1) := by decide +kernel
theorem d1105_152 : decode (mb 1105) 152 = .ok (.iconst 3, 1) := by decide +kernel
theorem d1105_153 : decode (mb 1105) 153 = .ok (.invokestatic 111, 3) := by decide +kernel
theorem d1105_156 : decode (mb 1105) 156 = .ok (.ireturn, 1) := by decide +kernel
theorem d1105_157 : decode (mb 1105) 157 = .ok (.iload_n 2, 1) := by decide +kernel
theorem d1105_158 : decode (mb 1105) 158 = .ok (.iconst 0, 1) := by decide +kernel
theorem d1105_159 : decode (mb 1105) 159 = .ok (.iconst 1, 1) := by decide +kernel
theorem d1105_160 : decode (mb 1105) 160 = .ok (.invokestatic 111, 3) := by decide +kernel
theorem d1105_163 : decode (mb 1105) 163 = .ok (.ireturn, 1) := by decide +kernel
theorem d1105_164 : decode (mb 1105) 164 = .ok (.iload_n 3, 1) := by decide +kernel
theorem d1105_165 : decode (mb 1105) 165 = .ok (.iconst 0, 1) := by decide +kernel
theorem d1105_166 : decode (mb 1105) 166 = .ok (.bipush 11, 2) := by decide +kernel
theorem d1105_168 : decode (mb 1105) 168 = .ok (.invokestatic 111, 3) := by decide +kernel
theorem d1105_171 : decode (mb 1105) 171 = .ok (.ireturn, 1) := by decide +kernel
theorem d1105_172 : decode (mb 1105) 172 = .ok (.iload_n 2, 1) := by decide +kernel
theorem d1105_173 : decode (mb 1105) 173 = .ok (.iconst 0, 1) := by decide +kernel
theorem d1105_174 : decode (mb 1105) 174 = .ok (.bipush 11, 2) := by decide +kernel
theorem d1105_176 : decode (mb 1105) 176 = .ok (.invokestatic 111, 3) := by decide +kernel
theorem d1105_179 : decode (mb 1105) 179 = .ok (.ireturn, 1) := by decide +kernel
theorem d1105_180 : decode (mb 1105) 180 = .ok (.iconst 1, 1) := by decide +kernel
theorem d1105_181 : decode (mb 1105) 181 = .ok (.ireturn, 1) := by decide +kernel
theorem x1105_0 {S : List Value} {h : HP} {l1 l2 l3 l4 : Value} {x0 : Int32} : pX 1105 0 [.int x0, l1, l2, l3, l4] S h = pX 1105 1 [.int x0, l1, l2, l3, l4] (.int x0 :: S) h := pX_stp d1105_0 rfl rfl rfl
theorem x1105_1 {L : List Value} {h : HP} {x0 : Int32} : pX 1105 1 L [.int x0] h = (pX 1104 0 [.int x0] [] h).bind (fun q => pX 1105 4 L (q.1.toList ++ []) q.2) := pX_ins 1104 [.int x0] [] d1105_1 rfl rfl rfl
theorem x1105_4 {S : List Value} {h : HP} {l0 l1 l2 l3 l4 : Value} {x0 : Int32} : pX 1105 4 [l0, l1, l2, l3, l4] (.int x0 :: S) h = pX 1105 6 [l0, l1, l2, l3, .int x0] S h := pX_stp d1105_4 rfl rfl rfl
theorem x1105_6 {S : List Value} {h : HP} {l0 l1 l2 l3 : Value} {x0 : Int32} : pX 1105 6 [l0, l1, l2, l3, .int x0] S h = pX 1105 8 [l0, l1, l2, l3, .int x0] (.int x0 :: S) h := pX_stp d1105_6 rfl rfl rfl
theorem x1105_8 {L S : List Value} {h : HP} : pX 1105 8 L S h = pX 1105 9 L (.int 1 :: S) h := pX_iconst d1105_8 (by decide)
theorem x1105_9 {L S : List Value} {h : HP} {x y : Int32} : pX 1105 9 L (.int y :: .int x :: S) h = pX 1105 10 L (.int (x &&& y) :: S) h := pX_stp d1105_9 rfl rfl rfl
theorem x1105_10 {L S : List Value} {h : HP} : pX 1105 10 L S h = pX 1105 11 L (.int 1 :: S) h := pX_iconst d1105_10 (by decide)
theorem x1105_11 {L S : List Value} {h : HP} {x y : Int32} : pX 1105 11 L (.int y :: .int x :: S) h = if x = y then pX 1105 14 L S h else pX 1105 24 L S h := pX_icmp_ne d1105_11 (by decide)
theorem x1105_14 {S : List Value} {h : HP} {l0 l2 l3 l4 : Value} {x0 : Int32} : pX 1105 14 [l0, .int x0, l2, l3, l4] S h = pX 1105 15 [l0, .int x0, l2, l3, l4] (.int x0 :: S) h := pX_stp d1105_14 rfl rfl rfl
theorem x1105_15 {L S : List Value} {h : HP} : pX 1105 15 L S h = pX 1105 16 L (.int 0 :: S) h := pX_iconst d1105_15 (by decide)
theorem x1105_16 {L S : List Value} {h : HP} : pX 1105 16 L S h = pX 1105 18 L (.int 7 :: S) h := pX_bipush d1105_16 (by decide)
theorem x1105_18 {L : List Value} {h : HP} {x0 : Int32} {x1 : Int32} {x2 : Int32} : pX 1105 18 L [.int x0, .int x1, .int x2] h = (pX 1101 0 [.int x2, .int x1, .int x0] [] h).bind (fun q => pX 1105 21 L (q.1.toList ++ []) q.2) := pX_ins 1101 [.int x2, .int x1, .int x0] [] d1105_18 rfl rfl rfl
theorem x1105_21 {L S : List Value} {h : HP} {x : Int32} : pX 1105 21 L (.int x :: S) h = if x = 0 then pX 1105 60 L S h else pX 1105 24 L S h := pX_if_eq d1105_21 (by decide)
theorem x1105_24 {S : List Value} {h : HP} {l0 l1 l2 l3 : Value} {x0 : Int32} : pX 1105 24 [l0, l1, l2, l3, .int x0] S h = pX 1105 26 [l0, l1, l2, l3, .int x0] (.int x0 :: S) h := pX_stp d1105_24 rfl rfl rfl
theorem x1105_26 {L S : List Value} {h : HP} : pX 1105 26 L S h = pX 1105 27 L (.int 2 :: S) h := pX_iconst d1105_26 (by decide)
theorem x1105_27 {L S : List Value} {h : HP} {x y : Int32} : pX 1105 27 L (.int y :: .int x :: S) h = pX 1105 28 L (.int (x &&& y) :: S) h := pX_stp d1105_27 rfl rfl rfl
theorem x1105_28 {L S : List Value} {h : HP} : pX 1105 28 L S h = pX 1105 29 L (.int 2 :: S) h := pX_iconst d1105_28 (by decide)
theorem x1105_29 {L S : List Value} {h : HP} {x y : Int32} : pX 1105 29 L (.int y :: .int x :: S) h = if x = y then pX 1105 32 L S h else pX 1105 42 L S h := pX_icmp_ne d1105_29 (by decide)
theorem x1105_32 {S : List Value} {h : HP} {l0 l1 l3 l4 : Value} {x0 : Int32} : pX 1105 32 [l0, l1, .int x0, l3, l4] S h = pX 1105 33 [l0, l1, .int x0, l3, l4] (.int x0 :: S) h := pX_stp d1105_32 rfl rfl rfl
theorem x1105_33 {L S : List Value} {h : HP} : pX 1105 33 L S h = pX 1105 34 L (.int 0 :: S) h := pX_iconst d1105_33 (by decide)
theorem x1105_34 {L S : List Value} {h : HP} : pX 1105 34 L S h = pX 1105 36 L (.int 7 :: S) h := pX_bipush d1105_34 (by decide)
theorem x1105_36 {L : List Value} {h : HP} {x0 : Int32} {x1 : Int32} {x2 : Int32} : pX 1105 36 L [.int x0, .int x1, .int x2] h = (pX 1101 0 [.int x2, .int x1, .int x0] [] h).bind (fun q => pX 1105 39 L (q.1.toList ++ []) q.2) := pX_ins 1101 [.int x2, .int x1, .int x0] [] d1105_36 rfl rfl rfl
theorem x1105_39 {L S : List Value} {h : HP} {x : Int32} : pX 1105 39 L (.int x :: S) h = if x = 0 then pX 1105 60 L S h else pX 1105 42 L S h := pX_if_eq d1105_39 (by decide)
theorem x1105_42 {S : List Value} {h : HP} {l0 l1 l2 l3 : Value} {x0 : Int32} : pX 1105 42 [l0, l1, l2, l3, .int x0] S h = pX 1105 44 [l0, l1, l2, l3, .int x0] (.int x0 :: S) h := pX_stp d1105_42 rfl rfl rfl
theorem x1105_44 {L S : List Value} {h : HP} : pX 1105 44 L S h = pX 1105 45 L (.int 4 :: S) h := pX_iconst d1105_44 (by decide)
theorem x1105_45 {L S : List Value} {h : HP} {x y : Int32} : pX 1105 45 L (.int y :: .int x :: S) h = pX 1105 46 L (.int (x &&& y) :: S) h := pX_stp d1105_45 rfl rfl rfl
theorem x1105_46 {L S : List Value} {h : HP} : pX 1105 46 L S h = pX 1105 47 L (.int 4 :: S) h := pX_iconst d1105_46 (by decide)
theorem x1105_47 {L S : List Value} {h : HP} {x y : Int32} : pX 1105 47 L (.int y :: .int x :: S) h = if x = y then pX 1105 50 L S h else pX 1105 62 L S h := pX_icmp_ne d1105_47 (by decide)
theorem x1105_50 {S : List Value} {h : HP} {l0 l1 l2 l4 : Value} {x0 : Int32} : pX 1105 50 [l0, l1, l2, .int x0, l4] S h = pX 1105 51 [l0, l1, l2, .int x0, l4] (.int x0 :: S) h := pX_stp d1105_50 rfl rfl rfl
theorem x1105_51 {L S : List Value} {h : HP} : pX 1105 51 L S h = pX 1105 52 L (.int 0 :: S) h := pX_iconst d1105_51 (by decide)
theorem x1105_52 {L S : List Value} {h : HP} : pX 1105 52 L S h = pX 1105 54 L (.int 7 :: S) h := pX_bipush d1105_52 (by decide)
theorem x1105_54 {L : List Value} {h : HP} {x0 : Int32} {x1 : Int32} {x2 : Int32} : pX 1105 54 L [.int x0, .int x1, .int x2] h = (pX 1101 0 [.int x2, .int x1, .int x0] [] h).bind (fun q => pX 1105 57 L (q.1.toList ++ []) q.2) := pX_ins 1101 [.int x2, .int x1, .int x0] [] d1105_54 rfl rfl rfl
theorem x1105_57 {L S : List Value} {h : HP} {x : Int32} : pX 1105 57 L (.int x :: S) h = if x = 0 then pX 1105 60 L S h else pX 1105 62 L S h := pX_if_ne d1105_57 (by decide)
theorem x1105_60 {L S : List Value} {h : HP} : pX 1105 60 L S h = pX 1105 61 L (.int 0 :: S) h := pX_iconst d1105_60 (by decide)
theorem x1105_61 {L : List Value} {h : HP} {x : Int32} (hx : x = 0 ∨ x = 1) : pX 1105 61 L [.int x] h = some (some (.int x), h) := pX_ret d1105_61 (by rcases hx with rfl | rfl <;> rfl)
theorem x1105_62 {S : List Value} {h : HP} {l1 l2 l3 l4 : Value} {x0 : Int32} : pX 1105 62 [.int x0, l1, l2, l3, l4] S h = pX 1105 63 [.int x0, l1, l2, l3, l4] (.int x0 :: S) h := pX_stp d1105_62 rfl rfl rfl
theorem x1105_63_9 {L S : List Value} {h : HP} : pX 1105 63 L (.int 9 :: S) h = pX 1105 120 L S h := pX_tabIn (off := 57) d1105_63 (by decide) (by decide) (by decide) (by decide)
theorem x1105_63_10 {L S : List Value} {h : HP} : pX 1105 63 L (.int 10 :: S) h = pX 1105 128 L S h := pX_tabIn (off := 65) d1105_63 (by decide) (by decide) (by decide) (by decide)
theorem x1105_63_11 {L S : List Value} {h : HP} : pX 1105 63 L (.int 11 :: S) h = pX 1105 136 L S h := pX_tabIn (off := 73) d1105_63 (by decide) (by decide) (by decide) (by decide)
theorem x1105_63_12 {L S : List Value} {h : HP} : pX 1105 63 L (.int 12 :: S) h = pX 1105 143 L S h := pX_tabIn (off := 80) d1105_63 (by decide) (by decide) (by decide) (by decide)
theorem x1105_63_13 {L S : List Value} {h : HP} : pX 1105 63 L (.int 13 :: S) h = pX 1105 180 L S h := pX_tabIn (off := 117) d1105_63 (by decide) (by decide) (by decide) (by decide)
theorem x1105_63_14 {L S : List Value} {h : HP} : pX 1105 63 L (.int 14 :: S) h = pX 1105 180 L S h := pX_tabIn (off := 117) d1105_63 (by decide) (by decide) (by decide) (by decide)
theorem x1105_63_15 {L S : List Value} {h : HP} : pX 1105 63 L (.int 15 :: S) h = pX 1105 180 L S h := pX_tabIn (off := 117) d1105_63 (by decide) (by decide) (by decide) (by decide)
theorem x1105_63_16 {L S : List Value} {h : HP} : pX 1105 63 L (.int 16 :: S) h = pX 1105 150 L S h := pX_tabIn (off := 87) d1105_63 (by decide) (by decide) (by decide) (by decide)
theorem x1105_63_17 {L S : List Value} {h : HP} : pX 1105 63 L (.int 17 :: S) h = pX 1105 157 L S h := pX_tabIn (off := 94) d1105_63 (by decide) (by decide) (by decide) (by decide)
theorem x1105_63_18 {L S : List Value} {h : HP} : pX 1105 63 L (.int 18 :: S) h = pX 1105 164 L S h := pX_tabIn (off := 101) d1105_63 (by decide) (by decide) (by decide) (by decide)
theorem x1105_63_19 {L S : List Value} {h : HP} : pX 1105 63 L (.int 19 :: S) h = pX 1105 172 L S h := pX_tabIn (off := 109) d1105_63 (by decide) (by decide) (by decide) (by decide)
theorem x1105_63_d {L S : List Value} {h : HP} {x : Int32} (hx : x.toInt < 9 ∨ 19 < x.toInt) : pX 1105 63 L (.int x :: S) h = pX 1105 180 L S h := pX_tabOut d1105_63 hx (by decide)
theorem x1105_120 {S : List Value} {h : HP} {l0 l2 l3 l4 : Value} {x0 : Int32} : pX 1105 120 [l0, .int x0, l2, l3, l4] S h = pX 1105 121 [l0, .int x0, l2, l3, l4] (.int x0 :: S) h := pX_stp d1105_120 rfl rfl rfl
theorem x1105_121 {L S : List Value} {h : HP} : pX 1105 121 L S h = pX 1105 122 L (.int 0 :: S) h := pX_iconst d1105_121 (by decide)
theorem x1105_122 {L S : List Value} {h : HP} : pX 1105 122 L S h = pX 1105 124 L (.int 40 :: S) h := pX_bipush d1105_122 (by decide)
theorem x1105_124 {L : List Value} {h : HP} {x0 : Int32} {x1 : Int32} {x2 : Int32} : pX 1105 124 L [.int x0, .int x1, .int x2] h = (pX 1101 0 [.int x2, .int x1, .int x0] [] h).bind (fun q => pX 1105 127 L (q.1.toList ++ []) q.2) := pX_ins 1101 [.int x2, .int x1, .int x0] [] d1105_124 rfl rfl rfl
theorem x1105_127 {L : List Value} {h : HP} {x : Int32} (hx : x = 0 ∨ x = 1) : pX 1105 127 L [.int x] h = some (some (.int x), h) := pX_ret d1105_127 (by rcases hx with rfl | rfl <;> rfl)
theorem x1105_128 {S : List Value} {h : HP} {l0 l1 l3 l4 : Value} {x0 : Int32} : pX 1105 128 [l0, l1, .int x0, l3, l4] S h = pX 1105 129 [l0, l1, .int x0, l3, l4] (.int x0 :: S) h := pX_stp d1105_128 rfl rfl rfl
theorem x1105_129 {L S : List Value} {h : HP} : pX 1105 129 L S h = pX 1105 130 L (.int 0 :: S) h := pX_iconst d1105_129 (by decide)
theorem x1105_130 {L S : List Value} {h : HP} : pX 1105 130 L S h = pX 1105 132 L (.int 40 :: S) h := pX_bipush d1105_130 (by decide)
theorem x1105_132 {L : List Value} {h : HP} {x0 : Int32} {x1 : Int32} {x2 : Int32} : pX 1105 132 L [.int x0, .int x1, .int x2] h = (pX 1101 0 [.int x2, .int x1, .int x0] [] h).bind (fun q => pX 1105 135 L (q.1.toList ++ []) q.2) := pX_ins 1101 [.int x2, .int x1, .int x0] [] d1105_132 rfl rfl rfl
theorem x1105_135 {L : List Value} {h : HP} {x : Int32} (hx : x = 0 ∨ x = 1) : pX 1105 135 L [.int x] h = some (some (.int x), h) := pX_ret d1105_135 (by rcases hx with rfl | rfl <;> rfl)
theorem x1105_136 {S : List Value} {h : HP} {l0 l1 l2 l4 : Value} {x0 : Int32} : pX 1105 136 [l0, l1, l2, .int x0, l4] S h = pX 1105 137 [l0, l1, l2, .int x0, l4] (.int x0 :: S) h := pX_stp d1105_136 rfl rfl rfl
theorem x1105_137 {L S : List Value} {h : HP} : pX 1105 137 L S h = pX 1105 138 L (.int 0 :: S) h := pX_iconst d1105_137 (by decide)
theorem x1105_138 {L S : List Value} {h : HP} : pX 1105 138 L S h = pX 1105 139 L (.int 4 :: S) h := pX_iconst d1105_138 (by decide)
theorem x1105_139 {L : List Value} {h : HP} {x0 : Int32} {x1 : Int32} {x2 : Int32} : pX 1105 139 L [.int x0, .int x1, .int x2] h = (pX 1101 0 [.int x2, .int x1, .int x0] [] h).bind (fun q => pX 1105 142 L (q.1.toList ++ []) q.2) := pX_ins 1101 [.int x2, .int x1, .int x0] [] d1105_139 rfl rfl rfl
theorem x1105_142 {L : List Value} {h : HP} {x : Int32} (hx : x = 0 ∨ x = 1) : pX 1105 142 L [.int x] h = some (some (.int x), h) := pX_ret d1105_142 (by rcases hx with rfl | rfl <;> rfl)
theorem x1105_143 {S : List Value} {h : HP} {l0 l1 l3 l4 : Value} {x0 : Int32} : pX 1105 143 [l0, l1, .int x0, l3, l4] S h = pX 1105 144 [l0, l1, .int x0, l3, l4] (.int x0 :: S) h := pX_stp d1105_143 rfl rfl rfl
theorem x1105_144 {L S : List Value} {h : HP} : pX 1105 144 L S h = pX 1105 145 L (.int 0 :: S) h := pX_iconst d1105_144 (by decide)
theorem x1105_145 {L S : List Value} {h : HP} : pX 1105 145 L S h = pX 1105 146 L (.int 3 :: S) h := pX_iconst d1105_145 (by decide)
theorem x1105_146 {L : List Value} {h : HP} {x0 : Int32} {x1 : Int32} {x2 : Int32} : pX 1105 146 L [.int x0, .int x1, .int x2] h = (pX 1101 0 [.int x2, .int x1, .int x0] [] h).bind (fun q => pX 1105 149 L (q.1.toList ++ []) q.2) := pX_ins 1101 [.int x2, .int x1, .int x0] [] d1105_146 rfl rfl rfl
theorem x1105_149 {L : List Value} {h : HP} {x : Int32} (hx : x = 0 ∨ x = 1) : pX 1105 149 L [.int x] h = some (some (.int x), h) := pX_ret d1105_149 (by rcases hx with rfl | rfl <;> rfl)
theorem x1105_150 {S : List Value} {h : HP} {l0 l1 l2 l4 : Value} {x0 : Int32} : pX 1105 150 [l0, l1, l2, .int x0, l4] S h = pX 1105 151 [l0, l1, l2, .int x0, l4] (.int x0 :: S) h := pX_stp d1105_150 rfl rfl rfl
theorem x1105_151 {L S : List Value} {h : HP} : pX 1105 151 L S h = pX 1105 152 L (.int 0 :: S) h := pX_iconst d1105_151 (by decide)
theorem x1105_152 {L S : List Value} {h : HP} : pX 1105 152 L S h = pX 1105 153 L (.int 3 :: S) h := pX_iconst d1105_152 (by decide)
theorem x1105_153 {L : List Value} {h : HP} {x0 : Int32} {x1 : Int32} {x2 : Int32} : pX 1105 153 L [.int x0, .int x1, .int x2] h = (pX 1101 0 [.int x2, .int x1, .int x0] [] h).bind (fun q => pX 1105 156 L (q.1.toList ++ []) q.2) := pX_ins 1101 [.int x2, .int x1, .int x0] [] d1105_153 rfl rfl rfl
theorem x1105_156 {L : List Value} {h : HP} {x : Int32} (hx : x = 0 ∨ x = 1) : pX 1105 156 L [.int x] h = some (some (.int x), h) := pX_ret d1105_156 (by rcases hx with rfl | rfl <;> rfl)
theorem x1105_157 {S : List Value} {h : HP} {l0 l1 l3 l4 : Value} {x0 : Int32} : pX 1105 157 [l0, l1, .int x0, l3, l4] S h = pX 1105 158 [l0, l1, .int x0, l3, l4] (.int x0 :: S) h := pX_stp d1105_157 rfl rfl rfl
theorem x1105_158 {L S : List Value} {h : HP} : pX 1105 158 L S h = pX 1105 159 L (.int 0 :: S) h := pX_iconst d1105_158 (by decide)
theorem x1105_159 {L S : List Value} {h : HP} : pX 1105 159 L S h = pX 1105 160 L (.int 1 :: S) h := pX_iconst d1105_159 (by decide)
theorem x1105_160 {L : List Value} {h : HP} {x0 : Int32} {x1 : Int32} {x2 : Int32} : pX 1105 160 L [.int x0, .int x1, .int x2] h = (pX 1101 0 [.int x2, .int x1, .int x0] [] h).bind (fun q => pX 1105 163 L (q.1.toList ++ []) q.2) := pX_ins 1101 [.int x2, .int x1, .int x0] [] d1105_160 rfl rfl rfl
theorem x1105_163 {L : List Value} {h : HP} {x : Int32} (hx : x = 0 ∨ x = 1) : pX 1105 163 L [.int x] h = some (some (.int x), h) := pX_ret d1105_163 (by rcases hx with rfl | rfl <;> rfl)
theorem x1105_164 {S : List Value} {h : HP} {l0 l1 l2 l4 : Value} {x0 : Int32} : pX 1105 164 [l0, l1, l2, .int x0, l4] S h = pX 1105 165 [l0, l1, l2, .int x0, l4] (.int x0 :: S) h := pX_stp d1105_164 rfl rfl rfl
theorem x1105_165 {L S : List Value} {h : HP} : pX 1105 165 L S h = pX 1105 166 L (.int 0 :: S) h := pX_iconst d1105_165 (by decide)
theorem x1105_166 {L S : List Value} {h : HP} : pX 1105 166 L S h = pX 1105 168 L (.int 11 :: S) h := pX_bipush d1105_166 (by decide)
theorem x1105_168 {L : List Value} {h : HP} {x0 : Int32} {x1 : Int32} {x2 : Int32} : pX 1105 168 L [.int x0, .int x1, .int x2] h = (pX 1101 0 [.int x2, .int x1, .int x0] [] h).bind (fun q => pX 1105 171 L (q.1.toList ++ []) q.2) := pX_ins 1101 [.int x2, .int x1, .int x0] [] d1105_168 rfl rfl rfl
theorem x1105_171 {L : List Value} {h : HP} {x : Int32} (hx : x = 0 ∨ x = 1) : pX 1105 171 L [.int x] h = some (some (.int x), h) := pX_ret d1105_171 (by rcases hx with rfl | rfl <;> rfl)
theorem x1105_172 {S : List Value} {h : HP} {l0 l1 l3 l4 : Value} {x0 : Int32} : pX 1105 172 [l0, l1, .int x0, l3, l4] S h = pX 1105 173 [l0, l1, .int x0, l3, l4] (.int x0 :: S) h := pX_stp d1105_172 rfl rfl rfl
theorem x1105_173 {L S : List Value} {h : HP} : pX 1105 173 L S h = pX 1105 174 L (.int 0 :: S) h := pX_iconst d1105_173 (by decide)
theorem x1105_174 {L S : List Value} {h : HP} : pX 1105 174 L S h = pX 1105 176 L (.int 11 :: S) h := pX_bipush d1105_174 (by decide)
theorem x1105_176 {L : List Value} {h : HP} {x0 : Int32} {x1 : Int32} {x2 : Int32} : pX 1105 176 L [.int x0, .int x1, .int x2] h = (pX 1101 0 [.int x2, .int x1, .int x0] [] h).bind (fun q => pX 1105 179 L (q.1.toList ++ []) q.2) := pX_ins 1101 [.int x2, .int x1, .int x0] [] d1105_176 rfl rfl rfl
theorem x1105_179 {L : List Value} {h : HP} {x : Int32} (hx : x = 0 ∨ x = 1) : pX 1105 179 L [.int x] h = some (some (.int x), h) := pX_ret d1105_179 (by rcases hx with rfl | rfl <;> rfl)
theorem x1105_180 {L S : List Value} {h : HP} : pX 1105 180 L S h = pX 1105 181 L (.int 1 :: S) h := pX_iconst d1105_180 (by decide)
theorem x1105_181 {L : List Value} {h : HP} {x : Int32} (hx : x = 0 ∨ x = 1) : pX 1105 181 L [.int x] h = some (some (.int x), h) := pX_ret d1105_181 (by rcases hx with rfl | rfl <;> rfl)
theorem d1106_0 : decode (mb 1106) 0 = .ok (.aload_n 0, 1) := by decide +kernel
theorem d1106_1 : decode (mb 1106) 1 = .ok (.iload_n 1, 1) := by decide +kernel
theorem d1106_2 : decode (mb 1106) 2 = .ok (.invokevirtual 123, 3) := by decide +kernel
theorem d1106_5 : decode (mb 1106) 5 = .ok (.ifCond .ne 5, 3) := by decide +kernel
theorem d1106_8 : decode (mb 1106) 8 = .ok (.iconst (-1), 1) := by decide +kernel
theorem d1106_9 : decode (mb 1106) 9 = .ok (.ireturn, 1) := by decide +kernel
theorem d1106_10 : decode (mb 1106) 10 = .ok (.iload_n 2, 1) := by decide +kernel
theorem d1106_11 : decode (mb 1106) 11 = .ok (.iconst 0, 1) := by decide +kernel
theorem d1106_12 : decode (mb 1106) 12 = .ok (.bipush 27, 2) := by decide +kernel
theorem d1106_14 : decode (mb 1106) 14 = .ok (.invokestatic 111, 3) := by decide +kernel
theorem d1106_17 : decode (mb 1106) 17 = .ok (.ifCond .eq 15, 3) := by decide +kernel
theorem d1106_20 : decode (mb 1106) 20 = .ok (.iload_n 2, 1) := by decide +kernel
theorem d1106_21 : decode (mb 1106) 21 = .ok (.iload_n 3, 1) := by decide +kernel
theorem d1106_22 : decode (mb 1106) 22 = .ok (.iload 4, 2) := by decide +kernel
theorem d1106_24 : decode (mb 1106) 24 = .ok (.iload 5, 2) := by decide +kernel
theorem d1106_26 : decode (mb 1106) 26 = .ok (.invokestatic 127, 3) := by decide +kernel
theorem d1106_29 : decode (mb 1106) 29 = .ok (.ifCond .ne 6, 3) := by decide +kernel
theorem d1106_32 : decode (mb 1106) 32 = .ok (.bipush (-2), 2) := by decide +kernel
theorem d1106_34 : decode (mb 1106) 34 = .ok (.ireturn, 1) := by decide +kernel
theorem d1106_35 : decode (mb 1106) 35 = .ok (.aload_n 0, 1) := by decide +kernel
theorem d1106_36 : decode (mb 1106) 36 = .ok (.getfield 115, 3) := by decide +kernel
theorem d1106_39 : decode (mb 1106) 39 = .ok (.ifCond .eq 6, 3) := by decide +kernel
theorem d1106_42 : decode (mb 1106) 42 = .ok (.bipush (-3), 2) := by decide +kernel
theorem d1106_44 : decode (mb 1106) 44 = .ok (.ireturn, 1) := by decide +kernel
theorem d1106_45 : decode (mb 1106) 45 = .ok (.aload_n 0, 1) := by decide +kernel
theorem d1106_46 : decode (mb 1106) 46 = .ok (.getfield 13, 3) := by decide +kernel
theorem d1106_49 : decode (mb 1106) 49 = .ok (.iload_n 1, 1) := by decide +kernel
theorem d1106_50 : decode (mb 1106) 50 = .ok (.iaload, 1) := by decide +kernel
theorem d1106_51 : decode (mb 1106) 51 = .ok (.bipush 40, 2) := by decide +kernel
theorem d1106_53 : decode (mb 1106) 53 = .ok (.if_icmp .ne 6, 3) := by decide +kernel
theorem d1106_56 : decode (mb 1106) 56 = .ok (.bipush (-4), 2) := by decide +kernel
theorem d1106_58 : decode (mb 1106) 58 = .ok (.ireturn, 1) := by decide +kernel
theorem d1106_59 : decode (mb 1106) 59 = .ok (.sipush 160, 3) := by decide +kernel
theorem d1106_62 : decode (mb 1106) 62 = .ok (.iload_n 1, 1) := by decide +kernel
theorem d1106_63 : decode (mb 1106) 63 = .ok (.imul, 1) := by decide +kernel
theorem d1106_64 : decode (mb 1106) 64 = .ok (.iconst 4, 1) := by decide +kernel
theorem d1106_65 : decode (mb 1106) 65 = .ok (.aload_n 0, 1) := by decide +kernel
theorem d1106_66 : decode (mb 1106) 66 = .ok (.getfield 13, 3) := by decide +kernel
theorem d1106_69 : decode (mb 1106) 69 = .ok (.iload_n 1, 1) := by decide +kernel
theorem d1106_70 : decode (mb 1106) 70 = .ok (.iaload, 1) := by decide +kernel
theorem d1106_71 : decode (mb 1106) 71 = .ok (.imul, 1) := by decide +kernel
theorem d1106_72 : decode (mb 1106) 72 = .ok (.iadd, 1) := by decide +kernel
theorem d1106_73 : decode (mb 1106) 73 = .ok (.istore 6, 2) := by decide +kernel
theorem d1106_75 : decode (mb 1106) 75 = .ok (.aload_n 0, 1) := by decide +kernel
theorem d1106_76 : decode (mb 1106) 76 = .ok (.getfield 16, 3) := by decide +kernel
theorem d1106_79 : decode (mb 1106) 79 = .ok (.iload 6, 2) := by decide +kernel
theorem d1106_81 : decode (mb 1106) 81 = .ok (.iload_n 2, 1) := by decide +kernel
theorem d1106_82 : decode (mb 1106) 82 = .ok (.iastore, 1) := by decide +kernel
theorem d1106_83 : decode (mb 1106) 83 = .ok (.aload_n 0, 1) := by decide +kernel
theorem d1106_84 : decode (mb 1106) 84 = .ok (.getfield 16, 3) := by decide +kernel
theorem d1106_87 : decode (mb 1106) 87 = .ok (.iload 6, 2) := by decide +kernel
theorem d1106_89 : decode (mb 1106) 89 = .ok (.iconst 1, 1) := by decide +kernel
theorem d1106_90 : decode (mb 1106) 90 = .ok (.iadd, 1) := by decide +kernel
theorem d1106_91 : decode (mb 1106) 91 = .ok (.iload_n 3, 1) := by decide +kernel
theorem d1106_92 : decode (mb 1106) 92 = .ok (.iastore, 1) := by decide +kernel
theorem d1106_93 : decode (mb 1106) 93 = .ok (.aload_n 0, 1) := by decide +kernel
theorem d1106_94 : decode (mb 1106) 94 = .ok (.getfield 16, 3) := by decide +kernel
theorem d1106_97 : decode (mb 1106) 97 = .ok (.iload 6, 2) := by decide +kernel
theorem d1106_99 : decode (mb 1106) 99 = .ok (.iconst 2, 1) := by decide +kernel
theorem d1106_100 : decode (mb 1106) 100 = .ok (.iadd, 1) := by decide +kernel
theorem d1106_101 : decode (mb 1106) 101 = .ok (.iload 4, 2) := by decide +kernel
theorem d1106_103 : decode (mb 1106) 103 = .ok (.iastore, 1) := by decide +kernel
theorem d1106_104 : decode (mb 1106) 104 = .ok (.aload_n 0, 1) := by decide +kernel
theorem d1106_105 : decode (mb 1106) 105 = .ok (.getfield 16, 3) := by decide +kernel
theorem d1106_108 : decode (mb 1106) 108 = .ok (.iload 6, 2) := by decide +kernel
theorem d1106_110 : decode (mb 1106) 110 = .ok (.iconst 3, 1) := by decide +kernel
theorem d1106_111 : decode (mb 1106) 111 = .ok (.iadd, 1) := by decide +kernel
theorem d1106_112 : decode (mb 1106) 112 = .ok (.iload 5, 2) := by decide +kernel
theorem d1106_114 : decode (mb 1106) 114 = .ok (.iastore, 1) := by decide +kernel
theorem d1106_115 : decode (mb 1106) 115 = .ok (.aload_n 0, 1) := by decide +kernel
theorem d1106_116 : decode (mb 1106) 116 = .ok (.getfield 13, 3) := by decide +kernel
theorem d1106_119 : decode (mb 1106) 119 = .ok (.iload_n 1, 1) := by decide +kernel
theorem d1106_120 : decode (mb 1106) 120 = .ok (.dup2, 1) := by decide +kernel
theorem d1106_121 : decode (mb 1106) 121 = .ok (.iaload, 1) := by decide +kernel
theorem d1106_122 : decode (mb 1106) 122 = .ok (.iconst 1, 1) := by decide +kernel
theorem d1106_123 : decode (mb 1106) 123 = .ok (.iadd, 1) := by decide +kernel
theorem d1106_124 : decode (mb 1106) 124 = .ok (.iastore, 1) := by decide +kernel
theorem d1106_125 : decode (mb 1106) 125 = .ok (.aload_n 0, 1) := by decide +kernel
theorem d1106_126 : decode (mb 1106) 126 = .ok (.getfield 13, 3) := by decide +kernel
theorem d1106_129 : decode (mb 1106) 129 = .ok (.iload_n 1, 1) := by decide +kernel
theorem d1106_130 : decode (mb 1106) 130 = .ok (.iaload, 1) := by decide +kernel
theorem d1106_131 : decode (mb 1106) 131 = .ok (.ireturn, 1) := by decide +kernel
theorem x1106_0 {S : List Value} {h : HP} {l1 l2 l3 l4 l5 l6 : Value} {a0 : Nat} : pX 1106 0 [.ref a0, l1, l2, l3, l4, l5, l6] S h = pX 1106 1 [.ref a0, l1, l2, l3, l4, l5, l6] (.ref a0 :: S) h := pX_stp d1106_0 rfl rfl rfl
theorem x1106_1 {S : List Value} {h : HP} {l0 l2 l3 l4 l5 l6 : Value} {x0 : Int32} : pX 1106 1 [l0, .int x0, l2, l3, l4, l5, l6] S h = pX 1106 2 [l0, .int x0, l2, l3, l4, l5, l6] (.int x0 :: S) h := pX_stp d1106_1 rfl rfl rfl
theorem x1106_2 {L : List Value} {h : HP} {x0 : Int32} {a0 : Nat} (hk : hp_k h a0 = 12) : pX 1106 2 L [.int x0, .ref a0] h = (pX 1102 0 [.ref a0, .int x0] [] h).bind (fun q => pX 1106 5 L (q.1.toList ++ []) q.2) := pX_inv (a := a0) (t := 12) 1102 [.ref a0, .int x0] [] d1106_2 rfl rfl rfl hk
theorem x1106_5 {L S : List Value} {h : HP} {x : Int32} : pX 1106 5 L (.int x :: S) h = if x = 0 then pX 1106 8 L S h else pX 1106 10 L S h := pX_if_ne d1106_5 (by decide)
theorem x1106_8 {L S : List Value} {h : HP} : pX 1106 8 L S h = pX 1106 9 L (.int (-1) :: S) h := pX_iconst d1106_8 (by decide)
theorem x1106_9 {L : List Value} {h : HP} {x : Int32} : pX 1106 9 L [.int x] h = some (some (.int x), h) := pX_ret d1106_9 rfl
theorem x1106_10 {S : List Value} {h : HP} {l0 l1 l3 l4 l5 l6 : Value} {x0 : Int32} : pX 1106 10 [l0, l1, .int x0, l3, l4, l5, l6] S h = pX 1106 11 [l0, l1, .int x0, l3, l4, l5, l6] (.int x0 :: S) h := pX_stp d1106_10 rfl rfl rfl
theorem x1106_11 {L S : List Value} {h : HP} : pX 1106 11 L S h = pX 1106 12 L (.int 0 :: S) h := pX_iconst d1106_11 (by decide)
theorem x1106_12 {L S : List Value} {h : HP} : pX 1106 12 L S h = pX 1106 14 L (.int 27 :: S) h := pX_bipush d1106_12 (by decide)
theorem x1106_14 {L : List Value} {h : HP} {x0 : Int32} {x1 : Int32} {x2 : Int32} : pX 1106 14 L [.int x0, .int x1, .int x2] h = (pX 1101 0 [.int x2, .int x1, .int x0] [] h).bind (fun q => pX 1106 17 L (q.1.toList ++ []) q.2) := pX_ins 1101 [.int x2, .int x1, .int x0] [] d1106_14 rfl rfl rfl
theorem x1106_17 {L S : List Value} {h : HP} {x : Int32} : pX 1106 17 L (.int x :: S) h = if x = 0 then pX 1106 32 L S h else pX 1106 20 L S h := pX_if_eq d1106_17 (by decide)
theorem x1106_20 {S : List Value} {h : HP} {l0 l1 l3 l4 l5 l6 : Value} {x0 : Int32} : pX 1106 20 [l0, l1, .int x0, l3, l4, l5, l6] S h = pX 1106 21 [l0, l1, .int x0, l3, l4, l5, l6] (.int x0 :: S) h := pX_stp d1106_20 rfl rfl rfl
theorem x1106_21 {S : List Value} {h : HP} {l0 l1 l2 l4 l5 l6 : Value} {x0 : Int32} : pX 1106 21 [l0, l1, l2, .int x0, l4, l5, l6] S h = pX 1106 22 [l0, l1, l2, .int x0, l4, l5, l6] (.int x0 :: S) h := pX_stp d1106_21 rfl rfl rfl
theorem x1106_22 {S : List Value} {h : HP} {l0 l1 l2 l3 l5 l6 : Value} {x0 : Int32} : pX 1106 22 [l0, l1, l2, l3, .int x0, l5, l6] S h = pX 1106 24 [l0, l1, l2, l3, .int x0, l5, l6] (.int x0 :: S) h := pX_stp d1106_22 rfl rfl rfl
theorem x1106_24 {S : List Value} {h : HP} {l0 l1 l2 l3 l4 l6 : Value} {x0 : Int32} : pX 1106 24 [l0, l1, l2, l3, l4, .int x0, l6] S h = pX 1106 26 [l0, l1, l2, l3, l4, .int x0, l6] (.int x0 :: S) h := pX_stp d1106_24 rfl rfl rfl
theorem x1106_26 {L : List Value} {h : HP} {x0 : Int32} {x1 : Int32} {x2 : Int32} {x3 : Int32} : pX 1106 26 L [.int x0, .int x1, .int x2, .int x3] h = (pX 1105 0 [.int x3, .int x2, .int x1, .int x0, .retAddr 0] [] h).bind (fun q => pX 1106 29 L (q.1.toList ++ []) q.2) := pX_ins 1105 [.int x3, .int x2, .int x1, .int x0] [] d1106_26 rfl rfl rfl
theorem x1106_29 {L S : List Value} {h : HP} {x : Int32} : pX 1106 29 L (.int x :: S) h = if x = 0 then pX 1106 32 L S h else pX 1106 35 L S h := pX_if_ne d1106_29 (by decide)
theorem x1106_32 {L S : List Value} {h : HP} : pX 1106 32 L S h = pX 1106 34 L (.int (-2) :: S) h := pX_bipush d1106_32 (by decide)
theorem x1106_34 {L : List Value} {h : HP} {x : Int32} : pX 1106 34 L [.int x] h = some (some (.int x), h) := pX_ret d1106_34 rfl
theorem x1106_35 {S : List Value} {h : HP} {l1 l2 l3 l4 l5 l6 : Value} {a0 : Nat} : pX 1106 35 [.ref a0, l1, l2, l3, l4, l5, l6] S h = pX 1106 36 [.ref a0, l1, l2, l3, l4, l5, l6] (.ref a0 :: S) h := pX_stp d1106_35 rfl rfl rfl
theorem x1106_36 {L S : List Value} {h : HP} {a : Nat} (hk : hp_k h a = 12) : pX 1106 36 L (.ref a :: S) h = pX 1106 39 L (.int (hp_i h a 8) :: S) h := pX_get d1106_36 rfl rfl hk
theorem x1106_39 {L S : List Value} {h : HP} {x : Int32} : pX 1106 39 L (.int x :: S) h = if x = 0 then pX 1106 45 L S h else pX 1106 42 L S h := pX_if_eq d1106_39 (by decide)
theorem x1106_42 {L S : List Value} {h : HP} : pX 1106 42 L S h = pX 1106 44 L (.int (-3) :: S) h := pX_bipush d1106_42 (by decide)
theorem x1106_44 {L : List Value} {h : HP} {x : Int32} : pX 1106 44 L [.int x] h = some (some (.int x), h) := pX_ret d1106_44 rfl
theorem x1106_45 {S : List Value} {h : HP} {l1 l2 l3 l4 l5 l6 : Value} {a0 : Nat} : pX 1106 45 [.ref a0, l1, l2, l3, l4, l5, l6] S h = pX 1106 46 [.ref a0, l1, l2, l3, l4, l5, l6] (.ref a0 :: S) h := pX_stp d1106_45 rfl rfl rfl
theorem x1106_46 {L S : List Value} {h : HP} {a : Nat} (hk : hp_k h a = 12) : pX 1106 46 L (.ref a :: S) h = pX 1106 49 L (.ref (hp_a h a 2) :: S) h := pX_get d1106_46 rfl rfl hk
theorem x1106_49 {S : List Value} {h : HP} {l0 l2 l3 l4 l5 l6 : Value} {x0 : Int32} : pX 1106 49 [l0, .int x0, l2, l3, l4, l5, l6] S h = pX 1106 50 [l0, .int x0, l2, l3, l4, l5, l6] (.int x0 :: S) h := pX_stp d1106_49 rfl rfl rfl
theorem x1106_50 {L S : List Value} {h : HP} {a : Nat} {j : Int32} (hk : hp_k h a = 100) (hj : inb j (hp_l h a) = true) : pX 1106 50 L (.int j :: .ref a :: S) h = pX 1106 51 L (.int (hp_i h a (ix j)) :: S) h := pX_ild d1106_50 hk hj
theorem x1106_51 {L S : List Value} {h : HP} : pX 1106 51 L S h = pX 1106 53 L (.int 40 :: S) h := pX_bipush d1106_51 (by decide)
theorem x1106_53 {L S : List Value} {h : HP} {x y : Int32} : pX 1106 53 L (.int y :: .int x :: S) h = if x = y then pX 1106 56 L S h else pX 1106 59 L S h := pX_icmp_ne d1106_53 (by decide)
theorem x1106_56 {L S : List Value} {h : HP} : pX 1106 56 L S h = pX 1106 58 L (.int (-4) :: S) h := pX_bipush d1106_56 (by decide)
theorem x1106_58 {L : List Value} {h : HP} {x : Int32} : pX 1106 58 L [.int x] h = some (some (.int x), h) := pX_ret d1106_58 rfl
theorem x1106_59 {L S : List Value} {h : HP} : pX 1106 59 L S h = pX 1106 62 L (.int 160 :: S) h := pX_sipush d1106_59 (by decide)
theorem x1106_62 {S : List Value} {h : HP} {l0 l2 l3 l4 l5 l6 : Value} {x0 : Int32} : pX 1106 62 [l0, .int x0, l2, l3, l4, l5, l6] S h = pX 1106 63 [l0, .int x0, l2, l3, l4, l5, l6] (.int x0 :: S) h := pX_stp d1106_62 rfl rfl rfl
theorem x1106_63 {L S : List Value} {h : HP} {x y : Int32} : pX 1106 63 L (.int y :: .int x :: S) h = pX 1106 64 L (.int (x * y) :: S) h := pX_stp d1106_63 rfl rfl rfl
theorem x1106_64 {L S : List Value} {h : HP} : pX 1106 64 L S h = pX 1106 65 L (.int 4 :: S) h := pX_iconst d1106_64 (by decide)
theorem x1106_65 {S : List Value} {h : HP} {l1 l2 l3 l4 l5 l6 : Value} {a0 : Nat} : pX 1106 65 [.ref a0, l1, l2, l3, l4, l5, l6] S h = pX 1106 66 [.ref a0, l1, l2, l3, l4, l5, l6] (.ref a0 :: S) h := pX_stp d1106_65 rfl rfl rfl
theorem x1106_66 {L S : List Value} {h : HP} {a : Nat} (hk : hp_k h a = 12) : pX 1106 66 L (.ref a :: S) h = pX 1106 69 L (.ref (hp_a h a 2) :: S) h := pX_get d1106_66 rfl rfl hk
theorem x1106_69 {S : List Value} {h : HP} {l0 l2 l3 l4 l5 l6 : Value} {x0 : Int32} : pX 1106 69 [l0, .int x0, l2, l3, l4, l5, l6] S h = pX 1106 70 [l0, .int x0, l2, l3, l4, l5, l6] (.int x0 :: S) h := pX_stp d1106_69 rfl rfl rfl
theorem x1106_70 {L S : List Value} {h : HP} {a : Nat} {j : Int32} (hk : hp_k h a = 100) (hj : inb j (hp_l h a) = true) : pX 1106 70 L (.int j :: .ref a :: S) h = pX 1106 71 L (.int (hp_i h a (ix j)) :: S) h := pX_ild d1106_70 hk hj
theorem x1106_71 {L S : List Value} {h : HP} {x y : Int32} : pX 1106 71 L (.int y :: .int x :: S) h = pX 1106 72 L (.int (x * y) :: S) h := pX_stp d1106_71 rfl rfl rfl
theorem x1106_72 {L S : List Value} {h : HP} {x y : Int32} : pX 1106 72 L (.int y :: .int x :: S) h = pX 1106 73 L (.int (x + y) :: S) h := pX_stp d1106_72 rfl rfl rfl
theorem x1106_73 {S : List Value} {h : HP} {l0 l1 l2 l3 l4 l5 l6 : Value} {x0 : Int32} : pX 1106 73 [l0, l1, l2, l3, l4, l5, l6] (.int x0 :: S) h = pX 1106 75 [l0, l1, l2, l3, l4, l5, .int x0] S h := pX_stp d1106_73 rfl rfl rfl
theorem x1106_75 {S : List Value} {h : HP} {l1 l2 l3 l4 l5 l6 : Value} {a0 : Nat} : pX 1106 75 [.ref a0, l1, l2, l3, l4, l5, l6] S h = pX 1106 76 [.ref a0, l1, l2, l3, l4, l5, l6] (.ref a0 :: S) h := pX_stp d1106_75 rfl rfl rfl
theorem x1106_76 {L S : List Value} {h : HP} {a : Nat} (hk : hp_k h a = 12) : pX 1106 76 L (.ref a :: S) h = pX 1106 79 L (.ref (hp_a h a 3) :: S) h := pX_get d1106_76 rfl rfl hk
theorem x1106_79 {S : List Value} {h : HP} {l0 l1 l2 l3 l4 l5 : Value} {x0 : Int32} : pX 1106 79 [l0, l1, l2, l3, l4, l5, .int x0] S h = pX 1106 81 [l0, l1, l2, l3, l4, l5, .int x0] (.int x0 :: S) h := pX_stp d1106_79 rfl rfl rfl
theorem x1106_81 {S : List Value} {h : HP} {l0 l1 l3 l4 l5 l6 : Value} {x0 : Int32} : pX 1106 81 [l0, l1, .int x0, l3, l4, l5, l6] S h = pX 1106 82 [l0, l1, .int x0, l3, l4, l5, l6] (.int x0 :: S) h := pX_stp d1106_81 rfl rfl rfl
theorem x1106_82 {L S : List Value} {h : HP} {a : Nat} {j x : Int32} (hk : hp_k h a = 100) (hj : inb j (hp_l h a) = true) : pX 1106 82 L (.int x :: .int j :: .ref a :: S) h = pX 1106 83 L S (hp_wi h a (ix j) x) := pX_ist d1106_82 hk hj
theorem x1106_83 {S : List Value} {h : HP} {l1 l2 l3 l4 l5 l6 : Value} {a0 : Nat} : pX 1106 83 [.ref a0, l1, l2, l3, l4, l5, l6] S h = pX 1106 84 [.ref a0, l1, l2, l3, l4, l5, l6] (.ref a0 :: S) h := pX_stp d1106_83 rfl rfl rfl
theorem x1106_84 {L S : List Value} {h : HP} {a : Nat} (hk : hp_k h a = 12) : pX 1106 84 L (.ref a :: S) h = pX 1106 87 L (.ref (hp_a h a 3) :: S) h := pX_get d1106_84 rfl rfl hk
theorem x1106_87 {S : List Value} {h : HP} {l0 l1 l2 l3 l4 l5 : Value} {x0 : Int32} : pX 1106 87 [l0, l1, l2, l3, l4, l5, .int x0] S h = pX 1106 89 [l0, l1, l2, l3, l4, l5, .int x0] (.int x0 :: S) h := pX_stp d1106_87 rfl rfl rfl
theorem x1106_89 {L S : List Value} {h : HP} : pX 1106 89 L S h = pX 1106 90 L (.int 1 :: S) h := pX_iconst d1106_89 (by decide)
theorem x1106_90 {L S : List Value} {h : HP} {x y : Int32} : pX 1106 90 L (.int y :: .int x :: S) h = pX 1106 91 L (.int (x + y) :: S) h := pX_stp d1106_90 rfl rfl rfl
theorem x1106_91 {S : List Value} {h : HP} {l0 l1 l2 l4 l5 l6 : Value} {x0 : Int32} : pX 1106 91 [l0, l1, l2, .int x0, l4, l5, l6] S h = pX 1106 92 [l0, l1, l2, .int x0, l4, l5, l6] (.int x0 :: S) h := pX_stp d1106_91 rfl rfl rfl
theorem x1106_92 {L S : List Value} {h : HP} {a : Nat} {j x : Int32} (hk : hp_k h a = 100) (hj : inb j (hp_l h a) = true) : pX 1106 92 L (.int x :: .int j :: .ref a :: S) h = pX 1106 93 L S (hp_wi h a (ix j) x) := pX_ist d1106_92 hk hj
theorem x1106_93 {S : List Value} {h : HP} {l1 l2 l3 l4 l5 l6 : Value} {a0 : Nat} : pX 1106 93 [.ref a0, l1, l2, l3, l4, l5, l6] S h = pX 1106 94 [.ref a0, l1, l2, l3, l4, l5, l6] (.ref a0 :: S) h := pX_stp d1106_93 rfl rfl rfl
theorem x1106_94 {L S : List Value} {h : HP} {a : Nat} (hk : hp_k h a = 12) : pX 1106 94 L (.ref a :: S) h = pX 1106 97 L (.ref (hp_a h a 3) :: S) h := pX_get d1106_94 rfl rfl hk
theorem x1106_97 {S : List Value} {h : HP} {l0 l1 l2 l3 l4 l5 : Value} {x0 : Int32} : pX 1106 97 [l0, l1, l2, l3, l4, l5, .int x0] S h = pX 1106 99 [l0, l1, l2, l3, l4, l5, .int x0] (.int x0 :: S) h := pX_stp d1106_97 rfl rfl rfl
theorem x1106_99 {L S : List Value} {h : HP} : pX 1106 99 L S h = pX 1106 100 L (.int 2 :: S) h := pX_iconst d1106_99 (by decide)
theorem x1106_100 {L S : List Value} {h : HP} {x y : Int32} : pX 1106 100 L (.int y :: .int x :: S) h = pX 1106 101 L (.int (x + y) :: S) h := pX_stp d1106_100 rfl rfl rfl
theorem x1106_101 {S : List Value} {h : HP} {l0 l1 l2 l3 l5 l6 : Value} {x0 : Int32} : pX 1106 101 [l0, l1, l2, l3, .int x0, l5, l6] S h = pX 1106 103 [l0, l1, l2, l3, .int x0, l5, l6] (.int x0 :: S) h := pX_stp d1106_101 rfl rfl rfl
theorem x1106_103 {L S : List Value} {h : HP} {a : Nat} {j x : Int32} (hk : hp_k h a = 100) (hj : inb j (hp_l h a) = true) : pX 1106 103 L (.int x :: .int j :: .ref a :: S) h = pX 1106 104 L S (hp_wi h a (ix j) x) := pX_ist d1106_103 hk hj
theorem x1106_104 {S : List Value} {h : HP} {l1 l2 l3 l4 l5 l6 : Value} {a0 : Nat} : pX 1106 104 [.ref a0, l1, l2, l3, l4, l5, l6] S h = pX 1106 105 [.ref a0, l1, l2, l3, l4, l5, l6] (.ref a0 :: S) h := pX_stp d1106_104 rfl rfl rfl
theorem x1106_105 {L S : List Value} {h : HP} {a : Nat} (hk : hp_k h a = 12) : pX 1106 105 L (.ref a :: S) h = pX 1106 108 L (.ref (hp_a h a 3) :: S) h := pX_get d1106_105 rfl rfl hk
theorem x1106_108 {S : List Value} {h : HP} {l0 l1 l2 l3 l4 l5 : Value} {x0 : Int32} : pX 1106 108 [l0, l1, l2, l3, l4, l5, .int x0] S h = pX 1106 110 [l0, l1, l2, l3, l4, l5, .int x0] (.int x0 :: S) h := pX_stp d1106_108 rfl rfl rfl
theorem x1106_110 {L S : List Value} {h : HP} : pX 1106 110 L S h = pX 1106 111 L (.int 3 :: S) h := pX_iconst d1106_110 (by decide)
theorem x1106_111 {L S : List Value} {h : HP} {x y : Int32} : pX 1106 111 L (.int y :: .int x :: S) h = pX 1106 112 L (.int (x + y) :: S) h := pX_stp d1106_111 rfl rfl rfl
theorem x1106_112 {S : List Value} {h : HP} {l0 l1 l2 l3 l4 l6 : Value} {x0 : Int32} : pX 1106 112 [l0, l1, l2, l3, l4, .int x0, l6] S h = pX 1106 114 [l0, l1, l2, l3, l4, .int x0, l6] (.int x0 :: S) h := pX_stp d1106_112 rfl rfl rfl
theorem x1106_114 {L S : List Value} {h : HP} {a : Nat} {j x : Int32} (hk : hp_k h a = 100) (hj : inb j (hp_l h a) = true) : pX 1106 114 L (.int x :: .int j :: .ref a :: S) h = pX 1106 115 L S (hp_wi h a (ix j) x) := pX_ist d1106_114 hk hj
theorem x1106_115 {S : List Value} {h : HP} {l1 l2 l3 l4 l5 l6 : Value} {a0 : Nat} : pX 1106 115 [.ref a0, l1, l2, l3, l4, l5, l6] S h = pX 1106 116 [.ref a0, l1, l2, l3, l4, l5, l6] (.ref a0 :: S) h := pX_stp d1106_115 rfl rfl rfl
theorem x1106_116 {L S : List Value} {h : HP} {a : Nat} (hk : hp_k h a = 12) : pX 1106 116 L (.ref a :: S) h = pX 1106 119 L (.ref (hp_a h a 2) :: S) h := pX_get d1106_116 rfl rfl hk
theorem x1106_119 {S : List Value} {h : HP} {l0 l2 l3 l4 l5 l6 : Value} {x0 : Int32} : pX 1106 119 [l0, .int x0, l2, l3, l4, l5, l6] S h = pX 1106 120 [l0, .int x0, l2, l3, l4, l5, l6] (.int x0 :: S) h := pX_stp d1106_119 rfl rfl rfl
theorem x1106_120 {L S : List Value} {h : HP} {x0 : Int32} {a0 : Nat} : pX 1106 120 L (.int x0 :: .ref a0 :: S) h = pX 1106 121 L (.int x0 :: .ref a0 :: .int x0 :: .ref a0 :: S) h := pX_stp d1106_120 rfl rfl rfl
theorem x1106_121 {L S : List Value} {h : HP} {a : Nat} {j : Int32} (hk : hp_k h a = 100) (hj : inb j (hp_l h a) = true) : pX 1106 121 L (.int j :: .ref a :: S) h = pX 1106 122 L (.int (hp_i h a (ix j)) :: S) h := pX_ild d1106_121 hk hj
theorem x1106_122 {L S : List Value} {h : HP} : pX 1106 122 L S h = pX 1106 123 L (.int 1 :: S) h := pX_iconst d1106_122 (by decide)
theorem x1106_123 {L S : List Value} {h : HP} {x y : Int32} : pX 1106 123 L (.int y :: .int x :: S) h = pX 1106 124 L (.int (x + y) :: S) h := pX_stp d1106_123 rfl rfl rfl
theorem x1106_124 {L S : List Value} {h : HP} {a : Nat} {j x : Int32} (hk : hp_k h a = 100) (hj : inb j (hp_l h a) = true) : pX 1106 124 L (.int x :: .int j :: .ref a :: S) h = pX 1106 125 L S (hp_wi h a (ix j) x) := pX_ist d1106_124 hk hj
theorem x1106_125 {S : List Value} {h : HP} {l1 l2 l3 l4 l5 l6 : Value} {a0 : Nat} : pX 1106 125 [.ref a0, l1, l2, l3, l4, l5, l6] S h = pX 1106 126 [.ref a0, l1, l2, l3, l4, l5, l6] (.ref a0 :: S) h := pX_stp d1106_125 rfl rfl rfl
theorem x1106_126 {L S : List Value} {h : HP} {a : Nat} (hk : hp_k h a = 12) : pX 1106 126 L (.ref a :: S) h = pX 1106 129 L (.ref (hp_a h a 2) :: S) h := pX_get d1106_126 rfl rfl hk
theorem x1106_129 {S : List Value} {h : HP} {l0 l2 l3 l4 l5 l6 : Value} {x0 : Int32} : pX 1106 129 [l0, .int x0, l2, l3, l4, l5, l6] S h = pX 1106 130 [l0, .int x0, l2, l3, l4, l5, l6] (.int x0 :: S) h := pX_stp d1106_129 rfl rfl rfl
theorem x1106_130 {L S : List Value} {h : HP} {a : Nat} {j : Int32} (hk : hp_k h a = 100) (hj : inb j (hp_l h a) = true) : pX 1106 130 L (.int j :: .ref a :: S) h = pX 1106 131 L (.int (hp_i h a (ix j)) :: S) h := pX_ild d1106_130 hk hj
theorem x1106_131 {L : List Value} {h : HP} {x : Int32} : pX 1106 131 L [.int x] h = some (some (.int x), h) := pX_ret d1106_131 rfl
theorem d1107_0 : decode (mb 1107) 0 = .ok (.aload_n 0, 1) := by decide +kernel
theorem d1107_1 : decode (mb 1107) 1 = .ok (.iload_n 1, 1) := by decide +kernel
theorem d1107_2 : decode (mb 1107) 2 = .ok (.invokevirtual 123, 3) := by decide +kernel
theorem d1107_5 : decode (mb 1107) 5 = .ok (.ifCond .ne 5, 3) := by decide +kernel
theorem d1107_8 : decode (mb 1107) 8 = .ok (.iconst (-1), 1) := by decide +kernel
theorem d1107_9 : decode (mb 1107) 9 = .ok (.ireturn, 1) := by decide +kernel
theorem d1107_10 : decode (mb 1107) 10 = .ok (.iload_n 2, 1) := by decide +kernel
theorem d1107_11 : decode (mb 1107) 11 = .ok (.iconst 0, 1) := by decide +kernel
theorem d1107_12 : decode (mb 1107) 12 = .ok (.bipush 40, 2) := by decide +kernel
theorem d1107_14 : decode (mb 1107) 14 = .ok (.invokestatic 111, 3) := by decide +kernel
theorem d1107_17 : decode (mb 1107) 17 = .ok (.ifCond .eq 35, 3) := by decide +kernel
theorem d1107_20 : decode (mb 1107) 20 = .ok (.iload_n 3, 1) := by decide +kernel
theorem d1107_21 : decode (mb 1107) 21 = .ok (.iconst 0, 1) := by decide +kernel
theorem d1107_22 : decode (mb 1107) 22 = .ok (.bipush 40, 2) := by decide +kernel
theorem d1107_24 : decode (mb 1107) 24 = .ok (.invokestatic 111, 3) := by decide +kernel
theorem d1107_27 : decode (mb 1107) 27 = .ok (.ifCond .eq 25, 3) := by decide +kernel
theorem d1107_30 : decode (mb 1107) 30 = .ok (.iload 4, 2) := by decide +kernel
theorem d1107_32 : decode (mb 1107) 32 = .ok (.iconst 0, 1) := by decide +kernel
theorem d1107_33 : decode (mb 1107) 33 = .ok (.bipush 9, 2) := by decide +kernel
theorem d1107_35 : decode (mb 1107) 35 = .ok (.invokestatic 111, 3) := by decide +kernel
theorem d1107_38 : decode (mb 1107) 38 = .ok (.ifCond .eq 14, 3) := by decide +kernel
theorem d1107_41 : decode (mb 1107) 41 = .ok (.iload 5, 2) := by decide +kernel
theorem d1107_43 : decode (mb 1107) 43 = .ok (.iconst 0, 1) := by decide +kernel
theorem d1107_44 : decode (mb 1107) 44 = .ok (.bipush 40, 2) := by decide +kernel
theorem d1107_46 : decode (mb 1107) 46 = .ok (.invokestatic 111, 3) := by decide +kernel
theorem d1107_49 : decode (mb 1107) 49 = .ok (.ifCond .ne 6, 3) := by decide +kernel
theorem d1107_52 : decode (mb 1107) 52 = .ok (.bipush (-2), 2) := by decide +kernel
theorem d1107_54 : decode (mb 1107) 54 = .ok (.ireturn, 1) := by decide +kernel
theorem d1107_55 : decode (mb 1107) 55 = .ok (.aload_n 0, 1) := by decide +kernel
theorem d1107_56 : decode (mb 1107) 56 = .ok (.getfield 115, 3) := by decide +kernel
theorem d1107_59 : decode (mb 1107) 59 = .ok (.ifCond .eq 6, 3) := by decide +kernel
theorem d1107_62 : decode (mb 1107) 62 = .ok (.bipush (-3), 2) := by decide +kernel
theorem d1107_64 : decode (mb 1107) 64 = .ok (.ireturn, 1) := by decide +kernel
theorem d1107_65 : decode (mb 1107) 65 = .ok (.aload_n 0, 1) := by decide +kernel
theorem d1107_66 : decode (mb 1107) 66 = .ok (.getfield 19, 3) := by decide +kernel
theorem d1107_69 : decode (mb 1107) 69 = .ok (.iload_n 1, 1) := by decide +kernel
theorem d1107_70 : decode (mb 1107) 70 = .ok (.iaload, 1) := by decide +kernel
theorem d1107_71 : decode (mb 1107) 71 = .ok (.bipush 6, 2) := by decide +kernel
theorem d1107_73 : decode (mb 1107) 73 = .ok (.if_icmp .ne 6, 3) := by decide +kernel
theorem d1107_76 : decode (mb 1107) 76 = .ok (.bipush (-4), 2) := by decide +kernel
theorem d1107_78 : decode (mb 1107) 78 = .ok (.ireturn, 1) := by decide +kernel
theorem d1107_79 : decode (mb 1107) 79 = .ok (.bipush 24, 2) := by decide +kernel
theorem d1107_81 : decode (mb 1107) 81 = .ok (.iload_n 1, 1) := by decide +kernel
theorem d1107_82 : decode (mb 1107) 82 = .ok (.imul, 1) := by decide +kernel
theorem d1107_83 : decode (mb 1107) 83 = .ok (.iconst 4, 1) := by decide +kernel
theorem d1107_84 : decode (mb 1107) 84 = .ok (.aload_n 0, 1) := by decide +kernel
theorem d1107_85 : decode (mb 1107) 85 = .ok (.getfield 19, 3) := by decide +kernel
theorem d1107_88 : decode (mb 1107) 88 = .ok (.iload_n 1, 1) := by decide +kernel
theorem d1107_89 : decode (mb 1107) 89 = .ok (.iaload, 1) := by decide +kernel
theorem d1107_90 : decode (mb 1107) 90 = .ok (.imul, 1) := by decide +kernel
theorem d1107_91 : decode (mb 1107) 91 = .ok (.iadd, 1) := by decide +kernel
theorem d1107_92 : decode (mb 1107) 92 = .ok (.istore 6, 2) := by decide +kernel
theorem d1107_94 : decode (mb 1107) 94 = .ok (.aload_n 0, 1) := by decide +kernel
theorem d1107_95 : decode (mb 1107) 95 = .ok (.getfield 22, 3) := by decide +kernel
theorem d1107_98 : decode (mb 1107) 98 = .ok (.iload 6, 2) := by decide +kernel
theorem d1107_100 : decode (mb 1107) 100 = .ok (.iload_n 2, 1) := by decide +kernel
theorem d1107_101 : decode (mb 1107) 101 = .ok (.iastore, 1) := by decide +kernel
theorem d1107_102 : decode (mb 1107) 102 = .ok (.aload_n 0, 1) := by decide +kernel
theorem d1107_103 : decode (mb 1107) 103 = .ok (.getfield 22, 3) := by decide +kernel
theorem d1107_106 : decode (mb 1107) 106 = .ok (.iload 6, 2) := by decide +kernel
theorem d1107_108 : decode (mb 1107) 108 = .ok (.iconst 1, 1) := by decide +kernel
theorem d1107_109 : decode (mb 1107) 109 = .ok (.iadd, 1) := by decide +kernel
theorem d1107_110 : decode (mb 1107) 110 = .ok (.iload_n 3, 1) := by decide +kernel
theorem d1107_111 : decode (mb 1107) 111 = .ok (.iastore, 1) := by decide +kernel
theorem d1107_112 : decode (mb 1107) 112 = .ok (.aload_n 0, 1) := by decide +kernel
theorem d1107_113 : decode (mb 1107) 113 = .ok (.getfield 22, 3) := by decide +kernel
theorem d1107_116 : decode (mb 1107) 116 = .ok (.iload 6, 2) := by decide +kernel
theorem d1107_118 : decode (mb 1107) 118 = .ok (.iconst 2, 1) := by decide +kernel
theorem d1107_119 : decode (mb 1107) 119 = .ok (.iadd, 1) := by decide +kernel
theorem d1107_120 : decode (mb 1107) 120 = .ok (.iload 4, 2) := by decide +kernel
theorem d1107_122 : decode (mb 1107) 122 = .ok (.iastore, 1) := by decide +kernel
theorem d1107_123 : decode (mb 1107) 123 = .ok (.aload_n 0, 1) := by decide +kernel
theorem d1107_124 : decode (mb 1107) 124 = .ok (.getfield 22, 3) := by decide +kernel
theorem d1107_127 : decode (mb 1107) 127 = .ok (.iload 6, 2) := by decide +kernel
theorem d1107_129 : decode (mb 1107) 129 = .ok (.iconst 3, 1) := by decide +kernel
theorem d1107_130 : decode (mb 1107) 130 = .ok (.iadd, 1) := by decide +kernel
theorem d1107_131 : decode (mb 1107) 131 = .ok (.iload 5, 2) := by decide +kernel
theorem d1107_133 : decode (mb 1107) 133 = .ok (.iastore, 1) := by decide +kernel
theorem d1107_134 : decode (mb 1107) 134 = .ok (.aload_n 0, 1) := by decide +kernel
theorem d1107_135 : decode (mb 1107) 135 = .ok (.getfield 19, 3) := by decide +kernel
theorem d1107_138 : decode (mb 1107) 138 = .ok (.iload_n 1, 1) := by decide +kernel
theorem d1107_139 : decode (mb 1107) 139 = .ok (.dup2, 1) := by decide +kernel
theorem d1107_140 : decode (mb 1107) 140 = .ok (.iaload, 1) := by decide +kernel
theorem d1107_141 : decode (mb 1107) 141 = .ok (.iconst 1, 1) := by decide +kernel
theorem d1107_142 : decode (mb 1107) 142 = .ok (.iadd, 1) := by decide +kernel
theorem d1107_143 : decode (mb 1107) 143 = .ok (.iastore, 1) := by decide +kernel
theorem d1107_144 : decode (mb 1107) 144 = .ok (.aload_n 0, 1) := by decide +kernel
theorem d1107_145 : decode (mb 1107) 145 = .ok (.getfield 19, 3) := by decide +kernel
theorem d1107_148 : decode (mb 1107) 148 = .ok (.iload_n 1, 1) := by decide +kernel
theorem d1107_149 : decode (mb 1107) 149 = .ok (.iaload, 1) := by decide +kernel
theorem d1107_150 : decode (mb 1107) 150 = .ok (.ireturn, 1) := by decide +kernel
theorem x1107_0 {S : List Value} {h : HP} {l1 l2 l3 l4 l5 l6 : Value} {a0 : Nat} : pX 1107 0 [.ref a0, l1, l2, l3, l4, l5, l6] S h = pX 1107 1 [.ref a0, l1, l2, l3, l4, l5, l6] (.ref a0 :: S) h := pX_stp d1107_0 rfl rfl rfl
theorem x1107_1 {S : List Value} {h : HP} {l0 l2 l3 l4 l5 l6 : Value} {x0 : Int32} : pX 1107 1 [l0, .int x0, l2, l3, l4, l5, l6] S h = pX 1107 2 [l0, .int x0, l2, l3, l4, l5, l6] (.int x0 :: S) h := pX_stp d1107_1 rfl rfl rfl
theorem x1107_2 {L : List Value} {h : HP} {x0 : Int32} {a0 : Nat} (hk : hp_k h a0 = 12) : pX 1107 2 L [.int x0, .ref a0] h = (pX 1102 0 [.ref a0, .int x0] [] h).bind (fun q => pX 1107 5 L (q.1.toList ++ []) q.2) := pX_inv (a := a0) (t := 12) 1102 [.ref a0, .int x0] [] d1107_2 rfl rfl rfl hk
theorem x1107_5 {L S : List Value} {h : HP} {x : Int32} : pX 1107 5 L (.int x :: S) h = if x = 0 then pX 1107 8 L S h else pX 1107 10 L S h := pX_if_ne d1107_5 (by decide)
theorem x1107_8 {L S : List Value} {h : HP} : pX 1107 8 L S h = pX 1107 9 L (.int (-1) :: S) h := pX_iconst d1107_8 (by decide)
theorem x1107_9 {L : List Value} {h : HP} {x : Int32} : pX 1107 9 L [.int x] h = some (some (.int x), h) := pX_ret d1107_9 rfl
theorem x1107_10 {S : List Value} {h : HP} {l0 l1 l3 l4 l5 l6 : Value} {x0 : Int32} : pX 1107 10 [l0, l1, .int x0, l3, l4, l5, l6] S h = pX 1107 11 [l0, l1, .int x0, l3, l4, l5, l6] (.int x0 :: S) h := pX_stp d1107_10 rfl rfl rfl
theorem x1107_11 {L S : List Value} {h : HP} : pX 1107 11 L S h = pX 1107 12 L (.int 0 :: S) h := pX_iconst d1107_11 (by decide)
theorem x1107_12 {L S : List Value} {h : HP} : pX 1107 12 L S h = pX 1107 14 L (.int 40 :: S) h := pX_bipush d1107_12 (by decide)
theorem x1107_14 {L : List Value} {h : HP} {x0 : Int32} {x1 : Int32} {x2 : Int32} : pX 1107 14 L [.int x0, .int x1, .int x2] h = (pX 1101 0 [.int x2, .int x1, .int x0] [] h).bind (fun q => pX 1107 17 L (q.1.toList ++ []) q.2) := pX_ins 1101 [.int x2, .int x1, .int x0] [] d1107_14 rfl rfl rfl
theorem x1107_17 {L S : List Value} {h : HP} {x : Int32} : pX 1107 17 L (.int x :: S) h = if x = 0 then pX 1107 52 L S h else pX 1107 20 L S h := pX_if_eq d1107_17 (by decide)
theorem x1107_20 {S : List Value} {h : HP} {l0 l1 l2 l4 l5 l6 : Value} {x0 : Int32} : pX 1107 20 [l0, l1, l2, .int x0, l4, l5, l6] S h = pX 1107 21 [l0, l1, l2, .int x0, l4, l5, l6] (.int x0 :: S) h := pX_stp d1107_20 rfl rfl rfl
theorem x1107_21 {L S : List Value} {h : HP} : pX 1107 21 L S h = pX 1107 22 L (.int 0 :: S) h := pX_iconst d1107_21 (by decide)
theorem x1107_22 {L S : List Value} {h : HP} : pX 1107 22 L S h = pX 1107 24 L (.int 40 :: S) h := pX_bipush d1107_22 (by decide)
theorem x1107_24 {L : List Value} {h : HP} {x0 : Int32} {x1 : Int32} {x2 : Int32} : pX 1107 24 L [.int x0, .int x1, .int x2] h = (pX 1101 0 [.int x2, .int x1, .int x0] [] h).bind (fun q => pX 1107 27 L (q.1.toList ++ []) q.2) := pX_ins 1101 [.int x2, .int x1, .int x0] [] d1107_24 rfl rfl rfl
theorem x1107_27 {L S : List Value} {h : HP} {x : Int32} : pX 1107 27 L (.int x :: S) h = if x = 0 then pX 1107 52 L S h else pX 1107 30 L S h := pX_if_eq d1107_27 (by decide)
theorem x1107_30 {S : List Value} {h : HP} {l0 l1 l2 l3 l5 l6 : Value} {x0 : Int32} : pX 1107 30 [l0, l1, l2, l3, .int x0, l5, l6] S h = pX 1107 32 [l0, l1, l2, l3, .int x0, l5, l6] (.int x0 :: S) h := pX_stp d1107_30 rfl rfl rfl
theorem x1107_32 {L S : List Value} {h : HP} : pX 1107 32 L S h = pX 1107 33 L (.int 0 :: S) h := pX_iconst d1107_32 (by decide)
theorem x1107_33 {L S : List Value} {h : HP} : pX 1107 33 L S h = pX 1107 35 L (.int 9 :: S) h := pX_bipush d1107_33 (by decide)
theorem x1107_35 {L : List Value} {h : HP} {x0 : Int32} {x1 : Int32} {x2 : Int32} : pX 1107 35 L [.int x0, .int x1, .int x2] h = (pX 1101 0 [.int x2, .int x1, .int x0] [] h).bind (fun q => pX 1107 38 L (q.1.toList ++ []) q.2) := pX_ins 1101 [.int x2, .int x1, .int x0] [] d1107_35 rfl rfl rfl
theorem x1107_38 {L S : List Value} {h : HP} {x : Int32} : pX 1107 38 L (.int x :: S) h = if x = 0 then pX 1107 52 L S h else pX 1107 41 L S h := pX_if_eq d1107_38 (by decide)
theorem x1107_41 {S : List Value} {h : HP} {l0 l1 l2 l3 l4 l6 : Value} {x0 : Int32} : pX 1107 41 [l0, l1, l2, l3, l4, .int x0, l6] S h = pX 1107 43 [l0, l1, l2, l3, l4, .int x0, l6] (.int x0 :: S) h := pX_stp d1107_41 rfl rfl rfl
theorem x1107_43 {L S : List Value} {h : HP} : pX 1107 43 L S h = pX 1107 44 L (.int 0 :: S) h := pX_iconst d1107_43 (by decide)
theorem x1107_44 {L S : List Value} {h : HP} : pX 1107 44 L S h = pX 1107 46 L (.int 40 :: S) h := pX_bipush d1107_44 (by decide)
theorem x1107_46 {L : List Value} {h : HP} {x0 : Int32} {x1 : Int32} {x2 : Int32} : pX 1107 46 L [.int x0, .int x1, .int x2] h = (pX 1101 0 [.int x2, .int x1, .int x0] [] h).bind (fun q => pX 1107 49 L (q.1.toList ++ []) q.2) := pX_ins 1101 [.int x2, .int x1, .int x0] [] d1107_46 rfl rfl rfl
theorem x1107_49 {L S : List Value} {h : HP} {x : Int32} : pX 1107 49 L (.int x :: S) h = if x = 0 then pX 1107 52 L S h else pX 1107 55 L S h := pX_if_ne d1107_49 (by decide)
theorem x1107_52 {L S : List Value} {h : HP} : pX 1107 52 L S h = pX 1107 54 L (.int (-2) :: S) h := pX_bipush d1107_52 (by decide)
theorem x1107_54 {L : List Value} {h : HP} {x : Int32} : pX 1107 54 L [.int x] h = some (some (.int x), h) := pX_ret d1107_54 rfl
theorem x1107_55 {S : List Value} {h : HP} {l1 l2 l3 l4 l5 l6 : Value} {a0 : Nat} : pX 1107 55 [.ref a0, l1, l2, l3, l4, l5, l6] S h = pX 1107 56 [.ref a0, l1, l2, l3, l4, l5, l6] (.ref a0 :: S) h := pX_stp d1107_55 rfl rfl rfl
theorem x1107_56 {L S : List Value} {h : HP} {a : Nat} (hk : hp_k h a = 12) : pX 1107 56 L (.ref a :: S) h = pX 1107 59 L (.int (hp_i h a 8) :: S) h := pX_get d1107_56 rfl rfl hk
theorem x1107_59 {L S : List Value} {h : HP} {x : Int32} : pX 1107 59 L (.int x :: S) h = if x = 0 then pX 1107 65 L S h else pX 1107 62 L S h := pX_if_eq d1107_59 (by decide)
theorem x1107_62 {L S : List Value} {h : HP} : pX 1107 62 L S h = pX 1107 64 L (.int (-3) :: S) h := pX_bipush d1107_62 (by decide)
theorem x1107_64 {L : List Value} {h : HP} {x : Int32} : pX 1107 64 L [.int x] h = some (some (.int x), h) := pX_ret d1107_64 rfl
theorem x1107_65 {S : List Value} {h : HP} {l1 l2 l3 l4 l5 l6 : Value} {a0 : Nat} : pX 1107 65 [.ref a0, l1, l2, l3, l4, l5, l6] S h = pX 1107 66 [.ref a0, l1, l2, l3, l4, l5, l6] (.ref a0 :: S) h := pX_stp d1107_65 rfl rfl rfl
theorem x1107_66 {L S : List Value} {h : HP} {a : Nat} (hk : hp_k h a = 12) : pX 1107 66 L (.ref a :: S) h = pX 1107 69 L (.ref (hp_a h a 4) :: S) h := pX_get d1107_66 rfl rfl hk
theorem x1107_69 {S : List Value} {h : HP} {l0 l2 l3 l4 l5 l6 : Value} {x0 : Int32} : pX 1107 69 [l0, .int x0, l2, l3, l4, l5, l6] S h = pX 1107 70 [l0, .int x0, l2, l3, l4, l5, l6] (.int x0 :: S) h := pX_stp d1107_69 rfl rfl rfl
theorem x1107_70 {L S : List Value} {h : HP} {a : Nat} {j : Int32} (hk : hp_k h a = 100) (hj : inb j (hp_l h a) = true) : pX 1107 70 L (.int j :: .ref a :: S) h = pX 1107 71 L (.int (hp_i h a (ix j)) :: S) h := pX_ild d1107_70 hk hj
theorem x1107_71 {L S : List Value} {h : HP} : pX 1107 71 L S h = pX 1107 73 L (.int 6 :: S) h := pX_bipush d1107_71 (by decide)
theorem x1107_73 {L S : List Value} {h : HP} {x y : Int32} : pX 1107 73 L (.int y :: .int x :: S) h = if x = y then pX 1107 76 L S h else pX 1107 79 L S h := pX_icmp_ne d1107_73 (by decide)
theorem x1107_76 {L S : List Value} {h : HP} : pX 1107 76 L S h = pX 1107 78 L (.int (-4) :: S) h := pX_bipush d1107_76 (by decide)
theorem x1107_78 {L : List Value} {h : HP} {x : Int32} : pX 1107 78 L [.int x] h = some (some (.int x), h) := pX_ret d1107_78 rfl
theorem x1107_79 {L S : List Value} {h : HP} : pX 1107 79 L S h = pX 1107 81 L (.int 24 :: S) h := pX_bipush d1107_79 (by decide)
theorem x1107_81 {S : List Value} {h : HP} {l0 l2 l3 l4 l5 l6 : Value} {x0 : Int32} : pX 1107 81 [l0, .int x0, l2, l3, l4, l5, l6] S h = pX 1107 82 [l0, .int x0, l2, l3, l4, l5, l6] (.int x0 :: S) h := pX_stp d1107_81 rfl rfl rfl
theorem x1107_82 {L S : List Value} {h : HP} {x y : Int32} : pX 1107 82 L (.int y :: .int x :: S) h = pX 1107 83 L (.int (x * y) :: S) h := pX_stp d1107_82 rfl rfl rfl
theorem x1107_83 {L S : List Value} {h : HP} : pX 1107 83 L S h = pX 1107 84 L (.int 4 :: S) h := pX_iconst d1107_83 (by decide)
theorem x1107_84 {S : List Value} {h : HP} {l1 l2 l3 l4 l5 l6 : Value} {a0 : Nat} : pX 1107 84 [.ref a0, l1, l2, l3, l4, l5, l6] S h = pX 1107 85 [.ref a0, l1, l2, l3, l4, l5, l6] (.ref a0 :: S) h := pX_stp d1107_84 rfl rfl rfl
theorem x1107_85 {L S : List Value} {h : HP} {a : Nat} (hk : hp_k h a = 12) : pX 1107 85 L (.ref a :: S) h = pX 1107 88 L (.ref (hp_a h a 4) :: S) h := pX_get d1107_85 rfl rfl hk
theorem x1107_88 {S : List Value} {h : HP} {l0 l2 l3 l4 l5 l6 : Value} {x0 : Int32} : pX 1107 88 [l0, .int x0, l2, l3, l4, l5, l6] S h = pX 1107 89 [l0, .int x0, l2, l3, l4, l5, l6] (.int x0 :: S) h := pX_stp d1107_88 rfl rfl rfl
theorem x1107_89 {L S : List Value} {h : HP} {a : Nat} {j : Int32} (hk : hp_k h a = 100) (hj : inb j (hp_l h a) = true) : pX 1107 89 L (.int j :: .ref a :: S) h = pX 1107 90 L (.int (hp_i h a (ix j)) :: S) h := pX_ild d1107_89 hk hj
theorem x1107_90 {L S : List Value} {h : HP} {x y : Int32} : pX 1107 90 L (.int y :: .int x :: S) h = pX 1107 91 L (.int (x * y) :: S) h := pX_stp d1107_90 rfl rfl rfl
theorem x1107_91 {L S : List Value} {h : HP} {x y : Int32} : pX 1107 91 L (.int y :: .int x :: S) h = pX 1107 92 L (.int (x + y) :: S) h := pX_stp d1107_91 rfl rfl rfl
theorem x1107_92 {S : List Value} {h : HP} {l0 l1 l2 l3 l4 l5 l6 : Value} {x0 : Int32} : pX 1107 92 [l0, l1, l2, l3, l4, l5, l6] (.int x0 :: S) h = pX 1107 94 [l0, l1, l2, l3, l4, l5, .int x0] S h := pX_stp d1107_92 rfl rfl rfl
theorem x1107_94 {S : List Value} {h : HP} {l1 l2 l3 l4 l5 l6 : Value} {a0 : Nat} : pX 1107 94 [.ref a0, l1, l2, l3, l4, l5, l6] S h = pX 1107 95 [.ref a0, l1, l2, l3, l4, l5, l6] (.ref a0 :: S) h := pX_stp d1107_94 rfl rfl rfl
theorem x1107_95 {L S : List Value} {h : HP} {a : Nat} (hk : hp_k h a = 12) : pX 1107 95 L (.ref a :: S) h = pX 1107 98 L (.ref (hp_a h a 5) :: S) h := pX_get d1107_95 rfl rfl hk
theorem x1107_98 {S : List Value} {h : HP} {l0 l1 l2 l3 l4 l5 : Value} {x0 : Int32} : pX 1107 98 [l0, l1, l2, l3, l4, l5, .int x0] S h = pX 1107 100 [l0, l1, l2, l3, l4, l5, .int x0] (.int x0 :: S) h := pX_stp d1107_98 rfl rfl rfl
theorem x1107_100 {S : List Value} {h : HP} {l0 l1 l3 l4 l5 l6 : Value} {x0 : Int32} : pX 1107 100 [l0, l1, .int x0, l3, l4, l5, l6] S h = pX 1107 101 [l0, l1, .int x0, l3, l4, l5, l6] (.int x0 :: S) h := pX_stp d1107_100 rfl rfl rfl
theorem x1107_101 {L S : List Value} {h : HP} {a : Nat} {j x : Int32} (hk : hp_k h a = 100) (hj : inb j (hp_l h a) = true) : pX 1107 101 L (.int x :: .int j :: .ref a :: S) h = pX 1107 102 L S (hp_wi h a (ix j) x) := pX_ist d1107_101 hk hj
theorem x1107_102 {S : List Value} {h : HP} {l1 l2 l3 l4 l5 l6 : Value} {a0 : Nat} : pX 1107 102 [.ref a0, l1, l2, l3, l4, l5, l6] S h = pX 1107 103 [.ref a0, l1, l2, l3, l4, l5, l6] (.ref a0 :: S) h := pX_stp d1107_102 rfl rfl rfl
theorem x1107_103 {L S : List Value} {h : HP} {a : Nat} (hk : hp_k h a = 12) : pX 1107 103 L (.ref a :: S) h = pX 1107 106 L (.ref (hp_a h a 5) :: S) h := pX_get d1107_103 rfl rfl hk
theorem x1107_106 {S : List Value} {h : HP} {l0 l1 l2 l3 l4 l5 : Value} {x0 : Int32} : pX 1107 106 [l0, l1, l2, l3, l4, l5, .int x0] S h = pX 1107 108 [l0, l1, l2, l3, l4, l5, .int x0] (.int x0 :: S) h := pX_stp d1107_106 rfl rfl rfl
theorem x1107_108 {L S : List Value} {h : HP} : pX 1107 108 L S h = pX 1107 109 L (.int 1 :: S) h := pX_iconst d1107_108 (by decide)
theorem x1107_109 {L S : List Value} {h : HP} {x y : Int32} : pX 1107 109 L (.int y :: .int x :: S) h = pX 1107 110 L (.int (x + y) :: S) h := pX_stp d1107_109 rfl rfl rfl
theorem x1107_110 {S : List Value} {h : HP} {l0 l1 l2 l4 l5 l6 : Value} {x0 : Int32} : pX 1107 110 [l0, l1, l2, .int x0, l4, l5, l6] S h = pX 1107 111 [l0, l1, l2, .int x0, l4, l5, l6] (.int x0 :: S) h := pX_stp d1107_110 rfl rfl rfl
theorem x1107_111 {L S : List Value} {h : HP} {a : Nat} {j x : Int32} (hk : hp_k h a = 100) (hj : inb j (hp_l h a) = true) : pX 1107 111 L (.int x :: .int j :: .ref a :: S) h = pX 1107 112 L S (hp_wi h a (ix j) x) := pX_ist d1107_111 hk hj
theorem x1107_112 {S : List Value} {h : HP} {l1 l2 l3 l4 l5 l6 : Value} {a0 : Nat} : pX 1107 112 [.ref a0, l1, l2, l3, l4, l5, l6] S h = pX 1107 113 [.ref a0, l1, l2, l3, l4, l5, l6] (.ref a0 :: S) h := pX_stp d1107_112 rfl rfl rfl
theorem x1107_113 {L S : List Value} {h : HP} {a : Nat} (hk : hp_k h a = 12) : pX 1107 113 L (.ref a :: S) h = pX 1107 116 L (.ref (hp_a h a 5) :: S) h := pX_get d1107_113 rfl rfl hk
theorem x1107_116 {S : List Value} {h : HP} {l0 l1 l2 l3 l4 l5 : Value} {x0 : Int32} : pX 1107 116 [l0, l1, l2, l3, l4, l5, .int x0] S h = pX 1107 118 [l0, l1, l2, l3, l4, l5, .int x0] (.int x0 :: S) h := pX_stp d1107_116 rfl rfl rfl
theorem x1107_118 {L S : List Value} {h : HP} : pX 1107 118 L S h = pX 1107 119 L (.int 2 :: S) h := pX_iconst d1107_118 (by decide)
theorem x1107_119 {L S : List Value} {h : HP} {x y : Int32} : pX 1107 119 L (.int y :: .int x :: S) h = pX 1107 120 L (.int (x + y) :: S) h := pX_stp d1107_119 rfl rfl rfl
theorem x1107_120 {S : List Value} {h : HP} {l0 l1 l2 l3 l5 l6 : Value} {x0 : Int32} : pX 1107 120 [l0, l1, l2, l3, .int x0, l5, l6] S h = pX 1107 122 [l0, l1, l2, l3, .int x0, l5, l6] (.int x0 :: S) h := pX_stp d1107_120 rfl rfl rfl
theorem x1107_122 {L S : List Value} {h : HP} {a : Nat} {j x : Int32} (hk : hp_k h a = 100) (hj : inb j (hp_l h a) = true) : pX 1107 122 L (.int x :: .int j :: .ref a :: S) h = pX 1107 123 L S (hp_wi h a (ix j) x) := pX_ist d1107_122 hk hj
theorem x1107_123 {S : List Value} {h : HP} {l1 l2 l3 l4 l5 l6 : Value} {a0 : Nat} : pX 1107 123 [.ref a0, l1, l2, l3, l4, l5, l6] S h = pX 1107 124 [.ref a0, l1, l2, l3, l4, l5, l6] (.ref a0 :: S) h := pX_stp d1107_123 rfl rfl rfl
theorem x1107_124 {L S : List Value} {h : HP} {a : Nat} (hk : hp_k h a = 12) : pX 1107 124 L (.ref a :: S) h = pX 1107 127 L (.ref (hp_a h a 5) :: S) h := pX_get d1107_124 rfl rfl hk
theorem x1107_127 {S : List Value} {h : HP} {l0 l1 l2 l3 l4 l5 : Value} {x0 : Int32} : pX 1107 127 [l0, l1, l2, l3, l4, l5, .int x0] S h = pX 1107 129 [l0, l1, l2, l3, l4, l5, .int x0] (.int x0 :: S) h := pX_stp d1107_127 rfl rfl rfl
theorem x1107_129 {L S : List Value} {h : HP} : pX 1107 129 L S h = pX 1107 130 L (.int 3 :: S) h := pX_iconst d1107_129 (by decide)
theorem x1107_130 {L S : List Value} {h : HP} {x y : Int32} : pX 1107 130 L (.int y :: .int x :: S) h = pX 1107 131 L (.int (x + y) :: S) h := pX_stp d1107_130 rfl rfl rfl
theorem x1107_131 {S : List Value} {h : HP} {l0 l1 l2 l3 l4 l6 : Value} {x0 : Int32} : pX 1107 131 [l0, l1, l2, l3, l4, .int x0, l6] S h = pX 1107 133 [l0, l1, l2, l3, l4, .int x0, l6] (.int x0 :: S) h := pX_stp d1107_131 rfl rfl rfl
theorem x1107_133 {L S : List Value} {h : HP} {a : Nat} {j x : Int32} (hk : hp_k h a = 100) (hj : inb j (hp_l h a) = true) : pX 1107 133 L (.int x :: .int j :: .ref a :: S) h = pX 1107 134 L S (hp_wi h a (ix j) x) := pX_ist d1107_133 hk hj
theorem x1107_134 {S : List Value} {h : HP} {l1 l2 l3 l4 l5 l6 : Value} {a0 : Nat} : pX 1107 134 [.ref a0, l1, l2, l3, l4, l5, l6] S h = pX 1107 135 [.ref a0, l1, l2, l3, l4, l5, l6] (.ref a0 :: S) h := pX_stp d1107_134 rfl rfl rfl
theorem x1107_135 {L S : List Value} {h : HP} {a : Nat} (hk : hp_k h a = 12) : pX 1107 135 L (.ref a :: S) h = pX 1107 138 L (.ref (hp_a h a 4) :: S) h := pX_get d1107_135 rfl rfl hk
theorem x1107_138 {S : List Value} {h : HP} {l0 l2 l3 l4 l5 l6 : Value} {x0 : Int32} : pX 1107 138 [l0, .int x0, l2, l3, l4, l5, l6] S h = pX 1107 139 [l0, .int x0, l2, l3, l4, l5, l6] (.int x0 :: S) h := pX_stp d1107_138 rfl rfl rfl
theorem x1107_139 {L S : List Value} {h : HP} {x0 : Int32} {a0 : Nat} : pX 1107 139 L (.int x0 :: .ref a0 :: S) h = pX 1107 140 L (.int x0 :: .ref a0 :: .int x0 :: .ref a0 :: S) h := pX_stp d1107_139 rfl rfl rfl
theorem x1107_140 {L S : List Value} {h : HP} {a : Nat} {j : Int32} (hk : hp_k h a = 100) (hj : inb j (hp_l h a) = true) : pX 1107 140 L (.int j :: .ref a :: S) h = pX 1107 141 L (.int (hp_i h a (ix j)) :: S) h := pX_ild d1107_140 hk hj
theorem x1107_141 {L S : List Value} {h : HP} : pX 1107 141 L S h = pX 1107 142 L (.int 1 :: S) h := pX_iconst d1107_141 (by decide)
theorem x1107_142 {L S : List Value} {h : HP} {x y : Int32} : pX 1107 142 L (.int y :: .int x :: S) h = pX 1107 143 L (.int (x + y) :: S) h := pX_stp d1107_142 rfl rfl rfl
theorem x1107_143 {L S : List Value} {h : HP} {a : Nat} {j x : Int32} (hk : hp_k h a = 100) (hj : inb j (hp_l h a) = true) : pX 1107 143 L (.int x :: .int j :: .ref a :: S) h = pX 1107 144 L S (hp_wi h a (ix j) x) := pX_ist d1107_143 hk hj
theorem x1107_144 {S : List Value} {h : HP} {l1 l2 l3 l4 l5 l6 : Value} {a0 : Nat} : pX 1107 144 [.ref a0, l1, l2, l3, l4, l5, l6] S h = pX 1107 145 [.ref a0, l1, l2, l3, l4, l5, l6] (.ref a0 :: S) h := pX_stp d1107_144 rfl rfl rfl
theorem x1107_145 {L S : List Value} {h : HP} {a : Nat} (hk : hp_k h a = 12) : pX 1107 145 L (.ref a :: S) h = pX 1107 148 L (.ref (hp_a h a 4) :: S) h := pX_get d1107_145 rfl rfl hk
theorem x1107_148 {S : List Value} {h : HP} {l0 l2 l3 l4 l5 l6 : Value} {x0 : Int32} : pX 1107 148 [l0, .int x0, l2, l3, l4, l5, l6] S h = pX 1107 149 [l0, .int x0, l2, l3, l4, l5, l6] (.int x0 :: S) h := pX_stp d1107_148 rfl rfl rfl
theorem x1107_149 {L S : List Value} {h : HP} {a : Nat} {j : Int32} (hk : hp_k h a = 100) (hj : inb j (hp_l h a) = true) : pX 1107 149 L (.int j :: .ref a :: S) h = pX 1107 150 L (.int (hp_i h a (ix j)) :: S) h := pX_ild d1107_149 hk hj
theorem x1107_150 {L : List Value} {h : HP} {x : Int32} : pX 1107 150 L [.int x] h = some (some (.int x), h) := pX_ret d1107_150 rfl
theorem d1108_0 : decode (mb 1108) 0 = .ok (.aload_n 0, 1) := by decide +kernel
theorem d1108_1 : decode (mb 1108) 1 = .ok (.iload_n 1, 1) := by decide +kernel
theorem d1108_2 : decode (mb 1108) 2 = .ok (.invokevirtual 123, 3) := by decide +kernel
theorem d1108_5 : decode (mb 1108) 5 = .ok (.ifCond .ne 5, 3) := by decide +kernel
theorem d1108_8 : decode (mb 1108) 8 = .ok (.iconst (-1), 1) := by decide +kernel
theorem d1108_9 : decode (mb 1108) 9 = .ok (.ireturn, 1) := by decide +kernel
theorem d1108_10 : decode (mb 1108) 10 = .ok (.aload_n 0, 1) := by decide +kernel
theorem d1108_11 : decode (mb 1108) 11 = .ok (.getfield 115, 3) := by decide +kernel
theorem d1108_14 : decode (mb 1108) 14 = .ok (.ifCond .ne 12, 3) := by decide +kernel
theorem d1108_17 : decode (mb 1108) 17 = .ok (.aload_n 0, 1) := by decide +kernel
theorem d1108_18 : decode (mb 1108) 18 = .ok (.getfield 13, 3) := by decide +kernel
theorem d1108_21 : decode (mb 1108) 21 = .ok (.iload_n 1, 1) := by decide +kernel
theorem d1108_22 : decode (mb 1108) 22 = .ok (.iaload, 1) := by decide +kernel
theorem d1108_23 : decode (mb 1108) 23 = .ok (.ifCond .ne 6, 3) := by decide +kernel
theorem d1108_26 : decode (mb 1108) 26 = .ok (.bipush (-3), 2) := by decide +kernel
theorem d1108_28 : decode (mb 1108) 28 = .ok (.ireturn, 1) := by decide +kernel
theorem d1108_29 : decode (mb 1108) 29 = .ok (.aload_n 0, 1) := by decide +kernel
theorem d1108_30 : decode (mb 1108) 30 = .ok (.getfield 13, 3) := by decide +kernel
theorem d1108_33 : decode (mb 1108) 33 = .ok (.iload_n 1, 1) := by decide +kernel
theorem d1108_34 : decode (mb 1108) 34 = .ok (.dup2, 1) := by decide +kernel
theorem d1108_35 : decode (mb 1108) 35 = .ok (.iaload, 1) := by decide +kernel
theorem d1108_36 : decode (mb 1108) 36 = .ok (.iconst 1, 1) := by decide +kernel
theorem d1108_37 : decode (mb 1108) 37 = .ok (.isub, 1) := by decide +kernel
theorem d1108_38 : decode (mb 1108) 38 = .ok (.iastore, 1) := by decide +kernel
theorem d1108_39 : decode (mb 1108) 39 = .ok (.aload_n 0, 1) := by decide +kernel
theorem d1108_40 : decode (mb 1108) 40 = .ok (.getfield 13, 3) := by decide +kernel
theorem d1108_43 : decode (mb 1108) 43 = .ok (.iload_n 1, 1) := by decide +kernel
theorem d1108_44 : decode (mb 1108) 44 = .ok (.iaload, 1) := by decide +kernel
theorem d1108_45 : decode (mb 1108) 45 = .ok (.ireturn, 1) := by decide +kernel
theorem x1108_0 {S : List Value} {h : HP} {l1 : Value} {a0 : Nat} : pX 1108 0 [.ref a0, l1] S h = pX 1108 1 [.ref a0, l1] (.ref a0 :: S) h := pX_stp d1108_0 rfl rfl rfl
theorem x1108_1 {S : List Value} {h : HP} {l0 : Value} {x0 : Int32} : pX 1108 1 [l0, .int x0] S h = pX 1108 2 [l0, .int x0] (.int x0 :: S) h := pX_stp d1108_1 rfl rfl rfl
theorem x1108_2 {L : List Value} {h : HP} {x0 : Int32} {a0 : Nat} (hk : hp_k h a0 = 12) : pX 1108 2 L [.int x0, .ref a0] h = (pX 1102 0 [.ref a0, .int x0] [] h).bind (fun q => pX 1108 5 L (q.1.toList ++ []) q.2) := pX_inv (a := a0) (t := 12) 1102 [.ref a0, .int x0] [] d1108_2 rfl rfl rfl hk
theorem x1108_5 {L S : List Value} {h : HP} {x : Int32} : pX 1108 5 L (.int x :: S) h = if x = 0 then pX 1108 8 L S h else pX 1108 10 L S h := pX_if_ne d1108_5 (by decide)
theorem x1108_8 {L S : List Value} {h : HP} : pX 1108 8 L S h = pX 1108 9 L (.int (-1) :: S) h := pX_iconst d1108_8 (by decide)
theorem x1108_9 {L : List Value} {h : HP} {x : Int32} : pX 1108 9 L [.int x] h = some (some (.int x), h) := pX_ret d1108_9 rfl
theorem x1108_10 {S : List Value} {h : HP} {l1 : Value} {a0 : Nat} : pX 1108 10 [.ref a0, l1] S h = pX 1108 11 [.ref a0, l1] (.ref a0 :: S) h := pX_stp d1108_10 rfl rfl rfl
theorem x1108_11 {L S : List Value} {h : HP} {a : Nat} (hk : hp_k h a = 12) : pX 1108 11 L (.ref a :: S) h = pX 1108 14 L (.int (hp_i h a 8) :: S) h := pX_get d1108_11 rfl rfl hk
theorem x1108_14 {L S : List Value} {h : HP} {x : Int32} : pX 1108 14 L (.int x :: S) h = if x = 0 then pX 1108 17 L S h else pX 1108 26 L S h := pX_if_ne d1108_14 (by decide)
theorem x1108_17 {S : List Value} {h : HP} {l1 : Value} {a0 : Nat} : pX 1108 17 [.ref a0, l1] S h = pX 1108 18 [.ref a0, l1] (.ref a0 :: S) h := pX_stp d1108_17 rfl rfl rfl
theorem x1108_18 {L S : List Value} {h : HP} {a : Nat} (hk : hp_k h a = 12) : pX 1108 18 L (.ref a :: S) h = pX 1108 21 L (.ref (hp_a h a 2) :: S) h := pX_get d1108_18 rfl rfl hk
theorem x1108_21 {S : List Value} {h : HP} {l0 : Value} {x0 : Int32} : pX 1108 21 [l0, .int x0] S h = pX 1108 22 [l0, .int x0] (.int x0 :: S) h := pX_stp d1108_21 rfl rfl rfl
theorem x1108_22 {L S : List Value} {h : HP} {a : Nat} {j : Int32} (hk : hp_k h a = 100) (hj : inb j (hp_l h a) = true) : pX 1108 22 L (.int j :: .ref a :: S) h = pX 1108 23 L (.int (hp_i h a (ix j)) :: S) h := pX_ild d1108_22 hk hj
theorem x1108_23 {L S : List Value} {h : HP} {x : Int32} : pX 1108 23 L (.int x :: S) h = if x = 0 then pX 1108 26 L S h else pX 1108 29 L S h := pX_if_ne d1108_23 (by decide)
theorem x1108_26 {L S : List Value} {h : HP} : pX 1108 26 L S h = pX 1108 28 L (.int (-3) :: S) h := pX_bipush d1108_26 (by decide)
theorem x1108_28 {L : List Value} {h : HP} {x : Int32} : pX 1108 28 L [.int x] h = some (some (.int x), h) := pX_ret d1108_28 rfl
theorem x1108_29 {S : List Value} {h : HP} {l1 : Value} {a0 : Nat} : pX 1108 29 [.ref a0, l1] S h = pX 1108 30 [.ref a0, l1] (.ref a0 :: S) h := pX_stp d1108_29 rfl rfl rfl
theorem x1108_30 {L S : List Value} {h : HP} {a : Nat} (hk : hp_k h a = 12) : pX 1108 30 L (.ref a :: S) h = pX 1108 33 L (.ref (hp_a h a 2) :: S) h := pX_get d1108_30 rfl rfl hk
theorem x1108_33 {S : List Value} {h : HP} {l0 : Value} {x0 : Int32} : pX 1108 33 [l0, .int x0] S h = pX 1108 34 [l0, .int x0] (.int x0 :: S) h := pX_stp d1108_33 rfl rfl rfl
theorem x1108_34 {L S : List Value} {h : HP} {x0 : Int32} {a0 : Nat} : pX 1108 34 L (.int x0 :: .ref a0 :: S) h = pX 1108 35 L (.int x0 :: .ref a0 :: .int x0 :: .ref a0 :: S) h := pX_stp d1108_34 rfl rfl rfl
theorem x1108_35 {L S : List Value} {h : HP} {a : Nat} {j : Int32} (hk : hp_k h a = 100) (hj : inb j (hp_l h a) = true) : pX 1108 35 L (.int j :: .ref a :: S) h = pX 1108 36 L (.int (hp_i h a (ix j)) :: S) h := pX_ild d1108_35 hk hj
theorem x1108_36 {L S : List Value} {h : HP} : pX 1108 36 L S h = pX 1108 37 L (.int 1 :: S) h := pX_iconst d1108_36 (by decide)
theorem x1108_37 {L S : List Value} {h : HP} {x y : Int32} : pX 1108 37 L (.int y :: .int x :: S) h = pX 1108 38 L (.int (x - y) :: S) h := pX_stp d1108_37 rfl rfl rfl
theorem x1108_38 {L S : List Value} {h : HP} {a : Nat} {j x : Int32} (hk : hp_k h a = 100) (hj : inb j (hp_l h a) = true) : pX 1108 38 L (.int x :: .int j :: .ref a :: S) h = pX 1108 39 L S (hp_wi h a (ix j) x) := pX_ist d1108_38 hk hj
theorem x1108_39 {S : List Value} {h : HP} {l1 : Value} {a0 : Nat} : pX 1108 39 [.ref a0, l1] S h = pX 1108 40 [.ref a0, l1] (.ref a0 :: S) h := pX_stp d1108_39 rfl rfl rfl
theorem x1108_40 {L S : List Value} {h : HP} {a : Nat} (hk : hp_k h a = 12) : pX 1108 40 L (.ref a :: S) h = pX 1108 43 L (.ref (hp_a h a 2) :: S) h := pX_get d1108_40 rfl rfl hk
theorem x1108_43 {S : List Value} {h : HP} {l0 : Value} {x0 : Int32} : pX 1108 43 [l0, .int x0] S h = pX 1108 44 [l0, .int x0] (.int x0 :: S) h := pX_stp d1108_43 rfl rfl rfl
theorem x1108_44 {L S : List Value} {h : HP} {a : Nat} {j : Int32} (hk : hp_k h a = 100) (hj : inb j (hp_l h a) = true) : pX 1108 44 L (.int j :: .ref a :: S) h = pX 1108 45 L (.int (hp_i h a (ix j)) :: S) h := pX_ild d1108_44 hk hj
theorem x1108_45 {L : List Value} {h : HP} {x : Int32} : pX 1108 45 L [.int x] h = some (some (.int x), h) := pX_ret d1108_45 rfl
theorem d1109_0 : decode (mb 1109) 0 = .ok (.iload_n 1, 1) := by decide +kernel
theorem d1109_1 : decode (mb 1109) 1 = .ok (.iconst 0, 1) := by decide +kernel
theorem d1109_2 : decode (mb 1109) 2 = .ok (.iconst 4, 1) := by decide +kernel
theorem d1109_3 : decode (mb 1109) 3 = .ok (.invokestatic 111, 3) := by decide +kernel
theorem d1109_6 : decode (mb 1109) 6 = .ok (.ifCond .eq 13, 3) := by decide +kernel
theorem d1109_9 : decode (mb 1109) 9 = .ok (.iload_n 2, 1) := by decide +kernel
theorem d1109_10 : decode (mb 1109) 10 = .ok (.iconst 1, 1) := by decide +kernel
theorem d1109_11 : decode (mb 1109) 11 = .ok (.bipush 9, 2) := by decide +kernel
theorem d1109_13 : decode (mb 1109) 13 = .ok (.invokestatic 111, 3) := by decide +kernel
theorem d1109_16 : decode (mb 1109) 16 = .ok (.ifCond .ne 6, 3) := by decide +kernel
theorem d1109_19 : decode (mb 1109) 19 = .ok (.bipush (-2), 2) := by decide +kernel
theorem d1109_21 : decode (mb 1109) 21 = .ok (.ireturn, 1) := by decide +kernel
theorem d1109_22 : decode (mb 1109) 22 = .ok (.aload_n 0, 1) := by decide +kernel
theorem d1109_23 : decode (mb 1109) 23 = .ok (.getfield 115, 3) := by decide +kernel
theorem d1109_26 : decode (mb 1109) 26 = .ok (.ifCond .eq 6, 3) := by decide +kernel
theorem d1109_29 : decode (mb 1109) 29 = .ok (.bipush (-3), 2) := by decide +kernel
theorem d1109_31 : decode (mb 1109) 31 = .ok (.ireturn, 1) := by decide +kernel
theorem d1109_32 : decode (mb 1109) 32 = .ok (.aload_n 0, 1) := by decide +kernel
theorem d1109_33 : decode (mb 1109) 33 = .ok (.getfield 28, 3) := by decide +kernel
theorem d1109_36 : decode (mb 1109) 36 = .ok (.iload_n 1, 1) := by decide +kernel
theorem d1109_37 : decode (mb 1109) 37 = .ok (.iaload, 1) := by decide +kernel
theorem d1109_38 : decode (mb 1109) 38 = .ok (.istore_n 3, 1) := by decide +kernel
theorem d1109_39 : decode (mb 1109) 39 = .ok (.aload_n 0, 1) := by decide +kernel
theorem d1109_40 : decode (mb 1109) 40 = .ok (.getfield 28, 3) := by decide +kernel
theorem d1109_43 : decode (mb 1109) 43 = .ok (.iload_n 1, 1) := by decide +kernel
theorem d1109_44 : decode (mb 1109) 44 = .ok (.iload_n 2, 1) := by decide +kernel
theorem d1109_45 : decode (mb 1109) 45 = .ok (.iastore, 1) := by decide +kernel
theorem d1109_46 : decode (mb 1109) 46 = .ok (.iload_n 3, 1) := by decide +kernel
theorem d1109_47 : decode (mb 1109) 47 = .ok (.ireturn, 1) := by decide +kernel
theorem x1109_0 {S : List Value} {h : HP} {l0 l2 l3 : Value} {x0 : Int32} : pX 1109 0 [l0, .int x0, l2, l3] S h = pX 1109 1 [l0, .int x0, l2, l3] (.int x0 :: S) h := pX_stp d1109_0 rfl rfl rfl
theorem x1109_1 {L S : List Value} {h : HP} : pX 1109 1 L S h = pX 1109 2 L (.int 0 :: S) h := pX_iconst d1109_1 (by decide)
theorem x1109_2 {L S : List Value} {h : HP} : pX 1109 2 L S h = pX 1109 3 L (.int 4 :: S) h := pX_iconst d1109_2 (by decide)
theorem x1109_3 {L : List Value} {h : HP} {x0 : Int32} {x1 : Int32} {x2 : Int32} : pX 1109 3 L [.int x0, .int x1, .int x2] h = (pX 1101 0 [.int x2, .int x1, .int x0] [] h).bind (fun q => pX 1109 6 L (q.1.toList ++ []) q.2) := pX_ins 1101 [.int x2, .int x1, .int x0] [] d1109_3 rfl rfl rfl
theorem x1109_6 {L S : List Value} {h : HP} {x : Int32} : pX 1109 6 L (.int x :: S) h = if x = 0 then pX 1109 19 L S h else pX 1109 9 L S h := pX_if_eq d1109_6 (by decide)
theorem x1109_9 {S : List Value} {h : HP} {l0 l1 l3 : Value} {x0 : Int32} : pX 1109 9 [l0, l1, .int x0, l3] S h = pX 1109 10 [l0, l1, .int x0, l3] (.int x0 :: S) h := pX_stp d1109_9 rfl rfl rfl
theorem x1109_10 {L S : List Value} {h : HP} : pX 1109 10 L S h = pX 1109 11 L (.int 1 :: S) h := pX_iconst d1109_10 (by decide)
theorem x1109_11 {L S : List Value} {h : HP} : pX 1109 11 L S h = pX 1109 13 L (.int 9 :: S) h := pX_bipush d1109_11 (by decide)
theorem x1109_13 {L : List Value} {h : HP} {x0 : Int32} {x1 : Int32} {x2 : Int32} : pX 1109 13 L [.int x0, .int x1, .int x2] h = (pX 1101 0 [.int x2, .int x1, .int x0] [] h).bind (fun q => pX 1109 16 L (q.1.toList ++ []) q.2) := pX_ins 1101 [.int x2, .int x1, .int x0] [] d1109_13 rfl rfl rfl
theorem x1109_16 {L S : List Value} {h : HP} {x : Int32} : pX 1109 16 L (.int x :: S) h = if x = 0 then pX 1109 19 L S h else pX 1109 22 L S h := pX_if_ne d1109_16 (by decide)
theorem x1109_19 {L S : List Value} {h : HP} : pX 1109 19 L S h = pX 1109 21 L (.int (-2) :: S) h := pX_bipush d1109_19 (by decide)
theorem x1109_21 {L : List Value} {h : HP} {x : Int32} : pX 1109 21 L [.int x] h = some (some (.int x), h) := pX_ret d1109_21 rfl
theorem x1109_22 {S : List Value} {h : HP} {l1 l2 l3 : Value} {a0 : Nat} : pX 1109 22 [.ref a0, l1, l2, l3] S h = pX 1109 23 [.ref a0, l1, l2, l3] (.ref a0 :: S) h := pX_stp d1109_22 rfl rfl rfl
theorem x1109_23 {L S : List Value} {h : HP} {a : Nat} (hk : hp_k h a = 12) : pX 1109 23 L (.ref a :: S) h = pX 1109 26 L (.int (hp_i h a 8) :: S) h := pX_get d1109_23 rfl rfl hk
theorem x1109_26 {L S : List Value} {h : HP} {x : Int32} : pX 1109 26 L (.int x :: S) h = if x = 0 then pX 1109 32 L S h else pX 1109 29 L S h := pX_if_eq d1109_26 (by decide)
theorem x1109_29 {L S : List Value} {h : HP} : pX 1109 29 L S h = pX 1109 31 L (.int (-3) :: S) h := pX_bipush d1109_29 (by decide)
theorem x1109_31 {L : List Value} {h : HP} {x : Int32} : pX 1109 31 L [.int x] h = some (some (.int x), h) := pX_ret d1109_31 rfl
theorem x1109_32 {S : List Value} {h : HP} {l1 l2 l3 : Value} {a0 : Nat} : pX 1109 32 [.ref a0, l1, l2, l3] S h = pX 1109 33 [.ref a0, l1, l2, l3] (.ref a0 :: S) h := pX_stp d1109_32 rfl rfl rfl
theorem x1109_33 {L S : List Value} {h : HP} {a : Nat} (hk : hp_k h a = 12) : pX 1109 33 L (.ref a :: S) h = pX 1109 36 L (.ref (hp_a h a 7) :: S) h := pX_get d1109_33 rfl rfl hk
theorem x1109_36 {S : List Value} {h : HP} {l0 l2 l3 : Value} {x0 : Int32} : pX 1109 36 [l0, .int x0, l2, l3] S h = pX 1109 37 [l0, .int x0, l2, l3] (.int x0 :: S) h := pX_stp d1109_36 rfl rfl rfl
theorem x1109_37 {L S : List Value} {h : HP} {a : Nat} {j : Int32} (hk : hp_k h a = 100) (hj : inb j (hp_l h a) = true) : pX 1109 37 L (.int j :: .ref a :: S) h = pX 1109 38 L (.int (hp_i h a (ix j)) :: S) h := pX_ild d1109_37 hk hj
theorem x1109_38 {S : List Value} {h : HP} {l0 l1 l2 l3 : Value} {x0 : Int32} : pX 1109 38 [l0, l1, l2, l3] (.int x0 :: S) h = pX 1109 39 [l0, l1, l2, .int x0] S h := pX_stp d1109_38 rfl rfl rfl
theorem x1109_39 {S : List Value} {h : HP} {l1 l2 l3 : Value} {a0 : Nat} : pX 1109 39 [.ref a0, l1, l2, l3] S h = pX 1109 40 [.ref a0, l1, l2, l3] (.ref a0 :: S) h := pX_stp d1109_39 rfl rfl rfl
theorem x1109_40 {L S : List Value} {h : HP} {a : Nat} (hk : hp_k h a = 12) : pX 1109 40 L (.ref a :: S) h = pX 1109 43 L (.ref (hp_a h a 7) :: S) h := pX_get d1109_40 rfl rfl hk
theorem x1109_43 {S : List Value} {h : HP} {l0 l2 l3 : Value} {x0 : Int32} : pX 1109 43 [l0, .int x0, l2, l3] S h = pX 1109 44 [l0, .int x0, l2, l3] (.int x0 :: S) h := pX_stp d1109_43 rfl rfl rfl
theorem x1109_44 {S : List Value} {h : HP} {l0 l1 l3 : Value} {x0 : Int32} : pX 1109 44 [l0, l1, .int x0, l3] S h = pX 1109 45 [l0, l1, .int x0, l3] (.int x0 :: S) h := pX_stp d1109_44 rfl rfl rfl
theorem x1109_45 {L S : List Value} {h : HP} {a : Nat} {j x : Int32} (hk : hp_k h a = 100) (hj : inb j (hp_l h a) = true) : pX 1109 45 L (.int x :: .int j :: .ref a :: S) h = pX 1109 46 L S (hp_wi h a (ix j) x) := pX_ist d1109_45 hk hj
theorem x1109_46 {S : List Value} {h : HP} {l0 l1 l2 : Value} {x0 : Int32} : pX 1109 46 [l0, l1, l2, .int x0] S h = pX 1109 47 [l0, l1, l2, .int x0] (.int x0 :: S) h := pX_stp d1109_46 rfl rfl rfl
theorem x1109_47 {L : List Value} {h : HP} {x : Int32} : pX 1109 47 L [.int x] h = some (some (.int x), h) := pX_ret d1109_47 rfl
theorem d1110_0 : decode (mb 1110) 0 = .ok (.iload_n 1, 1) := by decide +kernel
theorem d1110_1 : decode (mb 1110) 1 = .ok (.bipush 41, 2) := by decide +kernel
theorem d1110_3 : decode (mb 1110) 3 = .ok (.if_icmp .ge 43, 3) := by decide +kernel
theorem d1110_6 : decode (mb 1110) 6 = .ok (.aload_n 0, 1) := by decide +kernel
theorem d1110_7 : decode (mb 1110) 7 = .ok (.getfield 31, 3) := by decide +kernel
theorem d1110_10 : decode (mb 1110) 10 = .ok (.iload_n 1, 1) := by decide +kernel
theorem d1110_11 : decode (mb 1110) 11 = .ok (.iaload, 1) := by decide +kernel
theorem d1110_12 : decode (mb 1110) 12 = .ok (.iload_n 2, 1) := by decide +kernel
theorem d1110_13 : decode (mb 1110) 13 = .ok (.ior, 1) := by decide +kernel
theorem d1110_14 : decode (mb 1110) 14 = .ok (.sipush 256, 3) := by decide +kernel
theorem d1110_17 : decode (mb 1110) 17 = .ok (.ior, 1) := by decide +kernel
theorem d1110_18 : decode (mb 1110) 18 = .ok (.aload_n 0, 1) := by decide +kernel
theorem d1110_19 : decode (mb 1110) 19 = .ok (.getfield 31, 3) := by decide +kernel
theorem d1110_22 : decode (mb 1110) 22 = .ok (.iload_n 1, 1) := by decide +kernel
theorem d1110_23 : decode (mb 1110) 23 = .ok (.iaload, 1) := by decide +kernel
theorem d1110_24 : decode (mb 1110) 24 = .ok (.if_icmp .eq 22, 3) := by decide +kernel
theorem d1110_27 : decode (mb 1110) 27 = .ok (.aload_n 0, 1) := by decide +kernel
theorem d1110_28 : decode (mb 1110) 28 = .ok (.getfield 31, 3) := by decide +kernel
theorem d1110_31 : decode (mb 1110) 31 = .ok (.iload_n 1, 1) := by decide +kernel
theorem d1110_32 : decode (mb 1110) 32 = .ok (.dup2, 1) := by decide +kernel
theorem d1110_33 : decode (mb 1110) 33 = .ok (.iaload, 1) := by decide +kernel
theorem d1110_34 : decode (mb 1110) 34 = .ok (.iload_n 2, 1) := by decide +kernel
theorem d1110_35 : decode (mb 1110) 35 = .ok (.sipush 256, 3) := by decide +kernel
theorem d1110_38 : decode (mb 1110) 38 = .ok (.ior, 1) := by decide +kernel
theorem d1110_39 : decode (mb 1110) 39 = .ok (.ior, 1) := by decide +kernel
theorem d1110_40 : decode (mb 1110) 40 = .ok (.iastore, 1) := by decide +kernel
theorem d1110_41 : decode (mb 1110) 41 = .ok (.aload_n 0, 1) := by decide +kernel
theorem d1110_42 : decode (mb 1110) 42 = .ok (.iconst 1, 1) := by decide +kernel
theorem d1110_43 : decode (mb 1110) 43 = .ok (.putfield 131, 3) := by decide +kernel
theorem d1110_46 : decode (mb 1110) 46 = .ok (.return_, 1) := by decide +kernel
theorem x1110_0 {S : List Value} {h : HP} {l0 l2 : Value} {x0 : Int32} : pX 1110 0 [l0, .int x0, l2] S h = pX 1110 1 [l0, .int x0, l2] (.int x0 :: S) h := pX_stp d1110_0 rfl rfl rfl
theorem x1110_1 {L S : List Value} {h : HP} : pX 1110 1 L S h = pX 1110 3 L (.int 41 :: S) h := pX_bipush d1110_1 (by decide)
theorem x1110_3 {L S : List Value} {h : HP} {x y : Int32} : pX 1110 3 L (.int y :: .int x :: S) h = if y ≤ x then pX 1110 46 L S h else pX 1110 6 L S h := pX_icmp_ge d1110_3 (by decide)
theorem x1110_6 {S : List Value} {h : HP} {l1 l2 : Value} {a0 : Nat} : pX 1110 6 [.ref a0, l1, l2] S h = pX 1110 7 [.ref a0, l1, l2] (.ref a0 :: S) h := pX_stp d1110_6 rfl rfl rfl
theorem x1110_7 {L S : List Value} {h : HP} {a : Nat} (hk : hp_k h a = 12) : pX 1110 7 L (.ref a :: S) h = pX 1110 10 L (.ref (hp_a h a 9) :: S) h := pX_get d1110_7 rfl rfl hk
theorem x1110_10 {S : List Value} {h : HP} {l0 l2 : Value} {x0 : Int32} : pX 1110 10 [l0, .int x0, l2] S h = pX 1110 11 [l0, .int x0, l2] (.int x0 :: S) h := pX_stp d1110_10 rfl rfl rfl
theorem x1110_11 {L S : List Value} {h : HP} {a : Nat} {j : Int32} (hk : hp_k h a = 100) (hj : inb j (hp_l h a) = true) : pX 1110 11 L (.int j :: .ref a :: S) h = pX 1110 12 L (.int (hp_i h a (ix j)) :: S) h := pX_ild d1110_11 hk hj
theorem x1110_12 {S : List Value} {h : HP} {l0 l1 : Value} {x0 : Int32} : pX 1110 12 [l0, l1, .int x0] S h = pX 1110 13 [l0, l1, .int x0] (.int x0 :: S) h := pX_stp d1110_12 rfl rfl rfl
theorem x1110_13 {L S : List Value} {h : HP} {x y : Int32} : pX 1110 13 L (.int y :: .int x :: S) h = pX 1110 14 L (.int (x ||| y) :: S) h := pX_stp d1110_13 rfl rfl rfl
theorem x1110_14 {L S : List Value} {h : HP} : pX 1110 14 L S h = pX 1110 17 L (.int 256 :: S) h := pX_sipush d1110_14 (by decide)
theorem x1110_17 {L S : List Value} {h : HP} {x y : Int32} : pX 1110 17 L (.int y :: .int x :: S) h = pX 1110 18 L (.int (x ||| y) :: S) h := pX_stp d1110_17 rfl rfl rfl
theorem x1110_18 {S : List Value} {h : HP} {l1 l2 : Value} {a0 : Nat} : pX 1110 18 [.ref a0, l1, l2] S h = pX 1110 19 [.ref a0, l1, l2] (.ref a0 :: S) h := pX_stp d1110_18 rfl rfl rfl
theorem x1110_19 {L S : List Value} {h : HP} {a : Nat} (hk : hp_k h a = 12) : pX 1110 19 L (.ref a :: S) h = pX 1110 22 L (.ref (hp_a h a 9) :: S) h := pX_get d1110_19 rfl rfl hk
theorem x1110_22 {S : List Value} {h : HP} {l0 l2 : Value} {x0 : Int32} : pX 1110 22 [l0, .int x0, l2] S h = pX 1110 23 [l0, .int x0, l2] (.int x0 :: S) h := pX_stp d1110_22 rfl rfl rfl
theorem x1110_23 {L S : List Value} {h : HP} {a : Nat} {j : Int32} (hk : hp_k h a = 100) (hj : inb j (hp_l h a) = true) : pX 1110 23 L (.int j :: .ref a :: S) h = pX 1110 24 L (.int (hp_i h a (ix j)) :: S) h := pX_ild d1110_23 hk hj
theorem x1110_24 {L S : List Value} {h : HP} {x y : Int32} : pX 1110 24 L (.int y :: .int x :: S) h = if x = y then pX 1110 46 L S h else pX 1110 27 L S h := pX_icmp_eq d1110_24 (by decide)
theorem x1110_27 {S : List Value} {h : HP} {l1 l2 : Value} {a0 : Nat} : pX 1110 27 [.ref a0, l1, l2] S h = pX 1110 28 [.ref a0, l1, l2] (.ref a0 :: S) h := pX_stp d1110_27 rfl rfl rfl
theorem x1110_28 {L S : List Value} {h : HP} {a : Nat} (hk : hp_k h a = 12) : pX 1110 28 L (.ref a :: S) h = pX 1110 31 L (.ref (hp_a h a 9) :: S) h := pX_get d1110_28 rfl rfl hk
theorem x1110_31 {S : List Value} {h : HP} {l0 l2 : Value} {x0 : Int32} : pX 1110 31 [l0, .int x0, l2] S h = pX 1110 32 [l0, .int x0, l2] (.int x0 :: S) h := pX_stp d1110_31 rfl rfl rfl
theorem x1110_32 {L S : List Value} {h : HP} {x0 : Int32} {a0 : Nat} : pX 1110 32 L (.int x0 :: .ref a0 :: S) h = pX 1110 33 L (.int x0 :: .ref a0 :: .int x0 :: .ref a0 :: S) h := pX_stp d1110_32 rfl rfl rfl
theorem x1110_33 {L S : List Value} {h : HP} {a : Nat} {j : Int32} (hk : hp_k h a = 100) (hj : inb j (hp_l h a) = true) : pX 1110 33 L (.int j :: .ref a :: S) h = pX 1110 34 L (.int (hp_i h a (ix j)) :: S) h := pX_ild d1110_33 hk hj
theorem x1110_34 {S : List Value} {h : HP} {l0 l1 : Value} {x0 : Int32} : pX 1110 34 [l0, l1, .int x0] S h = pX 1110 35 [l0, l1, .int x0] (.int x0 :: S) h := pX_stp d1110_34 rfl rfl rfl
theorem x1110_35 {L S : List Value} {h : HP} : pX 1110 35 L S h = pX 1110 38 L (.int 256 :: S) h := pX_sipush d1110_35 (by decide)
theorem x1110_38 {L S : List Value} {h : HP} {x y : Int32} : pX 1110 38 L (.int y :: .int x :: S) h = pX 1110 39 L (.int (x ||| y) :: S) h := pX_stp d1110_38 rfl rfl rfl
theorem x1110_39 {L S : List Value} {h : HP} {x y : Int32} : pX 1110 39 L (.int y :: .int x :: S) h = pX 1110 40 L (.int (x ||| y) :: S) h := pX_stp d1110_39 rfl rfl rfl
theorem x1110_40 {L S : List Value} {h : HP} {a : Nat} {j x : Int32} (hk : hp_k h a = 100) (hj : inb j (hp_l h a) = true) : pX 1110 40 L (.int x :: .int j :: .ref a :: S) h = pX 1110 41 L S (hp_wi h a (ix j) x) := pX_ist d1110_40 hk hj
theorem x1110_41 {S : List Value} {h : HP} {l1 l2 : Value} {a0 : Nat} : pX 1110 41 [.ref a0, l1, l2] S h = pX 1110 42 [.ref a0, l1, l2] (.ref a0 :: S) h := pX_stp d1110_41 rfl rfl rfl
theorem x1110_42 {L S : List Value} {h : HP} : pX 1110 42 L S h = pX 1110 43 L (.int 1 :: S) h := pX_iconst d1110_42 (by decide)
theorem x1110_43 {L S : List Value} {h : HP} {a : Nat} {x : Int32} (hk : hp_k h a = 12) (hx : x = 0 ∨ x = 1) : pX 1110 43 L (.int x :: .ref a :: S) h = pX 1110 46 L S (hp_wi h a 10 x) := pX_put d1110_43 rfl rfl (by rcases hx with rfl | rfl <;> rfl) hk
theorem x1110_46 {L : List Value} {h : HP} : pX 1110 46 L [] h = some (none, h) := pX_ret d1110_46 rfl
theorem d1111_0 : decode (mb 1111) 0 = .ok (.aload_n 0, 1) := by decide +kernel
theorem d1111_1 : decode (mb 1111) 1 = .ok (.getfield 16, 3) := by decide +kernel
theorem d1111_4 : decode (mb 1111) 4 = .ok (.iload_n 1, 1) := by decide +kernel
theorem d1111_5 : decode (mb 1111) 5 = .ok (.iaload, 1) := by decide +kernel
theorem d1111_6 : decode (mb 1111) 6 = .ok (.istore_n 2, 1) := by decide +kernel
theorem d1111_7 : decode (mb 1111) 7 = .ok (.iconst 1, 1) := by decide +kernel
theorem d1111_8 : decode (mb 1111) 8 = .ok (.aload_n 0, 1) := by decide +kernel
theorem d1111_9 : decode (mb 1111) 9 = .ok (.getfield 16, 3) := by decide +kernel
theorem d1111_12 : decode (mb 1111) 12 = .ok (.iload_n 1, 1) := by decide +kernel
theorem d1111_13 : decode (mb 1111) 13 = .ok (.iconst 1, 1) := by decide +kernel
theorem d1111_14 : decode (mb 1111) 14 = .ok (.iadd, 1) := by decide +kernel
theorem d1111_15 : decode (mb 1111) 15 = .ok (.iaload, 1) := by decide +kernel
theorem d1111_16 : decode (mb 1111) 16 = .ok (.bipush 7, 2) := by decide +kernel
theorem d1111_18 : decode (mb 1111) 18 = .ok (.iand, 1) := by decide +kernel
theorem d1111_19 : decode (mb 1111) 19 = .ok (.ishl, 1) := by decide +kernel
theorem d1111_20 : decode (mb 1111) 20 = .ok (.istore_n 3, 1) := by decide +kernel
theorem d1111_21 : decode (mb 1111) 21 = .ok (.iconst 1, 1) := by decide +kernel
theorem d1111_22 : decode (mb 1111) 22 = .ok (.aload_n 0, 1) := by decide +kernel
theorem d1111_23 : decode (mb 1111) 23 = .ok (.getfield 16, 3) := by decide +kernel
theorem d1111_26 : decode (mb 1111) 26 = .ok (.iload_n 1, 1) := by decide +kernel
theorem d1111_27 : decode (mb 1111) 27 = .ok (.iconst 2, 1) := by decide +kernel
theorem d1111_28 : decode (mb 1111) 28 = .ok (.iadd, 1) := by decide +kernel
theorem d1111_29 : decode (mb 1111) 29 = .ok (.iaload, 1) := by decide +kernel
theorem d1111_30 : decode (mb 1111) 30 = .ok (.bipush 7, 2) := by decide +kernel
theorem d1111_32 : decode (mb 1111) 32 = .ok (.iand, 1) := by decide +kernel
theorem d1111_33 : decode (mb 1111) 33 = .ok (.ishl, 1) := by decide +kernel
theorem d1111_34 : decode (mb 1111) 34 = .ok (.istore 4, 2) := by decide +kernel
theorem d1111_36 : decode (mb 1111) 36 = .ok (.iconst 1, 1) := by decide +kernel
theorem d1111_37 : decode (mb 1111) 37 = .ok (.aload_n 0, 1) := by decide +kernel
theorem d1111_38 : decode (mb 1111) 38 = .ok (.getfield 16, 3) := by decide +kernel
theorem d1111_41 : decode (mb 1111) 41 = .ok (.iload_n 1, 1) := by decide +kernel
theorem d1111_42 : decode (mb 1111) 42 = .ok (.iconst 3, 1) := by decide +kernel
theorem d1111_43 : decode (mb 1111) 43 = .ok (.iadd, 1) := by decide +kernel
theorem d1111_44 : decode (mb 1111) 44 = .ok (.iaload, 1) := by decide +kernel
theorem d1111_45 : decode (mb 1111) 45 = .ok (.bipush 7, 2) := by decide +kernel
theorem d1111_47 : decode (mb 1111) 47 = .ok (.iand, 1) := by decide +kernel
theorem d1111_48 : decode (mb 1111) 48 = .ok (.ishl, 1) := by decide +kernel
theorem d1111_49 : decode (mb 1111) 49 = .ok (.istore 5, 2) := by decide +kernel
theorem d1111_51 : decode (mb 1111) 51 = .ok (.iload_n 2, 1) := by decide +kernel
theorem d1111_52 : decode (mb 1111) 52 = .ok (.tableswitch 243 0 27 #[128, 130, 243, 243, 243, 243, 243, 243, 243, 128, 133, 130, 128, 135, 243, 130, 130, 143, 130, 133, 133, 133, 133, 153, 133, 148, 130, 130], 128) := by decide +kernel
theorem d1111_180 : decode (mb 1111) 180 = .ok (.iconst 0, 1) := by decide +kernel
theorem d1111_181 : decode (mb 1111) 181 = .ok (.ireturn, 1) := by decide +kernel
theorem d1111_182 : decode (mb 1111) 182 = .ok (.iload 4, 2) := by decide +kernel
theorem d1111_184 : decode (mb 1111) 184 = .ok (.ireturn, 1) := by decide +kernel
theorem d1111_185 : decode (mb 1111) 185 = .ok (.iload_n 3, 1) := by decide +kernel
theorem d1111_186 : decode (mb 1111) 186 = .ok (.ireturn, 1) := by decide +kernel
theorem d1111_187 : decode (mb 1111) 187 = .ok (.iload_n 3, 1) := by decide +kernel
theorem d1111_188 : decode (mb 1111) 188 = .ok (.iload 4, 2) := by decide +kernel
theorem d1111_190 : decode (mb 1111) 190 = .ok (.ior, 1) := by decide +kernel
theorem d1111_191 : decode (mb 1111) 191 = .ok (.iload 5, 2) := by decide +kernel
theorem d1111_193 : decode (mb 1111) 193 = .ok (.ior, 1) := by decide +kernel
theorem d1111_194 : decode (mb 1111) 194 = .ok (.ireturn, 1) := by decide +kernel
theorem d1111_195 : decode (mb 1111) 195 = .ok (.iload_n 3, 1) := by decide +kernel
theorem d1111_196 : decode (mb 1111) 196 = .ok (.iload 5, 2) := by decide +kernel
theorem d1111_198 : decode (mb 1111) 198 = .ok (.ior, 1) := by decide +kernel
theorem d1111_199 : decode (mb 1111) 199 = .ok (.ireturn, 1) := by decide +kernel
theorem d1111_200 : decode (mb 1111) 200 = .ok (.iload_n 3, 1) := by decide +kernel
theorem d1111_201 : decode (mb 1111) 201 = .ok (.iload 4, 2) := by decide +kernel
theorem d1111_203 : decode (mb 1111) 203 = .ok (.ior, 1) := by decide +kernel
theorem d1111_204 : decode (mb 1111) 204 = .ok (.ireturn, 1) := by decide +kernel
theorem d1111_205 : decode (mb 1111) 205 = .ok (.iconst 0, 1) := by decide +kernel
theorem d1111_206 : decode (mb 1111) 206 = .ok (.istore 6, 2) := by decide +kernel
theorem d1111_208 : decode (mb 1111) 208 = .ok (.aload_n 0, 1) := by decide +kernel
theorem d1111_209 : decode (mb 1111) 209 = .ok (.aload_n 0, 1) := by decide +kernel
theorem d1111_210 : decode (mb 1111) 210 = .ok (.getfield 16, 3) := by decide +kernel
theorem d1111_213 : decode (mb 1111) 213 = .ok (.iload_n 1, 1) := by decide +kernel
theorem d1111_214 : decode (mb 1111) 214 = .ok (.iconst 2, 1) := by decide +kernel
theorem d1111_215 : decode (mb 1111) 215 = .ok (.iadd, 1) := by decide +kernel
theorem d1111_216 : decode (mb 1111) 216 = .ok (.iaload, 1) := by decide +kernel
theorem d1111_217 : decode (mb 1111) 217 = .ok (.invokevirtual 123, 3) := by decide +kernel
theorem d1111_220 : decode (mb 1111) 220 = .ok (.ifCond .eq 19, 3) := by decide +kernel
theorem d1111_223 : decode (mb 1111) 223 = .ok (.aload_n 0, 1) := by decide +kernel
theorem d1111_224 : decode (mb 1111) 224 = .ok (.getfield 7, 3) := by decide +kernel
theorem d1111_227 : decode (mb 1111) 227 = .ok (.aload_n 0, 1) := by decide +kernel
theorem d1111_228 : decode (mb 1111) 228 = .ok (.getfield 16, 3) := by decide +kernel
theorem d1111_231 : decode (mb 1111) 231 = .ok (.iload_n 1, 1) := by decide +kernel
theorem d1111_232 : decode (mb 1111) 232 = .ok (.iconst 2, 1) := by decide +kernel
theorem d1111_233 : decode (mb 1111) 233 = .ok (.iadd, 1) := by decide +kernel
theorem d1111_234 : decode (mb 1111) 234 = .ok (.iaload, 1) := by decide +kernel
theorem d1111_235 : decode (mb 1111) 235 = .ok (.iaload, 1) := by decide +kernel
theorem d1111_236 : decode (mb 1111) 236 = .ok (.goto 4, 3) := by decide +kernel
theorem d1111_239 : decode (mb 1111) 239 = .ok (.iconst 0, 1) := by decide +kernel
theorem d1111_240 : decode (mb 1111) 240 = .ok (.istore 7, 2) := by decide +kernel
theorem d1111_242 : decode (mb 1111) 242 = .ok (.iconst 0, 1) := by decide +kernel
theorem d1111_243 : decode (mb 1111) 243 = .ok (.istore 8, 2) := by decide +kernel
theorem d1111_245 : decode (mb 1111) 245 = .ok (.iload 8, 2) := by decide +kernel
theorem d1111_247 : decode (mb 1111) 247 = .ok (.iload 7, 2) := by decide +kernel
theorem d1111_249 : decode (mb 1111) 249 = .ok (.if_icmp .ge 43, 3) := by decide +kernel
theorem d1111_252 : decode (mb 1111) 252 = .ok (.aload_n 0, 1) := by decide +kernel
theorem d1111_253 : decode (mb 1111) 253 = .ok (.getfield 16, 3) := by decide +kernel
theorem d1111_256 : decode (mb 1111) 256 = .ok (.iload_n 1, 1) := by decide +kernel
theorem d1111_257 : decode (mb 1111) 257 = .ok (.iconst 3, 1) := by decide +kernel
theorem d1111_258 : decode (mb 1111) 258 = .ok (.iadd, 1) := by decide +kernel
theorem d1111_259 : decode (mb 1111) 259 = .ok (.iaload, 1) := by decide +kernel
theorem d1111_260 : decode (mb 1111) 260 = .ok (.iload 8, 2) := by decide +kernel
theorem d1111_262 : decode (mb 1111) 262 = .ok (.iadd, 1) := by decide +kernel
theorem d1111_263 : decode (mb 1111) 263 = .ok (.bipush 8, 2) := by decide +kernel
theorem d1111_265 : decode (mb 1111) 265 = .ok (.if_icmp .ge 27, 3) := by decide +kernel
theorem d1111_268 : decode (mb 1111) 268 = .ok (.iload 6, 2) := by decide +kernel
theorem d1111_270 : decode (mb 1111) 270 = .ok (.iconst 1, 1) := by decide +kernel
theorem d1111_271 : decode (mb 1111) 271 = .ok (.aload_n 0, 1) := by decide +kernel
theorem d1111_272 : decode (mb 1111) 272 = .ok (.getfield 16, 3) := by decide +kernel
theorem d1111_275 : decode (mb 1111) 275 = .ok (.iload_n 1, 1) := by decide +kernel
theorem d1111_276 : decode (mb 1111) 276 = .ok (.iconst 3, 1) := by decide +kernel
theorem d1111_277 : decode (mb 1111) 277 = .ok (.iadd, 1) := by decide +kernel
theorem d1111_278 : decode (mb 1111) 278 = .ok (.iaload, 1) := by decide +kernel
theorem d1111_279 : decode (mb 1111) 279 = .ok (.iload 8, 2) := by decide +kernel
theorem d1111_281 : decode (mb 1111) 281 = .ok (.iadd, 1) := by decide +kernel
theorem d1111_282 : decode (mb 1111) 282 = .ok (.ishl, 1) := by decide +kernel
theorem d1111_283 : decode (mb 1111) 283 = .ok (.ior, 1) := by decide +kernel
theorem d1111_284 : decode (mb 1111) 284 = .ok (.istore 6, 2) := by decide +kernel
theorem d1111_286 : decode (mb 1111) 286 = .ok (.iinc 8 1, 3) := by decide +kernel
theorem d1111_289 : decode (mb 1111) 289 = .ok (.goto (-44), 3) := by decide +kernel
theorem d1111_292 : decode (mb 1111) 292 = .ok (.iload 6, 2) := by decide +kernel
theorem d1111_294 : decode (mb 1111) 294 = .ok (.ireturn, 1) := by decide +kernel
theorem d1111_295 : decode (mb 1111) 295 = .ok (.iload 4, 2) := by decide +kernel
theorem d1111_297 : decode (mb 1111) 297 = .ok (.iload 5, 2) := by decide +kernel
theorem d1111_299 : decode (mb 1111) 299 = .ok (.ior, 1) := by decide +kernel
theorem d1111_300 : decode (mb 1111) 300 = .ok (.ireturn, 1) := by decide +kernel
theorem x1111_0 {S : List Value} {h : HP} {l1 l2 l3 l4 l5 l6 l7 l8 : Value} {a0 : Nat} : pX 1111 0 [.ref a0, l1, l2, l3, l4, l5, l6, l7, l8] S h = pX 1111 1 [.ref a0, l1, l2, l3, l4, l5, l6, l7, l8] (.ref a0 :: S) h := pX_stp d1111_0 rfl rfl rfl
theorem x1111_1 {L S : List Value} {h : HP} {a : Nat} (hk : hp_k h a = 12) : pX 1111 1 L (.ref a :: S) h = pX 1111 4 L (.ref (hp_a h a 3) :: S) h := pX_get d1111_1 rfl rfl hk
theorem x1111_4 {S : List Value} {h : HP} {l0 l2 l3 l4 l5 l6 l7 l8 : Value} {x0 : Int32} : pX 1111 4 [l0, .int x0, l2, l3, l4, l5, l6, l7, l8] S h = pX 1111 5 [l0, .int x0, l2, l3, l4, l5, l6, l7, l8] (.int x0 :: S) h := pX_stp d1111_4 rfl rfl rfl
theorem x1111_5 {L S : List Value} {h : HP} {a : Nat} {j : Int32} (hk : hp_k h a = 100) (hj : inb j (hp_l h a) = true) : pX 1111 5 L (.int j :: .ref a :: S) h = pX 1111 6 L (.int (hp_i h a (ix j)) :: S) h := pX_ild d1111_5 hk hj
theorem x1111_6 {S : List Value} {h : HP} {l0 l1 l2 l3 l4 l5 l6 l7 l8 : Value} {x0 : Int32} : pX 1111 6 [l0, l1, l2, l3, l4, l5, l6, l7, l8] (.int x0 :: S) h = pX 1111 7 [l0, l1, .int x0, l3, l4, l5, l6, l7, l8] S h := pX_stp d1111_6 rfl rfl rfl
theorem x1111_7 {L S : List Value} {h : HP} : pX 1111 7 L S h = pX 1111 8 L (.int 1 :: S) h := pX_iconst d1111_7 (by decide)
theorem x1111_8 {S : List Value} {h : HP} {l1 l2 l3 l4 l5 l6 l7 l8 : Value} {a0 : Nat} : pX 1111 8 [.ref a0, l1, l2, l3, l4, l5, l6, l7, l8] S h = pX 1111 9 [.ref a0, l1, l2, l3, l4, l5, l6, l7, l8] (.ref a0 :: S) h := pX_stp d1111_8 rfl rfl rfl
theorem x1111_9 {L S : List Value} {h : HP} {a : Nat} (hk : hp_k h a = 12) : pX 1111 9 L (.ref a :: S) h = pX 1111 12 L (.ref (hp_a h a 3) :: S) h := pX_get d1111_9 rfl rfl hk
theorem x1111_12 {S : List Value} {h : HP} {l0 l2 l3 l4 l5 l6 l7 l8 : Value} {x0 : Int32} : pX 1111 12 [l0, .int x0, l2, l3, l4, l5, l6, l7, l8] S h = pX 1111 13 [l0, .int x0, l2, l3, l4, l5, l6, l7, l8] (.int x0 :: S) h := pX_stp d1111_12 rfl rfl rfl
theorem x1111_13 {L S : List Value} {h : HP} : pX 1111 13 L S h = pX 1111 14 L (.int 1 :: S) h := pX_iconst d1111_13 (by decide)
theorem x1111_14 {L S : List Value} {h : HP} {x y : Int32} : pX 1111 14 L (.int y :: .int x :: S) h = pX 1111 15 L (.int (x + y) :: S) h := pX_stp d1111_14 rfl rfl rfl
theorem x1111_15 {L S : List Value} {h : HP} {a : Nat} {j : Int32} (hk : hp_k h a = 100) (hj : inb j (hp_l h a) = true) : pX 1111 15 L (.int j :: .ref a :: S) h = pX 1111 16 L (.int (hp_i h a (ix j)) :: S) h := pX_ild d1111_15 hk hj
theorem x1111_16 {L S : List Value} {h : HP} : pX 1111 16 L S h = pX 1111 18 L (.int 7 :: S) h := pX_bipush d1111_16 (by decide)
theorem x1111_18 {L S : List Value} {h : HP} {x y : Int32} : pX 1111 18 L (.int y :: .int x :: S) h = pX 1111 19 L (.int (x &&& y) :: S) h := pX_stp d1111_18 rfl rfl rfl
theorem x1111_19 {L S : List Value} {h : HP} {x y : Int32} : pX 1111 19 L (.int y :: .int x :: S) h = pX 1111 20 L (.int (x <<< (y &&& 31)) :: S) h := pX_stp d1111_19 rfl rfl rfl
theorem x1111_20 {S : List Value} {h : HP} {l0 l1 l2 l3 l4 l5 l6 l7 l8 : Value} {x0 : Int32} : pX 1111 20 [l0, l1, l2, l3, l4, l5, l6, l7, l8] (.int x0 :: S) h = pX 1111 21 [l0, l1, l2, .int x0, l4, l5, l6, l7, l8] S h := pX_stp d1111_20 rfl rfl rfl
theorem x1111_21 {L S : List Value} {h : HP} : pX 1111 21 L S h = pX 1111 22 L (.int 1 :: S) h := pX_iconst d1111_21 (by decide)
theorem x1111_22 {S : List Value} {h : HP} {l1 l2 l3 l4 l5 l6 l7 l8 : Value} {a0 : Nat} : pX 1111 22 [.ref a0, l1, l2, l3, l4, l5, l6, l7, l8] S h = pX 1111 23 [.ref a0, l1, l2, l3, l4, l5, l6, l7, l8] (.ref a0 :: S) h := pX_stp d1111_22 rfl rfl rfl
theorem x1111_23 {L S : List Value} {h : HP} {a : Nat} (hk : hp_k h a = 12) : pX 1111 23 L (.ref a :: S) h = pX 1111 26 L (.ref (hp_a h a 3) :: S) h := pX_get d1111_23 rfl rfl hk
theorem x1111_26 {S : List Value} {h : HP} {l0 l2 l3 l4 l5 l6 l7 l8 : Value} {x0 : Int32} : pX 1111 26 [l0, .int x0, l2, l3, l4, l5, l6, l7, l8] S h = pX 1111 27 [l0, .int x0, l2, l3, l4, l5, l6, l7, l8] (.int x0 :: S) h := pX_stp d1111_26 rfl rfl rfl
theorem x1111_27 {L S : List Value} {h : HP} : pX 1111 27 L S h = pX 1111 28 L (.int 2 :: S) h := pX_iconst d1111_27 (by decide)
theorem x1111_28 {L S : List Value} {h : HP} {x y : Int32} : pX 1111 28 L (.int y :: .int x :: S) h = pX 1111 29 L (.int (x + y) :: S) h := pX_stp d1111_28 rfl rfl rfl
theorem x1111_29 {L S : List Value} {h : HP} {a : Nat} {j : Int32} (hk : hp_k h a = 100) (hj : inb j (hp_l h a) = true) : pX 1111 29 L (.int j :: .ref a :: S) h = pX 1111 30 L (.int (hp_i h a (ix j)) :: S) h := pX_ild d1111_29 hk hj
theorem x1111_30 {L S : List Value} {h : HP} : pX 1111 30 L S h = pX 1111 32 L (.int 7 :: S) h := pX_bipush d1111_30 (by decide)
theorem x1111_32 {L S : List Value} {h : HP} {x y : Int32} : pX 1111 32 L (.int y :: .int x :: S) h = pX 1111 33 L (.int (x &&& y) :: S) h := pX_stp d1111_32 rfl rfl rfl
theorem x1111_33 {L S : List Value} {h : HP} {x y : Int32} : pX 1111 33 L (.int y :: .int x :: S) h = pX 1111 34 L (.int (x <<< (y &&& 31)) :: S) h := pX_stp d1111_33 rfl rfl rfl
theorem x1111_34 {S : List Value} {h : HP} {l0 l1 l2 l3 l4 l5 l6 l7 l8 : Value} {x0 : Int32} : pX 1111 34 [l0, l1, l2, l3, l4, l5, l6, l7, l8] (.int x0 :: S) h = pX 1111 36 [l0, l1, l2, l3, .int x0, l5, l6, l7, l8] S h := pX_stp d1111_34 rfl rfl rfl
theorem x1111_36 {L S : List Value} {h : HP} : pX 1111 36 L S h = pX 1111 37 L (.int 1 :: S) h := pX_iconst d1111_36 (by decide)
theorem x1111_37 {S : List Value} {h : HP} {l1 l2 l3 l4 l5 l6 l7 l8 : Value} {a0 : Nat} : pX 1111 37 [.ref a0, l1, l2, l3, l4, l5, l6, l7, l8] S h = pX 1111 38 [.ref a0, l1, l2, l3, l4, l5, l6, l7, l8] (.ref a0 :: S) h := pX_stp d1111_37 rfl rfl rfl
theorem x1111_38 {L S : List Value} {h : HP} {a : Nat} (hk : hp_k h a = 12) : pX 1111 38 L (.ref a :: S) h = pX 1111 41 L (.ref (hp_a h a 3) :: S) h := pX_get d1111_38 rfl rfl hk
theorem x1111_41 {S : List Value} {h : HP} {l0 l2 l3 l4 l5 l6 l7 l8 : Value} {x0 : Int32} : pX 1111 41 [l0, .int x0, l2, l3, l4, l5, l6, l7, l8] S h = pX 1111 42 [l0, .int x0, l2, l3, l4, l5, l6, l7, l8] (.int x0 :: S) h := pX_stp d1111_41 rfl rfl rfl
theorem x1111_42 {L S : List Value} {h : HP} : pX 1111 42 L S h = pX 1111 43 L (.int 3 :: S) h := pX_iconst d1111_42 (by decide)
theorem x1111_43 {L S : List Value} {h : HP} {x y : Int32} : pX 1111 43 L (.int y :: .int x :: S) h = pX 1111 44 L (.int (x + y) :: S) h := pX_stp d1111_43 rfl rfl rfl
theorem x1111_44 {L S : List Value} {h : HP} {a : Nat} {j : Int32} (hk : hp_k h a = 100) (hj : inb j (hp_l h a) = true) : pX 1111 44 L (.int j :: .ref a :: S) h = pX 1111 45 L (.int (hp_i h a (ix j)) :: S) h := pX_ild d1111_44 hk hj
theorem x1111_45 {L S : List Value} {h : HP} : pX 1111 45 L S h = pX 1111 47 L (.int 7 :: S) h := pX_bipush d1111_45 (by decide)
theorem x1111_47 {L S : List Value} {h : HP} {x y : Int32} : pX 1111 47 L (.int y :: .int x :: S) h = pX 1111 48 L (.int (x &&& y) :: S) h := pX_stp d1111_47 rfl rfl rfl
theorem x1111_48 {L S : List Value} {h : HP} {x y : Int32} : pX 1111 48 L (.int y :: .int x :: S) h = pX 1111 49 L (.int (x <<< (y &&& 31)) :: S) h := pX_stp d1111_48 rfl rfl rfl
theorem x1111_49 {S : List Value} {h : HP} {l0 l1 l2 l3 l4 l5 l6 l7 l8 : Value} {x0 : Int32} : pX 1111 49 [l0, l1, l2, l3, l4, l5, l6, l7, l8] (.int x0 :: S) h = pX 1111 51 [l0, l1, l2, l3, l4, .int x0, l6, l7, l8] S h := pX_stp d1111_49 rfl rfl rfl
theorem x1111_51 {S : List Value} {h : HP} {l0 l1 l3 l4 l5 l6 l7 l8 : Value} {x0 : Int32} : pX 1111 51 [l0, l1, .int x0, l3, l4, l5, l6, l7, l8] S h = pX 1111 52 [l0, l1, .int x0, l3, l4, l5, l6, l7, l8] (.int x0 :: S) h := pX_stp d1111_51 rfl rfl rfl
theorem x1111_52_0 {L S : List Value} {h : HP} : pX 1111 52 L (.int 0 :: S) h = pX 1111 180 L S h := pX_tabIn (off := 128) d1111_52 (by decide) (by decide) (by decide) (by decide)
theorem x1111_52_1 {L S : List Value} {h : HP} : pX 1111 52 L (.int 1 :: S) h = pX 1111 182 L S h := pX_tabIn (off := 130) d1111_52 (by decide) (by decide) (by decide) (by decide)
theorem x1111_52_2 {L S : List Value} {h : HP} : pX 1111 52 L (.int 2 :: S) h = pX 1111 295 L S h := pX_tabIn (off := 243) d1111_52 (by decide) (by decide) (by decide) (by decide)
theorem x1111_52_3 {L S : List Value} {h : HP} : pX 1111 52 L (.int 3 :: S) h = pX 1111 295 L S h := pX_tabIn (off := 243) d1111_52 (by decide) (by decide) (by decide) (by decide)
theorem x1111_52_4 {L S : List Value} {h : HP} : pX 1111 52 L (.int 4 :: S) h = pX 1111 295 L S h := pX_tabIn (off := 243) d1111_52 (by decide) (by decide) (by decide) (by decide)
theorem x1111_52_5 {L S : List Value} {h : HP} : pX 1111 52 L (.int 5 :: S) h = pX 1111 295 L S h := pX_tabIn (off := 243) d1111_52 (by decide) (by decide) (by decide) (by decide)
theorem x1111_52_6 {L S : List Value} {h : HP} : pX 1111 52 L (.int 6 :: S) h = pX 1111 295 L S h := pX_tabIn (off := 243) d1111_52 (by decide) (by decide) (by decide) (by decide)
theorem x1111_52_7 {L S : List Value} {h : HP} : pX 1111 52 L (.int 7 :: S) h = pX 1111 295 L S h := pX_tabIn (off := 243) d1111_52 (by decide) (by decide) (by decide) (by decide)
theorem x1111_52_8 {L S : List Value} {h : HP} : pX 1111 52 L (.int 8 :: S) h = pX 1111 295 L S h := pX_tabIn (off := 243) d1111_52 (by decide) (by decide) (by decide) (by decide)
theorem x1111_52_9 {L S : List Value} {h : HP} : pX 1111 52 L (.int 9 :: S) h = pX 1111 180 L S h := pX_tabIn (off := 128) d1111_52 (by decide) (by decide) (by decide) (by decide)
theorem x1111_52_10 {L S : List Value} {h : HP} : pX 1111 52 L (.int 10 :: S) h = pX 1111 185 L S h := pX_tabIn (off := 133) d1111_52 (by decide) (by decide) (by decide) (by decide)
theorem x1111_52_11 {L S : List Value} {h : HP} : pX 1111 52 L (.int 11 :: S) h = pX 1111 182 L S h := pX_tabIn (off := 130) d1111_52 (by decide) (by decide) (by decide) (by decide)
theorem x1111_52_12 {L S : List Value} {h : HP} : pX 1111 52 L (.int 12 :: S) h = pX 1111 180 L S h := pX_tabIn (off := 128) d1111_52 (by decide) (by decide) (by decide) (by decide)
theorem x1111_52_13 {L S : List Value} {h : HP} : pX 1111 52 L (.int 13 :: S) h = pX 1111 187 L S h := pX_tabIn (off := 135) d1111_52 (by decide) (by decide) (by decide) (by decide)
theorem x1111_52_14 {L S : List Value} {h : HP} : pX 1111 52 L (.int 14 :: S) h = pX 1111 295 L S h := pX_tabIn (off := 243) d1111_52 (by decide) (by decide) (by decide) (by decide)
theorem x1111_52_15 {L S : List Value} {h : HP} : pX 1111 52 L (.int 15 :: S) h = pX 1111 182 L S h := pX_tabIn (off := 130) d1111_52 (by decide) (by decide) (by decide) (by decide)
theorem x1111_52_16 {L S : List Value} {h : HP} : pX 1111 52 L (.int 16 :: S) h = pX 1111 182 L S h := pX_tabIn (off := 130) d1111_52 (by decide) (by decide) (by decide) (by decide)
theorem x1111_52_17 {L S : List Value} {h : HP} : pX 1111 52 L (.int 17 :: S) h = pX 1111 195 L S h := pX_tabIn (off := 143) d1111_52 (by decide) (by decide) (by decide) (by decide)
theorem x1111_52_18 {L S : List Value} {h : HP} : pX 1111 52 L (.int 18 :: S) h = pX 1111 182 L S h := pX_tabIn (off := 130) d1111_52 (by decide) (by decide) (by decide) (by decide)
theorem x1111_52_19 {L S : List Value} {h : HP} : pX 1111 52 L (.int 19 :: S) h = pX 1111 185 L S h := pX_tabIn (off := 133) d1111_52 (by decide) (by decide) (by decide) (by decide)
theorem x1111_52_20 {L S : List Value} {h : HP} : pX 1111 52 L (.int 20 :: S) h = pX 1111 185 L S h := pX_tabIn (off := 133) d1111_52 (by decide) (by decide) (by decide) (by decide)
theorem x1111_52_21 {L S : List Value} {h : HP} : pX 1111 52 L (.int 21 :: S) h = pX 1111 185 L S h := pX_tabIn (off := 133) d1111_52 (by decide) (by decide) (by decide) (by decide)
theorem x1111_52_22 {L S : List Value} {h : HP} : pX 1111 52 L (.int 22 :: S) h = pX 1111 185 L S h := pX_tabIn (off := 133) d1111_52 (by decide) (by decide) (by decide) (by decide)
theorem x1111_52_23 {L S : List Value} {h : HP} : pX 1111 52 L (.int 23 :: S) h = pX 1111 205 L S h := pX_tabIn (off := 153) d1111_52 (by decide) (by decide) (by decide) (by decide)
theorem x1111_52_24 {L S : List Value} {h : HP} : pX 1111 52 L (.int 24 :: S) h = pX 1111 185 L S h := pX_tabIn (off := 133) d1111_52 (by decide) (by decide) (by decide) (by decide)
theorem x1111_52_25 {L S : List Value} {h : HP} : pX 1111 52 L (.int 25 :: S) h = pX 1111 200 L S h := pX_tabIn (off := 148) d1111_52 (by decide) (by decide) (by decide) (by decide)
theorem x1111_52_26 {L S : List Value} {h : HP} : pX 1111 52 L (.int 26 :: S) h = pX 1111 182 L S h := pX_tabIn (off := 130) d1111_52 (by decide) (by decide) (by decide) (by decide)
theorem x1111_52_27 {L S : List Value} {h : HP} : pX 1111 52 L (.int 27 :: S) h = pX 1111 182 L S h := pX_tabIn (off := 130) d1111_52 (by decide) (by decide) (by decide) (by decide)
theorem x1111_52_d {L S : List Value} {h : HP} {x : Int32} (hx : x.toInt < 0 ∨ 27 < x.toInt) : pX 1111 52 L (.int x :: S) h = pX 1111 295 L S h := pX_tabOut d1111_52 hx (by decide)
theorem x1111_180 {L S : List Value} {h : HP} : pX 1111 180 L S h = pX 1111 181 L (.int 0 :: S) h := pX_iconst d1111_180 (by decide)
theorem x1111_181 {L : List Value} {h : HP} {x : Int32} : pX 1111 181 L [.int x] h = some (some (.int x), h) := pX_ret d1111_181 rfl
theorem x1111_182 {S : List Value} {h : HP} {l0 l1 l2 l3 l5 l6 l7 l8 : Value} {x0 : Int32} : pX 1111 182 [l0, l1, l2, l3, .int x0, l5, l6, l7, l8] S h = pX 1111 184 [l0, l1, l2, l3, .int x0, l5, l6, l7, l8] (.int x0 :: S) h := pX_stp d1111_182 rfl rfl rfl
theorem x1111_184 {L : List Value} {h : HP} {x : Int32} : pX 1111 184 L [.int x] h = some (some (.int x), h) := pX_ret d1111_184 rfl
theorem x1111_185 {S : List Value} {h : HP} {l0 l1 l2 l4 l5 l6 l7 l8 : Value} {x0 : Int32} : pX 1111 185 [l0, l1, l2, .int x0, l4, l5, l6, l7, l8] S h = pX 1111 186 [l0, l1, l2, .int x0, l4, l5, l6, l7, l8] (.int x0 :: S) h := pX_stp d1111_185 rfl rfl rfl
theorem x1111_186 {L : List Value} {h : HP} {x : Int32} : pX 1111 186 L [.int x] h = some (some (.int x), h) := pX_ret d1111_186 rfl
theorem x1111_187 {S : List Value} {h : HP} {l0 l1 l2 l4 l5 l6 l7 l8 : Value} {x0 : Int32} : pX 1111 187 [l0, l1, l2, .int x0, l4, l5, l6, l7, l8] S h = pX 1111 188 [l0, l1, l2, .int x0, l4, l5, l6, l7, l8] (.int x0 :: S) h := pX_stp d1111_187 rfl rfl rfl
theorem x1111_188 {S : List Value} {h : HP} {l0 l1 l2 l3 l5 l6 l7 l8 : Value} {x0 : Int32} : pX 1111 188 [l0, l1, l2, l3, .int x0, l5, l6, l7, l8] S h = pX 1111 190 [l0, l1, l2, l3, .int x0, l5, l6, l7, l8] (.int x0 :: S) h := pX_stp d1111_188 rfl rfl rfl
theorem x1111_190 {L S : List Value} {h : HP} {x y : Int32} : pX 1111 190 L (.int y :: .int x :: S) h = pX 1111 191 L (.int (x ||| y) :: S) h := pX_stp d1111_190 rfl rfl rfl
theorem x1111_191 {S : List Value} {h : HP} {l0 l1 l2 l3 l4 l6 l7 l8 : Value} {x0 : Int32} : pX 1111 191 [l0, l1, l2, l3, l4, .int x0, l6, l7, l8] S h = pX 1111 193 [l0, l1, l2, l3, l4, .int x0, l6, l7, l8] (.int x0 :: S) h := pX_stp d1111_191 rfl rfl rfl
theorem x1111_193 {L S : List Value} {h : HP} {x y : Int32} : pX 1111 193 L (.int y :: .int x :: S) h = pX 1111 194 L (.int (x ||| y) :: S) h := pX_stp d1111_193 rfl rfl rfl
theorem x1111_194 {L : List Value} {h : HP} {x : Int32} : pX 1111 194 L [.int x] h = some (some (.int x), h) := pX_ret d1111_194 rfl
theorem x1111_195 {S : List Value} {h : HP} {l0 l1 l2 l4 l5 l6 l7 l8 : Value} {x0 : Int32} : pX 1111 195 [l0, l1, l2, .int x0, l4, l5, l6, l7, l8] S h = pX 1111 196 [l0, l1, l2, .int x0, l4, l5, l6, l7, l8] (.int x0 :: S) h := pX_stp d1111_195 rfl rfl rfl
theorem x1111_196 {S : List Value} {h : HP} {l0 l1 l2 l3 l4 l6 l7 l8 : Value} {x0 : Int32} : pX 1111 196 [l0, l1, l2, l3, l4, .int x0, l6, l7, l8] S h = pX 1111 198 [l0, l1, l2, l3, l4, .int x0, l6, l7, l8] (.int x0 :: S) h := pX_stp d1111_196 rfl rfl rfl
theorem x1111_198 {L S : List Value} {h : HP} {x y : Int32} : pX 1111 198 L (.int y :: .int x :: S) h = pX 1111 199 L (.int (x ||| y) :: S) h := pX_stp d1111_198 rfl rfl rfl
theorem x1111_199 {L : List Value} {h : HP} {x : Int32} : pX 1111 199 L [.int x] h = some (some (.int x), h) := pX_ret d1111_199 rfl
theorem x1111_200 {S : List Value} {h : HP} {l0 l1 l2 l4 l5 l6 l7 l8 : Value} {x0 : Int32} : pX 1111 200 [l0, l1, l2, .int x0, l4, l5, l6, l7, l8] S h = pX 1111 201 [l0, l1, l2, .int x0, l4, l5, l6, l7, l8] (.int x0 :: S) h := pX_stp d1111_200 rfl rfl rfl
theorem x1111_201 {S : List Value} {h : HP} {l0 l1 l2 l3 l5 l6 l7 l8 : Value} {x0 : Int32} : pX 1111 201 [l0, l1, l2, l3, .int x0, l5, l6, l7, l8] S h = pX 1111 203 [l0, l1, l2, l3, .int x0, l5, l6, l7, l8] (.int x0 :: S) h := pX_stp d1111_201 rfl rfl rfl
theorem x1111_203 {L S : List Value} {h : HP} {x y : Int32} : pX 1111 203 L (.int y :: .int x :: S) h = pX 1111 204 L (.int (x ||| y) :: S) h := pX_stp d1111_203 rfl rfl rfl
theorem x1111_204 {L : List Value} {h : HP} {x : Int32} : pX 1111 204 L [.int x] h = some (some (.int x), h) := pX_ret d1111_204 rfl
theorem x1111_205 {L S : List Value} {h : HP} : pX 1111 205 L S h = pX 1111 206 L (.int 0 :: S) h := pX_iconst d1111_205 (by decide)
theorem x1111_206 {S : List Value} {h : HP} {l0 l1 l2 l3 l4 l5 l6 l7 l8 : Value} {x0 : Int32} : pX 1111 206 [l0, l1, l2, l3, l4, l5, l6, l7, l8] (.int x0 :: S) h = pX 1111 208 [l0, l1, l2, l3, l4, l5, .int x0, l7, l8] S h := pX_stp d1111_206 rfl rfl rfl
theorem x1111_208 {S : List Value} {h : HP} {l1 l2 l3 l4 l5 l6 l7 l8 : Value} {a0 : Nat} : pX 1111 208 [.ref a0, l1, l2, l3, l4, l5, l6, l7, l8] S h = pX 1111 209 [.ref a0, l1, l2, l3, l4, l5, l6, l7, l8] (.ref a0 :: S) h := pX_stp d1111_208 rfl rfl rfl
theorem x1111_209 {S : List Value} {h : HP} {l1 l2 l3 l4 l5 l6 l7 l8 : Value} {a0 : Nat} : pX 1111 209 [.ref a0, l1, l2, l3, l4, l5, l6, l7, l8] S h = pX 1111 210 [.ref a0, l1, l2, l3, l4, l5, l6, l7, l8] (.ref a0 :: S) h := pX_stp d1111_209 rfl rfl rfl
theorem x1111_210 {L S : List Value} {h : HP} {a : Nat} (hk : hp_k h a = 12) : pX 1111 210 L (.ref a :: S) h = pX 1111 213 L (.ref (hp_a h a 3) :: S) h := pX_get d1111_210 rfl rfl hk
theorem x1111_213 {S : List Value} {h : HP} {l0 l2 l3 l4 l5 l6 l7 l8 : Value} {x0 : Int32} : pX 1111 213 [l0, .int x0, l2, l3, l4, l5, l6, l7, l8] S h = pX 1111 214 [l0, .int x0, l2, l3, l4, l5, l6, l7, l8] (.int x0 :: S) h := pX_stp d1111_213 rfl rfl rfl
theorem x1111_214 {L S : List Value} {h : HP} : pX 1111 214 L S h = pX 1111 215 L (.int 2 :: S) h := pX_iconst d1111_214 (by decide)
theorem x1111_215 {L S : List Value} {h : HP} {x y : Int32} : pX 1111 215 L (.int y :: .int x :: S) h = pX 1111 216 L (.int (x + y) :: S) h := pX_stp d1111_215 rfl rfl rfl
theorem x1111_216 {L S : List Value} {h : HP} {a : Nat} {j : Int32} (hk : hp_k h a = 100) (hj : inb j (hp_l h a) = true) : pX 1111 216 L (.int j :: .ref a :: S) h = pX 1111 217 L (.int (hp_i h a (ix j)) :: S) h := pX_ild d1111_216 hk hj
theorem x1111_217 {L : List Value} {h : HP} {x0 : Int32} {a0 : Nat} (hk : hp_k h a0 = 12) : pX 1111 217 L [.int x0, .ref a0] h = (pX 1102 0 [.ref a0, .int x0] [] h).bind (fun q => pX 1111 220 L (q.1.toList ++ []) q.2) := pX_inv (a := a0) (t := 12) 1102 [.ref a0, .int x0] [] d1111_217 rfl rfl rfl hk
theorem x1111_220 {L S : List Value} {h : HP} {x : Int32} : pX 1111 220 L (.int x :: S) h = if x = 0 then pX 1111 239 L S h else pX 1111 223 L S h := pX_if_eq d1111_220 (by decide)
theorem x1111_223 {S : List Value} {h : HP} {l1 l2 l3 l4 l5 l6 l7 l8 : Value} {a0 : Nat} : pX 1111 223 [.ref a0, l1, l2, l3, l4, l5, l6, l7, l8] S h = pX 1111 224 [.ref a0, l1, l2, l3, l4, l5, l6, l7, l8] (.ref a0 :: S) h := pX_stp d1111_223 rfl rfl rfl
theorem x1111_224 {L S : List Value} {h : HP} {a : Nat} (hk : hp_k h a = 12) : pX 1111 224 L (.ref a :: S) h = pX 1111 227 L (.ref (hp_a h a 1) :: S) h := pX_get d1111_224 rfl rfl hk
theorem x1111_227 {S : List Value} {h : HP} {l1 l2 l3 l4 l5 l6 l7 l8 : Value} {a0 : Nat} : pX 1111 227 [.ref a0, l1, l2, l3, l4, l5, l6, l7, l8] S h = pX 1111 228 [.ref a0, l1, l2, l3, l4, l5, l6, l7, l8] (.ref a0 :: S) h := pX_stp d1111_227 rfl rfl rfl
theorem x1111_228 {L S : List Value} {h : HP} {a : Nat} (hk : hp_k h a = 12) : pX 1111 228 L (.ref a :: S) h = pX 1111 231 L (.ref (hp_a h a 3) :: S) h := pX_get d1111_228 rfl rfl hk
theorem x1111_231 {S : List Value} {h : HP} {l0 l2 l3 l4 l5 l6 l7 l8 : Value} {x0 : Int32} : pX 1111 231 [l0, .int x0, l2, l3, l4, l5, l6, l7, l8] S h = pX 1111 232 [l0, .int x0, l2, l3, l4, l5, l6, l7, l8] (.int x0 :: S) h := pX_stp d1111_231 rfl rfl rfl
theorem x1111_232 {L S : List Value} {h : HP} : pX 1111 232 L S h = pX 1111 233 L (.int 2 :: S) h := pX_iconst d1111_232 (by decide)
theorem x1111_233 {L S : List Value} {h : HP} {x y : Int32} : pX 1111 233 L (.int y :: .int x :: S) h = pX 1111 234 L (.int (x + y) :: S) h := pX_stp d1111_233 rfl rfl rfl
theorem x1111_234 {L S : List Value} {h : HP} {a : Nat} {j : Int32} (hk : hp_k h a = 100) (hj : inb j (hp_l h a) = true) : pX 1111 234 L (.int j :: .ref a :: S) h = pX 1111 235 L (.int (hp_i h a (ix j)) :: S) h := pX_ild d1111_234 hk hj
theorem x1111_235 {L S : List Value} {h : HP} {a : Nat} {j : Int32} (hk : hp_k h a = 100) (hj : inb j (hp_l h a) = true) : pX 1111 235 L (.int j :: .ref a :: S) h = pX 1111 236 L (.int (hp_i h a (ix j)) :: S) h := pX_ild d1111_235 hk hj
theorem x1111_236 {L S : List Value} {h : HP} : pX 1111 236 L S h = pX 1111 240 L S h := pX_goto d1111_236 (by decide)
theorem x1111_239 {L S : List Value} {h : HP} : pX 1111 239 L S h = pX 1111 240 L (.int 0 :: S) h := pX_iconst d1111_239 (by decide)
theorem x1111_240 {S : List Value} {h : HP} {l0 l1 l2 l3 l4 l5 l6 l7 l8 : Value} {x0 : Int32} : pX 1111 240 [l0, l1, l2, l3, l4, l5, l6, l7, l8] (.int x0 :: S) h = pX 1111 242 [l0, l1, l2, l3, l4, l5, l6, .int x0, l8] S h := pX_stp d1111_240 rfl rfl rfl
theorem x1111_242 {L S : List Value} {h : HP} : pX 1111 242 L S h = pX 1111 243 L (.int 0 :: S) h := pX_iconst d1111_242 (by decide)
theorem x1111_243 {S : List Value} {h : HP} {l0 l1 l2 l3 l4 l5 l6 l7 l8 : Value} {x0 : Int32} : pX 1111 243 [l0, l1, l2, l3, l4, l5, l6, l7, l8] (.int x0 :: S) h = pX 1111 245 [l0, l1, l2, l3, l4, l5, l6, l7, .int x0] S h := pX_stp d1111_243 rfl rfl rfl
theorem x1111_245 {S : List Value} {h : HP} {l0 l1 l2 l3 l4 l5 l6 l7 : Value} {x0 : Int32} : pX 1111 245 [l0, l1, l2, l3, l4, l5, l6, l7, .int x0] S h = pX 1111 247 [l0, l1, l2, l3, l4, l5, l6, l7, .int x0] (.int x0 :: S) h := pX_stp d1111_245 rfl rfl rfl
theorem x1111_247 {S : List Value} {h : HP} {l0 l1 l2 l3 l4 l5 l6 l8 : Value} {x0 : Int32} : pX 1111 247 [l0, l1, l2, l3, l4, l5, l6, .int x0, l8] S h = pX 1111 249 [l0, l1, l2, l3, l4, l5, l6, .int x0, l8] (.int x0 :: S) h := pX_stp d1111_247 rfl rfl rfl
theorem x1111_249 {L S : List Value} {h : HP} {x y : Int32} : pX 1111 249 L (.int y :: .int x :: S) h = if y ≤ x then pX 1111 292 L S h else pX 1111 252 L S h := pX_icmp_ge d1111_249 (by decide)
theorem x1111_252 {S : List Value} {h : HP} {l1 l2 l3 l4 l5 l6 l7 l8 : Value} {a0 : Nat} : pX 1111 252 [.ref a0, l1, l2, l3, l4, l5, l6, l7, l8] S h = pX 1111 253 [.ref a0, l1, l2, l3, l4, l5, l6, l7, l8] (.ref a0 :: S) h := pX_stp d1111_252 rfl rfl rfl
theorem x1111_253 {L S : List Value} {h : HP} {a : Nat} (hk : hp_k h a = 12) : pX 1111 253 L (.ref a :: S) h = pX 1111 256 L (.ref (hp_a h a 3) :: S) h := pX_get d1111_253 rfl rfl hk
theorem x1111_256 {S : List Value} {h : HP} {l0 l2 l3 l4 l5 l6 l7 l8 : Value} {x0 : Int32} : pX 1111 256 [l0, .int x0, l2, l3, l4, l5, l6, l7, l8] S h = pX 1111 257 [l0, .int x0, l2, l3, l4, l5, l6, l7, l8] (.int x0 :: S) h := pX_stp d1111_256 rfl rfl rfl
theorem x1111_257 {L S : List Value} {h : HP} : pX 1111 257 L S h = pX 1111 258 L (.int 3 :: S) h := pX_iconst d1111_257 (by decide)
theorem x1111_258 {L S : List Value} {h : HP} {x y : Int32} : pX 1111 258 L (.int y :: .int x :: S) h = pX 1111 259 L (.int (x + y) :: S) h := pX_stp d1111_258 rfl rfl rfl
theorem x1111_259 {L S : List Value} {h : HP} {a : Nat} {j : Int32} (hk : hp_k h a = 100) (hj : inb j (hp_l h a) = true) : pX 1111 259 L (.int j :: .ref a :: S) h = pX 1111 260 L (.int (hp_i h a (ix j)) :: S) h := pX_ild d1111_259 hk hj
theorem x1111_260 {S : List Value} {h : HP} {l0 l1 l2 l3 l4 l5 l6 l7 : Value} {x0 : Int32} : pX 1111 260 [l0, l1, l2, l3, l4, l5, l6, l7, .int x0] S h = pX 1111 262 [l0, l1, l2, l3, l4, l5, l6, l7, .int x0] (.int x0 :: S) h := pX_stp d1111_260 rfl rfl rfl
theorem x1111_262 {L S : List Value} {h : HP} {x y : Int32} : pX 1111 262 L (.int y :: .int x :: S) h = pX 1111 263 L (.int (x + y) :: S) h := pX_stp d1111_262 rfl rfl rfl
theorem x1111_263 {L S : List Value} {h : HP} : pX 1111 263 L S h = pX 1111 265 L (.int 8 :: S) h := pX_bipush d1111_263 (by decide)
theorem x1111_265 {L S : List Value} {h : HP} {x y : Int32} : pX 1111 265 L (.int y :: .int x :: S) h = if y ≤ x then pX 1111 292 L S h else pX 1111 268 L S h := pX_icmp_ge d1111_265 (by decide)
theorem x1111_268 {S : List Value} {h : HP} {l0 l1 l2 l3 l4 l5 l7 l8 : Value} {x0 : Int32} : pX 1111 268 [l0, l1, l2, l3, l4, l5, .int x0, l7, l8] S h = pX 1111 270 [l0, l1, l2, l3, l4, l5, .int x0, l7, l8] (.int x0 :: S) h := pX_stp d1111_268 rfl rfl rfl
theorem x1111_270 {L S : List Value} {h : HP} : pX 1111 270 L S h = pX 1111 271 L (.int 1 :: S) h := pX_iconst d1111_270 (by decide)
theorem x1111_271 {S : List Value} {h : HP} {l1 l2 l3 l4 l5 l6 l7 l8 : Value} {a0 : Nat} : pX 1111 271 [.ref a0, l1, l2, l3, l4, l5, l6, l7, l8] S h = pX 1111 272 [.ref a0, l1, l2, l3, l4, l5, l6, l7, l8] (.ref a0 :: S) h := pX_stp d1111_271 rfl rfl rfl
theorem x1111_272 {L S : List Value} {h : HP} {a : Nat} (hk : hp_k h a = 12) : pX 1111 272 L (.ref a :: S) h = pX 1111 275 L (.ref (hp_a h a 3) :: S) h := pX_get d1111_272 rfl rfl hk
theorem x1111_275 {S : List Value} {h : HP} {l0 l2 l3 l4 l5 l6 l7 l8 : Value} {x0 : Int32} : pX 1111 275 [l0, .int x0, l2, l3, l4, l5, l6, l7, l8] S h = pX 1111 276 [l0, .int x0, l2, l3, l4, l5, l6, l7, l8] (.int x0 :: S) h := pX_stp d1111_275 rfl rfl rfl
theorem x1111_276 {L S : List Value} {h : HP} : pX 1111 276 L S h = pX 1111 277 L (.int 3 :: S) h := pX_iconst d1111_276 (by decide)
theorem x1111_277 {L S : List Value} {h : HP} {x y : Int32} : pX 1111 277 L (.int y :: .int x :: S) h = pX 1111 278 L (.int (x + y) :: S) h := pX_stp d1111_277 rfl rfl rfl
theorem x1111_278 {L S : List Value} {h : HP} {a : Nat} {j : Int32} (hk : hp_k h a = 100) (hj : inb j (hp_l h a) = true) : pX 1111 278 L (.int j :: .ref a :: S) h = pX 1111 279 L (.int (hp_i h a (ix j)) :: S) h := pX_ild d1111_278 hk hj
theorem x1111_279 {S : List Value} {h : HP} {l0 l1 l2 l3 l4 l5 l6 l7 : Value} {x0 : Int32} : pX 1111 279 [l0, l1, l2, l3, l4, l5, l6, l7, .int x0] S h = pX 1111 281 [l0, l1, l2, l3, l4, l5, l6, l7, .int x0] (.int x0 :: S) h := pX_stp d1111_279 rfl rfl rfl
theorem x1111_281 {L S : List Value} {h : HP} {x y : Int32} : pX 1111 281 L (.int y :: .int x :: S) h = pX 1111 282 L (.int (x + y) :: S) h := pX_stp d1111_281 rfl rfl rfl
theorem x1111_282 {L S : List Value} {h : HP} {x y : Int32} : pX 1111 282 L (.int y :: .int x :: S) h = pX 1111 283 L (.int (x <<< (y &&& 31)) :: S) h := pX_stp d1111_282 rfl rfl rfl
theorem x1111_283 {L S : List Value} {h : HP} {x y : Int32} : pX 1111 283 L (.int y :: .int x :: S) h = pX 1111 284 L (.int (x ||| y) :: S) h := pX_stp d1111_283 rfl rfl rfl
theorem x1111_284 {S : List Value} {h : HP} {l0 l1 l2 l3 l4 l5 l6 l7 l8 : Value} {x0 : Int32} : pX 1111 284 [l0, l1, l2, l3, l4, l5, l6, l7, l8] (.int x0 :: S) h = pX 1111 286 [l0, l1, l2, l3, l4, l5, .int x0, l7, l8] S h := pX_stp d1111_284 rfl rfl rfl
theorem x1111_286 {S : List Value} {h : HP} {x0 : Int32} {l0 l1 l2 l3 l4 l5 l6 l7 : Value} : pX 1111 286 [l0, l1, l2, l3, l4, l5, l6, l7, .int x0] S h = pX 1111 289 [l0, l1, l2, l3, l4, l5, l6, l7, .int (x0 + 1)] S h := pX_iinc (x := x0) d1111_286 (by decide) rfl (Nat.le_of_ble_eq_true rfl) rfl rfl
theorem x1111_289 {L S : List Value} {h : HP} : pX 1111 289 L S h = pX 1111 245 L S h := pX_goto d1111_289 (by decide)
theorem x1111_292 {S : List Value} {h : HP} {l0 l1 l2 l3 l4 l5 l7 l8 : Value} {x0 : Int32} : pX 1111 292 [l0, l1, l2, l3, l4, l5, .int x0, l7, l8] S h = pX 1111 294 [l0, l1, l2, l3, l4, l5, .int x0, l7, l8] (.int x0 :: S) h := pX_stp d1111_292 rfl rfl rfl
theorem x1111_294 {L : List Value} {h : HP} {x : Int32} : pX 1111 294 L [.int x] h = some (some (.int x), h) := pX_ret d1111_294 rfl
theorem x1111_295 {S : List Value} {h : HP} {l0 l1 l2 l3 l5 l6 l7 l8 : Value} {x0 : Int32} : pX 1111 295 [l0, l1, l2, l3, .int x0, l5, l6, l7, l8] S h = pX 1111 297 [l0, l1, l2, l3, .int x0, l5, l6, l7, l8] (.int x0 :: S) h := pX_stp d1111_295 rfl rfl rfl
theorem x1111_297 {S : List Value} {h : HP} {l0 l1 l2 l3 l4 l6 l7 l8 : Value} {x0 : Int32} : pX 1111 297 [l0, l1, l2, l3, l4, .int x0, l6, l7, l8] S h = pX 1111 299 [l0, l1, l2, l3, l4, .int x0, l6, l7, l8] (.int x0 :: S) h := pX_stp d1111_297 rfl rfl rfl
theorem x1111_299 {L S : List Value} {h : HP} {x y : Int32} : pX 1111 299 L (.int y :: .int x :: S) h = pX 1111 300 L (.int (x ||| y) :: S) h := pX_stp d1111_299 rfl rfl rfl
theorem x1111_300 {L : List Value} {h : HP} {x : Int32} : pX 1111 300 L [.int x] h = some (some (.int x), h) := pX_ret d1111_300 rfl
theorem d1112_0 : decode (mb 1112) 0 = .ok (.aload_n 0, 1) := by decide +kernel
theorem d1112_1 : decode (mb 1112) 1 = .ok (.getfield 16, 3) := by decide +kernel
theorem d1112_4 : decode (mb 1112) 4 = .ok (.iload_n 1, 1) := by decide +kernel
theorem d1112_5 : decode (mb 1112) 5 = .ok (.iaload, 1) := by decide +kernel
theorem d1112_6 : decode (mb 1112) 6 = .ok (.istore_n 2, 1) := by decide +kernel
theorem d1112_7 : decode (mb 1112) 7 = .ok (.iload_n 2, 1) := by decide +kernel
theorem d1112_8 : decode (mb 1112) 8 = .ok (.bipush 9, 2) := by decide +kernel
theorem d1112_10 : decode (mb 1112) 10 = .ok (.if_icmp .lt 51, 3) := by decide +kernel
theorem d1112_13 : decode (mb 1112) 13 = .ok (.iload_n 2, 1) := by decide +kernel
theorem d1112_14 : decode (mb 1112) 14 = .ok (.bipush 11, 2) := by decide +kernel
theorem d1112_16 : decode (mb 1112) 16 = .ok (.if_icmp .eq 45, 3) := by decide +kernel
theorem d1112_19 : decode (mb 1112) 19 = .ok (.iload_n 2, 1) := by decide +kernel
theorem d1112_20 : decode (mb 1112) 20 = .ok (.bipush 12, 2) := by decide +kernel
theorem d1112_22 : decode (mb 1112) 22 = .ok (.if_icmp .eq 39, 3) := by decide +kernel
theorem d1112_25 : decode (mb 1112) 25 = .ok (.iload_n 2, 1) := by decide +kernel
theorem d1112_26 : decode (mb 1112) 26 = .ok (.bipush 14, 2) := by decide +kernel
theorem d1112_28 : decode (mb 1112) 28 = .ok (.if_icmp .eq 33, 3) := by decide +kernel
theorem d1112_31 : decode (mb 1112) 31 = .ok (.iload_n 2, 1) := by decide +kernel
theorem d1112_32 : decode (mb 1112) 32 = .ok (.bipush 15, 2) := by decide +kernel
theorem d1112_34 : decode (mb 1112) 34 = .ok (.if_icmp .eq 27, 3) := by decide +kernel
theorem d1112_37 : decode (mb 1112) 37 = .ok (.iload_n 2, 1) := by decide +kernel
theorem d1112_38 : decode (mb 1112) 38 = .ok (.bipush 16, 2) := by decide +kernel
theorem d1112_40 : decode (mb 1112) 40 = .ok (.if_icmp .eq 21, 3) := by decide +kernel
theorem d1112_43 : decode (mb 1112) 43 = .ok (.iload_n 2, 1) := by decide +kernel
theorem d1112_44 : decode (mb 1112) 44 = .ok (.bipush 18, 2) := by decide +kernel
theorem d1112_46 : decode (mb 1112) 46 = .ok (.if_icmp .eq 15, 3) := by decide +kernel
theorem d1112_49 : decode (mb 1112) 49 = .ok (.iload_n 2, 1) := by decide +kernel
theorem d1112_50 : decode (mb 1112) 50 = .ok (.bipush 23, 2) := by decide +kernel
theorem d1112_52 : decode (mb 1112) 52 = .ok (.if_icmp .eq 9, 3) := by decide +kernel
theorem d1112_55 : decode (mb 1112) 55 = .ok (.iload_n 2, 1) := by decide +kernel
theorem d1112_56 : decode (mb 1112) 56 = .ok (.bipush 25, 2) := by decide +kernel
theorem d1112_58 : decode (mb 1112) 58 = .ok (.if_icmp .le 7, 3) := by decide +kernel
theorem d1112_61 : decode (mb 1112) 61 = .ok (.iconst 1, 1) := by decide +kernel
theorem d1112_62 : decode (mb 1112) 62 = .ok (.goto 4, 3) := by decide +kernel
theorem d1112_65 : decode (mb 1112) 65 = .ok (.iconst 0, 1) := by decide +kernel
theorem d1112_66 : decode (mb 1112) 66 = .ok (.istore_n 3, 1) := by decide +kernel
theorem d1112_67 : decode (mb 1112) 67 = .ok (.iload_n 3, 1) := by decide +kernel
theorem d1112_68 : decode (mb 1112) 68 = .ok (.ifCond .eq 16, 3) := by decide +kernel
theorem d1112_71 : decode (mb 1112) 71 = .ok (.iconst 1, 1) := by decide +kernel
theorem d1112_72 : decode (mb 1112) 72 = .ok (.aload_n 0, 1) := by decide +kernel
theorem d1112_73 : decode (mb 1112) 73 = .ok (.getfield 16, 3) := by decide +kernel
theorem d1112_76 : decode (mb 1112) 76 = .ok (.iload_n 1, 1) := by decide +kernel
theorem d1112_77 : decode (mb 1112) 77 = .ok (.iconst 1, 1) := by decide +kernel
theorem d1112_78 : decode (mb 1112) 78 = .ok (.iadd, 1) := by decide +kernel
theorem d1112_79 : decode (mb 1112) 79 = .ok (.iaload, 1) := by decide +kernel
theorem d1112_80 : decode (mb 1112) 80 = .ok (.ishl, 1) := by decide +kernel
theorem d1112_81 : decode (mb 1112) 81 = .ok (.goto 4, 3) := by decide +kernel
theorem d1112_84 : decode (mb 1112) 84 = .ok (.iconst 0, 1) := by decide +kernel
theorem d1112_85 : decode (mb 1112) 85 = .ok (.ireturn, 1) := by decide +kernel
theorem x1112_0 {S : List Value} {h : HP} {l1 l2 l3 : Value} {a0 : Nat} : pX 1112 0 [.ref a0, l1, l2, l3] S h = pX 1112 1 [.ref a0, l1, l2, l3] (.ref a0 :: S) h := pX_stp d1112_0 rfl rfl rfl
theorem x1112_1 {L S : List Value} {h : HP} {a : Nat} (hk : hp_k h a = 12) : pX 1112 1 L (.ref a :: S) h = pX 1112 4 L (.ref (hp_a h a 3) :: S) h := pX_get d1112_1 rfl rfl hk
theorem x1112_4 {S : List Value} {h : HP} {l0 l2 l3 : Value} {x0 : Int32} : pX 1112 4 [l0, .int x0, l2, l3] S h = pX 1112 5 [l0, .int x0, l2, l3] (.int x0 :: S) h := pX_stp d1112_4 rfl rfl rfl
theorem x1112_5 {L S : List Value} {h : HP} {a : Nat} {j : Int32} (hk : hp_k h a = 100) (hj : inb j (hp_l h a) = true) : pX 1112 5 L (.int j :: .ref a :: S) h = pX 1112 6 L (.int (hp_i h a (ix j)) :: S) h := pX_ild d1112_5 hk hj
theorem x1112_6 {S : List Value} {h : HP} {l0 l1 l2 l3 : Value} {x0 : Int32} : pX 1112 6 [l0, l1, l2, l3] (.int x0 :: S) h = pX 1112 7 [l0, l1, .int x0, l3] S h := pX_stp d1112_6 rfl rfl rfl
theorem x1112_7 {S : List Value} {h : HP} {l0 l1 l3 : Value} {x0 : Int32} : pX 1112 7 [l0, l1, .int x0, l3] S h = pX 1112 8 [l0, l1, .int x0, l3] (.int x0 :: S) h := pX_stp d1112_7 rfl rfl rfl
theorem x1112_8 {L S : List Value} {h : HP} : pX 1112 8 L S h = pX 1112 10 L (.int 9 :: S) h := pX_bipush d1112_8 (by decide)
theorem x1112_10 {L S : List Value} {h : HP} {x y : Int32} : pX 1112 10 L (.int y :: .int x :: S) h = if x < y then pX 1112 61 L S h else pX 1112 13 L S h := pX_icmp_lt d1112_10 (by decide)
theorem x1112_13 {S : List Value} {h : HP} {l0 l1 l3 : Value} {x0 : Int32} : pX 1112 13 [l0, l1, .int x0, l3] S h = pX 1112 14 [l0, l1, .int x0, l3] (.int x0 :: S) h := pX_stp d1112_13 rfl rfl rfl
theorem x1112_14 {L S : List Value} {h : HP} : pX 1112 14 L S h = pX 1112 16 L (.int 11 :: S) h := pX_bipush d1112_14 (by decide)
theorem x1112_16 {L S : List Value} {h : HP} {x y : Int32} : pX 1112 16 L (.int y :: .int x :: S) h = if x = y then pX 1112 61 L S h else pX 1112 19 L S h := pX_icmp_eq d1112_16 (by decide)
theorem x1112_19 {S : List Value} {h : HP} {l0 l1 l3 : Value} {x0 : Int32} : pX 1112 19 [l0, l1, .int x0, l3] S h = pX 1112 20 [l0, l1, .int x0, l3] (.int x0 :: S) h := pX_stp d1112_19 rfl rfl rfl
theorem x1112_20 {L S : List Value} {h : HP} : pX 1112 20 L S h = pX 1112 22 L (.int 12 :: S) h := pX_bipush d1112_20 (by decide)
theorem x1112_22 {L S : List Value} {h : HP} {x y : Int32} : pX 1112 22 L (.int y :: .int x :: S) h = if x = y then pX 1112 61 L S h else pX 1112 25 L S h := pX_icmp_eq d1112_22 (by decide)
theorem x1112_25 {S : List Value} {h : HP} {l0 l1 l3 : Value} {x0 : Int32} : pX 1112 25 [l0, l1, .int x0, l3] S h = pX 1112 26 [l0, l1, .int x0, l3] (.int x0 :: S) h := pX_stp d1112_25 rfl rfl rfl
theorem x1112_26 {L S : List Value} {h : HP} : pX 1112 26 L S h = pX 1112 28 L (.int 14 :: S) h := pX_bipush d1112_26 (by decide)
theorem x1112_28 {L S : List Value} {h : HP} {x y : Int32} : pX 1112 28 L (.int y :: .int x :: S) h = if x = y then pX 1112 61 L S h else pX 1112 31 L S h := pX_icmp_eq d1112_28 (by decide)
theorem x1112_31 {S : List Value} {h : HP} {l0 l1 l3 : Value} {x0 : Int32} : pX 1112 31 [l0, l1, .int x0, l3] S h = pX 1112 32 [l0, l1, .int x0, l3] (.int x0 :: S) h := pX_stp d1112_31 rfl rfl rfl
theorem x1112_32 {L S : List Value} {h : HP} : pX 1112 32 L S h = pX 1112 34 L (.int 15 :: S) h := pX_bipush d1112_32 (by decide)
theorem x1112_34 {L S : List Value} {h : HP} {x y : Int32} : pX 1112 34 L (.int y :: .int x :: S) h = if x = y then pX 1112 61 L S h else pX 1112 37 L S h := pX_icmp_eq d1112_34 (by decide)
theorem x1112_37 {S : List Value} {h : HP} {l0 l1 l3 : Value} {x0 : Int32} : pX 1112 37 [l0, l1, .int x0, l3] S h = pX 1112 38 [l0, l1, .int x0, l3] (.int x0 :: S) h := pX_stp d1112_37 rfl rfl rfl
theorem x1112_38 {L S : List Value} {h : HP} : pX 1112 38 L S h = pX 1112 40 L (.int 16 :: S) h := pX_bipush d1112_38 (by decide)
theorem x1112_40 {L S : List Value} {h : HP} {x y : Int32} : pX 1112 40 L (.int y :: .int x :: S) h = if x = y then pX 1112 61 L S h else pX 1112 43 L S h := pX_icmp_eq d1112_40 (by decide)
theorem x1112_43 {S : List Value} {h : HP} {l0 l1 l3 : Value} {x0 : Int32} : pX 1112 43 [l0, l1, .int x0, l3] S h = pX 1112 44 [l0, l1, .int x0, l3] (.int x0 :: S) h := pX_stp d1112_43 rfl rfl rfl
theorem x1112_44 {L S : List Value} {h : HP} : pX 1112 44 L S h = pX 1112 46 L (.int 18 :: S) h := pX_bipush d1112_44 (by decide)
theorem x1112_46 {L S : List Value} {h : HP} {x y : Int32} : pX 1112 46 L (.int y :: .int x :: S) h = if x = y then pX 1112 61 L S h else pX 1112 49 L S h := pX_icmp_eq d1112_46 (by decide)
theorem x1112_49 {S : List Value} {h : HP} {l0 l1 l3 : Value} {x0 : Int32} : pX 1112 49 [l0, l1, .int x0, l3] S h = pX 1112 50 [l0, l1, .int x0, l3] (.int x0 :: S) h := pX_stp d1112_49 rfl rfl rfl
theorem x1112_50 {L S : List Value} {h : HP} : pX 1112 50 L S h = pX 1112 52 L (.int 23 :: S) h := pX_bipush d1112_50 (by decide)
theorem x1112_52 {L S : List Value} {h : HP} {x y : Int32} : pX 1112 52 L (.int y :: .int x :: S) h = if x = y then pX 1112 61 L S h else pX 1112 55 L S h := pX_icmp_eq d1112_52 (by decide)
theorem x1112_55 {S : List Value} {h : HP} {l0 l1 l3 : Value} {x0 : Int32} : pX 1112 55 [l0, l1, .int x0, l3] S h = pX 1112 56 [l0, l1, .int x0, l3] (.int x0 :: S) h := pX_stp d1112_55 rfl rfl rfl
theorem x1112_56 {L S : List Value} {h : HP} : pX 1112 56 L S h = pX 1112 58 L (.int 25 :: S) h := pX_bipush d1112_56 (by decide)
theorem x1112_58 {L S : List Value} {h : HP} {x y : Int32} : pX 1112 58 L (.int y :: .int x :: S) h = if x ≤ y then pX 1112 65 L S h else pX 1112 61 L S h := pX_icmp_le d1112_58 (by decide)
theorem x1112_61 {L S : List Value} {h : HP} : pX 1112 61 L S h = pX 1112 62 L (.int 1 :: S) h := pX_iconst d1112_61 (by decide)
theorem x1112_62 {L S : List Value} {h : HP} : pX 1112 62 L S h = pX 1112 66 L S h := pX_goto d1112_62 (by decide)
theorem x1112_65 {L S : List Value} {h : HP} : pX 1112 65 L S h = pX 1112 66 L (.int 0 :: S) h := pX_iconst d1112_65 (by decide)
theorem x1112_66 {S : List Value} {h : HP} {l0 l1 l2 l3 : Value} {x0 : Int32} : pX 1112 66 [l0, l1, l2, l3] (.int x0 :: S) h = pX 1112 67 [l0, l1, l2, .int x0] S h := pX_stp d1112_66 rfl rfl rfl
theorem x1112_67 {S : List Value} {h : HP} {l0 l1 l2 : Value} {x0 : Int32} : pX 1112 67 [l0, l1, l2, .int x0] S h = pX 1112 68 [l0, l1, l2, .int x0] (.int x0 :: S) h := pX_stp d1112_67 rfl rfl rfl
theorem x1112_68 {L S : List Value} {h : HP} {x : Int32} : pX 1112 68 L (.int x :: S) h = if x = 0 then pX 1112 84 L S h else pX 1112 71 L S h := pX_if_eq d1112_68 (by decide)
theorem x1112_71 {L S : List Value} {h : HP} : pX 1112 71 L S h = pX 1112 72 L (.int 1 :: S) h := pX_iconst d1112_71 (by decide)
theorem x1112_72 {S : List Value} {h : HP} {l1 l2 l3 : Value} {a0 : Nat} : pX 1112 72 [.ref a0, l1, l2, l3] S h = pX 1112 73 [.ref a0, l1, l2, l3] (.ref a0 :: S) h := pX_stp d1112_72 rfl rfl rfl
theorem x1112_73 {L S : List Value} {h : HP} {a : Nat} (hk : hp_k h a = 12) : pX 1112 73 L (.ref a :: S) h = pX 1112 76 L (.ref (hp_a h a 3) :: S) h := pX_get d1112_73 rfl rfl hk
theorem x1112_76 {S : List Value} {h : HP} {l0 l2 l3 : Value} {x0 : Int32} : pX 1112 76 [l0, .int x0, l2, l3] S h = pX 1112 77 [l0, .int x0, l2, l3] (.int x0 :: S) h := pX_stp d1112_76 rfl rfl rfl
theorem x1112_77 {L S : List Value} {h : HP} : pX 1112 77 L S h = pX 1112 78 L (.int 1 :: S) h := pX_iconst d1112_77 (by decide)
theorem x1112_78 {L S : List Value} {h : HP} {x y : Int32} : pX 1112 78 L (.int y :: .int x :: S) h = pX 1112 79 L (.int (x + y) :: S) h := pX_stp d1112_78 rfl rfl rfl
theorem x1112_79 {L S : List Value} {h : HP} {a : Nat} {j : Int32} (hk : hp_k h a = 100) (hj : inb j (hp_l h a) = true) : pX 1112 79 L (.int j :: .ref a :: S) h = pX 1112 80 L (.int (hp_i h a (ix j)) :: S) h := pX_ild d1112_79 hk hj
theorem x1112_80 {L S : List Value} {h : HP} {x y : Int32} : pX 1112 80 L (.int y :: .int x :: S) h = pX 1112 81 L (.int (x <<< (y &&& 31)) :: S) h := pX_stp d1112_80 rfl rfl rfl
theorem x1112_81 {L S : List Value} {h : HP} : pX 1112 81 L S h = pX 1112 85 L S h := pX_goto d1112_81 (by decide)
theorem x1112_84 {L S : List Value} {h : HP} : pX 1112 84 L S h = pX 1112 85 L (.int 0 :: S) h := pX_iconst d1112_84 (by decide)
theorem x1112_85 {L : List Value} {h : HP} {x : Int32} : pX 1112 85 L [.int x] h = some (some (.int x), h) := pX_ret d1112_85 rfl
theorem d1113_0 : decode (mb 1113) 0 = .ok (.sipush 160, 3) := by decide +kernel
theorem d1113_3 : decode (mb 1113) 3 = .ok (.iload_n 1, 1) := by decide +kernel
theorem d1113_4 : decode (mb 1113) 4 = .ok (.imul, 1) := by decide +kernel
theorem d1113_5 : decode (mb 1113) 5 = .ok (.iconst 4, 1) := by decide +kernel
theorem d1113_6 : decode (mb 1113) 6 = .ok (.iload_n 2, 1) := by decide +kernel
theorem d1113_7 : decode (mb 1113) 7 = .ok (.imul, 1) := by decide +kernel
theorem d1113_8 : decode (mb 1113) 8 = .ok (.iadd, 1) := by decide +kernel
theorem d1113_9 : decode (mb 1113) 9 = .ok (.istore_n 3, 1) := by decide +kernel
theorem d1113_10 : decode (mb 1113) 10 = .ok (.aload_n 0, 1) := by decide +kernel
theorem d1113_11 : decode (mb 1113) 11 = .ok (.getfield 16, 3) := by decide +kernel
theorem d1113_14 : decode (mb 1113) 14 = .ok (.iload_n 3, 1) := by decide +kernel
theorem d1113_15 : decode (mb 1113) 15 = .ok (.iaload, 1) := by decide +kernel
theorem d1113_16 : decode (mb 1113) 16 = .ok (.istore 4, 2) := by decide +kernel
theorem d1113_18 : decode (mb 1113) 18 = .ok (.aload_n 0, 1) := by decide +kernel
theorem d1113_19 : decode (mb 1113) 19 = .ok (.getfield 31, 3) := by decide +kernel
theorem d1113_22 : decode (mb 1113) 22 = .ok (.iload_n 2, 1) := by decide +kernel
theorem d1113_23 : decode (mb 1113) 23 = .ok (.iaload, 1) := by decide +kernel
theorem d1113_24 : decode (mb 1113) 24 = .ok (.sipush 255, 3) := by decide +kernel
theorem d1113_27 : decode (mb 1113) 27 = .ok (.iand, 1) := by decide +kernel
theorem d1113_28 : decode (mb 1113) 28 = .ok (.istore 5, 2) := by decide +kernel
theorem d1113_30 : decode (mb 1113) 30 = .ok (.iload 5, 2) := by decide +kernel
theorem d1113_32 : decode (mb 1113) 32 = .ok (.aload_n 0, 1) := by decide +kernel
theorem d1113_33 : decode (mb 1113) 33 = .ok (.iload_n 3, 1) := by decide +kernel
theorem d1113_34 : decode (mb 1113) 34 = .ok (.invokevirtual 134, 3) := by decide +kernel
theorem d1113_37 : decode (mb 1113) 37 = .ok (.iconst (-1), 1) := by decide +kernel
theorem d1113_38 : decode (mb 1113) 38 = .ok (.ixor, 1) := by decide +kernel
theorem d1113_39 : decode (mb 1113) 39 = .ok (.iand, 1) := by decide +kernel
theorem d1113_40 : decode (mb 1113) 40 = .ok (.istore 6, 2) := by decide +kernel
theorem d1113_42 : decode (mb 1113) 42 = .ok (.iload 4, 2) := by decide +kernel
theorem d1113_44 : decode (mb 1113) 44 = .ok (.bipush 9, 2) := by decide +kernel
theorem d1113_46 : decode (mb 1113) 46 = .ok (.if_icmp .ne 20, 3) := by decide +kernel
theorem d1113_49 : decode (mb 1113) 49 = .ok (.aload_n 0, 1) := by decide +kernel
theorem d1113_50 : decode (mb 1113) 50 = .ok (.aload_n 0, 1) := by decide +kernel
theorem d1113_51 : decode (mb 1113) 51 = .ok (.getfield 16, 3) := by decide +kernel
theorem d1113_54 : decode (mb 1113) 54 = .ok (.iload_n 3, 1) := by decide +kernel
theorem d1113_55 : decode (mb 1113) 55 = .ok (.iconst 1, 1) := by decide +kernel
theorem d1113_56 : decode (mb 1113) 56 = .ok (.iadd, 1) := by decide +kernel
theorem d1113_57 : decode (mb 1113) 57 = .ok (.iaload, 1) := by decide +kernel
theorem d1113_58 : decode (mb 1113) 58 = .ok (.iload 6, 2) := by decide +kernel
theorem d1113_60 : decode (mb 1113) 60 = .ok (.invokevirtual 137, 3) := by decide +kernel
theorem d1113_63 : decode (mb 1113) 63 = .ok (.goto 24, 3) := by decide +kernel
theorem d1113_66 : decode (mb 1113) 66 = .ok (.iload 4, 2) := by decide +kernel
theorem d1113_68 : decode (mb 1113) 68 = .ok (.bipush 10, 2) := by decide +kernel
theorem d1113_70 : decode (mb 1113) 70 = .ok (.if_icmp .ne 17, 3) := by decide +kernel
theorem d1113_73 : decode (mb 1113) 73 = .ok (.aload_n 0, 1) := by decide +kernel
theorem d1113_74 : decode (mb 1113) 74 = .ok (.aload_n 0, 1) := by decide +kernel
theorem d1113_75 : decode (mb 1113) 75 = .ok (.getfield 16, 3) := by decide +kernel
theorem d1113_78 : decode (mb 1113) 78 = .ok (.iload_n 3, 1) := by decide +kernel
theorem d1113_79 : decode (mb 1113) 79 = .ok (.iconst 2, 1) := by decide +kernel
theorem d1113_80 : decode (mb 1113) 80 = .ok (.iadd, 1) := by decide +kernel
theorem d1113_81 : decode (mb 1113) 81 = .ok (.iaload, 1) := by decide +kernel
theorem d1113_82 : decode (mb 1113) 82 = .ok (.iload 6, 2) := by decide +kernel
theorem d1113_84 : decode (mb 1113) 84 = .ok (.invokevirtual 137, 3) := by decide +kernel
theorem d1113_87 : decode (mb 1113) 87 = .ok (.iload 4, 2) := by decide +kernel
theorem d1113_89 : decode (mb 1113) 89 = .ok (.bipush 9, 2) := by decide +kernel
theorem d1113_91 : decode (mb 1113) 91 = .ok (.if_icmp .eq 26, 3) := by decide +kernel
theorem d1113_94 : decode (mb 1113) 94 = .ok (.iload 4, 2) := by decide +kernel
theorem d1113_96 : decode (mb 1113) 96 = .ok (.bipush 22, 2) := by decide +kernel
theorem d1113_98 : decode (mb 1113) 98 = .ok (.if_icmp .eq 19, 3) := by decide +kernel
theorem d1113_101 : decode (mb 1113) 101 = .ok (.iload 4, 2) := by decide +kernel
theorem d1113_103 : decode (mb 1113) 103 = .ok (.bipush 24, 2) := by decide +kernel
theorem d1113_105 : decode (mb 1113) 105 = .ok (.if_icmp .eq 12, 3) := by decide +kernel
theorem d1113_108 : decode (mb 1113) 108 = .ok (.aload_n 0, 1) := by decide +kernel
theorem d1113_109 : decode (mb 1113) 109 = .ok (.iload_n 2, 1) := by decide +kernel
theorem d1113_110 : decode (mb 1113) 110 = .ok (.iconst 1, 1) := by decide +kernel
theorem d1113_111 : decode (mb 1113) 111 = .ok (.iadd, 1) := by decide +kernel
theorem d1113_112 : decode (mb 1113) 112 = .ok (.iload 6, 2) := by decide +kernel
theorem d1113_114 : decode (mb 1113) 114 = .ok (.invokevirtual 137, 3) := by decide +kernel
theorem d1113_117 : decode (mb 1113) 117 = .ok (.bipush 24, 2) := by decide +kernel
theorem d1113_119 : decode (mb 1113) 119 = .ok (.iload_n 1, 1) := by decide +kernel
theorem d1113_120 : decode (mb 1113) 120 = .ok (.imul, 1) := by decide +kernel
theorem d1113_121 : decode (mb 1113) 121 = .ok (.istore 7, 2) := by decide +kernel
theorem d1113_123 : decode (mb 1113) 123 = .ok (.iload 7, 2) := by decide +kernel
theorem d1113_125 : decode (mb 1113) 125 = .ok (.bipush 24, 2) := by decide +kernel
theorem d1113_127 : decode (mb 1113) 127 = .ok (.iload_n 1, 1) := by decide +kernel
theorem d1113_128 : decode (mb 1113) 128 = .ok (.imul, 1) := by decide +kernel
theorem d1113_129 : decode (mb 1113) 129 = .ok (.iconst 4, 1) := by decide +kernel
theorem d1113_130 : decode (mb 1113) 130 = .ok (.aload_n 0, 1) := by decide +kernel
theorem d1113_131 : decode (mb 1113) 131 = .ok (.getfield 19, 3) := by decide +kernel
theorem d1113_134 : decode (mb 1113) 134 = .ok (.iload_n 1, 1) := by decide +kernel
theorem d1113_135 : decode (mb 1113) 135 = .ok (.iaload, 1) := by decide +kernel
theorem d1113_136 : decode (mb 1113) 136 = .ok (.imul, 1) := by decide +kernel
theorem d1113_137 : decode (mb 1113) 137 = .ok (.iadd, 1) := by decide +kernel
theorem d1113_138 : decode (mb 1113) 138 = .ok (.if_icmp .ge 52, 3) := by decide +kernel
theorem d1113_141 : decode (mb 1113) 141 = .ok (.aload_n 0, 1) := by decide +kernel
theorem d1113_142 : decode (mb 1113) 142 = .ok (.getfield 22, 3) := by decide +kernel
theorem d1113_145 : decode (mb 1113) 145 = .ok (.iload 7, 2) := by decide +kernel
theorem d1113_147 : decode (mb 1113) 147 = .ok (.iaload, 1) := by decide +kernel
theorem d1113_148 : decode (mb 1113) 148 = .ok (.iload_n 2, 1) := by decide +kernel
theorem d1113_149 : decode (mb 1113) 149 = .ok (.if_icmp .gt 35, 3) := by decide +kernel
theorem d1113_152 : decode (mb 1113) 152 = .ok (.iload_n 2, 1) := by decide +kernel
theorem d1113_153 : decode (mb 1113) 153 = .ok (.aload_n 0, 1) := by decide +kernel
theorem d1113_154 : decode (mb 1113) 154 = .ok (.getfield 22, 3) := by decide +kernel
theorem d1113_157 : decode (mb 1113) 157 = .ok (.iload 7, 2) := by decide +kernel
theorem d1113_159 : decode (mb 1113) 159 = .ok (.iconst 1, 1) := by decide +kernel
theorem d1113_160 : decode (mb 1113) 160 = .ok (.iadd, 1) := by decide +kernel
theorem d1113_161 : decode (mb 1113) 161 = .ok (.iaload, 1) := by decide +kernel
theorem d1113_162 : decode (mb 1113) 162 = .ok (.if_icmp .ge 22, 3) := by decide +kernel
theorem d1113_165 : decode (mb 1113) 165 = .ok (.aload_n 0, 1) := by decide +kernel
theorem d1113_166 : decode (mb 1113) 166 = .ok (.aload_n 0, 1) := by decide +kernel
theorem d1113_167 : decode (mb 1113) 167 = .ok (.getfield 22, 3) := by decide +kernel
theorem d1113_170 : decode (mb 1113) 170 = .ok (.iload 7, 2) := by decide +kernel
theorem d1113_172 : decode (mb 1113) 172 = .ok (.iconst 3, 1) := by decide +kernel
theorem d1113_173 : decode (mb 1113) 173 = .ok (.iadd, 1) := by decide +kernel
theorem d1113_174 : decode (mb 1113) 174 = .ok (.iaload, 1) := by decide +kernel
theorem d1113_175 : decode (mb 1113) 175 = .ok (.iload 5, 2) := by decide +kernel
theorem d1113_177 : decode (mb 1113) 177 = .ok (.sipush (-129), 3) := by decide +kernel
theorem d1113_180 : decode (mb 1113) 180 = .ok (.iand, 1) := by decide +kernel
theorem d1113_181 : decode (mb 1113) 181 = .ok (.invokevirtual 137, 3) := by decide +kernel
theorem d1113_184 : decode (mb 1113) 184 = .ok (.iinc 7 4, 3) := by decide +kernel
theorem d1113_187 : decode (mb 1113) 187 = .ok (.goto (-64), 3) := by decide +kernel
theorem d1113_190 : decode (mb 1113) 190 = .ok (.return_, 1) := by decide +kernel
theorem x1113_0 {L S : List Value} {h : HP} : pX 1113 0 L S h = pX 1113 3 L (.int 160 :: S) h := pX_sipush d1113_0 (by decide)
theorem x1113_3 {S : List Value} {h : HP} {l0 l2 l3 l4 l5 l6 l7 : Value} {x0 : Int32} : pX 1113 3 [l0, .int x0, l2, l3, l4, l5, l6, l7] S h = pX 1113 4 [l0, .int x0, l2, l3, l4, l5, l6, l7] (.int x0 :: S) h := pX_stp d1113_3 rfl rfl rfl
theorem x1113_4 {L S : List Value} {h : HP} {x y : Int32} : pX 1113 4 L (.int y :: .int x :: S) h = pX 1113 5 L (.int (x * y) :: S) h := pX_stp d1113_4 rfl rfl rfl
theorem x1113_5 {L S : List Value} {h : HP} : pX 1113 5 L S h = pX 1113 6 L (.int 4 :: S) h := pX_iconst d1113_5 (by decide)
theorem x1113_6 {S : List Value} {h : HP} {l0 l1 l3 l4 l5 l6 l7 : Value} {x0 : Int32} : pX 1113 6 [l0, l1, .int x0, l3, l4, l5, l6, l7] S h = pX 1113 7 [l0, l1, .int x0, l3, l4, l5, l6, l7] (.int x0 :: S) h := pX_stp d1113_6 rfl rfl rfl
theorem x1113_7 {L S : List Value} {h : HP} {x y : Int32} : pX 1113 7 L (.int y :: .int x :: S) h = pX 1113 8 L (.int (x * y) :: S) h := pX_stp d1113_7 rfl rfl rfl
theorem x1113_8 {L S : List Value} {h : HP} {x y : Int32} : pX 1113 8 L (.int y :: .int x :: S) h = pX 1113 9 L (.int (x + y) :: S) h := pX_stp d1113_8 rfl rfl rfl
theorem x1113_9 {S : List Value} {h : HP} {l0 l1 l2 l3 l4 l5 l6 l7 : Value} {x0 : Int32} : pX 1113 9 [l0, l1, l2, l3, l4, l5, l6, l7] (.int x0 :: S) h = pX 1113 10 [l0, l1, l2, .int x0, l4, l5, l6, l7] S h := pX_stp d1113_9 rfl rfl rfl
theorem x1113_10 {S : List Value} {h : HP} {l1 l2 l3 l4 l5 l6 l7 : Value} {a0 : Nat} : pX 1113 10 [.ref a0, l1, l2, l3, l4, l5, l6, l7] S h = pX 1113 11 [.ref a0, l1, l2, l3, l4, l5, l6, l7] (.ref a0 :: S) h := pX_stp d1113_10 rfl rfl rfl
theorem x1113_11 {L S : List Value} {h : HP} {a : Nat} (hk : hp_k h a = 12) : pX 1113 11 L (.ref a :: S) h = pX 1113 14 L (.ref (hp_a h a 3) :: S) h := pX_get d1113_11 rfl rfl hk
theorem x1113_14 {S : List Value} {h : HP} {l0 l1 l2 l4 l5 l6 l7 : Value} {x0 : Int32} : pX 1113 14 [l0, l1, l2, .int x0, l4, l5, l6, l7] S h = pX 1113 15 [l0, l1, l2, .int x0, l4, l5, l6, l7] (.int x0 :: S) h := pX_stp d1113_14 rfl rfl rfl
theorem x1113_15 {L S : List Value} {h : HP} {a : Nat} {j : Int32} (hk : hp_k h a = 100) (hj : inb j (hp_l h a) = true) : pX 1113 15 L (.int j :: .ref a :: S) h = pX 1113 16 L (.int (hp_i h a (ix j)) :: S) h := pX_ild d1113_15 hk hj
theorem x1113_16 {S : List Value} {h : HP} {l0 l1 l2 l3 l4 l5 l6 l7 : Value} {x0 : Int32} : pX 1113 16 [l0, l1, l2, l3, l4, l5, l6, l7] (.int x0 :: S) h = pX 1113 18 [l0, l1, l2, l3, .int x0, l5, l6, l7] S h := pX_stp d1113_16 rfl rfl rfl
theorem x1113_18 {S : List Value} {h : HP} {l1 l2 l3 l4 l5 l6 l7 : Value} {a0 : Nat} : pX 1113 18 [.ref a0, l1, l2, l3, l4, l5, l6, l7] S h = pX 1113 19 [.ref a0, l1, l2, l3, l4, l5, l6, l7] (.ref a0 :: S) h := pX_stp d1113_18 rfl rfl rfl
theorem x1113_19 {L S : List Value} {h : HP} {a : Nat} (hk : hp_k h a = 12) : pX 1113 19 L (.ref a :: S) h = pX 1113 22 L (.ref (hp_a h a 9) :: S) h := pX_get d1113_19 rfl rfl hk
theorem x1113_22 {S : List Value} {h : HP} {l0 l1 l3 l4 l5 l6 l7 : Value} {x0 : Int32} : pX 1113 22 [l0, l1, .int x0, l3, l4, l5, l6, l7] S h = pX 1113 23 [l0, l1, .int x0, l3, l4, l5, l6, l7] (.int x0 :: S) h := pX_stp d1113_22 rfl rfl rfl
theorem x1113_23 {L S : List Value} {h : HP} {a : Nat} {j : Int32} (hk : hp_k h a = 100) (hj : inb j (hp_l h a) = true) : pX 1113 23 L (.int j :: .ref a :: S) h = pX 1113 24 L (.int (hp_i h a (ix j)) :: S) h := pX_ild d1113_23 hk hj
theorem x1113_24 {L S : List Value} {h : HP} : pX 1113 24 L S h = pX 1113 27 L (.int 255 :: S) h := pX_sipush d1113_24 (by decide)
theorem x1113_27 {L S : List Value} {h : HP} {x y : Int32} : pX 1113 27 L (.int y :: .int x :: S) h = pX 1113 28 L (.int (x &&& y) :: S) h := pX_stp d1113_27 rfl rfl rfl
theorem x1113_28 {S : List Value} {h : HP} {l0 l1 l2 l3 l4 l5 l6 l7 : Value} {x0 : Int32} : pX 1113 28 [l0, l1, l2, l3, l4, l5, l6, l7] (.int x0 :: S) h = pX 1113 30 [l0, l1, l2, l3, l4, .int x0, l6, l7] S h := pX_stp d1113_28 rfl rfl rfl
theorem x1113_30 {S : List Value} {h : HP} {l0 l1 l2 l3 l4 l6 l7 : Value} {x0 : Int32} : pX 1113 30 [l0, l1, l2, l3, l4, .int x0, l6, l7] S h = pX 1113 32 [l0, l1, l2, l3, l4, .int x0, l6, l7] (.int x0 :: S) h := pX_stp d1113_30 rfl rfl rfl
theorem x1113_32 {S : List Value} {h : HP} {l1 l2 l3 l4 l5 l6 l7 : Value} {a0 : Nat} : pX 1113 32 [.ref a0, l1, l2, l3, l4, l5, l6, l7] S h = pX 1113 33 [.ref a0, l1, l2, l3, l4, l5, l6, l7] (.ref a0 :: S) h := pX_stp d1113_32 rfl rfl rfl
theorem x1113_33 {S : List Value} {h : HP} {l0 l1 l2 l4 l5 l6 l7 : Value} {x0 : Int32} : pX 1113 33 [l0, l1, l2, .int x0, l4, l5, l6, l7] S h = pX 1113 34 [l0, l1, l2, .int x0, l4, l5, l6, l7] (.int x0 :: S) h := pX_stp d1113_33 rfl rfl rfl
theorem x1113_34 {L : List Value} {h : HP} {x0 : Int32} {a0 : Nat} {x1 : Int32} (hk : hp_k h a0 = 12) : pX 1113 34 L [.int x0, .ref a0, .int x1] h = (pX 1112 0 [.ref a0, .int x0, .retAddr 0, .retAddr 0] [] h).bind (fun q => pX 1113 37 L (q.1.toList ++ [.int x1]) q.2) := pX_inv (a := a0) (t := 12) 1112 [.ref a0, .int x0] [.int x1] d1113_34 rfl rfl rfl hk
theorem x1113_37 {L S : List Value} {h : HP} : pX 1113 37 L S h = pX 1113 38 L (.int (-1) :: S) h := pX_iconst d1113_37 (by decide)
theorem x1113_38 {L S : List Value} {h : HP} {x y : Int32} : pX 1113 38 L (.int y :: .int x :: S) h = pX 1113 39 L (.int (x ^^^ y) :: S) h := pX_stp d1113_38 rfl rfl rfl
theorem x1113_39 {L S : List Value} {h : HP} {x y : Int32} : pX 1113 39 L (.int y :: .int x :: S) h = pX 1113 40 L (.int (x &&& y) :: S) h := pX_stp d1113_39 rfl rfl rfl
theorem x1113_40 {S : List Value} {h : HP} {l0 l1 l2 l3 l4 l5 l6 l7 : Value} {x0 : Int32} : pX 1113 40 [l0, l1, l2, l3, l4, l5, l6, l7] (.int x0 :: S) h = pX 1113 42 [l0, l1, l2, l3, l4, l5, .int x0, l7] S h := pX_stp d1113_40 rfl rfl rfl
theorem x1113_42 {S : List Value} {h : HP} {l0 l1 l2 l3 l5 l6 l7 : Value} {x0 : Int32} : pX 1113 42 [l0, l1, l2, l3, .int x0, l5, l6, l7] S h = pX 1113 44 [l0, l1, l2, l3, .int x0, l5, l6, l7] (.int x0 :: S) h := pX_stp d1113_42 rfl rfl rfl
theorem x1113_44 {L S : List Value} {h : HP} : pX 1113 44 L S h = pX 1113 46 L (.int 9 :: S) h := pX_bipush d1113_44 (by decide)
theorem x1113_46 {L S : List Value} {h : HP} {x y : Int32} : pX 1113 46 L (.int y :: .int x :: S) h = if x = y then pX 1113 49 L S h else pX 1113 66 L S h := pX_icmp_ne d1113_46 (by decide)
theorem x1113_49 {S : List Value} {h : HP} {l1 l2 l3 l4 l5 l6 l7 : Value} {a0 : Nat} : pX 1113 49 [.ref a0, l1, l2, l3, l4, l5, l6, l7] S h = pX 1113 50 [.ref a0, l1, l2, l3, l4, l5, l6, l7] (.ref a0 :: S) h := pX_stp d1113_49 rfl rfl rfl
theorem x1113_50 {S : List Value} {h : HP} {l1 l2 l3 l4 l5 l6 l7 : Value} {a0 : Nat} : pX 1113 50 [.ref a0, l1, l2, l3, l4, l5, l6, l7] S h = pX 1113 51 [.ref a0, l1, l2, l3, l4, l5, l6, l7] (.ref a0 :: S) h := pX_stp d1113_50 rfl rfl rfl
theorem x1113_51 {L S : List Value} {h : HP} {a : Nat} (hk : hp_k h a = 12) : pX 1113 51 L (.ref a :: S) h = pX 1113 54 L (.ref (hp_a h a 3) :: S) h := pX_get d1113_51 rfl rfl hk
theorem x1113_54 {S : List Value} {h : HP} {l0 l1 l2 l4 l5 l6 l7 : Value} {x0 : Int32} : pX 1113 54 [l0, l1, l2, .int x0, l4, l5, l6, l7] S h = pX 1113 55 [l0, l1, l2, .int x0, l4, l5, l6, l7] (.int x0 :: S) h := pX_stp d1113_54 rfl rfl rfl
theorem x1113_55 {L S : List Value} {h : HP} : pX 1113 55 L S h = pX 1113 56 L (.int 1 :: S) h := pX_iconst d1113_55 (by decide)
theorem x1113_56 {L S : List Value} {h : HP} {x y : Int32} : pX 1113 56 L (.int y :: .int x :: S) h = pX 1113 57 L (.int (x + y) :: S) h := pX_stp d1113_56 rfl rfl rfl
theorem x1113_57 {L S : List Value} {h : HP} {a : Nat} {j : Int32} (hk : hp_k h a = 100) (hj : inb j (hp_l h a) = true) : pX 1113 57 L (.int j :: .ref a :: S) h = pX 1113 58 L (.int (hp_i h a (ix j)) :: S) h := pX_ild d1113_57 hk hj
theorem x1113_58 {S : List Value} {h : HP} {l0 l1 l2 l3 l4 l5 l7 : Value} {x0 : Int32} : pX 1113 58 [l0, l1, l2, l3, l4, l5, .int x0, l7] S h = pX 1113 60 [l0, l1, l2, l3, l4, l5, .int x0, l7] (.int x0 :: S) h := pX_stp d1113_58 rfl rfl rfl
theorem x1113_60 {L : List Value} {h : HP} {x0 : Int32} {x1 : Int32} {a0 : Nat} (hk : hp_k h a0 = 12) : pX 1113 60 L [.int x0, .int x1, .ref a0] h = (pX 1110 0 [.ref a0, .int x1, .int x0] [] h).bind (fun q => pX 1113 63 L (q.1.toList ++ []) q.2) := pX_inv (a := a0) (t := 12) 1110 [.ref a0, .int x1, .int x0] [] d1113_60 rfl rfl rfl hk
theorem x1113_63 {L S : List Value} {h : HP} : pX 1113 63 L S h = pX 1113 87 L S h := pX_goto d1113_63 (by decide)
theorem x1113_66 {S : List Value} {h : HP} {l0 l1 l2 l3 l5 l6 l7 : Value} {x0 : Int32} : pX 1113 66 [l0, l1, l2, l3, .int x0, l5, l6, l7] S h = pX 1113 68 [l0, l1, l2, l3, .int x0, l5, l6, l7] (.int x0 :: S) h := pX_stp d1113_66 rfl rfl rfl
theorem x1113_68 {L S : List Value} {h : HP} : pX 1113 68 L S h = pX 1113 70 L (.int 10 :: S) h := pX_bipush d1113_68 (by decide)
theorem x1113_70 {L S : List Value} {h : HP} {x y : Int32} : pX 1113 70 L (.int y :: .int x :: S) h = if x = y then pX 1113 73 L S h else pX 1113 87 L S h := pX_icmp_ne d1113_70 (by decide)
theorem x1113_73 {S : List Value} {h : HP} {l1 l2 l3 l4 l5 l6 l7 : Value} {a0 : Nat} : pX 1113 73 [.ref a0, l1, l2, l3, l4, l5, l6, l7] S h = pX 1113 74 [.ref a0, l1, l2, l3, l4, l5, l6, l7] (.ref a0 :: S) h := pX_stp d1113_73 rfl rfl rfl
theorem x1113_74 {S : List Value} {h : HP} {l1 l2 l3 l4 l5 l6 l7 : Value} {a0 : Nat} : pX 1113 74 [.ref a0, l1, l2, l3, l4, l5, l6, l7] S h = pX 1113 75 [.ref a0, l1, l2, l3, l4, l5, l6, l7] (.ref a0 :: S) h := pX_stp d1113_74 rfl rfl rfl
theorem x1113_75 {L S : List Value} {h : HP} {a : Nat} (hk : hp_k h a = 12) : pX 1113 75 L (.ref a :: S) h = pX 1113 78 L (.ref (hp_a h a 3) :: S) h := pX_get d1113_75 rfl rfl hk
theorem x1113_78 {S : List Value} {h : HP} {l0 l1 l2 l4 l5 l6 l7 : Value} {x0 : Int32} : pX 1113 78 [l0, l1, l2, .int x0, l4, l5, l6, l7] S h = pX 1113 79 [l0, l1, l2, .int x0, l4, l5, l6, l7] (.int x0 :: S) h := pX_stp d1113_78 rfl rfl rfl
theorem x1113_79 {L S : List Value} {h : HP} : pX 1113 79 L S h = pX 1113 80 L (.int 2 :: S) h := pX_iconst d1113_79 (by decide)
theorem x1113_80 {L S : List Value} {h : HP} {x y : Int32} : pX 1113 80 L (.int y :: .int x :: S) h = pX 1113 81 L (.int (x + y) :: S) h := pX_stp d1113_80 rfl rfl rfl
theorem x1113_81 {L S : List Value} {h : HP} {a : Nat} {j : Int32} (hk : hp_k h a = 100) (hj : inb j (hp_l h a) = true) : pX 1113 81 L (.int j :: .ref a :: S) h = pX 1113 82 L (.int (hp_i h a (ix j)) :: S) h := pX_ild d1113_81 hk hj
theorem x1113_82 {S : List Value} {h : HP} {l0 l1 l2 l3 l4 l5 l7 : Value} {x0 : Int32} : pX 1113 82 [l0, l1, l2, l3, l4, l5, .int x0, l7] S h = pX 1113 84 [l0, l1, l2, l3, l4, l5, .int x0, l7] (.int x0 :: S) h := pX_stp d1113_82 rfl rfl rfl
theorem x1113_84 {L : List Value} {h : HP} {x0 : Int32} {x1 : Int32} {a0 : Nat} (hk : hp_k h a0 = 12) : pX 1113 84 L [.int x0, .int x1, .ref a0] h = (pX 1110 0 [.ref a0, .int x1, .int x0] [] h).bind (fun q => pX 1113 87 L (q.1.toList ++ []) q.2) := pX_inv (a := a0) (t := 12) 1110 [.ref a0, .int x1, .int x0] [] d1113_84 rfl rfl rfl hk
theorem x1113_87 {S : List Value} {h : HP} {l0 l1 l2 l3 l5 l6 l7 : Value} {x0 : Int32} : pX 1113 87 [l0, l1, l2, l3, .int x0, l5, l6, l7] S h = pX 1113 89 [l0, l1, l2, l3, .int x0, l5, l6, l7] (.int x0 :: S) h := pX_stp d1113_87 rfl rfl rfl
theorem x1113_89 {L S : List Value} {h : HP} : pX 1113 89 L S h = pX 1113 91 L (.int 9 :: S) h := pX_bipush d1113_89 (by decide)
theorem x1113_91 {L S : List Value} {h : HP} {x y : Int32} : pX 1113 91 L (.int y :: .int x :: S) h = if x = y then pX 1113 117 L S h else pX 1113 94 L S h := pX_icmp_eq d1113_91 (by decide)
theorem x1113_94 {S : List Value} {h : HP} {l0 l1 l2 l3 l5 l6 l7 : Value} {x0 : Int32} : pX 1113 94 [l0, l1, l2, l3, .int x0, l5, l6, l7] S h = pX 1113 96 [l0, l1, l2, l3, .int x0, l5, l6, l7] (.int x0 :: S) h := pX_stp d1113_94 rfl rfl rfl
theorem x1113_96 {L S : List Value} {h : HP} : pX 1113 96 L S h = pX 1113 98 L (.int 22 :: S) h := pX_bipush d1113_96 (by decide)
theorem x1113_98 {L S : List Value} {h : HP} {x y : Int32} : pX 1113 98 L (.int y :: .int x :: S) h = if x = y then pX 1113 117 L S h else pX 1113 101 L S h := pX_icmp_eq d1113_98 (by decide)
theorem x1113_101 {S : List Value} {h : HP} {l0 l1 l2 l3 l5 l6 l7 : Value} {x0 : Int32} : pX 1113 101 [l0, l1, l2, l3, .int x0, l5, l6, l7] S h = pX 1113 103 [l0, l1, l2, l3, .int x0, l5, l6, l7] (.int x0 :: S) h := pX_stp d1113_101 rfl rfl rfl
theorem x1113_103 {L S : List Value} {h : HP} : pX 1113 103 L S h = pX 1113 105 L (.int 24 :: S) h := pX_bipush d1113_103 (by decide)
theorem x1113_105 {L S : List Value} {h : HP} {x y : Int32} : pX 1113 105 L (.int y :: .int x :: S) h = if x = y then pX 1113 117 L S h else pX 1113 108 L S h := pX_icmp_eq d1113_105 (by decide)
theorem x1113_108 {S : List Value} {h : HP} {l1 l2 l3 l4 l5 l6 l7 : Value} {a0 : Nat} : pX 1113 108 [.ref a0, l1, l2, l3, l4, l5, l6, l7] S h = pX 1113 109 [.ref a0, l1, l2, l3, l4, l5, l6, l7] (.ref a0 :: S) h := pX_stp d1113_108 rfl rfl rfl
theorem x1113_109 {S : List Value} {h : HP} {l0 l1 l3 l4 l5 l6 l7 : Value} {x0 : Int32} : pX 1113 109 [l0, l1, .int x0, l3, l4, l5, l6, l7] S h = pX 1113 110 [l0, l1, .int x0, l3, l4, l5, l6, l7] (.int x0 :: S) h := pX_stp d1113_109 rfl rfl rfl
theorem x1113_110 {L S : List Value} {h : HP} : pX 1113 110 L S h = pX 1113 111 L (.int 1 :: S) h := pX_iconst d1113_110 (by decide)
theorem x1113_111 {L S : List Value} {h : HP} {x y : Int32} : pX 1113 111 L (.int y :: .int x :: S) h = pX 1113 112 L (.int (x + y) :: S) h := pX_stp d1113_111 rfl rfl rfl
theorem x1113_112 {S : List Value} {h : HP} {l0 l1 l2 l3 l4 l5 l7 : Value} {x0 : Int32} : pX 1113 112 [l0, l1, l2, l3, l4, l5, .int x0, l7] S h = pX 1113 114 [l0, l1, l2, l3, l4, l5, .int x0, l7] (.int x0 :: S) h := pX_stp d1113_112 rfl rfl rfl
theorem x1113_114 {L : List Value} {h : HP} {x0 : Int32} {x1 : Int32} {a0 : Nat} (hk : hp_k h a0 = 12) : pX 1113 114 L [.int x0, .int x1, .ref a0] h = (pX 1110 0 [.ref a0, .int x1, .int x0] [] h).bind (fun q => pX 1113 117 L (q.1.toList ++ []) q.2) := pX_inv (a := a0) (t := 12) 1110 [.ref a0, .int x1, .int x0] [] d1113_114 rfl rfl rfl hk
theorem x1113_117 {L S : List Value} {h : HP} : pX 1113 117 L S h = pX 1113 119 L (.int 24 :: S) h := pX_bipush d1113_117 (by decide)
theorem x1113_119 {S : List Value} {h : HP} {l0 l2 l3 l4 l5 l6 l7 : Value} {x0 : Int32} : pX 1113 119 [l0, .int x0, l2, l3, l4, l5, l6, l7] S h = pX 1113 120 [l0, .int x0, l2, l3, l4, l5, l6, l7] (.int x0 :: S) h := pX_stp d1113_119 rfl rfl rfl
theorem x1113_120 {L S : List Value} {h : HP} {x y : Int32} : pX 1113 120 L (.int y :: .int x :: S) h = pX 1113 121 L (.int (x * y) :: S) h := pX_stp d1113_120 rfl rfl rfl
theorem x1113_121 {S : List Value} {h : HP} {l0 l1 l2 l3 l4 l5 l6 l7 : Value} {x0 : Int32} : pX 1113 121 [l0, l1, l2, l3, l4, l5, l6, l7] (.int x0 :: S) h = pX 1113 123 [l0, l1, l2, l3, l4, l5, l6, .int x0] S h := pX_stp d1113_121 rfl rfl rfl
theorem x1113_123 {S : List Value} {h : HP} {l0 l1 l2 l3 l4 l5 l6 : Value} {x0 : Int32} : pX 1113 123 [l0, l1, l2, l3, l4, l5, l6, .int x0] S h = pX 1113 125 [l0, l1, l2, l3, l4, l5, l6, .int x0] (.int x0 :: S) h := pX_stp d1113_123 rfl rfl rfl
theorem x1113_125 {L S : List Value} {h : HP} : pX 1113 125 L S h = pX 1113 127 L (.int 24 :: S) h := pX_bipush d1113_125 (by decide)
theorem x1113_127 {S : List Value} {h : HP} {l0 l2 l3 l4 l5 l6 l7 : Value} {x0 : Int32} : pX 1113 127 [l0, .int x0, l2, l3, l4, l5, l6, l7] S h = pX 1113 128 [l0, .int x0, l2, l3, l4, l5, l6, l7] (.int x0 :: S) h := pX_stp d1113_127 rfl rfl rfl
theorem x1113_128 {L S : List Value} {h : HP} {x y : Int32} : pX 1113 128 L (.int y :: .int x :: S) h = pX 1113 129 L (.int (x * y) :: S) h := pX_stp d1113_128 rfl rfl rfl
theorem x1113_129 {L S : List Value} {h : HP} : pX 1113 129 L S h = pX 1113 130 L (.int 4 :: S) h := pX_iconst d1113_129 (by decide)
theorem x1113_130 {S : List Value} {h : HP} {l1 l2 l3 l4 l5 l6 l7 : Value} {a0 : Nat} : pX 1113 130 [.ref a0, l1, l2, l3, l4, l5, l6, l7] S h = pX 1113 131 [.ref a0, l1, l2, l3, l4, l5, l6, l7] (.ref a0 :: S) h := pX_stp d1113_130 rfl rfl rfl
theorem x1113_131 {L S : List Value} {h : HP} {a : Nat} (hk : hp_k h a = 12) : pX 1113 131 L (.ref a :: S) h = pX 1113 134 L (.ref (hp_a h a 4) :: S) h := pX_get d1113_131 rfl rfl hk
theorem x1113_134 {S : List Value} {h : HP} {l0 l2 l3 l4 l5 l6 l7 : Value} {x0 : Int32} : pX 1113 134 [l0, .int x0, l2, l3, l4, l5, l6, l7] S h = pX 1113 135 [l0, .int x0, l2, l3, l4, l5, l6, l7] (.int x0 :: S) h := pX_stp d1113_134 rfl rfl rfl
theorem x1113_135 {L S : List Value} {h : HP} {a : Nat} {j : Int32} (hk : hp_k h a = 100) (hj : inb j (hp_l h a) = true) : pX 1113 135 L (.int j :: .ref a :: S) h = pX 1113 136 L (.int (hp_i h a (ix j)) :: S) h := pX_ild d1113_135 hk hj
theorem x1113_136 {L S : List Value} {h : HP} {x y : Int32} : pX 1113 136 L (.int y :: .int x :: S) h = pX 1113 137 L (.int (x * y) :: S) h := pX_stp d1113_136 rfl rfl rfl
theorem x1113_137 {L S : List Value} {h : HP} {x y : Int32} : pX 1113 137 L (.int y :: .int x :: S) h = pX 1113 138 L (.int (x + y) :: S) h := pX_stp d1113_137 rfl rfl rfl
theorem x1113_138 {L S : List Value} {h : HP} {x y : Int32} : pX 1113 138 L (.int y :: .int x :: S) h = if y ≤ x then pX 1113 190 L S h else pX 1113 141 L S h := pX_icmp_ge d1113_138 (by decide)
theorem x1113_141 {S : List Value} {h : HP} {l1 l2 l3 l4 l5 l6 l7 : Value} {a0 : Nat} : pX 1113 141 [.ref a0, l1, l2, l3, l4, l5, l6, l7] S h = pX 1113 142 [.ref a0, l1, l2, l3, l4, l5, l6, l7] (.ref a0 :: S) h := pX_stp d1113_141 rfl rfl rfl
theorem x1113_142 {L S : List Value} {h : HP} {a : Nat} (hk : hp_k h a = 12) : pX 1113 142 L (.ref a :: S) h = pX 1113 145 L (.ref (hp_a h a 5) :: S) h := pX_get d1113_142 rfl rfl hk
theorem x1113_145 {S : List Value} {h : HP} {l0 l1 l2 l3 l4 l5 l6 : Value} {x0 : Int32} : pX 1113 145 [l0, l1, l2, l3, l4, l5, l6, .int x0] S h = pX 1113 147 [l0, l1, l2, l3, l4, l5, l6, .int x0] (.int x0 :: S) h := pX_stp d1113_145 rfl rfl rfl
theorem x1113_147 {L S : List Value} {h : HP} {a : Nat} {j : Int32} (hk : hp_k h a = 100) (hj : inb j (hp_l h a) = true) : pX 1113 147 L (.int j :: .ref a :: S) h = pX 1113 148 L (.int (hp_i h a (ix j)) :: S) h := pX_ild d1113_147 hk hj
theorem x1113_148 {S : List Value} {h : HP} {l0 l1 l3 l4 l5 l6 l7 : Value} {x0 : Int32} : pX 1113 148 [l0, l1, .int x0, l3, l4, l5, l6, l7] S h = pX 1113 149 [l0, l1, .int x0, l3, l4, l5, l6, l7] (.int x0 :: S) h := pX_stp d1113_148 rfl rfl rfl
theorem x1113_149 {L S : List Value} {h : HP} {x y : Int32} : pX 1113 149 L (.int y :: .int x :: S) h = if y < x then pX 1113 184 L S h else pX 1113 152 L S h := pX_icmp_gt d1113_149 (by decide)
theorem x1113_152 {S : List Value} {h : HP} {l0 l1 l3 l4 l5 l6 l7 : Value} {x0 : Int32} : pX 1113 152 [l0, l1, .int x0, l3, l4, l5, l6, l7] S h = pX 1113 153 [l0, l1, .int x0, l3, l4, l5, l6, l7] (.int x0 :: S) h := pX_stp d1113_152 rfl rfl rfl
theorem x1113_153 {S : List Value} {h : HP} {l1 l2 l3 l4 l5 l6 l7 : Value} {a0 : Nat} : pX 1113 153 [.ref a0, l1, l2, l3, l4, l5, l6, l7] S h = pX 1113 154 [.ref a0, l1, l2, l3, l4, l5, l6, l7] (.ref a0 :: S) h := pX_stp d1113_153 rfl rfl rfl
theorem x1113_154 {L S : List Value} {h : HP} {a : Nat} (hk : hp_k h a = 12) : pX 1113 154 L (.ref a :: S) h = pX 1113 157 L (.ref (hp_a h a 5) :: S) h := pX_get d1113_154 rfl rfl hk
theorem x1113_157 {S : List Value} {h : HP} {l0 l1 l2 l3 l4 l5 l6 : Value} {x0 : Int32} : pX 1113 157 [l0, l1, l2, l3, l4, l5, l6, .int x0] S h = pX 1113 159 [l0, l1, l2, l3, l4, l5, l6, .int x0] (.int x0 :: S) h := pX_stp d1113_157 rfl rfl rfl
theorem x1113_159 {L S : List Value} {h : HP} : pX 1113 159 L S h = pX 1113 160 L (.int 1 :: S) h := pX_iconst d1113_159 (by decide)
theorem x1113_160 {L S : List Value} {h : HP} {x y : Int32} : pX 1113 160 L (.int y :: .int x :: S) h = pX 1113 161 L (.int (x + y) :: S) h := pX_stp d1113_160 rfl rfl rfl
theorem x1113_161 {L S : List Value} {h : HP} {a : Nat} {j : Int32} (hk : hp_k h a = 100) (hj : inb j (hp_l h a) = true) : pX 1113 161 L (.int j :: .ref a :: S) h = pX 1113 162 L (.int (hp_i h a (ix j)) :: S) h := pX_ild d1113_161 hk hj
theorem x1113_162 {L S : List Value} {h : HP} {x y : Int32} : pX 1113 162 L (.int y :: .int x :: S) h = if y ≤ x then pX 1113 184 L S h else pX 1113 165 L S h := pX_icmp_ge d1113_162 (by decide)
theorem x1113_165 {S : List Value} {h : HP} {l1 l2 l3 l4 l5 l6 l7 : Value} {a0 : Nat} : pX 1113 165 [.ref a0, l1, l2, l3, l4, l5, l6, l7] S h = pX 1113 166 [.ref a0, l1, l2, l3, l4, l5, l6, l7] (.ref a0 :: S) h := pX_stp d1113_165 rfl rfl rfl
theorem x1113_166 {S : List Value} {h : HP} {l1 l2 l3 l4 l5 l6 l7 : Value} {a0 : Nat} : pX 1113 166 [.ref a0, l1, l2, l3, l4, l5, l6, l7] S h = pX 1113 167 [.ref a0, l1, l2, l3, l4, l5, l6, l7] (.ref a0 :: S) h := pX_stp d1113_166 rfl rfl rfl
theorem x1113_167 {L S : List Value} {h : HP} {a : Nat} (hk : hp_k h a = 12) : pX 1113 167 L (.ref a :: S) h = pX 1113 170 L (.ref (hp_a h a 5) :: S) h := pX_get d1113_167 rfl rfl hk
theorem x1113_170 {S : List Value} {h : HP} {l0 l1 l2 l3 l4 l5 l6 : Value} {x0 : Int32} : pX 1113 170 [l0, l1, l2, l3, l4, l5, l6, .int x0] S h = pX 1113 172 [l0, l1, l2, l3, l4, l5, l6, .int x0] (.int x0 :: S) h := pX_stp d1113_170 rfl rfl rfl
theorem x1113_172 {L S : List Value} {h : HP} : pX 1113 172 L S h = pX 1113 173 L (.int 3 :: S) h := pX_iconst d1113_172 (by decide)
theorem x1113_173 {L S : List Value} {h : HP} {x y : Int32} : pX 1113 173 L (.int y :: .int x :: S) h = pX 1113 174 L (.int (x + y) :: S) h := pX_stp d1113_173 rfl rfl rfl
theorem x1113_174 {L S : List Value} {h : HP} {a : Nat} {j : Int32} (hk : hp_k h a = 100) (hj : inb j (hp_l h a) = true) : pX 1113 174 L (.int j :: .ref a :: S) h = pX 1113 175 L (.int (hp_i h a (ix j)) :: S) h := pX_ild d1113_174 hk hj
theorem x1113_175 {S : List Value} {h : HP} {l0 l1 l2 l3 l4 l6 l7 : Value} {x0 : Int32} : pX 1113 175 [l0, l1, l2, l3, l4, .int x0, l6, l7] S h = pX 1113 177 [l0, l1, l2, l3, l4, .int x0, l6, l7] (.int x0 :: S) h := pX_stp d1113_175 rfl rfl rfl
theorem x1113_177 {L S : List Value} {h : HP} : pX 1113 177 L S h = pX 1113 180 L (.int (-129) :: S) h := pX_sipush d1113_177 (by decide)
theorem x1113_180 {L S : List Value} {h : HP} {x y : Int32} : pX 1113 180 L (.int y :: .int x :: S) h = pX 1113 181 L (.int (x &&& y) :: S) h := pX_stp d1113_180 rfl rfl rfl
theorem x1113_181 {L : List Value} {h : HP} {x0 : Int32} {x1 : Int32} {a0 : Nat} (hk : hp_k h a0 = 12) : pX 1113 181 L [.int x0, .int x1, .ref a0] h = (pX 1110 0 [.ref a0, .int x1, .int x0] [] h).bind (fun q => pX 1113 184 L (q.1.toList ++ []) q.2) := pX_inv (a := a0) (t := 12) 1110 [.ref a0, .int x1, .int x0] [] d1113_181 rfl rfl rfl hk
theorem x1113_184 {S : List Value} {h : HP} {x0 : Int32} {l0 l1 l2 l3 l4 l5 l6 : Value} : pX 1113 184 [l0, l1, l2, l3, l4, l5, l6, .int x0] S h = pX 1113 187 [l0, l1, l2, l3, l4, l5, l6, .int (x0 + 4)] S h := pX_iinc (x := x0) d1113_184 (by decide) rfl (Nat.le_of_ble_eq_true rfl) rfl rfl
theorem x1113_187 {L S : List Value} {h : HP} : pX 1113 187 L S h = pX 1113 123 L S h := pX_goto d1113_187 (by decide)
theorem x1113_190 {L : List Value} {h : HP} : pX 1113 190 L [] h = some (none, h) := pX_ret d1113_190 rfl
