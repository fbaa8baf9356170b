/-! THE BEGINNING: the relation holds; the bound of the room -/
theorem FX_md {xs : Nat → Int32} {L : Nat} {F : HP} (c : CF xs L F) : FX L (mdH (hp_mk F 12 0 49)) := by
  obtain ⟨c1, c2, ⟨k1, k2, k3, l1, l2, l3, i1, i2⟩, ⟨k4, a4_0, a4_1, a4_2⟩, ⟨⟨k5, a5_0, a5_2, a5_3, a5_4, a5_5, a5_6, a5_8, a5_10, i5⟩, ⟨k6, l6, k7, a7_0, a7_1, i7, k8, l8, i8⟩, ⟨k9, l9, i9, k10, a10, k11, l11, i11, k12, l12, i12⟩, ⟨k13, l13, k14, i140, i141, a142, a143, k15, l15, i15⟩, mb, fb⟩, ⟨k238, a238_0, k239, l239, k240, l240⟩, sl⟩ := c
  have Ek : ∀ y, y < 244 → hp_k (mdH (hp_mk F 12 0 49)) y = hp_k F y := fun y hy => by rw [md_k, if_neg (by omega), hp_k_mk, c1, if_neg (by omega)]
  have El : ∀ y, y < 244 → hp_l (mdH (hp_mk F 12 0 49)) y = hp_l F y := fun y hy => by rw [md_l, if_neg (by omega), hp_l_mk, c1, if_neg (by omega)]
  have Ea : ∀ y j, y < 244 → hp_a (mdH (hp_mk F 12 0 49)) y j = hp_a F y j := fun y j hy => by rw [md_a, if_neg (by omega), if_neg (by omega), hp_a_mk, c1, if_neg (by omega)]
  refine ⟨⟨(by rw [md_n (by rw [hp_n_mk, c1])]; omega), ((Ek 1 (by omega)).trans k1), ((Ek 2 (by omega)).trans k2), ((Ek 3 (by omega)).trans k3), ((El 1 (by omega)).trans l1), ((El 2 (by omega)).trans l2), ((El 3 (by omega)).trans l3), ((Ek 4 (by omega)).trans k4), ((Ea 4 0 (by omega)).trans a4_0), ((Ea 4 1 (by omega)).trans a4_1), ((Ea 4 2 (by omega)).trans a4_2), ((Ek 5 (by omega)).trans k5), ((Ea 5 0 (by omega)).trans a5_0), ((Ea 5 2 (by omega)).trans a5_2), ((Ea 5 3 (by omega)).trans a5_3), ((Ea 5 4 (by omega)).trans a5_4), ((Ea 5 5 (by omega)).trans a5_5), ((Ea 5 6 (by omega)).trans a5_6), ((Ea 5 8 (by omega)).trans a5_8), ((Ea 5 10 (by omega)).trans a5_10)⟩,
    ⟨((Ek 6 (by omega)).trans k6), ((El 6 (by omega)).trans l6), ((Ek 7 (by omega)).trans k7), ((Ea 7 0 (by omega)).trans a7_0), ((Ea 7 1 (by omega)).trans a7_1), ((Ek 8 (by omega)).trans k8), ((El 8 (by omega)).trans l8), ((Ek 9 (by omega)).trans k9), ((El 9 (by omega)).trans l9), ((Ek 11 (by omega)).trans k11), ((El 11 (by omega)).trans l11), ((Ek 12 (by omega)).trans k12), ((El 12 (by omega)).trans l12), ((Ek 15 (by omega)).trans k15), ((El 15 (by omega)).trans l15), ((Ek 239 (by omega)).trans k239), ((El 239 (by omega)).trans l239), ((Ek 10 (by omega)).trans k10), ((Ek 13 (by omega)).trans k13), ((El 13 (by omega)).trans l13)⟩,
    ⟨((Ek 14 (by omega)).trans k14), ((Ek 238 (by omega)).trans k238), ((Ea 238 0 (by omega)).trans a238_0), ((Ek 240 (by omega)).trans k240), ((El 240 (by omega)).trans l240), (by rw [md_k, if_neg (by omega), hp_k_mk, c1, if_pos rfl]), (show hp_k (mdH (hp_mk F 12 0 49)) 245 = 100 from rfl), (show hp_l (mdH (hp_mk F 12 0 49)) 245 = 10 from rfl), (show hp_a (mdH (hp_mk F 12 0 49)) 244 1 = 245 from rfl), (show hp_k (mdH (hp_mk F 12 0 49)) 246 = 100 from rfl), (show hp_l (mdH (hp_mk F 12 0 49)) 246 = 10 from rfl), (show hp_a (mdH (hp_mk F 12 0 49)) 244 2 = 246 from rfl), (show hp_k (mdH (hp_mk F 12 0 49)) 247 = 100 from rfl), (show hp_l (mdH (hp_mk F 12 0 49)) 247 = 1600 from rfl), (show hp_a (mdH (hp_mk F 12 0 49)) 244 3 = 247 from rfl), (show hp_k (mdH (hp_mk F 12 0 49)) 248 = 100 from rfl), (show hp_l (mdH (hp_mk F 12 0 49)) 248 = 10 from rfl), (show hp_a (mdH (hp_mk F 12 0 49)) 244 4 = 248 from rfl), (show hp_k (mdH (hp_mk F 12 0 49)) 249 = 100 from rfl), (show hp_l (mdH (hp_mk F 12 0 49)) 249 = 240 from rfl)⟩,
    ⟨(show hp_a (mdH (hp_mk F 12 0 49)) 244 5 = 249 from rfl), (show hp_k (mdH (hp_mk F 12 0 49)) 250 = 100 from rfl), (show hp_l (mdH (hp_mk F 12 0 49)) 250 = 10 from rfl), (show hp_a (mdH (hp_mk F 12 0 49)) 244 6 = 250 from rfl), (show hp_k (mdH (hp_mk F 12 0 49)) 251 = 100 from rfl), (show hp_l (mdH (hp_mk F 12 0 49)) 251 = 5 from rfl), (show hp_a (mdH (hp_mk F 12 0 49)) 244 7 = 251 from rfl), (show hp_k (mdH (hp_mk F 12 0 49)) 252 = 100 from rfl), (show hp_l (mdH (hp_mk F 12 0 49)) 252 = 41 from rfl), (show hp_a (mdH (hp_mk F 12 0 49)) 244 9 = 252 from rfl), (show hp_k (mdH (hp_mk F 12 0 49)) 253 = 100 from rfl), (show hp_l (mdH (hp_mk F 12 0 49)) 253 = 12 from rfl), (show hp_a (mdH (hp_mk F 12 0 49)) 244 11 = 253 from rfl), (show hp_k (mdH (hp_mk F 12 0 49)) 254 = 100 from rfl), (show hp_l (mdH (hp_mk F 12 0 49)) 254 = 12 from rfl), (show hp_a (mdH (hp_mk F 12 0 49)) 244 12 = 254 from rfl), (show hp_k (mdH (hp_mk F 12 0 49)) 255 = 100 from rfl), (show hp_l (mdH (hp_mk F 12 0 49)) 255 = 3 from rfl), (show hp_a (mdH (hp_mk F 12 0 49)) 244 13 = 255 from rfl), (show hp_k (mdH (hp_mk F 12 0 49)) 256 = 100 from rfl)⟩,
    ⟨(show hp_l (mdH (hp_mk F 12 0 49)) 256 = 3 from rfl), (show hp_a (mdH (hp_mk F 12 0 49)) 244 14 = 256 from rfl), (show hp_k (mdH (hp_mk F 12 0 49)) 257 = 100 from rfl), (show hp_l (mdH (hp_mk F 12 0 49)) 257 = 6000 from rfl), (show hp_a (mdH (hp_mk F 12 0 49)) 244 18 = 257 from rfl), (show hp_k (mdH (hp_mk F 12 0 49)) 258 = 100 from rfl), (show hp_l (mdH (hp_mk F 12 0 49)) 258 = 6000 from rfl), (show hp_a (mdH (hp_mk F 12 0 49)) 244 19 = 258 from rfl), (show hp_k (mdH (hp_mk F 12 0 49)) 259 = 100 from rfl), (show hp_l (mdH (hp_mk F 12 0 49)) 259 = 6000 from rfl), (show hp_a (mdH (hp_mk F 12 0 49)) 244 20 = 259 from rfl), (show hp_k (mdH (hp_mk F 12 0 49)) 260 = 100 from rfl), (show hp_l (mdH (hp_mk F 12 0 49)) 260 = 6000 from rfl), (show hp_a (mdH (hp_mk F 12 0 49)) 244 21 = 260 from rfl), (show hp_k (mdH (hp_mk F 12 0 49)) 261 = 100 from rfl), (show hp_l (mdH (hp_mk F 12 0 49)) 261 = 6000 from rfl), (show hp_a (mdH (hp_mk F 12 0 49)) 244 22 = 261 from rfl), (show hp_k (mdH (hp_mk F 12 0 49)) 262 = 100 from rfl), (show hp_l (mdH (hp_mk F 12 0 49)) 262 = 6000 from rfl), (show hp_a (mdH (hp_mk F 12 0 49)) 244 24 = 262 from rfl)⟩,
    ⟨(show hp_k (mdH (hp_mk F 12 0 49)) 263 = 100 from rfl), (show hp_l (mdH (hp_mk F 12 0 49)) 263 = 6000 from rfl), (show hp_a (mdH (hp_mk F 12 0 49)) 244 25 = 263 from rfl), (show hp_k (mdH (hp_mk F 12 0 49)) 264 = 100 from rfl), (show hp_l (mdH (hp_mk F 12 0 49)) 264 = 6000 from rfl), (show hp_a (mdH (hp_mk F 12 0 49)) 244 26 = 264 from rfl), (show hp_k (mdH (hp_mk F 12 0 49)) 265 = 100 from rfl), (show hp_l (mdH (hp_mk F 12 0 49)) 265 = 6000 from rfl), (show hp_a (mdH (hp_mk F 12 0 49)) 244 27 = 265 from rfl), (show hp_k (mdH (hp_mk F 12 0 49)) 266 = 100 from rfl), (show hp_l (mdH (hp_mk F 12 0 49)) 266 = 12 from rfl), (show hp_a (mdH (hp_mk F 12 0 49)) 244 30 = 266 from rfl), (show hp_k (mdH (hp_mk F 12 0 49)) 267 = 100 from rfl), (show hp_l (mdH (hp_mk F 12 0 49)) 267 = 12 from rfl), (show hp_a (mdH (hp_mk F 12 0 49)) 244 31 = 267 from rfl), (show hp_k (mdH (hp_mk F 12 0 49)) 268 = 100 from rfl), (show hp_l (mdH (hp_mk F 12 0 49)) 268 = 12 from rfl), (show hp_a (mdH (hp_mk F 12 0 49)) 244 32 = 268 from rfl), (show hp_k (mdH (hp_mk F 12 0 49)) 269 = 100 from rfl), (show hp_l (mdH (hp_mk F 12 0 49)) 269 = 96 from rfl)⟩,
    ⟨(show hp_a (mdH (hp_mk F 12 0 49)) 244 33 = 269 from rfl), (show hp_k (mdH (hp_mk F 12 0 49)) 270 = 100 from rfl), (show hp_l (mdH (hp_mk F 12 0 49)) 270 = 96 from rfl), (show hp_a (mdH (hp_mk F 12 0 49)) 244 34 = 270 from rfl), (show hp_k (mdH (hp_mk F 12 0 49)) 271 = 100 from rfl), (show hp_l (mdH (hp_mk F 12 0 49)) 271 = 12 from rfl), (show hp_a (mdH (hp_mk F 12 0 49)) 244 35 = 271 from rfl), (show hp_k (mdH (hp_mk F 12 0 49)) 272 = 100 from rfl), (show hp_l (mdH (hp_mk F 12 0 49)) 272 = 72000 from rfl), (show hp_a (mdH (hp_mk F 12 0 49)) 244 36 = 272 from rfl), (show hp_k (mdH (hp_mk F 12 0 49)) 273 = 100 from rfl), (show hp_l (mdH (hp_mk F 12 0 49)) 273 = 9 from rfl), (show hp_a (mdH (hp_mk F 12 0 49)) 244 39 = 273 from rfl), (show hp_k (mdH (hp_mk F 12 0 49)) 274 = 100 from rfl), (show hp_l (mdH (hp_mk F 12 0 49)) 274 = 100 from rfl), (show hp_a (mdH (hp_mk F 12 0 49)) 244 40 = 274 from rfl), (show hp_k (mdH (hp_mk F 12 0 49)) 275 = 100 from rfl), (show hp_l (mdH (hp_mk F 12 0 49)) 275 = 5 from rfl), (show hp_a (mdH (hp_mk F 12 0 49)) 244 43 = 275 from rfl), ?_⟩,
    ⟨?_, ?_, ?_, ?_, ?_, ?_, ?_, ?_, ?_, ?_, ?_, ?_, ?_, ?_, ?_, ?_, ?_⟩⟩
  · intro i hi; exact (Ea _ _ (by omega)).trans (mb i hi).1
  · intro f hf; exact (Ea _ _ (by omega)).trans (fb f hf).1
  · intro k hk; exact (Ea _ _ (by omega)).trans (sl k hk).1
  · intro k hk; exact (Ek _ (by omega)).trans (sl k hk).2.1
  · intro i hi; exact (Ek _ (by omega)).trans (mb i hi).2.1
  · intro i j hi h1 h2; exact (Ek _ (by omega)).trans ((mb i hi).2.2.1 j h1 h2)
  · intro i j hi h1 h2; exact (El _ (by omega)).trans ((mb i hi).2.2.2.1 j h1 h2)
  · intro i j hi h1 h2; exact (El _ (by omega)).trans ((mb i hi).2.2.2.2.1 j h1 h2)
  · intro i j hi h1 h2; exact (Ea _ _ (by omega)).trans ((mb i hi).2.2.2.2.2.1 j h1 h2)
  · intro i j hi h1 h2; exact (Ea _ _ (by omega)).trans ((mb i hi).2.2.2.2.2.2.1 j h1 h2)
  · intro f hf; exact (Ek _ (by omega)).trans (fb f hf).2.1
  · intro f hf; exact ((Ea _ _ (by omega)).trans (fb f hf).2.2.1).trans (by omega)
  · intro f hf; exact ((Ea _ _ (by omega)).trans (fb f hf).2.2.2.1).trans (by omega)
  · intro f hf; rw [show 107 + 11 * f = 106 + 11 * f + 1 by omega]; exact (Ek _ (by omega)).trans (fb f hf).2.2.2.2.1
  · intro f hf; rw [show 107 + 11 * f = 106 + 11 * f + 1 by omega]; exact (El _ (by omega)).trans (fb f hf).2.2.2.2.2.1
  · intro f hf; rw [show 108 + 11 * f = 106 + 11 * f + 2 by omega]; exact (Ek _ (by omega)).trans (fb f hf).2.2.2.2.2.2.1
  · intro f k hf hk; rw [show 107 + 11 * f = 106 + 11 * f + 1 by omega]; exact ((Ea _ _ (by omega)).trans ((fb f hf).2.2.2.2.2.2.2.1 k hk)).trans (by omega)
  · intro f k hf hk; rw [show 109 + 11 * f + k = 106 + 11 * f + 3 + k by omega]; exact (Ek _ (by omega)).trans ((fb f hf).2.2.2.2.2.2.2.2.1 k hk)
theorem Mi {F : HP} (c1 : hp_n F = 244) {y j : Nat} (h1 : 244 ≤ y) (h2 : y < 276) : hp_i (mdH (hp_mk F 12 0 49)) y j = if y = 244 ∧ j = 38 then 6000 else if y = 251 ∧ j < 5 then 1 else 0 := by
  rw [md_i, hp_i_mk, c1]
  by_cases p : y = 244 ∧ j = 38
  · rw [if_pos p, if_pos p]
  · rw [if_neg p, if_neg p]
    by_cases q : y = 251 ∧ j < 5
    · rw [if_pos q]
      have : j = 0 ∨ j = 1 ∨ j = 2 ∨ j = 3 ∨ j = 4 := by omega
      rcases this with z | z | z | z | z <;> simp [q.1, z]
    · rw [if_neg q, if_neg (by omega), if_neg (by omega), if_neg (by omega), if_neg (by omega), if_neg (by omega)]
      by_cases z : 245 ≤ y ∧ y < 276
      · rw [if_pos z]
      · rw [if_neg z, if_pos (by omega)]
theorem Mz {F : HP} (c1 : hp_n F = 244) {y j : Nat} (h1 : 244 ≤ y) (h2 : y < 276) (h3 : ¬ (y = 244 ∧ j = 38)) (h4 : y ≠ 251) : hp_i (mdH (hp_mk F 12 0 49)) y j = 0 := by
  rw [Mi c1 h1 h2, if_neg h3, if_neg (fun q => h4 q.1)]
theorem FI_md {xs : Nat → Int32} {L : Nat} {F : HP} (c : CF xs L F) : FI (mdH (hp_mk F 12 0 49)) (hp_i (mdH (hp_mk F 12 0 49))) := by
  obtain ⟨c1, c2, ⟨k1, k2, k3, l1, l2, l3, i1, i2⟩, ⟨k4, a4_0, a4_1, a4_2⟩, ⟨⟨k5, a5_0, a5_2, a5_3, a5_4, a5_5, a5_6, a5_8, a5_10, i5⟩, ⟨k6, l6, k7, a7_0, a7_1, i7, k8, l8, i8⟩, ⟨k9, l9, i9, k10, a10, k11, l11, i11, k12, l12, i12⟩, ⟨k13, l13, k14, i140, i141, a142, a143, k15, l15, i15⟩, mb, fb⟩, ⟨k238, a238_0, k239, l239, k240, l240⟩, sl⟩ := c
  have Ei : ∀ y j, y < 244 → hp_i (mdH (hp_mk F 12 0 49)) y j = hp_i F y j := fun y j hy => by
    rw [md_i, if_neg (by omega), if_neg (by omega), if_neg (by omega), if_neg (by omega), if_neg (by omega), if_neg (by omega), if_neg (by omega), hp_i_mk, c1, if_neg (by omega)]
  intro a k b j e
  rcases e with ⟨rfl, rfl, rfl, rfl⟩ | ⟨rfl, rfl, rfl, rfl⟩ | ⟨rfl, rfl, rfl, rfl⟩ | ⟨t, h0, h1, rfl, rfl, rfl, rfl⟩ | ⟨rfl, rfl, rfl, rfl⟩ | ⟨rfl, rfl, rfl, rfl⟩ | ⟨q, h0, rfl, rfl, rfl, rfl⟩ | ⟨q, h0, rfl, rfl, rfl, rfl⟩ | ⟨q, h0, rfl, rfl, rfl, rfl⟩ | ⟨q, h0, rfl, rfl, rfl, rfl⟩ | ⟨q, h0, rfl, rfl, rfl, rfl⟩ | ⟨i, h0, rfl, rfl, rfl, rfl⟩ | ⟨i, h0, rfl, rfl, rfl, rfl⟩ | ⟨i, h0, rfl, rfl, rfl, rfl⟩ | ⟨i, h0, rfl, rfl, rfl, rfl⟩ | ⟨i, r, q, h0, h1, h2, rfl, rfl, rfl, rfl⟩ | ⟨i, r, q, h0, h1, h2, rfl, rfl, rfl, rfl⟩ | ⟨f, h0, rfl, rfl, rfl, rfl⟩ | ⟨f, h0, rfl, rfl, rfl, rfl⟩
  · rw [Ei _ _ (by omega), i5, Mz c1 (by omega) (by omega) (by omega) (by omega)]
  · rw [Ei _ _ (by omega), i5, Mz c1 (by omega) (by omega) (by omega) (by omega)]
  · rw [Ei _ _ (by omega), i5, Mz c1 (by omega) (by omega) (by omega) (by omega)]
  · rw [Ei _ _ (by omega), i5, Mz c1 (by omega) (by omega) (by omega) (by omega)]
  · rw [Ei _ _ (by omega), i7, if_neg (by omega), Mz c1 (by omega) (by omega) (by omega) (by omega)]
  · rw [Ei _ _ (by omega), i7, if_pos rfl, Mi c1 (by omega) (by omega), if_pos ⟨rfl, rfl⟩]
  · rw [Ei _ _ (by omega), i8 _ h0, Mi c1 (by omega) (by omega), if_neg (by omega), if_pos ⟨rfl, h0⟩]
  · rw [Ei _ _ (by omega), i9, Mz c1 (by omega) (by omega) (by omega) (by omega)]
  · rw [Ei _ _ (by omega), i11, Mz c1 (by omega) (by omega) (by omega) (by omega)]
  · rw [Ei _ _ (by omega), i12, Mz c1 (by omega) (by omega) (by omega) (by omega)]
  · rw [Ei _ _ (by omega), i15, Mz c1 (by omega) (by omega) (by omega) (by omega)]
  · rw [Ei _ _ (by omega), (show hp_i F (16 + 9 * i) 0 = 0 from (mb i h0).2.2.2.2.2.2.2 0 0 (by omega)), Mz c1 (by omega) (by omega) (by omega) (by omega)]
  · rw [Ei _ _ (by omega), (show hp_i F (16 + 9 * i) 1 = 0 from (mb i h0).2.2.2.2.2.2.2 0 1 (by omega)), Mz c1 (by omega) (by omega) (by omega) (by omega)]
  · rw [Ei _ _ (by omega), (show hp_i F (16 + 9 * i) 2 = 0 from (mb i h0).2.2.2.2.2.2.2 0 2 (by omega)), Mz c1 (by omega) (by omega) (by omega) (by omega)]
  · rw [Ei _ _ (by omega), (show hp_i F (16 + 9 * i) 7 = 0 from (mb i h0).2.2.2.2.2.2.2 0 7 (by omega)), Mz c1 (by omega) (by omega) (by omega) (by omega)]
  · rw [Ei _ _ (by omega), show 17 + 9 * i + r = 16 + 9 * i + (r + 1) by omega, (mb i h0).2.2.2.2.2.2.2 (r + 1) _ (by omega), Mz c1 (by omega) (by omega) (by omega) (by omega)]
  · rw [Ei _ _ (by omega), show 21 + 9 * i + r = 16 + 9 * i + (r + 5) by omega, (mb i h0).2.2.2.2.2.2.2 (r + 5) _ (by omega), Mz c1 (by omega) (by omega) (by omega) (by omega)]
  · rw [Ei _ _ (by omega), (fb f h0).2.2.2.2.2.2.2.2.2.2, Mz c1 (by omega) (by omega) (by omega) (by omega)]
  · rw [Ei _ _ (by omega), (fb f h0).2.2.2.2.2.2.2.2.2.2, Mz c1 (by omega) (by omega) (by omega) (by omega)]
theorem nb0 {B : Nat} : nb 0 B := ⟨0, rfl, Nat.zero_le B⟩
theorem ix0 : ix (0 : Int32) = 0 := ix_nI (n := 0) (by omega)
theorem RG_md {F : HP} (c1 : hp_n F = 244) : RG (hp_i (mdH (hp_mk F 12 0 49))) := by
  show RGc _
  have z : ∀ y j, 244 ≤ y → y < 276 → ¬ (y = 244 ∧ j = 38) → y ≠ 251 → mG (hp_i (mdH (hp_mk F 12 0 49))) y j = 0 := by
    intro y j h1 h2 h3 h4
    unfold mG
    split
    · rfl
    · exact Mz c1 h1 h2 h3 h4
  have z38 : mG (hp_i (mdH (hp_mk F 12 0 49))) 244 38 = nI 6000 := by rw [mG_at (by unfold freeS; omega), Mi c1 (by omega) (by omega), if_pos ⟨rfl, rfl⟩]; rfl
  have zp : ∀ k, k < 5 → mG (hp_i (mdH (hp_mk F 12 0 49))) 251 k = nI 1 := fun k hk => by rw [mG_at (by unfold freeS; omega), Mi c1 (by omega) (by omega), if_neg (by omega), if_pos ⟨rfl, hk⟩]; rfl
  generalize mG (hp_i (mdH (hp_mk F 12 0 49))) = s at z z38 zp
  have y0 : ∀ j, j ≠ 38 → s 244 j = 0 := fun j hj => z _ _ (by omega) (by omega) (fun q => hj q.2) (by omega)
  have yb : ∀ b j, 245 ≤ b → b < 276 → b ≠ 251 → s b j = 0 := fun b j h1 h2 h3 => z _ _ (by omega) h2 (by omega) h3
  have y6 : ix (s 244 38) = 6000 := by rw [z38]; exact ix_nI (by omega)
  unfold RGc
  refine ⟨?_, fun i hi => ⟨?_, ?_, ?_⟩, fun i j hi hj => ?_, fun i j hi hj => ?_, fun k hk => ⟨1, zp k hk, by omega, by omega⟩, ?_, ?_, ⟨6000, z38, by omega⟩, ?_, ?_, ?_, ?_, ?_, fun f hf => ?_, fun f _ hf => ?_, fun hf => ?_, ?_, fun f hf => ⟨?_, ?_⟩⟩
  · rw [y0 _ (by omega)]; exact nb0
  · rw [yb _ _ (by omega) (by omega) (by omega)]; exact nb0
  · rw [yb _ _ (by omega) (by omega) (by omega)]; exact nb0
  · rw [yb _ _ (by omega) (by omega) (by omega)]; exact nb0
  · rw [yb _ _ (by omega) (by omega) (by omega), ix0] at hj; exact absurd hj (by omega)
  · rw [yb _ _ (by omega) (by omega) (by omega), ix0] at hj; exact absurd hj (by omega)
  · rw [y0 _ (by omega)]; exact nb0
  · rw [y0 _ (by omega)]; exact nb0
  · rw [y0 _ (by omega)]; exact nb0
  · rw [y0 _ (by omega)]; exact nb0
  · rw [y0 _ (by omega)]; exact nb0
  · rw [y0 _ (by omega)]; exact nb0
  · rw [y6, y0 _ (by omega), y0 _ (by omega), y0 _ (by omega), ix0]; omega
  · rw [y0 _ (by omega), ix0] at hf; exact absurd hf (by omega)
  · rw [y0 _ (by omega), ix0] at hf; exact absurd hf (by omega)
  · rw [y0 _ (by omega), ix0] at hf; exact absurd hf (by omega)
  · rw [y0 _ (by omega), y0 _ (by omega)]; rfl
  · exact yb _ _ (by omega) (by omega) (by omega)
  · exact yb _ _ (by omega) (by omega) (by omega)
theorem RH_md {F : HP} (c1 : hp_n F = 244) : RH (hp_i (mdH (hp_mk F 12 0 49))) := by
  show RHc _
  have z : ∀ y j, 244 ≤ y → y < 276 → ¬ (y = 244 ∧ j = 38) → y ≠ 251 → mH (hp_i (mdH (hp_mk F 12 0 49))) y j = 0 := by
    intro y j h1 h2 h3 h4
    unfold mH
    split
    · exact Mz c1 h1 h2 h3 h4
    · rfl
  have z38 : mH (hp_i (mdH (hp_mk F 12 0 49))) 244 38 = nI 6000 := by
    unfold mH
    rw [if_pos (by unfold depH; omega), Mi c1 (by omega) (by omega), if_pos ⟨rfl, rfl⟩]; rfl
  generalize mH (hp_i (mdH (hp_mk F 12 0 49))) = s at z z38
  have y0 : ∀ j, j ≠ 38 → s 244 j = 0 := fun j hj => z _ _ (by omega) (by omega) (fun q => hj q.2) (by omega)
  have yb : ∀ b j, 245 ≤ b → b < 276 → b ≠ 251 → s b j = 0 := fun b j h1 h2 h3 => z _ _ (by omega) h2 (by omega) h3
  have y6 : ix (s 244 38) = 6000 := by rw [z38]; exact ix_nI (by omega)
  refine ⟨0, ?_, fun f k hf hk => ⟨0, yb _ _ (by omega) (by omega) (by omega), by omega, fun _ => rfl⟩, fun f hf => ?_, fun k hk => ?_⟩
  · rw [y6, y0 29 (by omega), ix0]
    show 0 + 0 + 82 * 6000 ≤ 492000
    omega
  · have e : sumN (fun k => ix (s 272 (6000 * f + k))) 6000 = 0 := sumN_zero (fun k hk => by rw [yb _ _ (by omega) (by omega) (by omega), ix0])
    rw [e, yb _ _ (by omega) (by omega) (by omega)]
    exact ⟨rfl, Nat.le_refl 0⟩
  · have e : sumN (fun f => ix (s 272 (6000 * f + k))) 12 = 0 := sumN_zero (fun k hk => by rw [yb _ _ (by omega) (by omega) (by omega), ix0])
    rw [e, yb _ _ (by omega) (by omega) (by omega)]
    exact ⟨rfl, Nat.le_refl 0⟩
theorem RX_md {xs : Nat → Int32} {L : Nat} {F : HP} (c : CF xs L F) : RX (mdH (hp_mk F 12 0 49)) (hp_i (mdH (hp_mk F 12 0 49))) := by
  obtain ⟨c1, c2, _, _, ⟨_, _, ⟨k9, l9, i9, k10, a10, _⟩, ⟨k13, l13, k14, i140, i141, a142, a143, k15, l15, i15⟩, mb, fb⟩, _, sl⟩ := c
  have Ea : ∀ y j, y < 244 → hp_a (mdH (hp_mk F 12 0 49)) y j = hp_a F y j := fun y j hy => by rw [md_a, if_neg (by omega), if_neg (by omega), hp_a_mk, c1, if_neg (by omega)]
  have Ei : ∀ y j, y < 244 → hp_i (mdH (hp_mk F 12 0 49)) y j = hp_i F y j := fun y j hy => by
    rw [md_i, if_neg (by omega), if_neg (by omega), if_neg (by omega), if_neg (by omega), if_neg (by omega), if_neg (by omega), if_neg (by omega), hp_i_mk, c1, if_neg (by omega)]
  have z : ∀ y j, 244 ≤ y → y < 276 → ¬ (y = 244 ∧ j = 38) → y ≠ 251 → mS (hp_i (mdH (hp_mk F 12 0 49))) y j = 0 := by
    intro y j h1 h2 h3 h4
    unfold mS
    split
    · exact Mz c1 h1 h2 h3 h4
    · rfl
  have en := md_n (h := hp_mk F 12 0 49) (by rw [hp_n_mk, c1])
  have es : hp_s (mdH (hp_mk F 12 0 49)) = 131175 := by rw [md_s, hp_s_mk, c2]
  have m0 : mI (hp_i (mdH (hp_mk F 12 0 49))) 14 0 = -5 := by rw [mI_at (by unfold dynI; omega), Ei _ _ (by omega), i140]
  have m1 : mI (hp_i (mdH (hp_mk F 12 0 49))) 14 1 = 0 := by rw [mI_at (by unfold dynI; omega), Ei _ _ (by omega), i141]
  have n0 : ∀ k, k < 3 → mI (hp_i (mdH (hp_mk F 12 0 49))) (241 + k) 0 = -5 := fun k hk => by rw [mI_at (by unfold dynI; omega), Ei _ _ (by omega), (sl k hk).2.2.1]
  have n1 : ∀ k, k < 3 → mI (hp_i (mdH (hp_mk F 12 0 49))) (241 + k) 1 = 0 := fun k hk => by rw [mI_at (by unfold dynI; omega), Ei _ _ (by omega), (sl k hk).2.2.2.1]
  show RXa _ _ _ _ _ _ _
  rw [en, es]
  generalize hs : mS (hp_i (mdH (hp_mk F 12 0 49))) = s at z
  have y0 : ∀ j, j ≠ 38 → s 244 j = 0 := fun j hj => z _ _ (by omega) (by omega) (fun q => hj q.2) (by omega)
  have yb : ∀ b j, 245 ≤ b → b < 276 → b ≠ 251 → s b j = 0 := fun b j h1 h2 h3 => z _ _ (by omega) h2 (by omega) h3
  have al : allH (fun _ => []) [] = [] := by
    unfold allH
    simp
  refine ⟨fun _ => 0, fun _ => 0, fun _ => [], [], ⟨?_, fun k hk => ?_⟩, fun f hf => ?_, ⟨fun k hk => ?_, fun k k' hk => ?_, fun k _ => ⟨?_, ?_, ?_⟩⟩, ⟨fun k hk => ?_, fun k k' hk => ?_, fun k k' _ hk => ?_, fun j _ => ?_⟩, ⟨fun f hf => ?_, fun _ _ => rfl, ?_, ?_, ?_, fun f hf => ?_, fun f hf => ?_, fun f k hf => ?_, fun k hk => ?_⟩, ?_⟩
  · rw [y0 _ (by omega), y0 _ (by omega)]
    exact ⟨m0, m1, (Ea _ _ (by omega)).trans a142, (Ea _ _ (by omega)).trans a143, Or.inl rfl⟩
  · rw [yb _ _ (by omega) (by omega) (by omega), yb _ _ (by omega) (by omega) (by omega)]
    exact ⟨n0 k hk, n1 k hk, (Ea _ _ (by omega)).trans (sl k hk).2.2.2.2.1, (Ea _ _ (by omega)).trans (sl k hk).2.2.2.2.2, Or.inl rfl⟩
  · rw [y0 _ (by omega), ix0] at hf; exact absurd hf (by omega)
  · rw [y0 _ (by omega), ix0] at hk; exact absurd hk (by omega)
  · rw [y0 _ (by omega), ix0] at hk; exact absurd hk (by omega)
  · exact yb _ _ (by omega) (by omega) (by omega)
  · exact yb _ _ (by omega) (by omega) (by omega)
  · exact yb _ _ (by omega) (by omega) (by omega)
  · rw [y0 _ (by omega), ix0] at hk; exact absurd hk (by omega)
  · rw [y0 _ (by omega), ix0] at hk; exact absurd hk (by omega)
  · rw [y0 _ (by omega), ix0] at hk; exact absurd hk (by omega)
  · exact yb _ _ (by omega) (by omega) (by omega)
  · exact (Ea _ _ (by omega)).trans (fb f hf).2.2.2.2.2.2.2.2.2.1
  · exact (Ea _ _ (by omega)).trans a10
  · rw [al]; intro x hx; cases hx
  · rw [al]; exact List.nodup_nil
  · rw [y0 _ (by omega), ix0] at hf; exact absurd hf (by omega)
  · rw [y0 _ (by omega), ix0] at hf; exact absurd hf (by omega)
  · rw [y0 _ (by omega), ix0] at hf; exact absurd hf (by omega)
  · rw [y0 _ (by omega), ix0] at hk; exact absurd hk (by omega)
  · unfold RXn
    rw [al, y0 _ (by omega), y0 _ (by omega), y0 _ (by omega), ix0]
    exact ⟨rfl, rfl, by simp⟩
theorem law_ctor : ∀ (xs : Nat → Int32) (L : Nat), L ≤ 3072 → ∃ h, RL xs L h ∧ pX 1200 0 [.ref 1, .retAddr 0, .retAddr 0, .retAddr 0] [] (h00 xs L) = pX 1200 18 [.ref 1, .ref 4, .ref 244, .int (nI 0)] [] h := by
  intro xs L _
  obtain ⟨F, c, e⟩ := lawI xs L
  have c1 := c.1
  have i1 := c.2.2.1.2.2.2.2.2.2.1
  have i2 := c.2.2.1.2.2.2.2.2.2.2
  have Ei : ∀ y j, y < 244 → hp_i (mdH (hp_mk F 12 0 49)) y j = hp_i F y j := fun y j hy => by
    rw [md_i, if_neg (by omega), if_neg (by omega), if_neg (by omega), if_neg (by omega), if_neg (by omega), if_neg (by omega), if_neg (by omega), hp_i_mk, c1, if_neg (by omega)]
  exact ⟨_, ⟨FX_md c, fun j => (Ei _ _ (by omega)).trans (i1 j), fun j => ⟨(Ei _ _ (by omega)).trans (i2 j).1, (Ei _ _ (by omega)).trans (i2 j).2⟩, FI_md c, RG_md c1, RH_md c1, RX_md c⟩, e⟩
theorem law_room : ∀ (xs : Nat → Int32) (L : Nat) (h : HP), RL xs L h → hp_n h ≤ 600004 ∧ hp_s h ≤ 7302250 := by
  intro xs L h w
  have g := w.g
  obtain ⟨ca, ra, hs, sp, _, _, _, _, _, r1, r2, r3⟩ := w.2.2.2.2.2.2
  have hsum := g.2.2.2.2.2.2.2.2.2.2.2.2.1
  rw [mG_at (by unfold freeS; omega), mG_at (by unfold freeS; omega), mG_at (by unfold freeS; omega), mG_at (by unfold freeS; omega)] at hsum
  rw [mS_at (by unfold depS; omega), mS_at (by unfold depS; omega)] at r1
  rw [mS_at (by unfold depS; omega), mS_at (by unfold depS; omega), mS_at (by unfold depS; omega)] at r2
  omega
