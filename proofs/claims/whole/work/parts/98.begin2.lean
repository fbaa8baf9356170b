/-! THE BEGINNING: the relation holds; the bound of the room -/
theorem Mi {F : HP} (c1 : hp_n F = 244) {y j : Nat} (h1 : 244 ≤ y) (h2 : y < 276) : hp_i (mdH (hp_mk F 12 0 49)) y j = if y = 244 ∧ j = 38 then 6000 else if y = 251 ∧ j < 5 then 1 else 0 := by
  rw [md_i, hp_i_mk, c1]
  by_cases p : y = 244 ∧ j = 38
  · rw [if_pos p, if_pos p]
  · rw [if_neg p, if_neg p]
    by_cases q : y = 251 ∧ j < 5
    · rw [if_pos q]
      have : j = 0 ∨ j = 1 ∨ j = 2 ∨ j = 3 ∨ j = 4 := by omega
      rcases this with z | z | z | z | z <;> simp [q.1, z]
    · rw [if_neg q, if_neg (by omega), if_neg (by omega), if_neg (by omega), if_neg (by omega), if_neg (by omega)]
      by_cases z : 245 ≤ y ∧ y < 276
      · rw [if_pos z]
      · rw [if_neg z, if_pos (by omega)]
theorem Mz {F : HP} (c1 : hp_n F = 244) {y j : Nat} (h1 : 244 ≤ y) (h2 : y < 276) (h3 : ¬ (y = 244 ∧ j = 38)) (h4 : y ≠ 251) : hp_i (mdH (hp_mk F 12 0 49)) y j = 0 := by
  rw [Mi c1 h1 h2, if_neg h3, if_neg (fun q => h4 q.1)]
theorem FI_md {xs : Nat → Int32} {L : Nat} {F : HP} (c : CF xs L F) : FI (mdH (hp_mk F 12 0 49)) (hp_i (mdH (hp_mk F 12 0 49))) := by
  obtain ⟨c1, c2, ⟨k1, k2, k3, l1, l2, l3, i1, i2⟩, ⟨k4, a4_0, a4_1, a4_2⟩, ⟨⟨k5, a5_0, a5_2, a5_3, a5_4, a5_5, a5_6, a5_8, a5_10, i5⟩, ⟨k6, l6, k7, a7_0, a7_1, i7, k8, l8, i8⟩, ⟨k9, l9, i9, k10, a10, k11, l11, i11, k12, l12, i12⟩, ⟨k13, l13, k14, i140, i141, a142, a143, k15, l15, i15⟩, mb, fb⟩, ⟨k238, a238_0, k239, l239, k240, l240⟩, sl⟩ := c
  have Ei : ∀ y j, y < 244 → hp_i (mdH (hp_mk F 12 0 49)) y j = hp_i F y j := fun y j hy => by
    rw [md_i, if_neg (by omega), if_neg (by omega), if_neg (by omega), if_neg (by omega), if_neg (by omega), if_neg (by omega), if_neg (by omega), hp_i_mk, c1, if_neg (by omega)]
  intro a k b j e
  rcases e with ⟨rfl, rfl, rfl, rfl⟩ | ⟨rfl, rfl, rfl, rfl⟩ | ⟨rfl, rfl, rfl, rfl⟩ | ⟨t, h0, h1, rfl, rfl, rfl, rfl⟩ | ⟨rfl, rfl, rfl, rfl⟩ | ⟨rfl, rfl, rfl, rfl⟩ | ⟨q, h0, rfl, rfl, rfl, rfl⟩ | ⟨q, h0, rfl, rfl, rfl, rfl⟩ | ⟨q, h0, rfl, rfl, rfl, rfl⟩ | ⟨q, h0, rfl, rfl, rfl, rfl⟩ | ⟨q, h0, rfl, rfl, rfl, rfl⟩ | ⟨i, h0, rfl, rfl, rfl, rfl⟩ | ⟨i, h0, rfl, rfl, rfl, rfl⟩ | ⟨i, h0, rfl, rfl, rfl, rfl⟩ | ⟨i, h0, rfl, rfl, rfl, rfl⟩ | ⟨i, r, q, h0, h1, h2, rfl, rfl, rfl, rfl⟩ | ⟨i, r, q, h0, h1, h2, rfl, rfl, rfl, rfl⟩ | ⟨f, h0, rfl, rfl, rfl, rfl⟩ | ⟨f, h0, rfl, rfl, rfl, rfl⟩
  · rw [Ei _ _ (by omega), i5, Mz c1 (by omega) (by omega) (by omega) (by omega)]
  · rw [Ei _ _ (by omega), i5, Mz c1 (by omega) (by omega) (by omega) (by omega)]
  · rw [Ei _ _ (by omega), i5, Mz c1 (by omega) (by omega) (by omega) (by omega)]
  · rw [Ei _ _ (by omega), i5, Mz c1 (by omega) (by omega) (by omega) (by omega)]
  · rw [Ei _ _ (by omega), i7, if_neg (by omega), Mz c1 (by omega) (by omega) (by omega) (by omega)]
  · rw [Ei _ _ (by omega), i7, if_pos rfl, Mi c1 (by omega) (by omega), if_pos ⟨rfl, rfl⟩]
  · rw [Ei _ _ (by omega), i8 _ h0, Mi c1 (by omega) (by omega), if_neg (by omega), if_pos ⟨rfl, h0⟩]
  · rw [Ei _ _ (by omega), i9, Mz c1 (by omega) (by omega) (by omega) (by omega)]
  · rw [Ei _ _ (by omega), i11, Mz c1 (by omega) (by omega) (by omega) (by omega)]
  · rw [Ei _ _ (by omega), i12, Mz c1 (by omega) (by omega) (by omega) (by omega)]
  · rw [Ei _ _ (by omega), i15, Mz c1 (by omega) (by omega) (by omega) (by omega)]
  · rw [Ei _ _ (by omega), (show hp_i F (16 + 9 * j) 0 = 0 from (mb j h0).2.2.2.2.2.2.2 0 0 (by omega)), Mz c1 (by omega) (by omega) (by omega) (by omega)]
  · rw [Ei _ _ (by omega), (show hp_i F (16 + 9 * j) 1 = 0 from (mb j h0).2.2.2.2.2.2.2 0 1 (by omega)), Mz c1 (by omega) (by omega) (by omega) (by omega)]
  · rw [Ei _ _ (by omega), (show hp_i F (16 + 9 * j) 2 = 0 from (mb j h0).2.2.2.2.2.2.2 0 2 (by omega)), Mz c1 (by omega) (by omega) (by omega) (by omega)]
  · rw [Ei _ _ (by omega), (show hp_i F (16 + 9 * j) 7 = 0 from (mb j h0).2.2.2.2.2.2.2 0 7 (by omega)), Mz c1 (by omega) (by omega) (by omega) (by omega)]
  · rw [Ei _ _ (by omega), show 17 + 9 * i + r = 16 + 9 * i + (r + 1) by omega, (mb i h0).2.2.2.2.2.2.2 (r + 1) _ (by omega), Mz c1 (by omega) (by omega) (by omega) (by omega)]
  · rw [Ei _ _ (by omega), show 21 + 9 * i + r = 16 + 9 * i + (r + 5) by omega, (mb i h0).2.2.2.2.2.2.2 (r + 5) _ (by omega), Mz c1 (by omega) (by omega) (by omega) (by omega)]
  · rw [Ei _ _ (by omega), (fb j h0).2.2.2.2.2.2.2.2.2.2, Mz c1 (by omega) (by omega) (by omega) (by omega)]
  · rw [Ei _ _ (by omega), (fb j h0).2.2.2.2.2.2.2.2.2.2, Mz c1 (by omega) (by omega) (by omega) (by omega)]
theorem nb0 {B : Nat} : nb 0 B := ⟨0, rfl, Nat.zero_le B⟩
theorem ix0 : ix (0 : Int32) = 0 := ix_nI (n := 0) (by omega)
theorem RG_md {F : HP} (c1 : hp_n F = 244) : RG (hp_i (mdH (hp_mk F 12 0 49))) := by
  show RGc _
  have z : ∀ y j, 244 ≤ y → y < 276 → ¬ (y = 244 ∧ j = 38) → y ≠ 251 → mG (hp_i (mdH (hp_mk F 12 0 49))) y j = 0 := by
    intro y j h1 h2 h3 h4
    unfold mG
    split
    · rfl
    · exact Mz c1 h1 h2 h3 h4
  have z38 : mG (hp_i (mdH (hp_mk F 12 0 49))) 244 38 = nI 6000 := by rw [mG_at (by unfold freeS; omega), Mi c1 (by omega) (by omega), if_pos ⟨rfl, rfl⟩]; rfl
  have zp : ∀ k, k < 5 → mG (hp_i (mdH (hp_mk F 12 0 49))) 251 k = nI 1 := fun k hk => by rw [mG_at (by unfold freeS; omega), Mi c1 (by omega) (by omega), if_neg (by omega), if_pos ⟨rfl, hk⟩]; rfl
  generalize mG (hp_i (mdH (hp_mk F 12 0 49))) = s at z z38 zp
  have y0 : ∀ j, j ≠ 38 → s 244 j = 0 := fun j hj => z _ _ (by omega) (by omega) (fun q => hj q.2) (by omega)
  have yb : ∀ b j, 245 ≤ b → b < 276 → b ≠ 251 → s b j = 0 := fun b j h1 h2 h3 => z _ _ (by omega) h2 (by omega) h3
  have y6 : ix (s 244 38) = 6000 := by rw [z38]; exact ix_nI (by omega)
  unfold RGc
  refine ⟨?_, fun i hi => ⟨?_, ?_, ?_⟩, fun i j hi hj => ?_, fun i j hi hj => ?_, fun k hk => ⟨1, zp k hk, by omega, by omega⟩, ?_, ?_, ⟨6000, z38, by omega⟩, ?_, ?_, ?_, ?_, ?_, fun f hf => ?_, fun f _ hf => ?_, fun hf => ?_, ?_, fun f hf => ⟨?_, ?_⟩⟩
  · rw [y0 _ (by omega)]; exact nb0
  · rw [yb _ _ (by omega) (by omega) (by omega)]; exact nb0
  · rw [yb _ _ (by omega) (by omega) (by omega)]; exact nb0
  · rw [yb _ _ (by omega) (by omega) (by omega)]; exact nb0
  · rw [yb _ _ (by omega) (by omega) (by omega), ix0] at hj; exact absurd hj (by omega)
  · rw [yb _ _ (by omega) (by omega) (by omega), ix0] at hj; exact absurd hj (by omega)
  · rw [y0 _ (by omega)]; exact nb0
  · rw [y0 _ (by omega)]; exact nb0
  · rw [y0 _ (by omega)]; exact nb0
  · rw [y0 _ (by omega)]; exact nb0
  · rw [y0 _ (by omega)]; exact nb0
  · rw [y0 _ (by omega)]; exact nb0
  · rw [y6, y0 _ (by omega), y0 _ (by omega), y0 _ (by omega), ix0]; omega
  · rw [y0 _ (by omega), ix0] at hf; exact absurd hf (by omega)
  · rw [y0 _ (by omega), ix0] at hf; exact absurd hf (by omega)
  · rw [y0 _ (by omega), ix0] at hf; exact absurd hf (by omega)
  · rw [y0 _ (by omega), y0 _ (by omega)]; rfl
  · exact yb _ _ (by omega) (by omega) (by omega)
  · exact yb _ _ (by omega) (by omega) (by omega)
