/-! THE BEGINNING -/
theorem RX_md {xs : Nat → Int32} {L : Nat} {F : HP} (c : CF xs L F) : RX (mdH (hp_mk F 12 0 49)) (hp_i (mdH (hp_mk F 12 0 49))) := by
  obtain ⟨c1, c2, _, _, ⟨_, _, ⟨k9, l9, i9, k10, a10, _⟩, ⟨k13, l13, k14, i140, i141, a142, a143, k15, l15, i15⟩, mb, fb⟩, _, sl⟩ := c
  have Ea : ∀ y j, y < 244 → hp_a (mdH (hp_mk F 12 0 49)) y j = hp_a F y j := fun y j hy => by rw [md_a, if_neg (by omega), if_neg (by omega), hp_a_mk, c1, if_neg (by omega)]
  have Ei : ∀ y j, y < 244 → hp_i (mdH (hp_mk F 12 0 49)) y j = hp_i F y j := fun y j hy => by
    rw [md_i, if_neg (by omega), if_neg (by omega), if_neg (by omega), if_neg (by omega), if_neg (by omega), if_neg (by omega), if_neg (by omega), hp_i_mk, c1, if_neg (by omega)]
  have z : ∀ y j, 244 ≤ y → y < 276 → ¬ (y = 244 ∧ j = 38) → y ≠ 251 → mS (hp_i (mdH (hp_mk F 12 0 49))) y j = 0 := by
    intro y j h1 h2 h3 h4
    unfold mS
    split
    · exact Mz c1 h1 h2 h3 h4
    · rfl
  have en := md_n (h := hp_mk F 12 0 49) (by rw [hp_n_mk, c1])
  have es : hp_s (mdH (hp_mk F 12 0 49)) = 131176 := by rw [md_s, hp_s_mk, c2]
  have m0 : mI (hp_i (mdH (hp_mk F 12 0 49))) 14 0 = -5 := by rw [mI_at (by unfold dynI; omega), Ei _ _ (by omega), i140]
  have m1 : mI (hp_i (mdH (hp_mk F 12 0 49))) 14 1 = 0 := by rw [mI_at (by unfold dynI; omega), Ei _ _ (by omega), i141]
  have n0 : ∀ k, k < 3 → mI (hp_i (mdH (hp_mk F 12 0 49))) (241 + k) 0 = -5 := fun k hk => by rw [mI_at (by unfold dynI; omega), Ei _ _ (by omega), (sl k hk).2.2.1]
  have n1 : ∀ k, k < 3 → mI (hp_i (mdH (hp_mk F 12 0 49))) (241 + k) 1 = 0 := fun k hk => by rw [mI_at (by unfold dynI; omega), Ei _ _ (by omega), (sl k hk).2.2.2.1]
  show RXa _ _ _ _ _ _ _
  rw [en, es]
  generalize hs : mS (hp_i (mdH (hp_mk F 12 0 49))) = s at z
  have y0 : ∀ j, j ≠ 38 → s 244 j = 0 := fun j hj => z _ _ (by omega) (by omega) (fun q => hj q.2) (by omega)
  have yb : ∀ b j, 245 ≤ b → b < 276 → b ≠ 251 → s b j = 0 := fun b j h1 h2 h3 => z _ _ (by omega) h2 (by omega) h3
  have al : allH (fun _ => []) [] = [] := by
    unfold allH
    simp
  refine ⟨fun _ => 0, fun _ => 0, fun _ => [], [], ⟨?_, fun k hk => ?_⟩, fun f hf => ?_, ⟨fun k hk => ?_, fun k k' hk => ?_, fun k _ => ⟨?_, ?_, ?_⟩⟩, ⟨fun k hk => ?_, fun k k' hk => ?_, fun k k' _ hk => ?_, fun j _ => ?_⟩, ⟨fun f hf => ?_, fun _ _ => rfl, ?_, ?_, ?_, fun f hf => ?_, fun f hf => ?_, fun f k hf => ?_, fun k hk => ?_⟩, ?_⟩
  · rw [y0 _ (by omega), y0 _ (by omega)]
    exact ⟨m0, m1, (Ea _ _ (by omega)).trans a142, (Ea _ _ (by omega)).trans a143, Or.inl rfl⟩
  · rw [yb _ _ (by omega) (by omega) (by omega), yb _ _ (by omega) (by omega) (by omega)]
    exact ⟨n0 k hk, n1 k hk, (Ea _ _ (by omega)).trans (sl k hk).2.2.2.2.1, (Ea _ _ (by omega)).trans (sl k hk).2.2.2.2.2, Or.inl rfl⟩
  · rw [y0 _ (by omega), ix0] at hf; exact absurd hf (by omega)
  · rw [y0 _ (by omega), ix0] at hk; exact absurd hk (by omega)
  · rw [y0 _ (by omega), ix0] at hk; exact absurd hk (by omega)
  · exact yb _ _ (by omega) (by omega) (by omega)
  · exact yb _ _ (by omega) (by omega) (by omega)
  · exact yb _ _ (by omega) (by omega) (by omega)
  · rw [y0 _ (by omega), ix0] at hk; exact absurd hk (by omega)
  · rw [y0 _ (by omega), ix0] at hk; exact absurd hk (by omega)
  · rw [y0 _ (by omega), ix0] at hk; exact absurd hk (by omega)
  · exact yb _ _ (by omega) (by omega) (by omega)
  · exact (Ea _ _ (by omega)).trans (fb f hf).2.2.2.2.2.2.2.2.2.1
  · exact (Ea _ _ (by omega)).trans a10
  · rw [al]; intro x hx; cases hx
  · rw [al]; exact List.nodup_nil
  · rw [y0 _ (by omega), ix0] at hf; exact absurd hf (by omega)
  · rw [y0 _ (by omega), ix0] at hf; exact absurd hf (by omega)
  · rw [y0 _ (by omega), ix0] at hf; exact absurd hf (by omega)
  · rw [y0 _ (by omega), ix0] at hk; exact absurd hk (by omega)
  · unfold RXn
    rw [al, y0 _ (by omega), y0 _ (by omega), y0 _ (by omega), ix0]
    exact ⟨by simp, by simp, by simp⟩
