/-! THE BEGINNING -/
theorem RH_md {F : HP} (c1 : hp_n F = 244) : RH (hp_i (mdH (hp_mk F 12 0 49))) := by
  show RHc _
  have z : ∀ y j, 244 ≤ y → y < 276 → ¬ (y = 244 ∧ j = 38) → y ≠ 251 → mH (hp_i (mdH (hp_mk F 12 0 49))) y j = 0 := by
    intro y j h1 h2 h3 h4
    unfold mH
    split
    · exact Mz c1 h1 h2 h3 h4
    · rfl
  have z38 : mH (hp_i (mdH (hp_mk F 12 0 49))) 244 38 = nI 6000 := by
    unfold mH
    rw [if_pos (by unfold depH; omega), Mi c1 (by omega) (by omega), if_pos ⟨rfl, rfl⟩]; rfl
  generalize mH (hp_i (mdH (hp_mk F 12 0 49))) = s at z z38
  have y0 : ∀ j, j ≠ 38 → s 244 j = 0 := fun j hj => z _ _ (by omega) (by omega) (fun q => hj q.2) (by omega)
  have yb : ∀ b j, 245 ≤ b → b < 276 → b ≠ 251 → s b j = 0 := fun b j h1 h2 h3 => z _ _ (by omega) h2 (by omega) h3
  have y6 : ix (s 244 38) = 6000 := by rw [z38]; exact ix_nI (by omega)
  refine ⟨0, ?_, fun f k hf hk => ⟨0, yb _ _ (by omega) (by omega) (by omega), by omega, fun _ => rfl⟩, fun f hf => ?_, fun k hk => ?_⟩
  · rw [y6, y0 29 (by omega), ix0]
    have e : sumN (fun f => 40 - ix (s 267 f)) 0 = 0 := rfl
    omega
  · have e : sumN (fun k => ix (s 272 (6000 * f + k))) 6000 = 0 := sumN_zero (fun k hk => by rw [yb _ _ (by omega) (by omega) (by omega), ix0])
    rw [e, yb _ _ (by omega) (by omega) (by omega)]
    exact ⟨rfl, Nat.le_refl 0⟩
  · have e : sumN (fun f => ix (s 272 (6000 * f + k))) 12 = 0 := sumN_zero (fun k hk => by rw [yb _ _ (by omega) (by omega) (by omega), ix0])
    rw [e, yb _ _ (by omega) (by omega) (by omega)]
    exact ⟨rfl, Nat.le_refl 0⟩
