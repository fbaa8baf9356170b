/-! THE BEGINNING -/
theorem law_ctor : ∀ (xs : Nat → Int32) (L : Nat), L ≤ 3072 → ∃ h, RL xs L h ∧ pX 1200 0 [.ref 1, .retAddr 0, .retAddr 0, .retAddr 0] [] (h00 xs L) = pX 1200 18 [.ref 1, .ref 4, .ref 244, .int (nI 0)] [] h := by
  intro xs L _
  obtain ⟨F, c, e⟩ := lawI xs L
  have c1 := c.1
  have i1 := c.2.2.1.2.2.2.2.2.2.1
  have i2 := c.2.2.1.2.2.2.2.2.2.2
  have Ei : ∀ y j, y < 244 → hp_i (mdH (hp_mk F 12 0 49)) y j = hp_i F y j := fun y j hy => by
    rw [md_i, if_neg (by omega), if_neg (by omega), if_neg (by omega), if_neg (by omega), if_neg (by omega), if_neg (by omega), if_neg (by omega), hp_i_mk, c1, if_neg (by omega)]
  exact ⟨_, ⟨FX_md c, fun j => (Ei _ _ (by omega)).trans (i1 j), fun j => ⟨(Ei _ _ (by omega)).trans (i2 j).1, (Ei _ _ (by omega)).trans (i2 j).2⟩, FI_md c, RG_md c1, RH_md c1, RX_md c⟩, e⟩
theorem law_room : ∀ (xs : Nat → Int32) (L : Nat) (h : HP), RL xs L h → hp_n h ≤ 600004 ∧ hp_s h ≤ 7302250 := by
  intro xs L h w
  have g := w.g
  obtain ⟨ca, ra, hs, sp, _, _, _, _, _, r1, r2, r3⟩ := w.2.2.2.2.2.2
  have hsum := g.2.2.2.2.2.2.2.2.2.2.2.2.1
  rw [mG_at (by unfold freeS; omega), mG_at (by unfold freeS; omega), mG_at (by unfold freeS; omega), mG_at (by unfold freeS; omega)] at hsum
  rw [mS_at (by unfold depS; omega), mS_at (by unfold depS; omega)] at r1
  rw [mS_at (by unfold depS; omega), mS_at (by unfold depS; omega), mS_at (by unfold depS; omega)] at r2
  omega
