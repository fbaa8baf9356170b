/-! THE MOVING PART: holds -/
theorem nd_le : ∀ (n : Nat) (l : List Nat), l.Nodup → (∀ x ∈ l, x < n) → l.length ≤ n
  | 0, l, _, h => by
    cases l with
    | nil => exact Nat.le_refl _
    | cons x xs => exact absurd (h x (List.mem_cons_self ..)) (by omega)
  | n + 1, l, hd, h => by
    have e1 : (l.erase n).Nodup := hd.erase n
    have e2 : ∀ x ∈ l.erase n, x < n := by
      intro x hx
      have a1 := h x (List.mem_of_mem_erase hx)
      have a2 : x ≠ n := by
        intro e
        rw [e] at hx
        exact (List.Nodup.not_mem_erase hd) hx
      omega
    have e3 := nd_le n (l.erase n) e1 e2
    have e4 : l.length ≤ (l.erase n).length + 1 := by
      by_cases q : n ∈ l
      · rw [List.length_erase_of_mem q]
        omega
      · rw [List.erase_of_not_mem q]
        omega
    omega
/-- a list whose members have each a cell of their own -/
theorem nd_map {P : Nat → Nat → Nat} {ca : Nat → Nat} {C : Nat} {l : List Nat} (hd : l.Nodup) (hc : ∀ x ∈ l, ∃ k, k < C ∧ P x 0 = ca k) (hu : ∀ x ∈ l, ∀ y ∈ l, P x 0 = P y 0 → x = y) : l.length ≤ C := by
  have ch : ∀ x, ∃ k, x ∈ l → k < C ∧ P x 0 = ca k := by
    intro x
    by_cases q : x ∈ l
    · obtain ⟨k, hk⟩ := hc x q
      exact ⟨k, fun _ => hk⟩
    · exact ⟨0, fun z => absurd z q⟩
  let g : Nat → Nat := fun x => Classical.choose (ch x)
  have hg : ∀ x, x ∈ l → g x < C ∧ P x 0 = ca (g x) := fun x => Classical.choose_spec (ch x)
  have e1 : (l.map g).Nodup := by
    have : ∀ (m : List Nat), m.Nodup → (∀ x ∈ m, x ∈ l) → (m.map g).Nodup := by
      intro m
      induction m with
      | nil => intro _ _; exact List.nodup_nil
      | cons y ys ih =>
        intro h1 h2
        rw [List.map_cons, List.nodup_cons]
        rw [List.nodup_cons] at h1
        refine ⟨?_, ih h1.2 (fun x hx => h2 x (List.mem_cons_of_mem _ hx))⟩
        intro hm
        obtain ⟨z, hz, e⟩ := List.mem_map.mp hm
        have a1 := hg y (h2 y (List.mem_cons_self ..))
        have a2 := hg z (h2 z (List.mem_cons_of_mem _ hz))
        have : z = y := hu z (h2 z (List.mem_cons_of_mem _ hz)) y (h2 y (List.mem_cons_self ..)) (by rw [a2.2, a1.2, e])
        rw [this] at hz
        exact h1.1 hz
    exact this l hd (fun x hx => hx)
  have := nd_le C (l.map g) e1 (by
    intro x hx
    obtain ⟨z, hz, e⟩ := List.mem_map.mp hx
    rw [← e]
    exact (hg z hz).1)
  rw [List.length_map] at this
  exact this
theorem flat_add {hs : Nat → List Nat} {f x : Nat} : ∀ (l : List Nat), l.Nodup → f ∈ l → (l.flatMap (fun g => if g = f then x :: hs f else hs g)).Perm (x :: l.flatMap hs)
  | [], _, h => by cases h
  | g :: l, hd, h => by
    rw [List.nodup_cons] at hd
    rw [List.flatMap_cons, List.flatMap_cons]
    by_cases q : g = f
    · subst q
      have e : l.flatMap (fun g' => if g' = g then x :: hs g else hs g') = l.flatMap hs := by
        rw [List.flatMap_def, List.flatMap_def]
        congr 1
        exact List.map_congr_left (fun y hy => if_neg (fun (e : y = g) => hd.1 (by rw [← e]; exact hy)))
      rw [if_pos rfl, e]
      exact List.Perm.refl _
    · rw [if_neg q]
      have ih := flat_add (hs := hs) (x := x) l hd.2 (by
        rcases List.mem_cons.mp h with e | e
        · exact absurd e.symm q
        · exact e)
      exact (ih.append_left (hs g)).trans List.perm_middle
theorem flat_pop {hs : Nat → List Nat} {f : Nat} : ∀ (l : List Nat), l.Nodup → f ∈ l → (l.flatMap hs).Perm (hs f ++ l.flatMap (fun g => if g = f then [] else hs g))
  | [], _, h => by cases h
  | g :: l, hd, h => by
    rw [List.nodup_cons] at hd
    rw [List.flatMap_cons, List.flatMap_cons]
    by_cases q : g = f
    · subst q
      have e : l.flatMap (fun g' => if g' = g then [] else hs g') = l.flatMap hs := by
        rw [List.flatMap_def, List.flatMap_def]
        congr 1
        exact List.map_congr_left (fun y hy => if_neg (fun (e : y = g) => hd.1 (by rw [← e]; exact hy)))
      rw [if_pos rfl, e, List.nil_append]
    · rw [if_neg q]
      have ih := flat_pop (hs := hs) l hd.2 (by
        rcases List.mem_cons.mp h with e | e
        · exact absurd e.symm q
        · exact e)
      refine (ih.append_left (hs g)).trans ?_
      rw [← List.append_assoc, ← List.append_assoc]
      exact List.Perm.append_right _ List.perm_append_comm
theorem allH_add {hs : Nat → List Nat} {sp : List Nat} {f x : Nat} (hf : f < 12) : (allH (fun g => if g = f then x :: hs f else hs g) sp).Perm (x :: allH hs sp) := by
  unfold allH
  exact (flat_add _ List.nodup_range (List.mem_range.mpr hf)).append_right sp
theorem allH_pop {hs : Nat → List Nat} {sp : List Nat} {f : Nat} (hf : f < 12) : (allH (fun g => if g = f then [] else hs g) ((hs f).reverse ++ sp)).Perm (allH hs sp) := by
  unfold allH
  have e1 := (flat_pop (hs := hs) (List.range 12) List.nodup_range (List.mem_range.mpr hf)).append_right sp
  refine List.Perm.trans ?_ e1.symm
  rw [List.append_assoc]
  refine List.Perm.trans ?_ ((((List.reverse_perm (hs f)).append_right _)))
  rw [← List.append_assoc, ← List.append_assoc]
  exact List.Perm.append_right _ List.perm_append_comm
section
variable {n n' s s' : Nat} {K K' Ln Ln' : Nat → Nat} {P P' : Nat → Nat → Nat} {I I' S S' : SM} {ca ra : Nat → Nat} {hs : Nat → List Nat} {sp sp' : List Nat}
/-- what the moving part does not read -/
theorem RXo.irr (w : RXo n s K Ln P I S ca ra hs sp) (hS : ∀ p q, ¬ p = 261 → ¬ p = 268 → ¬ p = 271 → S' p q = S p q) (k14 : K 14 = 9) (ka : ∀ k, k < 3 → K (241 + k) = 9) (kg : ∀ f, f < 12 → K (108 + 11 * f) = 9) (kr : ∀ f k, f < 12 → k < 8 → K (109 + 11 * f + k) = 9) (kf : ∀ f, f < 12 → K (106 + 11 * f) = 2) (k10 : K 10 = 6) (hn : 276 ≤ n) (hF : ix (S 244 29) ≤ 12) : RXo n s K Ln P I S' ca ra hs sp := by
  obtain ⟨w1, w2, w3, w4, w5, w6⟩ := w
  have e : EXT S ca ra S' ca ra := EXT.same (hS _ _ (by omega) (by omega) (by omega)) (hS _ _ (by omega) (by omega) (by omega)) (fun q => hS _ _ (by omega) (by omega) (by omega)) (fun q => hS _ _ (by omega) (by omega) (by omega))
  have hsl : slk n K P P I I := fun x _ _ => ⟨rfl, rfl, rfl, rfl⟩
  refine ⟨w1.congr e hn hsl k14 ka (fun p q h => hS p q (by omega) (by omega) (by omega)), w2.congr e hn hF hsl kg kr (fun f hf => ⟨rfl, rfl⟩) (fun p q h => hS p q (by omega) (by omega) (by omega)), w3.congr e (Nat.le_refl _) (fun _ _ => rfl) hsl (fun _ _ _ => ⟨rfl, rfl, rfl⟩) (fun p q h => hS p q (by omega) (by omega) (by omega)), w4.congr (Nat.le_refl _) (fun _ _ => ⟨rfl, rfl⟩) (fun _ _ _ _ => rfl) (fun _ _ _ _ => rfl) (fun p q h => hS p q (by omega) (by omega) (by omega)), w5.congr hF (fun k hk => ⟨(w3.1 k hk).2.2.1, by have := (w3.1 k hk).2.1; omega⟩) (Nat.le_refl _) hn (fun _ _ => rfl) kf k10 (fun _ _ _ _ => rfl) (fun _ _ _ _ => rfl) (fun p q h => hS p q (by omega) (by omega) (by omega)), ?_⟩
  unfold RXn
  rw [hS _ _ (by omega) (by omega) (by omega), hS _ _ (by omega) (by omega) (by omega), hS _ _ (by omega) (by omega) (by omega)]
  exact w6
/-- how often a hold holds -/
theorem RXo.times {x f k : Nat} {V : Int32} (w : RXo n s K Ln P I S ca ra hs sp) (hf : f < ix (S 244 29)) (hx : x ∈ hs f) (hk : k < ix (S 244 17)) (hC : ix (S 244 17) ≤ 6000) (hxk : P x 0 = ca k) (k14 : K 14 = 9) (ka : ∀ k, k < 3 → K (241 + k) = 9) (kg : ∀ f, f < 12 → K (108 + 11 * f) = 9) (kr : ∀ f k, f < 12 → k < 8 → K (109 + 11 * f + k) = 9) (kf : ∀ f, f < 12 → K (106 + 11 * f) = 2) (hn : 276 ≤ n) (hF : ix (S 244 29) ≤ 12) : RXo n s K Ln P (hp_u I x 2 V) (hp_u S 272 (6000 * f + k) V) ca ra hs sp := by
  obtain ⟨w1, w2, w3, w4, w5, w6⟩ := w
  obtain ⟨h1, h2, h3, h4, h5, h6, h7, h8, h9⟩ := w5
  have kx := (h4 x (allH_mem (by omega) hx)).2.2
  have hS : ∀ p q, ¬ p = 272 → hp_u S 272 (6000 * f + k) V p q = S p q := fun p q h => hu_cell h
  have hI : ∀ y q, ¬ K y = 3 → hp_u I x 2 V y q = I y q := fun y q h => hu_cell (fun e => h (by rw [e]; exact kx))
  have e : EXT S ca ra (hp_u S 272 (6000 * f + k) V) ca ra := EXT.same (hS _ _ (by omega)) (hS _ _ (by omega)) (fun q => hS _ _ (by omega)) (fun q => hS _ _ (by omega))
  have hsl : slk n K P P I (hp_u I x 2 V) := fun y _ h => ⟨rfl, rfl, hI _ _ (by omega), hI _ _ (by omega)⟩
  refine ⟨w1.congr e hn hsl k14 ka (fun p q h => hS p q (by omega)), w2.congr e hn hF hsl kg kr (fun f hf => ⟨rfl, hI _ _ (by rw [kf f hf]; omega)⟩) (fun p q h => hS p q (by omega)), w3.congr e (Nat.le_refl _) (fun _ _ => rfl) hsl (fun y _ h => ⟨hI _ _ (by omega), hI _ _ (by omega), rfl⟩) (fun p q h => hS p q (by omega)), w4.congr (Nat.le_refl _) (fun _ _ => ⟨rfl, rfl⟩) (fun _ _ _ _ => rfl) (fun y q _ h => hI y q (by omega)) (fun p q h => hS p q (by omega)), ⟨h1, ?_, h3, h4, h5, fun g hg y hy => ?_, ?_, fun g k' hg hk' hne => ?_, ?_⟩, ?_⟩
  · rw [hS _ _ (by omega)]; exact h2
  · rw [hS _ _ (by omega)] at hg
    obtain ⟨z1, k', z2, z3, z4, z5⟩ := h6 g hg y hy
    refine ⟨z1, k', by rw [hS _ _ (by omega)]; exact z2, z3, ?_, z5⟩
    by_cases q : y = x
    · subst q
      have gf : g = f := by
        obtain ⟨u1, _⟩ := h6 f hf y hx
        omega
      subst gf
      have kk : k' = k := w3.2.1 k' k z2 hk (z3.symm.trans hxk)
      rw [kk, hu_same, hu_same]
    · rw [hu_cell q, hu_idx]
      · exact z4
      · intro e
        have gf : g = f := by omega
        subst gf
        have kk : k' = k := by omega
        subst kk
        exact q (h7 g hg y hy x hx (z3.trans hxk.symm))
  · rw [hS _ _ (by omega)]; exact h7
  · rw [hS _ _ (by omega)] at hg
    rw [hS _ _ (by omega)] at hk'
    by_cases q : 6000 * g + k' = 6000 * f + k
    · have gf : g = f := by omega
      subst gf
      have kk : k' = k := by omega
      subst kk
      exact ⟨x, hx, hxk⟩
    · rw [hu_idx q] at hne
      exact h8 g k' hg hk' hne
  · rw [hS _ _ (by omega), hS _ _ (by omega)]; exact h9
  · unfold RXn
    rw [hS _ _ (by omega), hS _ _ (by omega), hS _ _ (by omega)]
    exact w6
/-- a new hold of the latest frame -/
theorem RXo.addHold {x f k : Nat} (w : RXo n s K Ln P I S ca ra hs sp) (hf : ix (S 244 29) = f + 1) (hk : k < ix (S 244 17)) (hno : ∀ y ∈ hs f, ¬ P y 0 = ca k) (hz : S 272 (6000 * f + k) = 0)
    (hnn : n ≤ n') (hx1 : 276 ≤ x ∧ x < n') (hx0 : x ∉ allH hs sp') (hm : ∀ y ∈ allH hs sp', y ∈ allH hs sp) (hnd : (allH hs sp').Nodup) (hxn : n ≤ x ∨ K x = 3) (hch : chn P' (P' 10 0) sp')
    (hK : ∀ y, y < n → K' y = K y ∧ Ln' y = Ln y) (hKx : K' x = 3) (hI : ∀ y q, ¬ y = x → I' y q = I y q) (hIx : I' x 2 = 0) (hP : ∀ y q, ¬ y = x → ¬ (y = ca k ∧ q = 3) → ¬ (y = 106 + 11 * f ∧ q = 5) → ¬ (y = 10 ∧ q = 0) → P' y q = P y q) (p0 : P' x 0 = ca k) (p1 : P' x 1 = 106 + 11 * f) (p3 : P' x 3 = P (ca k) 3) (p4 : P' x 4 = P (106 + 11 * f) 5) (pc : P' (ca k) 3 = x) (pf : P' (106 + 11 * f) 5 = x)
    (hn' : n' = 276 + 2 * ix (S 244 17) + 3 * ix (S 244 23) + ((allH hs sp').length + 1)) (hs' : s' = 131176 + 8 * ix (S 244 17) + 4 * ix (S 244 23) + ix (S 244 28) + 5 * ((allH hs sp').length + 1)) (hle : (allH hs sp').length + 1 ≤ 72000)
    (k14 : K 14 = 9) (ka : ∀ k, k < 3 → K (241 + k) = 9) (kg : ∀ f, f < 12 → K (108 + 11 * f) = 9) (kr : ∀ f k, f < 12 → k < 8 → K (109 + 11 * f + k) = 9) (kf : ∀ f, f < 12 → K (106 + 11 * f) = 2) (k10 : K 10 = 6) (hn : 276 ≤ n) (hF : ix (S 244 29) ≤ 12) : RXo n' s' K' Ln' P' I' S ca ra (fun g => if g = f then x :: hs f else hs g) sp' := by
  obtain ⟨w1, w2, w3, w4, w5, w6⟩ := w
  obtain ⟨h1, h2, h3, h4, h5, h6, h7, h8, h9⟩ := w5
  have perm := allH_add (hs := hs) (sp := sp') (x := x) (show f < 12 by omega)
  have hxk : ∀ y, y < n → ¬ K y = 3 → ¬ y = x := by
    intro y hy h3 e
    subst e
    rcases hxn with q | q
    · omega
    · exact h3 q
  have e : EXT S ca ra S ca ra := EXT.same rfl rfl (fun _ => rfl) (fun _ => rfl)
  obtain ⟨c1, c2, c3, c4, c5, c6, c7, c8, c9⟩ := w3.1 k hk
  have kfk := kf f (by omega)
  have ne2 : ∀ y, K y = 9 → ¬ y = 106 + 11 * f := fun y h e => by rw [e, kfk] at h; omega
  have nec : ∀ y, K y = 9 → ¬ y = ca k := fun y h e => by rw [e, c3] at h; omega
  have hsl : slk n K P P' I I' := fun y hy h => ⟨hP _ _ (hxk y hy (by omega)) (by omega) (by omega) (by omega), hP _ _ (hxk y hy (by omega)) (fun z => nec y h z.1) (by omega) (by omega), hI _ _ (hxk y hy (by omega)), hI _ _ (hxk y hy (by omega))⟩
  have hmem : ∀ g y, g < 12 → y ∈ hs g → y < n ∧ K y = 3 ∧ ¬ y = x ∧ 276 ≤ y := by
    intro g y hg hy
    have a := h4 y (allH_mem hg hy)
    exact ⟨a.2.1, a.2.2, fun e => hx0 (e ▸ allH_mem hg hy), a.1⟩
  have hP3 : ∀ y q, K y = 3 → ¬ y = x → P' y q = P y q := fun y q h3 hx => hP y q hx (fun z => by rw [z.1, c3] at h3; omega) (fun z => by rw [z.1, kfk] at h3; omega) (fun z => by rw [z.1, k10] at h3; omega)
  have hlat : ∀ c g, g ≤ f → lat P' (fun g => if g = f then x :: hs f else hs g) c g = lat P hs c g := fun c g hg => lat.congr (fun g' hg' => ⟨if_neg (by omega), fun y hy => hP3 y 0 (hmem g' y (by omega) hy).2.1 (hmem g' y (by omega) hy).2.2.1⟩)
  have hlf : lat P hs (ca k) (f + 1) = lat P hs (ca k) f := by
    have : (hs f).find? (fun y => P y 0 == ca k) = none := by
      rw [List.find?_eq_none]
      intro y hy
      simp only [beq_iff_eq]
      exact hno y hy
    conv => lhs; unfold lat
    rw [this]
  refine ⟨w1.congr e hn hsl k14 ka (fun _ _ _ => rfl), w2.congr e hn hF hsl kg kr (fun g hg => ⟨hP _ _ (hxk _ (by omega) (by rw [kf g hg]; omega)) (by omega) (by omega) (by omega), hI _ _ (hxk _ (by omega) (by rw [kf g hg]; omega))⟩) (fun _ _ _ => rfl), w3.congr e hnn (fun y hy => (hK y hy).1) hsl (fun y hy h => ⟨hI _ _ (hxk y hy (by omega)), hI _ _ (hxk y hy (by omega)), hP _ _ (hxk y hy (by omega)) (by omega) (by omega) (by omega)⟩) (fun _ _ _ => rfl), w4.congr hnn hK (fun y q hy h => hP _ _ (hxk y hy (by omega)) (fun z => by rw [z.1, c3] at h; omega) (fun z => by rw [z.1, kfk] at h; omega) (fun z => by rw [z.1, k10] at h; omega)) (fun y q hy h => hI _ _ (hxk y hy (by omega))) (fun _ _ _ => rfl), ⟨fun g hg => ?_, fun g hg => ?_, hch, fun y hy => ?_, perm.nodup_iff.mpr (List.nodup_cons.mpr ⟨hx0, hnd⟩), fun g hg y hy => ?_, fun g hg y hy y' hy' ee => ?_, fun g k' hg hk' hne => ?_, fun k' hk' => ?_⟩, ?_⟩
  · by_cases q : g = f
    · subst q
      simp only [if_true]
      refine ⟨pf, ?_⟩
      rw [p4]
      exact chn.congr (fun y hy => hP3 y 4 (hmem g y (by omega) hy).2.1 (hmem g y (by omega) hy).2.2.1) (h1 g hg)
    · simp only [if_neg q]
      rw [hP _ _ (hxk _ (by omega) (by rw [kf g hg]; omega)) (by omega) (by omega) (by omega)]
      exact chn.congr (fun y hy => hP3 y 4 (hmem g y (by omega) hy).2.1 (hmem g y (by omega) hy).2.2.1) (h1 g hg)
  · simp only [if_neg (show ¬ g = f by omega)]
    exact h2 g hg
  · rcases List.mem_cons.mp (perm.mem_iff.mp hy) with q | q
    · rw [q]; exact ⟨hx1.1, hx1.2, hKx⟩
    · obtain ⟨a1, a2, a3⟩ := h4 y (hm y q)
      exact ⟨a1, by omega, by rw [(hK y a2).1]; exact a3⟩
  · by_cases q : g = f
    · subst q
      simp only [if_true] at hy
      rcases List.mem_cons.mp hy with r | r
      · subst r
        refine ⟨p1, k, hk, p0, by rw [hIx, hz], ?_⟩
        rw [p3, h9 k hk, hf, hlf, hlat _ _ (Nat.le_refl _)]
      · obtain ⟨m1, m2, m3, m4⟩ := hmem g y (by omega) r
        obtain ⟨z1, k', z2, z3, z4, z5⟩ := h6 g hg y r
        rw [hP3 y 1 m2 m3, hP3 y 0 m2 m3, hP3 y 3 m2 m3, hI y 2 m3]
        exact ⟨z1, k', z2, z3, z4, by rw [hlat _ _ (Nat.le_refl _)]; exact z5⟩
    · simp only [if_neg q] at hy
      obtain ⟨m1, m2, m3, m4⟩ := hmem g y (by omega) hy
      obtain ⟨z1, k', z2, z3, z4, z5⟩ := h6 g hg y hy
      rw [hP3 y 1 m2 m3, hP3 y 0 m2 m3, hP3 y 3 m2 m3, hI y 2 m3]
      exact ⟨z1, k', z2, z3, z4, by rw [hlat _ _ (by omega)]; exact z5⟩
  · by_cases q : g = f
    · subst q
      simp only [if_true] at hy hy'
      rcases List.mem_cons.mp hy with r | r <;> rcases List.mem_cons.mp hy' with r' | r'
      · rw [r, r']
      · obtain ⟨m1, m2, m3, m4⟩ := hmem g y' (by omega) r'
        rw [r, p0, hP3 y' 0 m2 m3] at ee
        exact absurd ee.symm (hno y' r')
      · obtain ⟨m1, m2, m3, m4⟩ := hmem g y (by omega) r
        rw [r', p0, hP3 y 0 m2 m3] at ee
        exact absurd ee (hno y r)
      · obtain ⟨m1, m2, m3, m4⟩ := hmem g y (by omega) r
        obtain ⟨m1', m2', m3', m4'⟩ := hmem g y' (by omega) r'
        rw [hP3 y 0 m2 m3, hP3 y' 0 m2' m3'] at ee
        exact h7 g hg y r y' r' ee
    · simp only [if_neg q] at hy hy'
      obtain ⟨m1, m2, m3, m4⟩ := hmem g y (by omega) hy
      obtain ⟨m1', m2', m3', m4'⟩ := hmem g y' (by omega) hy'
      rw [hP3 y 0 m2 m3, hP3 y' 0 m2' m3'] at ee
      exact h7 g hg y hy y' hy' ee
  · obtain ⟨y, hy, e1⟩ := h8 g k' hg hk' hne
    obtain ⟨m1, m2, m3, m4⟩ := hmem g y (by omega) hy
    refine ⟨y, ?_, by rw [hP3 y 0 m2 m3]; exact e1⟩
    by_cases q : g = f
    · subst q
      simp only [if_true]
      exact List.mem_cons_of_mem _ hy
    · simp only [if_neg q]
      exact hy
  · rw [hf]
    obtain ⟨d1, d2, d3, d4, _⟩ := w3.1 k' hk'
    have step : lat P' (fun g => if g = f then x :: hs f else hs g) (ca k') (f + 1) = match (x :: hs f).find? (fun y => P' y 0 == ca k') with | some y => y | none => lat P hs (ca k') f := by
      conv => lhs; unfold lat
      simp only [if_true]
      rw [hlat _ _ (Nat.le_refl _)]
      rfl
    rw [step]
    by_cases q : k' = k
    · subst q
      rw [List.find?_cons, p0]
      simp only [beq_self_eq_true]
      exact pc
    · have nk : ¬ ca k = ca k' := fun z => q (w3.2.1 k' k hk' hk z.symm)
      rw [List.find?_cons, p0, (beq_eq_false_iff_ne).mpr nk]
      have e2 : (hs f).find? (fun y => P' y 0 == ca k') = (hs f).find? (fun y => P y 0 == ca k') := find_congr (fun y hy => by
        obtain ⟨m1, m2, m3, m4⟩ := hmem f y (by omega) hy
        rw [hP3 y 0 m2 m3])
      simp only [e2]
      rw [hP _ _ (hxk _ (by omega) (by omega)) (fun z => nk z.1.symm) (fun z => by rw [z.1, kfk] at d3; omega) (by omega)]
      have h9' := h9 k' hk'
      rw [hf] at h9'
      rw [h9']
      conv => lhs; unfold lat
      rfl
  · unfold RXn
    rw [perm.length_eq, List.length_cons]
    exact ⟨hn', hs', hle⟩
/-- the latest frame is gone, and its holds are spare -/
theorem RXo.pop {f : Nat} (w : RXo n s K Ln P I S ca ra hs sp) (hf : ix (S 244 29) = f + 1) (hf' : ix (S' 244 29) = f) (hS : ∀ p q, ¬ p = 261 → ¬ p = 268 → ¬ p = 271 → ¬ p = 272 → ¬ (p = 244 ∧ q = 29) → ¬ ((p = 266 ∨ p = 267) ∧ q = f) → ¬ ((p = 269 ∨ p = 270) ∧ ((8 * f ≤ q ∧ q < 8 * f + 8) ∨ q = 96 + f)) → S' p q = S p q) (hS2 : ∀ g k, g < f → k < 6000 → S' 272 (6000 * g + k) = S 272 (6000 * g + k)) (hC : ix (S 244 17) ≤ 6000)
    (hI : ∀ y q, ¬ K y = 2 → I' y q = I y q) (hI2 : ∀ g, g < 12 → I' (106 + 11 * g) 4 = I (106 + 11 * g) 4) (hP : ∀ y q, y ∉ hs f → ¬ (K y = 1 ∧ q = 3) → ¬ (y = 106 + 11 * f ∧ q = 5) → ¬ (y = 10 ∧ q = 0) → P' y q = P y q) (hc3 : ∀ k, k < ix (S 244 17) → P' (ca k) 3 = lat P hs (ca k) f) (hch : chn P' (P' 10 0) ((hs f).reverse ++ sp)) (pf : P' (106 + 11 * f) 5 = 0)
    (k14 : K 14 = 9) (ka : ∀ k, k < 3 → K (241 + k) = 9) (kg : ∀ f, f < 12 → K (108 + 11 * f) = 9) (kr : ∀ f k, f < 12 → k < 8 → K (109 + 11 * f + k) = 9) (kf : ∀ f, f < 12 → K (106 + 11 * f) = 2) (k10 : K 10 = 6) (hn : 276 ≤ n) (hF : ix (S 244 29) ≤ 12) : RXo n s K Ln P' I' S' ca ra (fun g => if g = f then [] else hs g) ((hs f).reverse ++ sp) := by
  obtain ⟨w1, w2, w3, w4, w5, w6⟩ := w
  obtain ⟨h1, h2, h3, h4, h5, h6, h7, h8, h9⟩ := w5
  have perm := allH_pop (hs := hs) (sp := sp) (show f < 12 by omega)
  have hmem : ∀ g y, g < 12 → y ∈ hs g → y < n ∧ K y = 3 ∧ 276 ≤ y := by
    intro g y hg hy
    have a := h4 y (allH_mem hg hy)
    exact ⟨a.2.1, a.2.2, a.1⟩
  have nf : ∀ y, ¬ K y = 3 → y ∉ hs f := fun y h3 hy => h3 (hmem f y (by omega) hy).2.1
  have s17 : S' 244 17 = S 244 17 := hS _ _ (by omega) (by omega) (by omega) (by omega) (by omega) (by omega) (by omega)
  have s23 : S' 244 23 = S 244 23 := hS _ _ (by omega) (by omega) (by omega) (by omega) (by omega) (by omega) (by omega)
  have s28 : S' 244 28 = S 244 28 := hS _ _ (by omega) (by omega) (by omega) (by omega) (by omega) (by omega) (by omega)
  have e : EXT S ca ra S' ca ra := EXT.same s17 s23 (fun q => hS _ _ (by omega) (by omega) (by omega) (by omega) (by omega) (by omega) (by omega)) (fun q => hS _ _ (by omega) (by omega) (by omega) (by omega) (by omega) (by omega) (by omega))
  have kf2 := kf f (by omega)
  have hsl : slk n K P P' I I' := fun y hy h => ⟨hP _ _ (nf y (by omega)) (by omega) (by omega) (by omega), hP _ _ (nf y (by omega)) (by omega) (by omega) (by omega), hI _ _ (by omega), hI _ _ (by omega)⟩
  have hdis : ∀ g y, g < 12 → ¬ g = f → y ∈ hs g → y ∉ hs f := by
    intro g y hg hgf hy hy'
    by_cases q : g < ix (S 244 29)
    · have a1 := (h6 g q y hy).1
      have a2 := (h6 f (by omega) y hy').1
      omega
    · rw [h2 g (by omega)] at hy
      cases hy
  have hP3 : ∀ g y q, g < 12 → ¬ g = f → y ∈ hs g → P' y q = P y q := fun g y q hg hgf hy => hP y q (hdis g y hg hgf hy) (by have := (hmem g y hg hy).2.1; omega) (by have := (hmem g y hg hy).2.2; omega) (by have := (hmem g y hg hy).2.2; omega)
  have hlat : ∀ c g, g ≤ f → lat P' (fun g => if g = f then [] else hs g) c g = lat P hs c g := fun c g hg => lat.congr (fun g' hg' => ⟨if_neg (by omega), fun y hy => hP3 g' y 0 (by omega) (by omega) hy⟩)
  refine ⟨w1.congr e hn hsl k14 ka (fun p q h => hS p q (by omega) (by omega) (by omega) (by omega) (by omega) (by omega) (by omega)), fun g hg => ?_, w3.congr e (Nat.le_refl _) (fun _ _ => rfl) hsl (fun y hy h => ⟨hI _ _ (by omega), hI _ _ (by omega), hP _ _ (nf y (by omega)) (by omega) (by omega) (by omega)⟩) (fun p q h => hS p q (by omega) (by omega) (by omega) (by omega) (by omega) (by omega) (by omega)), w4.congr (Nat.le_refl _) (fun _ _ => ⟨rfl, rfl⟩) (fun y q hy h => hP _ _ (nf y (by omega)) (by omega) (fun z => by rw [z.1] at h; omega) (fun z => by rw [z.1] at h; omega)) (fun y q hy h => hI _ _ (by omega)) (fun p q h => hS p q (by omega) (by omega) (by omega) (by omega) (by omega) (by omega) (by omega)), ⟨fun g hg => ?_, fun g hg => ?_, hch, fun y hy => h4 y (perm.mem_iff.mp hy), perm.nodup_iff.mpr h5, fun g hg y hy => ?_, fun g hg y hy y' hy' ee => ?_, fun g k' hg hk' hne => ?_, fun k' hk' => ?_⟩, ?_⟩
  · rw [hf'] at hg
    obtain ⟨z1, z2, z3, z4⟩ := w2 g (by omega)
    refine ⟨?_, ?_, fun k hk => ?_, ?_⟩
    · rw [hP _ _ (nf _ (by rw [kf g (by omega)]; omega)) (by omega) (by omega) (by omega), hS _ _ (by omega) (by omega) (by omega) (by omega) (by omega) (by omega) (by omega)]
      exact z1
    · rw [hI2 g (by omega), hS _ _ (by omega) (by omega) (by omega) (by omega) (by omega) (by omega) (by omega)]
      exact z2
    · obtain ⟨a1, a2, a3, a4⟩ := hsl (109 + 11 * g + k) (by omega) (kr g k (by omega) hk)
      rw [hS 269 _ (by omega) (by omega) (by omega) (by omega) (by omega) (by omega) (by omega), hS 270 _ (by omega) (by omega) (by omega) (by omega) (by omega) (by omega) (by omega)]
      exact (z3 k hk).ext e a1 a2 a3 a4
    · obtain ⟨a1, a2, a3, a4⟩ := hsl (108 + 11 * g) (by omega) (kg g (by omega))
      rw [hS 269 _ (by omega) (by omega) (by omega) (by omega) (by omega) (by omega) (by omega), hS 270 _ (by omega) (by omega) (by omega) (by omega) (by omega) (by omega) (by omega)]
      exact z4.ext e a1 a2 a3 a4
  · by_cases q : g = f
    · subst q
      simp only [if_true]
      exact pf
    · simp only [if_neg q]
      rw [hP _ _ (nf _ (by rw [kf g hg]; omega)) (by omega) (by omega) (by omega)]
      exact chn.congr (fun y hy => hP3 g y 4 hg q hy) (h1 g hg)
  · by_cases q : g = f
    · simp only [if_pos q]
    · simp only [if_neg q]
      exact h2 g (by omega)
  · rw [hf'] at hg
    have q : ¬ g = f := by omega
    simp only [if_neg q] at hy
    obtain ⟨z1, k', z2, z3, z4, z5⟩ := h6 g (by omega) y hy
    rw [hP3 g y 1 (by omega) q hy, hP3 g y 0 (by omega) q hy, hP3 g y 3 (by omega) q hy, hI y 2 (by have := (hmem g y (by omega) hy).2.1; omega)]
    exact ⟨z1, k', by rw [s17]; exact z2, z3, by rw [hS2 g k' hg (by omega)]; exact z4, by rw [hlat _ _ (by omega)]; exact z5⟩
  · rw [hf'] at hg
    have q : ¬ g = f := by omega
    simp only [if_neg q] at hy hy'
    rw [hP3 g y 0 (by omega) q hy, hP3 g y' 0 (by omega) q hy'] at ee
    exact h7 g (by omega) y hy y' hy' ee
  · rw [hf'] at hg
    rw [s17] at hk'
    rw [hS2 g k' hg (by omega)] at hne
    have q : ¬ g = f := by omega
    obtain ⟨y, hy, e1⟩ := h8 g k' (by omega) hk' hne
    refine ⟨y, ?_, by rw [hP3 g y 0 (by omega) q hy]; exact e1⟩
    simp only [if_neg q]
    exact hy
  · rw [s17] at hk'
    rw [hf', hlat _ _ (Nat.le_refl _)]
    exact hc3 k' hk'
  · unfold RXn
    rw [s17, s23, s28, perm.length_eq]
    exact w6
end
