/-! THE ENGINE, 22: monitors -/
theorem lat_mem {P : Nat → Nat → Nat} {hs : Nat → List Nat} {c : Nat} : ∀ g, lat P hs c g = 0 ∨ ∃ f, f < g ∧ lat P hs c g ∈ hs f
  | 0 => Or.inl rfl
  | g + 1 => by
    cases hf : (hs g).find? (fun x => P x 0 == c) with
    | none =>
      have e : lat P hs c (g + 1) = lat P hs c g := by
        conv => lhs; unfold lat
        rw [hf]
      rw [e]
      rcases lat_mem (P := P) (hs := hs) (c := c) g with z | ⟨f, h1, h2⟩
      · exact Or.inl z
      · exact Or.inr ⟨f, by omega, h2⟩
    | some x =>
      have e : lat P hs c (g + 1) = x := by
        conv => lhs; unfold lat
        rw [hf]
      rw [e]
      exact Or.inr ⟨g, by omega, List.mem_of_find?_eq_some hf⟩
theorem flat_len {hs : Nat → List Nat} : ∀ n, ((List.range n).flatMap hs).length = sumN (fun f => (hs f).length) n
  | 0 => rfl
  | n + 1 => by
    rw [List.range_succ, List.flatMap_append, List.length_append, flat_len n]
    show _ = sumN _ n + (hs n).length
    simp
theorem sumN_le {g : Nat → Nat} {i : Nat} : ∀ {n : Nat}, i < n → g i ≤ sumN g n
  | 0, h => absurd h (by omega)
  | n + 1, h => by
    show _ ≤ sumN g n + g n
    by_cases q : i = n
    · rw [q]; omega
    · have := sumN_le (g := g) (i := i) (n := n) (by omega)
      omega
theorem sumN_bd {g : Nat → Nat} {B : Nat} : ∀ {n : Nat}, (∀ i, i < n → g i ≤ B) → sumN g n ≤ B * n
  | 0, _ => Nat.le_refl _
  | n + 1, h => by
    show sumN g n + g n ≤ B * (n + 1)
    have h1 := sumN_bd (n := n) (fun i hi => h i (by omega))
    have h2 := h n (by omega)
    rw [Nat.mul_succ]
    omega
/-- a hold begins -/
def nwH (h : HP) (x c fr : Nat) : HP := hp_wa (hp_wa (hp_wa (hp_wa (hp_wi (hp_wa (hp_wa h x 0 c) x 1 fr) x 2 0) x 3 (hp_a h c 3)) c 3 x) x 4 (hp_a h fr 5)) fr 5 x
theorem nwH_i (h : HP) (x c fr y q : Nat) : hp_i (nwH h x c fr) y q = if y = x ∧ q = 2 then 0 else hp_i h y q := by
  unfold nwH
  rw [hp_i_wa, hp_i_wa, hp_i_wa, hp_i_wa, hp_i_wi, hp_i_wa, hp_i_wa]
theorem nwH_a (h : HP) (x c fr y q : Nat) : hp_a (nwH h x c fr) y q = if y = fr ∧ q = 5 then x else if y = x ∧ q = 4 then hp_a h fr 5 else if y = c ∧ q = 3 then x else if y = x ∧ q = 3 then hp_a h c 3 else if y = x ∧ q = 1 then fr else if y = x ∧ q = 0 then c else hp_a h y q := by
  unfold nwH
  rw [hp_a_wa, hp_a_wa, hp_a_wa, hp_a_wa, hp_a_wi, hp_a_wa, hp_a_wa]
theorem sp_newHold2 {h : HP} {x c fr : Nat} (kx : hp_k h x = 3) (kc : hp_k h c = 1) (kf : hp_k h fr = 2) {l0 l1 : Value} : pX 503 28 [l0, .ref fr, .ref c, .ref x] [] h = some (some (.ref x), nwH h x c fr) := by
  have n1 : ¬ c = x := fun e => by rw [e] at kc; omega
  have n2 : ¬ fr = x := fun e => by rw [e] at kf; omega
  have n3 : ¬ fr = c := fun e => by rw [e] at kf; omega
  simp only [x503_28, x503_29, x503_30, x503_33, x503_34, x503_35, x503_38, x503_39, x503_40, x503_43, x503_44, x503_45, x503_48, x503_51, x503_52, x503_53, x503_56, x503_57, x503_58, x503_61, x503_64, x503_65, x503_66, x503_69, x503_70, hp_k_wa, hp_k_wi, kx, kc, kf, hp_a_wa, hp_a_wi, n1, n2, n3, false_and, if_false]
  rfl
section
variable {L : Nat} {h0 h : HP} {σ : SM} {ca ra : Nat → Nat} {hs : Nat → List Nat} {sp : List Nat} {A F : Nat}
/-- what the latest frame holds of a cell -/
theorem CR.find {k : Nat} (w : CR L h0 h σ ca ra hs sp) (hF : σ 244 29 = nI (F + 1)) (hF12 : F < 12) (hk : k < ix (σ 244 17)) :
    (∃ x ∈ hs F, hp_a h x 0 = ca k ∧ hp_a h (ca k) 3 = x ∧ hp_a h x 1 = 106 + 11 * F ∧ hp_i h x 2 = σ 272 (6000 * F + k) ∧ hp_k h x = 3 ∧ 276 ≤ x) ∨
    ((∀ y ∈ hs F, ¬ hp_a h y 0 = ca k) ∧ σ 272 (6000 * F + k) = 0 ∧ (hp_a h (ca k) 3 = 0 ∨ (hp_k h (hp_a h (ca k) 3) = 3 ∧ 276 ≤ hp_a h (ca k) 3 ∧ ∃ g, g < F ∧ hp_a h (hp_a h (ca k) 3) 1 = 106 + 11 * g))) := by
  have f0 : ix (σ 244 29) = F + 1 := by rw [hF]; exact ix_nI (by omega)
  obtain ⟨h1, h2, h3, h4, h5, h6, h7, h8, h9⟩ := w.hold
  have e9 := h9 k hk
  rw [f0] at e9
  cases hf : (hs F).find? (fun x => hp_a h x 0 == ca k) with
  | some x =>
    have hx := List.mem_of_find?_eq_some hf
    have hc : hp_a h x 0 = ca k := by have := List.find?_some hf; simpa using this
    have e1 : lat (hp_a h) hs (ca k) (F + 1) = x := by
      conv => lhs; unfold lat
      rw [hf]
    obtain ⟨z1, k', z2, z3, z4, z5⟩ := h6 F (by omega) x hx
    obtain rfl : k = k' := w.cinj hk z2 (hc.symm.trans z3)
    obtain ⟨y1, y2, y3⟩ := h4 x (allH_mem hF12 hx)
    exact Or.inl ⟨x, hx, hc, e9.trans e1, z1, z4, y3, y1⟩
  | none =>
    have no : ∀ y ∈ hs F, ¬ hp_a h y 0 = ca k := fun y hy => by
      have := List.find?_eq_none.mp hf y hy
      simpa using this
    have e1 : lat (hp_a h) hs (ca k) (F + 1) = lat (hp_a h) hs (ca k) F := by
      conv => lhs; unfold lat
      rw [hf]
    refine Or.inr ⟨no, ?_, ?_⟩
    · apply Decidable.byContradiction
      intro hz
      obtain ⟨x, hx, e⟩ := h8 F k (by omega) hk hz
      exact no x hx e
    · rw [e9, e1]
      rcases lat_mem (P := hp_a h) (hs := hs) (c := ca k) F with z | ⟨f, y1, y2⟩
      · exact Or.inl z
      · obtain ⟨u1, u2, u3⟩ := h4 _ (allH_mem (show f < 12 by omega) y2)
        exact Or.inr ⟨u3, u1, f, y1, (h6 f (by omega) _ y2).1⟩
theorem CR.tim {x k : Nat} {V : Int32} (w : CR L h0 h σ ca ra hs sp) (hf : F < ix (σ 244 29)) (hx : x ∈ hs F) (hk : k < ix (σ 244 17)) (hC : ix (σ 244 17) ≤ 6000) (hxk : hp_a h x 0 = ca k) : CR L h0 (hp_wi h x 2 V) (hp_u σ 272 (6000 * F + k) V) ca ra hs sp := by
  have hF := w.hF
  have h4 := w.hold.2.2.2.1 x (allH_mem (show F < 12 by omega) hx)
  obtain ⟨w1, w2, w3, w4, w6, w5⟩ := w
  refine ⟨w1, kp_wi w2 (by omega), w3, (w4.so (ncm_s (by omega))).wo (fun b j e => by have := cm_lt e; omega), (by rw [hu_cell (by omega)]; exact w6), ?_⟩
  rw [hp_i_wiu, mI_n (by unfold dynI; omega), mS_n (by unfold depS; omega)]
  exact w5.times (f := F) (by rw [mS_x (by omega)]; exact hf) hx (by rw [mS_x (by omega)]; exact hk) (by rw [mS_x (by omega)]; exact hC) hxk w1.k14 w1.argk w1.fgk w1.frs w1.fk w1.n (by rw [mS_x (by omega)]; exact hF)
/-- how much a frame holds in all -/
theorem CR.hd {V : Int32} (w : CR L h0 h σ ca ra hs sp) (hF12 : F < 12) : CR L h0 (hp_wi h (106 + 11 * F) 6 V) (hp_u σ 271 F V) ca ra hs sp := by
  obtain ⟨w1, w2, w3, w4, w6, w5⟩ := w
  refine ⟨w1, kp_wi w2 (by omega), w3, w4.w (CMR.holds hF12), (by rw [hu_cell (by omega)]; exact w6), ?_⟩
  rw [hp_i_wiu, mI_u (by unfold dynI; omega)]
  refine w5.agree (by rw [mS_x (by omega)]; exact w6) (fun p q h1 h2 h3 h4 => ?_)
  unfold mS
  by_cases z : depS p q
  · rw [if_pos z, if_pos z, hu_cell h4]
  · rw [if_neg z, if_neg z]
/-- a hold that was not there -/
theorem CR.newHold {k : Nat} (w : CR L h0 h σ ca ra hs sp) (hF : σ 244 29 = nI (F + 1)) (hF12 : F < 12) (hk : k < ix (σ 244 17)) (hC : ix (σ 244 17) ≤ 6000) (hno : ∀ y ∈ hs F, ¬ hp_a h y 0 = ca k) (hz : σ 272 (6000 * F + k) = 0) :
    ∃ x h' hs' sp', pX 503 0 [.ref 10, .ref (106 + 11 * F), .ref (ca k), .retAddr 0] [] h = some (some (.ref x), h') ∧ CR L h0 h' σ ca ra hs' sp' ∧ x ∈ hs' F ∧ hp_a h' x 0 = ca k ∧ hp_i h' x 2 = 0 ∧ hp_k h' x = 3 ∧ 276 ≤ x := by
  have X := w.fx
  have hF' := w.hF
  have f0 : ix (σ 244 29) = F + 1 := by rw [hF]; exact ix_nI (by omega)
  obtain ⟨h1, h2, h3, h4, h5, h6, h7, h8, h9⟩ := w.hold
  obtain ⟨c1, c2, c3, c4, c5, c6, c7, c8⟩ := w.cel hk
  have kf := X.fk F hF12
  obtain ⟨w1, w2, w3, w4, w6, w5⟩ := w
  have rn := w5.2.2.2.2.2
  unfold RXn at rn
  rw [mS_x (by omega), mS_x (by omega), mS_x (by omega)] at rn
  have nF : ∀ y ∈ hs F, hp_k h y = 3 := fun y hy => (h4 y (allH_mem hF12 hy)).2.2
  have fin : ∀ (x : Nat) (g : HP) (sp' : List Nat), FX L g → hp_n h ≤ hp_n g → (276 ≤ x ∧ x < hp_n g) → x ∉ allH hs sp' → (∀ y ∈ allH hs sp', y ∈ allH hs sp) → (allH hs sp').Nodup → (hp_n h ≤ x ∨ hp_k h x = 3) → (∀ y, y < hp_n h → hp_k g y = hp_k h y ∧ hp_l g y = hp_l h y) → hp_k g x = 3 → (∀ y q, ¬ y = x → hp_i g y q = hp_i h y q) → (∀ y q, ¬ y = x → ¬ (y = 10 ∧ q = 0) → hp_a g y q = hp_a h y q) → chn (hp_a h) (hp_a g 10 0) sp' → hp_n g = 276 + 2 * ix (σ 244 17) + 3 * ix (σ 244 23) + ((allH hs sp').length + 1) → hp_s g = 131176 + 8 * ix (σ 244 17) + 4 * ix (σ 244 23) + ix (σ 244 28) + 5 * ((allH hs sp').length + 1) → (allH hs sp').length + 1 ≤ 72000 → (∀ y ∈ sp', y < hp_n h ∧ hp_k h y = 3) →
      CR L h0 (nwH g x (ca k) (106 + 11 * F)) σ ca ra (fun f => if f = F then x :: hs F else hs f) sp' := by
    intro x g sp' Xg hn hx1 hx0 hm hnd hxn hK hKx hI hP hch en es hle hsp
    have nx : ∀ y, y < hp_n h → ¬ hp_k h y = 3 → ¬ y = x := by
      intro y hy hk3 e
      subst e
      rcases hxn with z | z
      · omega
      · exact hk3 z
    have x1 : ¬ ca k = x := nx _ (by omega) (by omega)
    have x2 : ¬ 106 + 11 * F = x := nx _ (by have := X.n; omega) (by omega)
    have x3 : ¬ 106 + 11 * F = ca k := by omega
    have x4 : ¬ 10 = x := nx _ (by have := X.n; omega) (by rw [X.k10]; omega)
    have kcg : hp_k g (ca k) = 1 := by rw [(hK _ (by omega)).1]; exact c3
    have kfg : hp_k g (106 + 11 * F) = 2 := Xg.fk F hF12
    have aca : hp_a g (ca k) 3 = hp_a h (ca k) 3 := hP _ _ x1 (by omega)
    have afr : hp_a g (106 + 11 * F) 5 = hp_a h (106 + 11 * F) 5 := hP _ _ x2 (by omega)
    refine ⟨?_, fun a j ha => ?_, w3, fun a q b j e => ?_, w6, ?_⟩
    · unfold nwH
      refine FX.wa (FX.wa (FX.wa (FX.wa (FX.wi (FX.wa (FX.wa Xg ?_) ?_)) ?_) ?_) ?_) ?_
      · exact Or.inr (Or.inl hKx)
      · exact Or.inr (Or.inl hKx)
      · exact Or.inr (Or.inl hKx)
      · exact Or.inr (Or.inr (Or.inl kcg))
      · exact Or.inr (Or.inl hKx)
      · exact Or.inr (Or.inr (Or.inr (Or.inr (Or.inr (Or.inr ⟨kfg, by omega⟩)))))
    · rw [nwH_i, if_neg (by omega), hI a j (by omega)]
      exact w2 a j ha
    · have := cm_lt e
      rw [nwH_i, if_neg (by omega), hI a q (by omega)]
      exact w4 a q b j e
    · have ek : hp_k (nwH g x (ca k) (106 + 11 * F)) = hp_k g := rfl
      have el : hp_l (nwH g x (ca k) (106 + 11 * F)) = hp_l g := rfl
      have en' : hp_n (nwH g x (ca k) (106 + 11 * F)) = hp_n g := rfl
      have es' : hp_s (nwH g x (ca k) (106 + 11 * F)) = hp_s g := rfl
      rw [ek, el, en', es']
      refine RXo.addHold (f := F) (k := k) w5 (by rw [mS_x (by omega)]; exact f0) (by rw [mS_x (by omega)]; exact hk) hno (by rw [mS_m (by omega)]; exact hz) hn hx1 hx0 hm hnd hxn ?_ hK hKx (fun y q hy => ?_) ?_ (fun y q y1 y2 y3 y4 => ?_) ?_ ?_ ?_ ?_ ?_ ?_ (by rw [mS_x (by omega), mS_x (by omega)]; exact en) (by rw [mS_x (by omega), mS_x (by omega), mS_x (by omega)]; exact es) hle X.k14 X.argk X.fgk X.frs X.fk X.k10 X.n (by rw [mS_x (by omega)]; exact hF')
      · have e10 : hp_a (nwH g x (ca k) (106 + 11 * F)) 10 0 = hp_a g 10 0 := by
          rw [nwH_a, if_neg (by omega), if_neg (by omega), if_neg (by omega), if_neg (by omega), if_neg (by omega), if_neg (by omega)]
        rw [e10]
        refine chn.congr (fun y hy => ?_) hch
        obtain ⟨s1, s2⟩ := hsp y hy
        have yx : ¬ y = x := fun e => hx0 (e ▸ allH_sp hy)
        rw [nwH_a, if_neg (by omega), if_neg (fun z => yx z.1), if_neg (by omega), if_neg (by omega), if_neg (by omega), if_neg (by omega), hP _ _ yx (by omega)]
      · unfold mI
        by_cases z : dynI y q
        · rw [if_pos z, if_pos z, nwH_i, if_neg (fun e => hy e.1)]
          exact hI y q hy
        · rw [if_neg z, if_neg z]
      · rw [mI_at (by unfold dynI; omega), nwH_i, if_pos ⟨rfl, rfl⟩]
      · rw [nwH_a, if_neg y3, if_neg (fun e => y1 e.1), if_neg y2, if_neg (fun e => y1 e.1), if_neg (fun e => y1 e.1), if_neg (fun e => y1 e.1)]
        exact hP y q y1 y4
      · rw [nwH_a, if_neg (by omega), if_neg (by omega), if_neg (by omega), if_neg (by omega), if_neg (by omega), if_pos ⟨rfl, rfl⟩]
      · rw [nwH_a, if_neg (by omega), if_neg (by omega), if_neg (by omega), if_neg (by omega), if_pos ⟨rfl, rfl⟩]
      · rw [nwH_a, if_neg (by omega), if_neg (by omega), if_neg (by omega), if_pos ⟨rfl, rfl⟩]
        exact aca
      · rw [nwH_a, if_neg (by omega), if_pos ⟨rfl, rfl⟩]
        exact afr
      · rw [nwH_a, if_neg (by omega), if_neg (by omega), if_pos ⟨rfl, rfl⟩]
      · rw [nwH_a, if_pos ⟨rfl, rfl⟩]
  cases hsp : sp with
  | nil =>
    subst hsp
    have s0 : hp_a h 10 0 = 0 := h3
    have hlt : ∀ y ∈ allH hs [], y < hp_n h := fun y hy => (h4 y hy).2.1
    have hn := X.n
    have ndh : ∀ f, f < 12 → (hs f).Nodup := by
      intro f hf
      have perm := allH_pop (hs := hs) (sp := []) hf
      have nd0 := perm.nodup_iff.mpr h5
      unfold allH at nd0
      have nd1 := (List.nodup_append.mp nd0).2.1
      have nd2 := List.nodup_append.mp nd1
      exact (List.reverse_perm (hs f)).nodup_iff.mp nd2.1
    have len : (allH hs []).length + 1 ≤ 72000 := by
      unfold allH
      rw [List.append_nil, flat_len]
      have lf : ∀ f, f < 12 → (hs f).length ≤ 6000 := by
        intro f hf
        by_cases q : f < ix (σ 244 29)
        · refine Nat.le_trans (nd_map (P := hp_a h) (ca := ca) (C := ix (σ 244 17)) (ndh f hf) (fun x hx => ?_) (h7 f q)) hC
          obtain ⟨_, k', z2, z3, _⟩ := h6 f q x hx
          exact ⟨k', z2, z3⟩
        · rw [h2 f (by omega)]
          exact Nat.zero_le _
      have lF : (hs F).length + 1 ≤ 6000 := by
        have := nd_map (P := fun y q => if y = hp_n h then ca k else hp_a h y q) (ca := ca) (C := ix (σ 244 17)) (l := hp_n h :: hs F) (List.nodup_cons.mpr ⟨fun z => by have := hlt _ (allH_mem hF12 z); omega, ndh F hF12⟩) (fun x hx => by
          by_cases q : x = hp_n h
          · exact ⟨k, hk, if_pos q⟩
          · have hx' : x ∈ hs F := by
              rcases List.mem_cons.mp hx with z | z
              · exact absurd z q
              · exact z
            obtain ⟨_, k', z2, z3, _⟩ := h6 F (by omega) x hx'
            exact ⟨k', z2, by rw [if_neg q]; exact z3⟩) (fun x hx y hy e => by
          rcases List.mem_cons.mp hx with q | q <;> rcases List.mem_cons.mp hy with q' | q'
          · rw [q, q']
          · rw [if_pos q, if_neg (by have := hlt _ (allH_mem hF12 q'); omega)] at e
            exact absurd e.symm (hno y q')
          · rw [if_neg (by have := hlt _ (allH_mem hF12 q); omega), if_pos q'] at e
            exact absurd e (hno x q)
          · rw [if_neg (by have := hlt _ (allH_mem hF12 q); omega), if_neg (by have := hlt _ (allH_mem hF12 q'); omega)] at e
            exact h7 F (by omega) x q y q' e)
        rw [List.length_cons] at this
        omega
      have up := sumN_upd (g := fun f => (hs f).length) (g' := fun f => if f = F then 5999 else 6000) (F := F) (v := 5999) (n := 12)
      have s1 : sumN (fun f => (hs f).length) 12 ≤ sumN (fun f => if f = F then 5999 else 6000) 12 := by
        have mono : ∀ n, n ≤ 12 → sumN (fun f => (hs f).length) n ≤ sumN (fun f => if f = F then 5999 else 6000) n := by
          intro n
          induction n with
          | zero => intro _; exact Nat.le_refl _
          | succ n ih =>
            intro hn
            have := ih (by omega)
            show sumN _ n + (hs n).length ≤ sumN _ n + (if n = F then 5999 else 6000)
            by_cases q : n = F
            · rw [if_pos q, q]
              rw [q] at this
              omega
            · rw [if_neg q]
              have := lf n (by omega)
              omega
        exact mono 12 (Nat.le_refl _)
      have s2 := sumN_upd (g := fun _ => 6000) (g' := fun f => if f = F then 5999 else 6000) (F := F) (v := 5999) (n := 12) hF12 (if_pos rfl) (fun f _ hne => if_neg hne)
      have s3 : sumN (fun _ => 6000) 12 = 72000 := rfl
      omega
    refine ⟨hp_n h, _, _, _, ?_, fin (hp_n h) (hp_mk h 3 0 5) [] (FX.mk_ X) (by rw [hp_n_mk]; omega) ⟨hn, by rw [hp_n_mk]; omega⟩ (fun z => by have := hlt _ z; omega) (fun _ z => z) h5 (Or.inl (Nat.le_refl _)) (fun y hy => ⟨by rw [hp_k_mk, if_neg (by omega)], by rw [hp_l_mk, if_neg (by omega)]⟩) (by rw [hp_k_mk, if_pos rfl]) (fun y q hy => by rw [hp_i_mk, if_neg hy]) (fun y q hy _ => by rw [hp_a_mk, if_neg hy]) ?_ ?_ ?_ len (fun _ z => by cases z), ?_, ?_, ?_, ?_, hn⟩
    · have k3 : hp_k (hp_mk h 3 0 5) (hp_n h) = 3 := by rw [hp_k_mk, if_pos rfl]
      have kc' : hp_k (hp_mk h 3 0 5) (ca k) = 1 := by rw [hp_k_mk, if_neg (by omega)]; exact c3
      have kf' : hp_k (hp_mk h 3 0 5) (106 + 11 * F) = 2 := (FX.mk_ X).fk F hF12
      have hi : pX 200 0 [.ref (hp_n h)] [] (hp_mk h 3 0 5) = some (none, hp_mk h 3 0 5) := by
        simp only [x200_0, x200_1, x200_4, show ¬ hp_n h = 0 by omega, not_false_eq_true]
      rw [← sp_newHold2 (l0 := .ref 10) (l1 := .retAddr 0) k3 kc' kf']
      generalize hR : pX 503 28 [.ref 10, .ref (106 + 11 * F), .ref (ca k), .ref (hp_n h)] [] (hp_mk h 3 0 5) = R
      simp only [x503_0, x503_1, x503_4, x503_5, x503_6, x503_9, x503_12, x503_13, x503_16, x503_17, X.k10, s0, if_true, k3, hi, Option.bind_some, Option.toList_some, Option.toList_none, List.singleton_append, List.nil_append, List.cons_append]
      exact hR
    · have e10 : hp_a (hp_mk h 3 0 5) 10 0 = 0 := by rw [hp_a_mk, if_neg (by omega)]; exact s0
      exact e10
    · rw [hp_n_mk]; omega
    · rw [hp_s_mk]; omega
    · show hp_n h ∈ (if F = F then hp_n h :: hs F else hs F)
      rw [if_pos rfl]
      exact List.mem_cons_self ..
    · have := h4
      rw [nwH_a, if_neg (by omega), if_neg (by omega), if_neg (by omega), if_neg (by omega), if_neg (by omega), if_pos ⟨rfl, rfl⟩]
    · rw [nwH_i, if_pos ⟨rfl, rfl⟩]
    · show hp_k (hp_mk h 3 0 5) (hp_n h) = 3
      rw [hp_k_mk, if_pos rfl]
  | cons x sp' =>
    subst hsp
    obtain ⟨s0, s1⟩ := h3
    have pm : (allH hs (x :: sp')).Perm (x :: allH hs sp') := by
      unfold allH
      exact List.perm_middle
    have nd := pm.nodup_iff.mp h5
    rw [List.nodup_cons] at nd
    obtain ⟨x1, x2, x3⟩ := h4 x (allH_sp (List.mem_cons_self ..))
    have pl : (allH hs (x :: sp')).length = (allH hs sp').length + 1 := by rw [pm.length_eq, List.length_cons]
    rw [pl] at rn
    have kx' : hp_k (hp_wa h 10 0 (hp_a h x 4)) x = 3 := x3
    refine ⟨x, _, _, _, ?_, fin x (hp_wa h 10 0 (hp_a h x 4)) sp' (FX.wa X (Or.inr (Or.inr (Or.inr (Or.inr (Or.inr (Or.inl X.k10)))))) ) (Nat.le_refl _) ⟨x1, x2⟩ nd.1 (fun y hy => pm.mem_iff.mpr (List.mem_cons_of_mem _ hy)) nd.2 (Or.inr x3) (fun _ _ => ⟨rfl, rfl⟩) x3 (fun _ _ _ => rfl) (fun y q _ h10 => by rw [hp_a_wa, if_neg h10]) ?_ rn.1 rn.2.1 rn.2.2 (fun y hy => ⟨(h4 y (allH_sp (List.mem_cons_of_mem _ hy))).2.1, (h4 y (allH_sp (List.mem_cons_of_mem _ hy))).2.2⟩), ?_, ?_, ?_, x3, x1⟩
    · have kc' : hp_k (hp_wa h 10 0 (hp_a h x 4)) (ca k) = 1 := c3
      have kf' : hp_k (hp_wa h 10 0 (hp_a h x 4)) (106 + 11 * F) = 2 := kf
      rw [← sp_newHold2 (l0 := .ref 10) (l1 := .retAddr 0) kx' kc' kf']
      generalize hR : pX 503 28 [.ref 10, .ref (106 + 11 * F), .ref (ca k), .ref x] [] (hp_wa h 10 0 (hp_a h x 4)) = R
      simp only [x503_0, x503_1, x503_4, x503_5, x503_6, x503_20, x503_21, x503_22, x503_25, X.k10, s0, show ¬ x = 0 by omega, if_false, x3]
      exact hR
    · rw [hp_a_wa, if_pos ⟨rfl, rfl⟩]
      exact s1
    · show x ∈ (if F = F then x :: hs F else hs F)
      rw [if_pos rfl]
      exact List.mem_cons_self ..
    · rw [nwH_a, if_neg (by omega), if_neg (by omega), if_neg (by omega), if_neg (by omega), if_neg (by omega), if_pos ⟨rfl, rfl⟩]
    · rw [nwH_i, if_pos ⟨rfl, rfl⟩]
end
