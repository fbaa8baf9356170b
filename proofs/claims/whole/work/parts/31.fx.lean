/-! THE FIXED PART OF THE HEAP: what the two constructors made -/
def FX0 (L : Nat) (h : HP) : Prop := (276 ≤ hp_n h) ∧ (hp_k h 1 = 99) ∧ (hp_k h 2 = 99) ∧ (hp_k h 3 = 99) ∧ (hp_l h 1 = L) ∧ (hp_l h 2 = 28) ∧ (hp_l h 3 = 28) ∧ (hp_k h 4 = 11) ∧ (hp_a h 4 0 = 5) ∧ (hp_a h 4 1 = 238) ∧ (hp_a h 4 2 = 240) ∧ (hp_k h 5 = 4) ∧ (hp_a h 5 0 = 6) ∧ (hp_a h 5 2 = 7) ∧ (hp_a h 5 3 = 10) ∧ (hp_a h 5 4 = 11) ∧ (hp_a h 5 5 = 12) ∧ (hp_a h 5 6 = 13) ∧ (hp_a h 5 8 = 14) ∧ (hp_a h 5 10 = 15)
def FX1 (L : Nat) (h : HP) : Prop := (hp_k h 6 = 204) ∧ (hp_l h 6 = 10) ∧ (hp_k h 7 = 7) ∧ (hp_a h 7 0 = 8) ∧ (hp_a h 7 1 = 9) ∧ (hp_k h 8 = 100) ∧ (hp_l h 8 = 5) ∧ (hp_k h 9 = 100) ∧ (hp_l h 9 = 9) ∧ (hp_k h 11 = 100) ∧ (hp_l h 11 = 12) ∧ (hp_k h 12 = 100) ∧ (hp_l h 12 = 12) ∧ (hp_k h 15 = 100) ∧ (hp_l h 15 = 100) ∧ (hp_k h 239 = 100) ∧ (hp_l h 239 = 40) ∧ (hp_k h 10 = 6) ∧ (hp_k h 13 = 201) ∧ (hp_l h 13 = 12)
def FX2 (L : Nat) (h : HP) : Prop := (hp_k h 14 = 9) ∧ (hp_k h 238 = 10) ∧ (hp_a h 238 0 = 239) ∧ (hp_k h 240 = 208) ∧ (hp_l h 240 = 3) ∧ (hp_k h 244 = 12) ∧ (hp_k h 245 = 100) ∧ (hp_l h 245 = 10) ∧ (hp_a h 244 1 = 245) ∧ (hp_k h 246 = 100) ∧ (hp_l h 246 = 10) ∧ (hp_a h 244 2 = 246) ∧ (hp_k h 247 = 100) ∧ (hp_l h 247 = 1600) ∧ (hp_a h 244 3 = 247) ∧ (hp_k h 248 = 100) ∧ (hp_l h 248 = 10) ∧ (hp_a h 244 4 = 248) ∧ (hp_k h 249 = 100) ∧ (hp_l h 249 = 240)
def FX3 (L : Nat) (h : HP) : Prop := (hp_a h 244 5 = 249) ∧ (hp_k h 250 = 100) ∧ (hp_l h 250 = 10) ∧ (hp_a h 244 6 = 250) ∧ (hp_k h 251 = 100) ∧ (hp_l h 251 = 5) ∧ (hp_a h 244 7 = 251) ∧ (hp_k h 252 = 100) ∧ (hp_l h 252 = 41) ∧ (hp_a h 244 9 = 252) ∧ (hp_k h 253 = 100) ∧ (hp_l h 253 = 12) ∧ (hp_a h 244 11 = 253) ∧ (hp_k h 254 = 100) ∧ (hp_l h 254 = 12) ∧ (hp_a h 244 12 = 254) ∧ (hp_k h 255 = 100) ∧ (hp_l h 255 = 3) ∧ (hp_a h 244 13 = 255) ∧ (hp_k h 256 = 100)
def FX4 (L : Nat) (h : HP) : Prop := (hp_l h 256 = 3) ∧ (hp_a h 244 14 = 256) ∧ (hp_k h 257 = 100) ∧ (hp_l h 257 = 6000) ∧ (hp_a h 244 18 = 257) ∧ (hp_k h 258 = 100) ∧ (hp_l h 258 = 6000) ∧ (hp_a h 244 19 = 258) ∧ (hp_k h 259 = 100) ∧ (hp_l h 259 = 6000) ∧ (hp_a h 244 20 = 259) ∧ (hp_k h 260 = 100) ∧ (hp_l h 260 = 6000) ∧ (hp_a h 244 21 = 260) ∧ (hp_k h 261 = 100) ∧ (hp_l h 261 = 6000) ∧ (hp_a h 244 22 = 261) ∧ (hp_k h 262 = 100) ∧ (hp_l h 262 = 6000) ∧ (hp_a h 244 24 = 262)
def FX5 (L : Nat) (h : HP) : Prop := (hp_k h 263 = 100) ∧ (hp_l h 263 = 6000) ∧ (hp_a h 244 25 = 263) ∧ (hp_k h 264 = 100) ∧ (hp_l h 264 = 6000) ∧ (hp_a h 244 26 = 264) ∧ (hp_k h 265 = 100) ∧ (hp_l h 265 = 6000) ∧ (hp_a h 244 27 = 265) ∧ (hp_k h 266 = 100) ∧ (hp_l h 266 = 12) ∧ (hp_a h 244 30 = 266) ∧ (hp_k h 267 = 100) ∧ (hp_l h 267 = 12) ∧ (hp_a h 244 31 = 267) ∧ (hp_k h 268 = 100) ∧ (hp_l h 268 = 12) ∧ (hp_a h 244 32 = 268) ∧ (hp_k h 269 = 100) ∧ (hp_l h 269 = 96)
def FX6 (L : Nat) (h : HP) : Prop := (hp_a h 244 33 = 269) ∧ (hp_k h 270 = 100) ∧ (hp_l h 270 = 96) ∧ (hp_a h 244 34 = 270) ∧ (hp_k h 271 = 100) ∧ (hp_l h 271 = 12) ∧ (hp_a h 244 35 = 271) ∧ (hp_k h 272 = 100) ∧ (hp_l h 272 = 72000) ∧ (hp_a h 244 36 = 272) ∧ (hp_k h 273 = 100) ∧ (hp_l h 273 = 9) ∧ (hp_a h 244 39 = 273) ∧ (hp_k h 274 = 100) ∧ (hp_l h 274 = 100) ∧ (hp_a h 244 40 = 274) ∧ (hp_k h 275 = 100) ∧ (hp_l h 275 = 5) ∧ (hp_a h 244 43 = 275) ∧ (∀ i, i < 10 → hp_a h 6 i = 16 + 9 * i)
def FX7 (L : Nat) (h : HP) : Prop := (∀ f, f < 12 → hp_a h 13 f = 106 + 11 * f) ∧ (∀ k, k < 3 → hp_a h 240 k = 241 + k) ∧ (∀ k, k < 3 → hp_k h (241 + k) = 9) ∧ (∀ i, i < 10 → hp_k h (16 + 9 * i) = 5) ∧ (∀ i j, i < 10 → 1 ≤ j → j ≤ 8 → hp_k h (16 + 9 * i + j) = 100) ∧ (∀ i j, i < 10 → 1 ≤ j → j ≤ 4 → hp_l h (16 + 9 * i + j) = 40) ∧ (∀ i j, i < 10 → 5 ≤ j → j ≤ 8 → hp_l h (16 + 9 * i + j) = 6) ∧ (∀ i j, i < 10 → 1 ≤ j → j ≤ 4 → hp_a h (16 + 9 * i) (j + 2) = 16 + 9 * i + j) ∧ (∀ i j, i < 10 → 5 ≤ j → j ≤ 8 → hp_a h (16 + 9 * i) (j + 3) = 16 + 9 * i + j) ∧ (∀ f, f < 12 → hp_k h (106 + 11 * f) = 2) ∧ (∀ f, f < 12 → hp_a h (106 + 11 * f) 0 = 107 + 11 * f) ∧ (∀ f, f < 12 → hp_a h (106 + 11 * f) 1 = 108 + 11 * f) ∧ (∀ f, f < 12 → hp_k h (107 + 11 * f) = 208) ∧ (∀ f, f < 12 → hp_l h (107 + 11 * f) = 8) ∧ (∀ f, f < 12 → hp_k h (108 + 11 * f) = 9) ∧ (∀ f k, f < 12 → k < 8 → hp_a h (107 + 11 * f) k = 109 + 11 * f + k) ∧ (∀ f k, f < 12 → k < 8 → hp_k h (109 + 11 * f + k) = 9)
def FX (L : Nat) (h : HP) : Prop := FX0 L h ∧ FX1 L h ∧ FX2 L h ∧ FX3 L h ∧ FX4 L h ∧ FX5 L h ∧ FX6 L h ∧ FX7 L h
theorem FX.n {L : Nat} {h : HP} (w : FX L h) : 276 ≤ hp_n h := w.1.1
theorem FX.k1 {L : Nat} {h : HP} (w : FX L h) : hp_k h 1 = 99 := w.1.2.1
theorem FX.k2 {L : Nat} {h : HP} (w : FX L h) : hp_k h 2 = 99 := w.1.2.2.1
theorem FX.k3 {L : Nat} {h : HP} (w : FX L h) : hp_k h 3 = 99 := w.1.2.2.2.1
theorem FX.l1 {L : Nat} {h : HP} (w : FX L h) : hp_l h 1 = L := w.1.2.2.2.2.1
theorem FX.l2 {L : Nat} {h : HP} (w : FX L h) : hp_l h 2 = 28 := w.1.2.2.2.2.2.1
theorem FX.l3 {L : Nat} {h : HP} (w : FX L h) : hp_l h 3 = 28 := w.1.2.2.2.2.2.2.1
theorem FX.k4 {L : Nat} {h : HP} (w : FX L h) : hp_k h 4 = 11 := w.1.2.2.2.2.2.2.2.1
theorem FX.a4_0 {L : Nat} {h : HP} (w : FX L h) : hp_a h 4 0 = 5 := w.1.2.2.2.2.2.2.2.2.1
theorem FX.a4_1 {L : Nat} {h : HP} (w : FX L h) : hp_a h 4 1 = 238 := w.1.2.2.2.2.2.2.2.2.2.1
theorem FX.a4_2 {L : Nat} {h : HP} (w : FX L h) : hp_a h 4 2 = 240 := w.1.2.2.2.2.2.2.2.2.2.2.1
theorem FX.k5 {L : Nat} {h : HP} (w : FX L h) : hp_k h 5 = 4 := w.1.2.2.2.2.2.2.2.2.2.2.2.1
theorem FX.a5_0 {L : Nat} {h : HP} (w : FX L h) : hp_a h 5 0 = 6 := w.1.2.2.2.2.2.2.2.2.2.2.2.2.1
theorem FX.a5_2 {L : Nat} {h : HP} (w : FX L h) : hp_a h 5 2 = 7 := w.1.2.2.2.2.2.2.2.2.2.2.2.2.2.1
theorem FX.a5_3 {L : Nat} {h : HP} (w : FX L h) : hp_a h 5 3 = 10 := w.1.2.2.2.2.2.2.2.2.2.2.2.2.2.2.1
theorem FX.a5_4 {L : Nat} {h : HP} (w : FX L h) : hp_a h 5 4 = 11 := w.1.2.2.2.2.2.2.2.2.2.2.2.2.2.2.2.1
theorem FX.a5_5 {L : Nat} {h : HP} (w : FX L h) : hp_a h 5 5 = 12 := w.1.2.2.2.2.2.2.2.2.2.2.2.2.2.2.2.2.1
theorem FX.a5_6 {L : Nat} {h : HP} (w : FX L h) : hp_a h 5 6 = 13 := w.1.2.2.2.2.2.2.2.2.2.2.2.2.2.2.2.2.2.1
theorem FX.a5_8 {L : Nat} {h : HP} (w : FX L h) : hp_a h 5 8 = 14 := w.1.2.2.2.2.2.2.2.2.2.2.2.2.2.2.2.2.2.2.1
theorem FX.a5_10 {L : Nat} {h : HP} (w : FX L h) : hp_a h 5 10 = 15 := w.1.2.2.2.2.2.2.2.2.2.2.2.2.2.2.2.2.2.2.2
theorem FX.k6 {L : Nat} {h : HP} (w : FX L h) : hp_k h 6 = 204 := w.2.1.1
theorem FX.l6 {L : Nat} {h : HP} (w : FX L h) : hp_l h 6 = 10 := w.2.1.2.1
theorem FX.k7 {L : Nat} {h : HP} (w : FX L h) : hp_k h 7 = 7 := w.2.1.2.2.1
theorem FX.a7_0 {L : Nat} {h : HP} (w : FX L h) : hp_a h 7 0 = 8 := w.2.1.2.2.2.1
theorem FX.a7_1 {L : Nat} {h : HP} (w : FX L h) : hp_a h 7 1 = 9 := w.2.1.2.2.2.2.1
theorem FX.k8 {L : Nat} {h : HP} (w : FX L h) : hp_k h 8 = 100 := w.2.1.2.2.2.2.2.1
theorem FX.l8 {L : Nat} {h : HP} (w : FX L h) : hp_l h 8 = 5 := w.2.1.2.2.2.2.2.2.1
theorem FX.k9 {L : Nat} {h : HP} (w : FX L h) : hp_k h 9 = 100 := w.2.1.2.2.2.2.2.2.2.1
theorem FX.l9 {L : Nat} {h : HP} (w : FX L h) : hp_l h 9 = 9 := w.2.1.2.2.2.2.2.2.2.2.1
theorem FX.k11 {L : Nat} {h : HP} (w : FX L h) : hp_k h 11 = 100 := w.2.1.2.2.2.2.2.2.2.2.2.1
theorem FX.l11 {L : Nat} {h : HP} (w : FX L h) : hp_l h 11 = 12 := w.2.1.2.2.2.2.2.2.2.2.2.2.1
theorem FX.k12 {L : Nat} {h : HP} (w : FX L h) : hp_k h 12 = 100 := w.2.1.2.2.2.2.2.2.2.2.2.2.2.1
theorem FX.l12 {L : Nat} {h : HP} (w : FX L h) : hp_l h 12 = 12 := w.2.1.2.2.2.2.2.2.2.2.2.2.2.2.1
theorem FX.k15 {L : Nat} {h : HP} (w : FX L h) : hp_k h 15 = 100 := w.2.1.2.2.2.2.2.2.2.2.2.2.2.2.2.1
theorem FX.l15 {L : Nat} {h : HP} (w : FX L h) : hp_l h 15 = 100 := w.2.1.2.2.2.2.2.2.2.2.2.2.2.2.2.2.1
theorem FX.k239 {L : Nat} {h : HP} (w : FX L h) : hp_k h 239 = 100 := w.2.1.2.2.2.2.2.2.2.2.2.2.2.2.2.2.2.1
theorem FX.l239 {L : Nat} {h : HP} (w : FX L h) : hp_l h 239 = 40 := w.2.1.2.2.2.2.2.2.2.2.2.2.2.2.2.2.2.2.1
theorem FX.k10 {L : Nat} {h : HP} (w : FX L h) : hp_k h 10 = 6 := w.2.1.2.2.2.2.2.2.2.2.2.2.2.2.2.2.2.2.2.1
theorem FX.k13 {L : Nat} {h : HP} (w : FX L h) : hp_k h 13 = 201 := w.2.1.2.2.2.2.2.2.2.2.2.2.2.2.2.2.2.2.2.2.1
theorem FX.l13 {L : Nat} {h : HP} (w : FX L h) : hp_l h 13 = 12 := w.2.1.2.2.2.2.2.2.2.2.2.2.2.2.2.2.2.2.2.2.2
theorem FX.k14 {L : Nat} {h : HP} (w : FX L h) : hp_k h 14 = 9 := w.2.2.1.1
theorem FX.k238 {L : Nat} {h : HP} (w : FX L h) : hp_k h 238 = 10 := w.2.2.1.2.1
theorem FX.a238_0 {L : Nat} {h : HP} (w : FX L h) : hp_a h 238 0 = 239 := w.2.2.1.2.2.1
theorem FX.k240 {L : Nat} {h : HP} (w : FX L h) : hp_k h 240 = 208 := w.2.2.1.2.2.2.1
theorem FX.l240 {L : Nat} {h : HP} (w : FX L h) : hp_l h 240 = 3 := w.2.2.1.2.2.2.2.1
theorem FX.k244 {L : Nat} {h : HP} (w : FX L h) : hp_k h 244 = 12 := w.2.2.1.2.2.2.2.2.1
theorem FX.k245 {L : Nat} {h : HP} (w : FX L h) : hp_k h 245 = 100 := w.2.2.1.2.2.2.2.2.2.1
theorem FX.l245 {L : Nat} {h : HP} (w : FX L h) : hp_l h 245 = 10 := w.2.2.1.2.2.2.2.2.2.2.1
theorem FX.a244_1 {L : Nat} {h : HP} (w : FX L h) : hp_a h 244 1 = 245 := w.2.2.1.2.2.2.2.2.2.2.2.1
theorem FX.k246 {L : Nat} {h : HP} (w : FX L h) : hp_k h 246 = 100 := w.2.2.1.2.2.2.2.2.2.2.2.2.1
theorem FX.l246 {L : Nat} {h : HP} (w : FX L h) : hp_l h 246 = 10 := w.2.2.1.2.2.2.2.2.2.2.2.2.2.1
theorem FX.a244_2 {L : Nat} {h : HP} (w : FX L h) : hp_a h 244 2 = 246 := w.2.2.1.2.2.2.2.2.2.2.2.2.2.2.1
theorem FX.k247 {L : Nat} {h : HP} (w : FX L h) : hp_k h 247 = 100 := w.2.2.1.2.2.2.2.2.2.2.2.2.2.2.2.1
theorem FX.l247 {L : Nat} {h : HP} (w : FX L h) : hp_l h 247 = 1600 := w.2.2.1.2.2.2.2.2.2.2.2.2.2.2.2.2.1
theorem FX.a244_3 {L : Nat} {h : HP} (w : FX L h) : hp_a h 244 3 = 247 := w.2.2.1.2.2.2.2.2.2.2.2.2.2.2.2.2.2.1
theorem FX.k248 {L : Nat} {h : HP} (w : FX L h) : hp_k h 248 = 100 := w.2.2.1.2.2.2.2.2.2.2.2.2.2.2.2.2.2.2.1
theorem FX.l248 {L : Nat} {h : HP} (w : FX L h) : hp_l h 248 = 10 := w.2.2.1.2.2.2.2.2.2.2.2.2.2.2.2.2.2.2.2.1
theorem FX.a244_4 {L : Nat} {h : HP} (w : FX L h) : hp_a h 244 4 = 248 := w.2.2.1.2.2.2.2.2.2.2.2.2.2.2.2.2.2.2.2.2.1
theorem FX.k249 {L : Nat} {h : HP} (w : FX L h) : hp_k h 249 = 100 := w.2.2.1.2.2.2.2.2.2.2.2.2.2.2.2.2.2.2.2.2.2.1
theorem FX.l249 {L : Nat} {h : HP} (w : FX L h) : hp_l h 249 = 240 := w.2.2.1.2.2.2.2.2.2.2.2.2.2.2.2.2.2.2.2.2.2.2
theorem FX.a244_5 {L : Nat} {h : HP} (w : FX L h) : hp_a h 244 5 = 249 := w.2.2.2.1.1
theorem FX.k250 {L : Nat} {h : HP} (w : FX L h) : hp_k h 250 = 100 := w.2.2.2.1.2.1
theorem FX.l250 {L : Nat} {h : HP} (w : FX L h) : hp_l h 250 = 10 := w.2.2.2.1.2.2.1
theorem FX.a244_6 {L : Nat} {h : HP} (w : FX L h) : hp_a h 244 6 = 250 := w.2.2.2.1.2.2.2.1
theorem FX.k251 {L : Nat} {h : HP} (w : FX L h) : hp_k h 251 = 100 := w.2.2.2.1.2.2.2.2.1
theorem FX.l251 {L : Nat} {h : HP} (w : FX L h) : hp_l h 251 = 5 := w.2.2.2.1.2.2.2.2.2.1
theorem FX.a244_7 {L : Nat} {h : HP} (w : FX L h) : hp_a h 244 7 = 251 := w.2.2.2.1.2.2.2.2.2.2.1
theorem FX.k252 {L : Nat} {h : HP} (w : FX L h) : hp_k h 252 = 100 := w.2.2.2.1.2.2.2.2.2.2.2.1
theorem FX.l252 {L : Nat} {h : HP} (w : FX L h) : hp_l h 252 = 41 := w.2.2.2.1.2.2.2.2.2.2.2.2.1
theorem FX.a244_9 {L : Nat} {h : HP} (w : FX L h) : hp_a h 244 9 = 252 := w.2.2.2.1.2.2.2.2.2.2.2.2.2.1
theorem FX.k253 {L : Nat} {h : HP} (w : FX L h) : hp_k h 253 = 100 := w.2.2.2.1.2.2.2.2.2.2.2.2.2.2.1
theorem FX.l253 {L : Nat} {h : HP} (w : FX L h) : hp_l h 253 = 12 := w.2.2.2.1.2.2.2.2.2.2.2.2.2.2.2.1
theorem FX.a244_11 {L : Nat} {h : HP} (w : FX L h) : hp_a h 244 11 = 253 := w.2.2.2.1.2.2.2.2.2.2.2.2.2.2.2.2.1
theorem FX.k254 {L : Nat} {h : HP} (w : FX L h) : hp_k h 254 = 100 := w.2.2.2.1.2.2.2.2.2.2.2.2.2.2.2.2.2.1
theorem FX.l254 {L : Nat} {h : HP} (w : FX L h) : hp_l h 254 = 12 := w.2.2.2.1.2.2.2.2.2.2.2.2.2.2.2.2.2.2.1
theorem FX.a244_12 {L : Nat} {h : HP} (w : FX L h) : hp_a h 244 12 = 254 := w.2.2.2.1.2.2.2.2.2.2.2.2.2.2.2.2.2.2.2.1
theorem FX.k255 {L : Nat} {h : HP} (w : FX L h) : hp_k h 255 = 100 := w.2.2.2.1.2.2.2.2.2.2.2.2.2.2.2.2.2.2.2.2.1
theorem FX.l255 {L : Nat} {h : HP} (w : FX L h) : hp_l h 255 = 3 := w.2.2.2.1.2.2.2.2.2.2.2.2.2.2.2.2.2.2.2.2.2.1
theorem FX.a244_13 {L : Nat} {h : HP} (w : FX L h) : hp_a h 244 13 = 255 := w.2.2.2.1.2.2.2.2.2.2.2.2.2.2.2.2.2.2.2.2.2.2.1
theorem FX.k256 {L : Nat} {h : HP} (w : FX L h) : hp_k h 256 = 100 := w.2.2.2.1.2.2.2.2.2.2.2.2.2.2.2.2.2.2.2.2.2.2.2
theorem FX.l256 {L : Nat} {h : HP} (w : FX L h) : hp_l h 256 = 3 := w.2.2.2.2.1.1
theorem FX.a244_14 {L : Nat} {h : HP} (w : FX L h) : hp_a h 244 14 = 256 := w.2.2.2.2.1.2.1
theorem FX.k257 {L : Nat} {h : HP} (w : FX L h) : hp_k h 257 = 100 := w.2.2.2.2.1.2.2.1
theorem FX.l257 {L : Nat} {h : HP} (w : FX L h) : hp_l h 257 = 6000 := w.2.2.2.2.1.2.2.2.1
theorem FX.a244_18 {L : Nat} {h : HP} (w : FX L h) : hp_a h 244 18 = 257 := w.2.2.2.2.1.2.2.2.2.1
theorem FX.k258 {L : Nat} {h : HP} (w : FX L h) : hp_k h 258 = 100 := w.2.2.2.2.1.2.2.2.2.2.1
theorem FX.l258 {L : Nat} {h : HP} (w : FX L h) : hp_l h 258 = 6000 := w.2.2.2.2.1.2.2.2.2.2.2.1
theorem FX.a244_19 {L : Nat} {h : HP} (w : FX L h) : hp_a h 244 19 = 258 := w.2.2.2.2.1.2.2.2.2.2.2.2.1
theorem FX.k259 {L : Nat} {h : HP} (w : FX L h) : hp_k h 259 = 100 := w.2.2.2.2.1.2.2.2.2.2.2.2.2.1
theorem FX.l259 {L : Nat} {h : HP} (w : FX L h) : hp_l h 259 = 6000 := w.2.2.2.2.1.2.2.2.2.2.2.2.2.2.1
theorem FX.a244_20 {L : Nat} {h : HP} (w : FX L h) : hp_a h 244 20 = 259 := w.2.2.2.2.1.2.2.2.2.2.2.2.2.2.2.1
theorem FX.k260 {L : Nat} {h : HP} (w : FX L h) : hp_k h 260 = 100 := w.2.2.2.2.1.2.2.2.2.2.2.2.2.2.2.2.1
theorem FX.l260 {L : Nat} {h : HP} (w : FX L h) : hp_l h 260 = 6000 := w.2.2.2.2.1.2.2.2.2.2.2.2.2.2.2.2.2.1
theorem FX.a244_21 {L : Nat} {h : HP} (w : FX L h) : hp_a h 244 21 = 260 := w.2.2.2.2.1.2.2.2.2.2.2.2.2.2.2.2.2.2.1
theorem FX.k261 {L : Nat} {h : HP} (w : FX L h) : hp_k h 261 = 100 := w.2.2.2.2.1.2.2.2.2.2.2.2.2.2.2.2.2.2.2.1
theorem FX.l261 {L : Nat} {h : HP} (w : FX L h) : hp_l h 261 = 6000 := w.2.2.2.2.1.2.2.2.2.2.2.2.2.2.2.2.2.2.2.2.1
theorem FX.a244_22 {L : Nat} {h : HP} (w : FX L h) : hp_a h 244 22 = 261 := w.2.2.2.2.1.2.2.2.2.2.2.2.2.2.2.2.2.2.2.2.2.1
theorem FX.k262 {L : Nat} {h : HP} (w : FX L h) : hp_k h 262 = 100 := w.2.2.2.2.1.2.2.2.2.2.2.2.2.2.2.2.2.2.2.2.2.2.1
theorem FX.l262 {L : Nat} {h : HP} (w : FX L h) : hp_l h 262 = 6000 := w.2.2.2.2.1.2.2.2.2.2.2.2.2.2.2.2.2.2.2.2.2.2.2.1
theorem FX.a244_24 {L : Nat} {h : HP} (w : FX L h) : hp_a h 244 24 = 262 := w.2.2.2.2.1.2.2.2.2.2.2.2.2.2.2.2.2.2.2.2.2.2.2.2
theorem FX.k263 {L : Nat} {h : HP} (w : FX L h) : hp_k h 263 = 100 := w.2.2.2.2.2.1.1
theorem FX.l263 {L : Nat} {h : HP} (w : FX L h) : hp_l h 263 = 6000 := w.2.2.2.2.2.1.2.1
theorem FX.a244_25 {L : Nat} {h : HP} (w : FX L h) : hp_a h 244 25 = 263 := w.2.2.2.2.2.1.2.2.1
theorem FX.k264 {L : Nat} {h : HP} (w : FX L h) : hp_k h 264 = 100 := w.2.2.2.2.2.1.2.2.2.1
theorem FX.l264 {L : Nat} {h : HP} (w : FX L h) : hp_l h 264 = 6000 := w.2.2.2.2.2.1.2.2.2.2.1
theorem FX.a244_26 {L : Nat} {h : HP} (w : FX L h) : hp_a h 244 26 = 264 := w.2.2.2.2.2.1.2.2.2.2.2.1
theorem FX.k265 {L : Nat} {h : HP} (w : FX L h) : hp_k h 265 = 100 := w.2.2.2.2.2.1.2.2.2.2.2.2.1
theorem FX.l265 {L : Nat} {h : HP} (w : FX L h) : hp_l h 265 = 6000 := w.2.2.2.2.2.1.2.2.2.2.2.2.2.1
theorem FX.a244_27 {L : Nat} {h : HP} (w : FX L h) : hp_a h 244 27 = 265 := w.2.2.2.2.2.1.2.2.2.2.2.2.2.2.1
theorem FX.k266 {L : Nat} {h : HP} (w : FX L h) : hp_k h 266 = 100 := w.2.2.2.2.2.1.2.2.2.2.2.2.2.2.2.1
theorem FX.l266 {L : Nat} {h : HP} (w : FX L h) : hp_l h 266 = 12 := w.2.2.2.2.2.1.2.2.2.2.2.2.2.2.2.2.1
theorem FX.a244_30 {L : Nat} {h : HP} (w : FX L h) : hp_a h 244 30 = 266 := w.2.2.2.2.2.1.2.2.2.2.2.2.2.2.2.2.2.1
theorem FX.k267 {L : Nat} {h : HP} (w : FX L h) : hp_k h 267 = 100 := w.2.2.2.2.2.1.2.2.2.2.2.2.2.2.2.2.2.2.1
theorem FX.l267 {L : Nat} {h : HP} (w : FX L h) : hp_l h 267 = 12 := w.2.2.2.2.2.1.2.2.2.2.2.2.2.2.2.2.2.2.2.1
theorem FX.a244_31 {L : Nat} {h : HP} (w : FX L h) : hp_a h 244 31 = 267 := w.2.2.2.2.2.1.2.2.2.2.2.2.2.2.2.2.2.2.2.2.1
theorem FX.k268 {L : Nat} {h : HP} (w : FX L h) : hp_k h 268 = 100 := w.2.2.2.2.2.1.2.2.2.2.2.2.2.2.2.2.2.2.2.2.2.1
theorem FX.l268 {L : Nat} {h : HP} (w : FX L h) : hp_l h 268 = 12 := w.2.2.2.2.2.1.2.2.2.2.2.2.2.2.2.2.2.2.2.2.2.2.1
theorem FX.a244_32 {L : Nat} {h : HP} (w : FX L h) : hp_a h 244 32 = 268 := w.2.2.2.2.2.1.2.2.2.2.2.2.2.2.2.2.2.2.2.2.2.2.2.1
theorem FX.k269 {L : Nat} {h : HP} (w : FX L h) : hp_k h 269 = 100 := w.2.2.2.2.2.1.2.2.2.2.2.2.2.2.2.2.2.2.2.2.2.2.2.2.1
theorem FX.l269 {L : Nat} {h : HP} (w : FX L h) : hp_l h 269 = 96 := w.2.2.2.2.2.1.2.2.2.2.2.2.2.2.2.2.2.2.2.2.2.2.2.2.2
theorem FX.a244_33 {L : Nat} {h : HP} (w : FX L h) : hp_a h 244 33 = 269 := w.2.2.2.2.2.2.1.1
theorem FX.k270 {L : Nat} {h : HP} (w : FX L h) : hp_k h 270 = 100 := w.2.2.2.2.2.2.1.2.1
theorem FX.l270 {L : Nat} {h : HP} (w : FX L h) : hp_l h 270 = 96 := w.2.2.2.2.2.2.1.2.2.1
theorem FX.a244_34 {L : Nat} {h : HP} (w : FX L h) : hp_a h 244 34 = 270 := w.2.2.2.2.2.2.1.2.2.2.1
theorem FX.k271 {L : Nat} {h : HP} (w : FX L h) : hp_k h 271 = 100 := w.2.2.2.2.2.2.1.2.2.2.2.1
theorem FX.l271 {L : Nat} {h : HP} (w : FX L h) : hp_l h 271 = 12 := w.2.2.2.2.2.2.1.2.2.2.2.2.1
theorem FX.a244_35 {L : Nat} {h : HP} (w : FX L h) : hp_a h 244 35 = 271 := w.2.2.2.2.2.2.1.2.2.2.2.2.2.1
theorem FX.k272 {L : Nat} {h : HP} (w : FX L h) : hp_k h 272 = 100 := w.2.2.2.2.2.2.1.2.2.2.2.2.2.2.1
theorem FX.l272 {L : Nat} {h : HP} (w : FX L h) : hp_l h 272 = 72000 := w.2.2.2.2.2.2.1.2.2.2.2.2.2.2.2.1
theorem FX.a244_36 {L : Nat} {h : HP} (w : FX L h) : hp_a h 244 36 = 272 := w.2.2.2.2.2.2.1.2.2.2.2.2.2.2.2.2.1
theorem FX.k273 {L : Nat} {h : HP} (w : FX L h) : hp_k h 273 = 100 := w.2.2.2.2.2.2.1.2.2.2.2.2.2.2.2.2.2.1
theorem FX.l273 {L : Nat} {h : HP} (w : FX L h) : hp_l h 273 = 9 := w.2.2.2.2.2.2.1.2.2.2.2.2.2.2.2.2.2.2.1
theorem FX.a244_39 {L : Nat} {h : HP} (w : FX L h) : hp_a h 244 39 = 273 := w.2.2.2.2.2.2.1.2.2.2.2.2.2.2.2.2.2.2.2.1
theorem FX.k274 {L : Nat} {h : HP} (w : FX L h) : hp_k h 274 = 100 := w.2.2.2.2.2.2.1.2.2.2.2.2.2.2.2.2.2.2.2.2.1
theorem FX.l274 {L : Nat} {h : HP} (w : FX L h) : hp_l h 274 = 100 := w.2.2.2.2.2.2.1.2.2.2.2.2.2.2.2.2.2.2.2.2.2.1
theorem FX.a244_40 {L : Nat} {h : HP} (w : FX L h) : hp_a h 244 40 = 274 := w.2.2.2.2.2.2.1.2.2.2.2.2.2.2.2.2.2.2.2.2.2.2.1
theorem FX.k275 {L : Nat} {h : HP} (w : FX L h) : hp_k h 275 = 100 := w.2.2.2.2.2.2.1.2.2.2.2.2.2.2.2.2.2.2.2.2.2.2.2.1
theorem FX.l275 {L : Nat} {h : HP} (w : FX L h) : hp_l h 275 = 5 := w.2.2.2.2.2.2.1.2.2.2.2.2.2.2.2.2.2.2.2.2.2.2.2.2.1
theorem FX.a244_43 {L : Nat} {h : HP} (w : FX L h) : hp_a h 244 43 = 275 := w.2.2.2.2.2.2.1.2.2.2.2.2.2.2.2.2.2.2.2.2.2.2.2.2.2.1
theorem FX.mem {L : Nat} {h : HP} (w : FX L h) : ∀ i, i < 10 → hp_a h 6 i = 16 + 9 * i := w.2.2.2.2.2.2.1.2.2.2.2.2.2.2.2.2.2.2.2.2.2.2.2.2.2.2
theorem FX.fra {L : Nat} {h : HP} (w : FX L h) : ∀ f, f < 12 → hp_a h 13 f = 106 + 11 * f := w.2.2.2.2.2.2.2.1
theorem FX.arg {L : Nat} {h : HP} (w : FX L h) : ∀ k, k < 3 → hp_a h 240 k = 241 + k := w.2.2.2.2.2.2.2.2.1
theorem FX.argk {L : Nat} {h : HP} (w : FX L h) : ∀ k, k < 3 → hp_k h (241 + k) = 9 := w.2.2.2.2.2.2.2.2.2.1
theorem FX.mk {L : Nat} {h : HP} (w : FX L h) : ∀ i, i < 10 → hp_k h (16 + 9 * i) = 5 := w.2.2.2.2.2.2.2.2.2.2.1
theorem FX.mka {L : Nat} {h : HP} (w : FX L h) : ∀ i j, i < 10 → 1 ≤ j → j ≤ 8 → hp_k h (16 + 9 * i + j) = 100 := w.2.2.2.2.2.2.2.2.2.2.2.1
theorem FX.mla {L : Nat} {h : HP} (w : FX L h) : ∀ i j, i < 10 → 1 ≤ j → j ≤ 4 → hp_l h (16 + 9 * i + j) = 40 := w.2.2.2.2.2.2.2.2.2.2.2.2.1
theorem FX.mlb {L : Nat} {h : HP} (w : FX L h) : ∀ i j, i < 10 → 5 ≤ j → j ≤ 8 → hp_l h (16 + 9 * i + j) = 6 := w.2.2.2.2.2.2.2.2.2.2.2.2.2.1
theorem FX.mpa {L : Nat} {h : HP} (w : FX L h) : ∀ i j, i < 10 → 1 ≤ j → j ≤ 4 → hp_a h (16 + 9 * i) (j + 2) = 16 + 9 * i + j := w.2.2.2.2.2.2.2.2.2.2.2.2.2.2.1
theorem FX.mpb {L : Nat} {h : HP} (w : FX L h) : ∀ i j, i < 10 → 5 ≤ j → j ≤ 8 → hp_a h (16 + 9 * i) (j + 3) = 16 + 9 * i + j := w.2.2.2.2.2.2.2.2.2.2.2.2.2.2.2.1
theorem FX.fk {L : Nat} {h : HP} (w : FX L h) : ∀ f, f < 12 → hp_k h (106 + 11 * f) = 2 := w.2.2.2.2.2.2.2.2.2.2.2.2.2.2.2.2.1
theorem FX.fp0 {L : Nat} {h : HP} (w : FX L h) : ∀ f, f < 12 → hp_a h (106 + 11 * f) 0 = 107 + 11 * f := w.2.2.2.2.2.2.2.2.2.2.2.2.2.2.2.2.2.1
theorem FX.fp1 {L : Nat} {h : HP} (w : FX L h) : ∀ f, f < 12 → hp_a h (106 + 11 * f) 1 = 108 + 11 * f := w.2.2.2.2.2.2.2.2.2.2.2.2.2.2.2.2.2.2.1
theorem FX.frk {L : Nat} {h : HP} (w : FX L h) : ∀ f, f < 12 → hp_k h (107 + 11 * f) = 208 := w.2.2.2.2.2.2.2.2.2.2.2.2.2.2.2.2.2.2.2.1
theorem FX.frl {L : Nat} {h : HP} (w : FX L h) : ∀ f, f < 12 → hp_l h (107 + 11 * f) = 8 := w.2.2.2.2.2.2.2.2.2.2.2.2.2.2.2.2.2.2.2.2.1
theorem FX.fgk {L : Nat} {h : HP} (w : FX L h) : ∀ f, f < 12 → hp_k h (108 + 11 * f) = 9 := w.2.2.2.2.2.2.2.2.2.2.2.2.2.2.2.2.2.2.2.2.2.1
theorem FX.frp {L : Nat} {h : HP} (w : FX L h) : ∀ f k, f < 12 → k < 8 → hp_a h (107 + 11 * f) k = 109 + 11 * f + k := w.2.2.2.2.2.2.2.2.2.2.2.2.2.2.2.2.2.2.2.2.2.2.1
theorem FX.frs {L : Nat} {h : HP} (w : FX L h) : ∀ f k, f < 12 → k < 8 → hp_k h (109 + 11 * f + k) = 9 := w.2.2.2.2.2.2.2.2.2.2.2.2.2.2.2.2.2.2.2.2.2.2.2
/-- references that come and go: of slots, holds, cells, rows, the spare holds, a frame's member and holds -/
def mov (h : HP) (a k : Nat) : Prop := hp_k h a = 9 ∨ hp_k h a = 3 ∨ hp_k h a = 1 ∨ hp_k h a = 8 ∨ hp_k h a = 207 ∨ hp_k h a = 6 ∨ (hp_k h a = 2 ∧ 2 ≤ k)
theorem FX.wi {L : Nat} {h : HP} {a k : Nat} {x : Int32} (w : FX L h) : FX L (hp_wi h a k x) := w
theorem FX.cp {L : Nat} {h : HP} {a b c d e : Nat} (w : FX L h) : FX L (hp_cp h a b c d e) := w
theorem FX.wa {L : Nat} {h : HP} {a k v : Nat} (w : FX L h) (hm : mov h a k) : FX L (hp_wa h a k v) := by
  unfold mov at hm
  have q0 : FX0 L (hp_wa h a k v) := ⟨w.n, w.k1, w.k2, w.k3, w.l1, w.l2, w.l3, w.k4, (by rw [hp_a_wa, if_neg (by rintro ⟨rfl, rfl⟩; have := w.k4; omega)]; exact w.a4_0), (by rw [hp_a_wa, if_neg (by rintro ⟨rfl, rfl⟩; have := w.k4; omega)]; exact w.a4_1), (by rw [hp_a_wa, if_neg (by rintro ⟨rfl, rfl⟩; have := w.k4; omega)]; exact w.a4_2), w.k5, (by rw [hp_a_wa, if_neg (by rintro ⟨rfl, rfl⟩; have := w.k5; omega)]; exact w.a5_0), (by rw [hp_a_wa, if_neg (by rintro ⟨rfl, rfl⟩; have := w.k5; omega)]; exact w.a5_2), (by rw [hp_a_wa, if_neg (by rintro ⟨rfl, rfl⟩; have := w.k5; omega)]; exact w.a5_3), (by rw [hp_a_wa, if_neg (by rintro ⟨rfl, rfl⟩; have := w.k5; omega)]; exact w.a5_4), (by rw [hp_a_wa, if_neg (by rintro ⟨rfl, rfl⟩; have := w.k5; omega)]; exact w.a5_5), (by rw [hp_a_wa, if_neg (by rintro ⟨rfl, rfl⟩; have := w.k5; omega)]; exact w.a5_6), (by rw [hp_a_wa, if_neg (by rintro ⟨rfl, rfl⟩; have := w.k5; omega)]; exact w.a5_8), (by rw [hp_a_wa, if_neg (by rintro ⟨rfl, rfl⟩; have := w.k5; omega)]; exact w.a5_10)⟩
  have q1 : FX1 L (hp_wa h a k v) := ⟨w.k6, w.l6, w.k7, (by rw [hp_a_wa, if_neg (by rintro ⟨rfl, rfl⟩; have := w.k7; omega)]; exact w.a7_0), (by rw [hp_a_wa, if_neg (by rintro ⟨rfl, rfl⟩; have := w.k7; omega)]; exact w.a7_1), w.k8, w.l8, w.k9, w.l9, w.k11, w.l11, w.k12, w.l12, w.k15, w.l15, w.k239, w.l239, w.k10, w.k13, w.l13⟩
  have q2 : FX2 L (hp_wa h a k v) := ⟨w.k14, w.k238, (by rw [hp_a_wa, if_neg (by rintro ⟨rfl, rfl⟩; have := w.k238; omega)]; exact w.a238_0), w.k240, w.l240, w.k244, w.k245, w.l245, (by rw [hp_a_wa, if_neg (by rintro ⟨rfl, rfl⟩; have := w.k244; omega)]; exact w.a244_1), w.k246, w.l246, (by rw [hp_a_wa, if_neg (by rintro ⟨rfl, rfl⟩; have := w.k244; omega)]; exact w.a244_2), w.k247, w.l247, (by rw [hp_a_wa, if_neg (by rintro ⟨rfl, rfl⟩; have := w.k244; omega)]; exact w.a244_3), w.k248, w.l248, (by rw [hp_a_wa, if_neg (by rintro ⟨rfl, rfl⟩; have := w.k244; omega)]; exact w.a244_4), w.k249, w.l249⟩
  have q3 : FX3 L (hp_wa h a k v) := ⟨(by rw [hp_a_wa, if_neg (by rintro ⟨rfl, rfl⟩; have := w.k244; omega)]; exact w.a244_5), w.k250, w.l250, (by rw [hp_a_wa, if_neg (by rintro ⟨rfl, rfl⟩; have := w.k244; omega)]; exact w.a244_6), w.k251, w.l251, (by rw [hp_a_wa, if_neg (by rintro ⟨rfl, rfl⟩; have := w.k244; omega)]; exact w.a244_7), w.k252, w.l252, (by rw [hp_a_wa, if_neg (by rintro ⟨rfl, rfl⟩; have := w.k244; omega)]; exact w.a244_9), w.k253, w.l253, (by rw [hp_a_wa, if_neg (by rintro ⟨rfl, rfl⟩; have := w.k244; omega)]; exact w.a244_11), w.k254, w.l254, (by rw [hp_a_wa, if_neg (by rintro ⟨rfl, rfl⟩; have := w.k244; omega)]; exact w.a244_12), w.k255, w.l255, (by rw [hp_a_wa, if_neg (by rintro ⟨rfl, rfl⟩; have := w.k244; omega)]; exact w.a244_13), w.k256⟩
  have q4 : FX4 L (hp_wa h a k v) := ⟨w.l256, (by rw [hp_a_wa, if_neg (by rintro ⟨rfl, rfl⟩; have := w.k244; omega)]; exact w.a244_14), w.k257, w.l257, (by rw [hp_a_wa, if_neg (by rintro ⟨rfl, rfl⟩; have := w.k244; omega)]; exact w.a244_18), w.k258, w.l258, (by rw [hp_a_wa, if_neg (by rintro ⟨rfl, rfl⟩; have := w.k244; omega)]; exact w.a244_19), w.k259, w.l259, (by rw [hp_a_wa, if_neg (by rintro ⟨rfl, rfl⟩; have := w.k244; omega)]; exact w.a244_20), w.k260, w.l260, (by rw [hp_a_wa, if_neg (by rintro ⟨rfl, rfl⟩; have := w.k244; omega)]; exact w.a244_21), w.k261, w.l261, (by rw [hp_a_wa, if_neg (by rintro ⟨rfl, rfl⟩; have := w.k244; omega)]; exact w.a244_22), w.k262, w.l262, (by rw [hp_a_wa, if_neg (by rintro ⟨rfl, rfl⟩; have := w.k244; omega)]; exact w.a244_24)⟩
  have q5 : FX5 L (hp_wa h a k v) := ⟨w.k263, w.l263, (by rw [hp_a_wa, if_neg (by rintro ⟨rfl, rfl⟩; have := w.k244; omega)]; exact w.a244_25), w.k264, w.l264, (by rw [hp_a_wa, if_neg (by rintro ⟨rfl, rfl⟩; have := w.k244; omega)]; exact w.a244_26), w.k265, w.l265, (by rw [hp_a_wa, if_neg (by rintro ⟨rfl, rfl⟩; have := w.k244; omega)]; exact w.a244_27), w.k266, w.l266, (by rw [hp_a_wa, if_neg (by rintro ⟨rfl, rfl⟩; have := w.k244; omega)]; exact w.a244_30), w.k267, w.l267, (by rw [hp_a_wa, if_neg (by rintro ⟨rfl, rfl⟩; have := w.k244; omega)]; exact w.a244_31), w.k268, w.l268, (by rw [hp_a_wa, if_neg (by rintro ⟨rfl, rfl⟩; have := w.k244; omega)]; exact w.a244_32), w.k269, w.l269⟩
  have q6 : FX6 L (hp_wa h a k v) := ⟨(by rw [hp_a_wa, if_neg (by rintro ⟨rfl, rfl⟩; have := w.k244; omega)]; exact w.a244_33), w.k270, w.l270, (by rw [hp_a_wa, if_neg (by rintro ⟨rfl, rfl⟩; have := w.k244; omega)]; exact w.a244_34), w.k271, w.l271, (by rw [hp_a_wa, if_neg (by rintro ⟨rfl, rfl⟩; have := w.k244; omega)]; exact w.a244_35), w.k272, w.l272, (by rw [hp_a_wa, if_neg (by rintro ⟨rfl, rfl⟩; have := w.k244; omega)]; exact w.a244_36), w.k273, w.l273, (by rw [hp_a_wa, if_neg (by rintro ⟨rfl, rfl⟩; have := w.k244; omega)]; exact w.a244_39), w.k274, w.l274, (by rw [hp_a_wa, if_neg (by rintro ⟨rfl, rfl⟩; have := w.k244; omega)]; exact w.a244_40), w.k275, w.l275, (by rw [hp_a_wa, if_neg (by rintro ⟨rfl, rfl⟩; have := w.k244; omega)]; exact w.a244_43), (fun i hi => by rw [hp_a_wa, if_neg (by rintro ⟨rfl, rfl⟩; have := w.k6; omega)]; exact w.mem i hi)⟩
  have q7 : FX7 L (hp_wa h a k v) := ⟨(fun i hi => by rw [hp_a_wa, if_neg (by rintro ⟨rfl, rfl⟩; have := w.k13; omega)]; exact w.fra i hi), (fun i hi => by rw [hp_a_wa, if_neg (by rintro ⟨rfl, rfl⟩; have := w.k240; omega)]; exact w.arg i hi), w.argk, w.mk, w.mka, w.mla, w.mlb, (fun i j hi h1 h2 => by rw [hp_a_wa, if_neg (by rintro ⟨rfl, rfl⟩; have := w.mk i hi; omega)]; exact w.mpa i j hi h1 h2), (fun i j hi h1 h2 => by rw [hp_a_wa, if_neg (by rintro ⟨rfl, rfl⟩; have := w.mk i hi; omega)]; exact w.mpb i j hi h1 h2), w.fk, (fun f hf => by rw [hp_a_wa, if_neg (by rintro ⟨rfl, rfl⟩; have := w.fk f hf; omega)]; exact w.fp0 f hf), (fun f hf => by rw [hp_a_wa, if_neg (by rintro ⟨rfl, rfl⟩; have := w.fk f hf; omega)]; exact w.fp1 f hf), w.frk, w.frl, w.fgk, (fun f k hf hk => by rw [hp_a_wa, if_neg (by rintro ⟨rfl, rfl⟩; have := w.frk f hf; omega)]; exact w.frp f k hf hk), w.frs⟩
  exact ⟨q0, q1, q2, q3, q4, q5, q6, q7⟩
theorem FX.mk_ {L : Nat} {h : HP} {t n s : Nat} (w : FX L h) : FX L (hp_mk h t n s) := by
  have hn := w.n
  have q0 : FX0 L (hp_mk h t n s) := ⟨(by rw [hp_n_mk]; omega), (by rw [hp_k_mk, if_neg (by omega)]; exact w.k1), (by rw [hp_k_mk, if_neg (by omega)]; exact w.k2), (by rw [hp_k_mk, if_neg (by omega)]; exact w.k3), (by rw [hp_l_mk, if_neg (by omega)]; exact w.l1), (by rw [hp_l_mk, if_neg (by omega)]; exact w.l2), (by rw [hp_l_mk, if_neg (by omega)]; exact w.l3), (by rw [hp_k_mk, if_neg (by omega)]; exact w.k4), (by rw [hp_a_mk, if_neg (by omega)]; exact w.a4_0), (by rw [hp_a_mk, if_neg (by omega)]; exact w.a4_1), (by rw [hp_a_mk, if_neg (by omega)]; exact w.a4_2), (by rw [hp_k_mk, if_neg (by omega)]; exact w.k5), (by rw [hp_a_mk, if_neg (by omega)]; exact w.a5_0), (by rw [hp_a_mk, if_neg (by omega)]; exact w.a5_2), (by rw [hp_a_mk, if_neg (by omega)]; exact w.a5_3), (by rw [hp_a_mk, if_neg (by omega)]; exact w.a5_4), (by rw [hp_a_mk, if_neg (by omega)]; exact w.a5_5), (by rw [hp_a_mk, if_neg (by omega)]; exact w.a5_6), (by rw [hp_a_mk, if_neg (by omega)]; exact w.a5_8), (by rw [hp_a_mk, if_neg (by omega)]; exact w.a5_10)⟩
  have q1 : FX1 L (hp_mk h t n s) := ⟨(by rw [hp_k_mk, if_neg (by omega)]; exact w.k6), (by rw [hp_l_mk, if_neg (by omega)]; exact w.l6), (by rw [hp_k_mk, if_neg (by omega)]; exact w.k7), (by rw [hp_a_mk, if_neg (by omega)]; exact w.a7_0), (by rw [hp_a_mk, if_neg (by omega)]; exact w.a7_1), (by rw [hp_k_mk, if_neg (by omega)]; exact w.k8), (by rw [hp_l_mk, if_neg (by omega)]; exact w.l8), (by rw [hp_k_mk, if_neg (by omega)]; exact w.k9), (by rw [hp_l_mk, if_neg (by omega)]; exact w.l9), (by rw [hp_k_mk, if_neg (by omega)]; exact w.k11), (by rw [hp_l_mk, if_neg (by omega)]; exact w.l11), (by rw [hp_k_mk, if_neg (by omega)]; exact w.k12), (by rw [hp_l_mk, if_neg (by omega)]; exact w.l12), (by rw [hp_k_mk, if_neg (by omega)]; exact w.k15), (by rw [hp_l_mk, if_neg (by omega)]; exact w.l15), (by rw [hp_k_mk, if_neg (by omega)]; exact w.k239), (by rw [hp_l_mk, if_neg (by omega)]; exact w.l239), (by rw [hp_k_mk, if_neg (by omega)]; exact w.k10), (by rw [hp_k_mk, if_neg (by omega)]; exact w.k13), (by rw [hp_l_mk, if_neg (by omega)]; exact w.l13)⟩
  have q2 : FX2 L (hp_mk h t n s) := ⟨(by rw [hp_k_mk, if_neg (by omega)]; exact w.k14), (by rw [hp_k_mk, if_neg (by omega)]; exact w.k238), (by rw [hp_a_mk, if_neg (by omega)]; exact w.a238_0), (by rw [hp_k_mk, if_neg (by omega)]; exact w.k240), (by rw [hp_l_mk, if_neg (by omega)]; exact w.l240), (by rw [hp_k_mk, if_neg (by omega)]; exact w.k244), (by rw [hp_k_mk, if_neg (by omega)]; exact w.k245), (by rw [hp_l_mk, if_neg (by omega)]; exact w.l245), (by rw [hp_a_mk, if_neg (by omega)]; exact w.a244_1), (by rw [hp_k_mk, if_neg (by omega)]; exact w.k246), (by rw [hp_l_mk, if_neg (by omega)]; exact w.l246), (by rw [hp_a_mk, if_neg (by omega)]; exact w.a244_2), (by rw [hp_k_mk, if_neg (by omega)]; exact w.k247), (by rw [hp_l_mk, if_neg (by omega)]; exact w.l247), (by rw [hp_a_mk, if_neg (by omega)]; exact w.a244_3), (by rw [hp_k_mk, if_neg (by omega)]; exact w.k248), (by rw [hp_l_mk, if_neg (by omega)]; exact w.l248), (by rw [hp_a_mk, if_neg (by omega)]; exact w.a244_4), (by rw [hp_k_mk, if_neg (by omega)]; exact w.k249), (by rw [hp_l_mk, if_neg (by omega)]; exact w.l249)⟩
  have q3 : FX3 L (hp_mk h t n s) := ⟨(by rw [hp_a_mk, if_neg (by omega)]; exact w.a244_5), (by rw [hp_k_mk, if_neg (by omega)]; exact w.k250), (by rw [hp_l_mk, if_neg (by omega)]; exact w.l250), (by rw [hp_a_mk, if_neg (by omega)]; exact w.a244_6), (by rw [hp_k_mk, if_neg (by omega)]; exact w.k251), (by rw [hp_l_mk, if_neg (by omega)]; exact w.l251), (by rw [hp_a_mk, if_neg (by omega)]; exact w.a244_7), (by rw [hp_k_mk, if_neg (by omega)]; exact w.k252), (by rw [hp_l_mk, if_neg (by omega)]; exact w.l252), (by rw [hp_a_mk, if_neg (by omega)]; exact w.a244_9), (by rw [hp_k_mk, if_neg (by omega)]; exact w.k253), (by rw [hp_l_mk, if_neg (by omega)]; exact w.l253), (by rw [hp_a_mk, if_neg (by omega)]; exact w.a244_11), (by rw [hp_k_mk, if_neg (by omega)]; exact w.k254), (by rw [hp_l_mk, if_neg (by omega)]; exact w.l254), (by rw [hp_a_mk, if_neg (by omega)]; exact w.a244_12), (by rw [hp_k_mk, if_neg (by omega)]; exact w.k255), (by rw [hp_l_mk, if_neg (by omega)]; exact w.l255), (by rw [hp_a_mk, if_neg (by omega)]; exact w.a244_13), (by rw [hp_k_mk, if_neg (by omega)]; exact w.k256)⟩
  have q4 : FX4 L (hp_mk h t n s) := ⟨(by rw [hp_l_mk, if_neg (by omega)]; exact w.l256), (by rw [hp_a_mk, if_neg (by omega)]; exact w.a244_14), (by rw [hp_k_mk, if_neg (by omega)]; exact w.k257), (by rw [hp_l_mk, if_neg (by omega)]; exact w.l257), (by rw [hp_a_mk, if_neg (by omega)]; exact w.a244_18), (by rw [hp_k_mk, if_neg (by omega)]; exact w.k258), (by rw [hp_l_mk, if_neg (by omega)]; exact w.l258), (by rw [hp_a_mk, if_neg (by omega)]; exact w.a244_19), (by rw [hp_k_mk, if_neg (by omega)]; exact w.k259), (by rw [hp_l_mk, if_neg (by omega)]; exact w.l259), (by rw [hp_a_mk, if_neg (by omega)]; exact w.a244_20), (by rw [hp_k_mk, if_neg (by omega)]; exact w.k260), (by rw [hp_l_mk, if_neg (by omega)]; exact w.l260), (by rw [hp_a_mk, if_neg (by omega)]; exact w.a244_21), (by rw [hp_k_mk, if_neg (by omega)]; exact w.k261), (by rw [hp_l_mk, if_neg (by omega)]; exact w.l261), (by rw [hp_a_mk, if_neg (by omega)]; exact w.a244_22), (by rw [hp_k_mk, if_neg (by omega)]; exact w.k262), (by rw [hp_l_mk, if_neg (by omega)]; exact w.l262), (by rw [hp_a_mk, if_neg (by omega)]; exact w.a244_24)⟩
  have q5 : FX5 L (hp_mk h t n s) := ⟨(by rw [hp_k_mk, if_neg (by omega)]; exact w.k263), (by rw [hp_l_mk, if_neg (by omega)]; exact w.l263), (by rw [hp_a_mk, if_neg (by omega)]; exact w.a244_25), (by rw [hp_k_mk, if_neg (by omega)]; exact w.k264), (by rw [hp_l_mk, if_neg (by omega)]; exact w.l264), (by rw [hp_a_mk, if_neg (by omega)]; exact w.a244_26), (by rw [hp_k_mk, if_neg (by omega)]; exact w.k265), (by rw [hp_l_mk, if_neg (by omega)]; exact w.l265), (by rw [hp_a_mk, if_neg (by omega)]; exact w.a244_27), (by rw [hp_k_mk, if_neg (by omega)]; exact w.k266), (by rw [hp_l_mk, if_neg (by omega)]; exact w.l266), (by rw [hp_a_mk, if_neg (by omega)]; exact w.a244_30), (by rw [hp_k_mk, if_neg (by omega)]; exact w.k267), (by rw [hp_l_mk, if_neg (by omega)]; exact w.l267), (by rw [hp_a_mk, if_neg (by omega)]; exact w.a244_31), (by rw [hp_k_mk, if_neg (by omega)]; exact w.k268), (by rw [hp_l_mk, if_neg (by omega)]; exact w.l268), (by rw [hp_a_mk, if_neg (by omega)]; exact w.a244_32), (by rw [hp_k_mk, if_neg (by omega)]; exact w.k269), (by rw [hp_l_mk, if_neg (by omega)]; exact w.l269)⟩
  have q6 : FX6 L (hp_mk h t n s) := ⟨(by rw [hp_a_mk, if_neg (by omega)]; exact w.a244_33), (by rw [hp_k_mk, if_neg (by omega)]; exact w.k270), (by rw [hp_l_mk, if_neg (by omega)]; exact w.l270), (by rw [hp_a_mk, if_neg (by omega)]; exact w.a244_34), (by rw [hp_k_mk, if_neg (by omega)]; exact w.k271), (by rw [hp_l_mk, if_neg (by omega)]; exact w.l271), (by rw [hp_a_mk, if_neg (by omega)]; exact w.a244_35), (by rw [hp_k_mk, if_neg (by omega)]; exact w.k272), (by rw [hp_l_mk, if_neg (by omega)]; exact w.l272), (by rw [hp_a_mk, if_neg (by omega)]; exact w.a244_36), (by rw [hp_k_mk, if_neg (by omega)]; exact w.k273), (by rw [hp_l_mk, if_neg (by omega)]; exact w.l273), (by rw [hp_a_mk, if_neg (by omega)]; exact w.a244_39), (by rw [hp_k_mk, if_neg (by omega)]; exact w.k274), (by rw [hp_l_mk, if_neg (by omega)]; exact w.l274), (by rw [hp_a_mk, if_neg (by omega)]; exact w.a244_40), (by rw [hp_k_mk, if_neg (by omega)]; exact w.k275), (by rw [hp_l_mk, if_neg (by omega)]; exact w.l275), (by rw [hp_a_mk, if_neg (by omega)]; exact w.a244_43), (fun i hi => by rw [hp_a_mk, if_neg (by omega)]; exact w.mem i hi)⟩
  have q7 : FX7 L (hp_mk h t n s) := ⟨(fun i hi => by rw [hp_a_mk, if_neg (by omega)]; exact w.fra i hi), (fun i hi => by rw [hp_a_mk, if_neg (by omega)]; exact w.arg i hi), (fun i hi => by rw [hp_k_mk, if_neg (by omega)]; exact w.argk i hi), (fun i hi => by rw [hp_k_mk, if_neg (by omega)]; exact w.mk i hi), (fun i j hi h1 h2 => by rw [hp_k_mk, if_neg (by omega)]; exact w.mka i j hi h1 h2), (fun i j hi h1 h2 => by rw [hp_l_mk, if_neg (by omega)]; exact w.mla i j hi h1 h2), (fun i j hi h1 h2 => by rw [hp_l_mk, if_neg (by omega)]; exact w.mlb i j hi h1 h2), (fun i j hi h1 h2 => by rw [hp_a_mk, if_neg (by omega)]; exact w.mpa i j hi h1 h2), (fun i j hi h1 h2 => by rw [hp_a_mk, if_neg (by omega)]; exact w.mpb i j hi h1 h2), (fun f hf => by rw [hp_k_mk, if_neg (by omega)]; exact w.fk f hf), (fun f hf => by rw [hp_a_mk, if_neg (by omega)]; exact w.fp0 f hf), (fun f hf => by rw [hp_a_mk, if_neg (by omega)]; exact w.fp1 f hf), (fun f hf => by rw [hp_k_mk, if_neg (by omega)]; exact w.frk f hf), (fun f hf => by rw [hp_l_mk, if_neg (by omega)]; exact w.frl f hf), (fun f hf => by rw [hp_k_mk, if_neg (by omega)]; exact w.fgk f hf), (fun f k hf hk => by rw [hp_a_mk, if_neg (by omega)]; exact w.frp f k hf hk), (fun f k hf hk => by rw [hp_k_mk, if_neg (by omega)]; exact w.frs f k hf hk)⟩
  exact ⟨q0, q1, q2, q3, q4, q5, q6, q7⟩
