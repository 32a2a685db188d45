/-! ===== class and model side by side ===== -/
def lF (F : Nat) : Bool := (Nat.ble 311 F && Nat.ble F 318) || ((Nat.ble 320 F && Nat.ble F 325) || (Nat.ble 410 F && Nat.blt F 430))
def dF (F : Nat) : Bool := Nat.ble 326 F && Nat.ble F 331
def nodeR (l z : Sg) (m : Nat) : Prop :=
  l 296 m = z 296 m ∧ (z 296 m = 1 ∨ z 296 m = 3 ∨ z 296 m = 4 ∨ z 296 m = 5 ∨ z 296 m = 7 → l 301 m = z 301 m ∧ -1 ≤ z 301 m) ∧ (¬ z 296 m = 0 → l 302 m = z 302 m) ∧ (¬ z 296 m = 7 → -1 ≤ z 302 m) ∧ (z 296 m = 7 → -2 ≤ z 302 m) ∧
  l 303 m = z 303 m ∧ l 304 m = z 304 m ∧ l 305 m = z 305 m ∧ l 306 m = z 306 m ∧ (kyN z m ≤ 10 ∧ z 306 m = i32 (kyN z m)) ∧
  (z 296 m = 1 → l 433 m = z 297 m) ∧ (z 296 m = 2 ∨ z 296 m = 3 → ∃ p, 1 ≤ p ∧ p ≤ 5 ∧ z 305 m = i32 p) ∧
  (z 296 m = 3 → l 437 m = z 297 m ∧ l 438 m = z 298 m ∧ ∃ a b, 1 ≤ a ∧ a ≤ b ∧ b ≤ 6 ∧ z 297 m = i32 a ∧ z 298 m = i32 b) ∧
  (z 296 m = 4 → l 439 m = z 299 m ∧ l 440 m = z 297 m ∧ l 441 m = z 298 m ∧ (∃ w, w ≤ 4 ∧ z 299 m = i32 w) ∧ (z 299 m = 2 ∨ z 299 m = 4 → ∃ q, q < 6 ∧ z 297 m = i32 q)) ∧
  (z 296 m = 7 → l 442 m = z 297 m ∧ l 443 m = z 298 m ∧ l 438 m = z 299 m ∧ l 444 m = z 300 m ∧ ∃ q, q < 6 ∧ z 297 m = i32 q)
def eqF (F : Nat) : Bool := (Nat.ble 293 F && Nat.ble F 295) || ((Nat.ble 306 F && Nat.ble F 310) || F == 319)
def GR (l z : Sg) (n t : Nat) : Prop := n ≤ 60 ∧ t ≤ 20000 ∧ l 292 19 = i32 n ∧ z 292 19 = i32 n ∧ l 292 0 = i32 t ∧ z 292 0 = i32 t ∧ MI z ∧ (∀ m, m < 30 → nodeR l z m) ∧ (∀ i, i < 300 → -1 ≤ z 308 i) ∧ (∀ i, i < 240 → -1 ≤ z 319 i) ∧ (∀ F i, eqF F = true → l F i = z F i) ∧ (∀ i, i < 84 → z 295 i = 0 ∨ z 295 i = 1) ∧ (∀ i, i < 7 → ∃ q, q ≤ 240 ∧ z 294 i = i32 q) ∧ (∀ m, m < 30 → ∀ i j, i < kyN z m → j < kyN z m → z 307 (10 * m + i) = z 307 (10 * m + j) → i = j)
def clm (l z : Sg) (c : Nat) : Prop := (l 420 c = 0 ↔ z 320 c < 0) ∧ (¬ z 320 c < 0 → l 320 c = z 320 c ∧ l 321 c = z 321 c ∧ l 322 c = z 322 c ∧ ∃ q, q < 6 ∧ z 320 c = i32 q)
def rowR (l z : Sg) (c m : Nat) : Prop := l 314 c = z 314 c ∧ l 315 c = z 315 c ∧ ∃ q p, z 315 c = i32 q ∧ z 305 m = i32 p ∧ q < p ∧ p ≤ 5
def atN (l z : Sg) (c m : Nat) : Prop := z 296 m = 1 ∨ (z 296 m = 2 ∧ rowR l z c m) ∨ (z 296 m = 3 ∧ rowR l z c m ∧ ∃ r dg, z 314 c = i32 r ∧ 10 ^ dg ≤ r ∧ r < 10 ^ (dg + 1) ∧ l 418 c = i32 dg ∧ dg ≤ 5 ∧ i32 dg < z 298 m)
def L0 (l z : Sg) (c : Nat) : Prop := z 311 c = 0 ∧ l 312 c = -1 ∧ l 325 c = -1 ∧ clm l z c ∧ l 324 c ≤ l 292 0 ∧ l 316 c = z 316 c ∧ ∃ m, m < 30 ∧ z 313 c = i32 m ∧ l 313 c = i32 m ∧ atN l z c m
def L1 (l z : Sg) (c : Nat) : Prop := z 311 c = 1 ∧ l 312 c = -1 ∧ l 325 c = -1 ∧ clm l z c ∧ ¬ z 320 c < 0 ∧ l 324 c ≤ l 292 0 ∧ l 316 c = z 316 c ∧ ∃ m, m < 30 ∧ z 313 c = i32 m ∧ l 313 c = i32 m ∧ z 296 m = 7
def L2 (l z : Sg) (c : Nat) : Prop := z 311 c = 2 ∧ l 312 c = -1 ∧ (l 313 c = -1 ∧ z 313 c = -1) ∧ l 325 c = z 325 c ∧ l 324 c ≤ l 292 0
def L3 (l z : Sg) (c : Nat) : Prop := z 311 c = 3 ∧ l 312 c = -1 ∧ (l 313 c = -1 ∧ z 313 c = -1) ∧ l 325 c = -1 ∧ clm l z c ∧ ¬ z 320 c < 0 ∧ (l 324 c = z 324 c ∨ (l 324 c ≤ l 292 0 ∧ z 324 c ≤ l 292 0)) ∧ l 323 c = z 323 c ∧ (z 323 c = 0 ∨ z 323 c = 1)
def L4 (l z : Sg) (c : Nat) : Prop := z 311 c = 4 ∧ l 312 c = -1 ∧ (l 313 c = -1 ∧ z 313 c = -1) ∧ l 325 c = z 325 c ∧ clm l z c ∧ ¬ z 320 c < 0 ∧ l 324 c ≤ l 292 0 ∧ l 316 c = z 316 c ∧ l 323 c = z 323 c ∧ (z 323 c = 0 ∨ z 323 c = 1)
def L5 (l z : Sg) (c : Nat) : Prop := z 311 c = 5 ∧ l 312 c = z 312 c ∧ (l 313 c = -1 ∧ z 313 c = -1) ∧ l 325 c = -1
def lineR (l z : Sg) (c : Nat) : Prop := l 311 c = z 311 c ∧ l 317 c = z 317 c ∧ l 318 c = z 318 c ∧ (L0 l z c ∨ L1 l z c ∨ L2 l z c ∨ L3 l z c ∨ L4 l z c ∨ L5 l z c)
def unb (l z : Sg) (c : Nat) : Prop := l 311 c = 0 ∧ l 312 c = -1 ∧ l 313 c = -1 ∧ l 325 c = -1 ∧ l 420 c = 0 ∧ l 317 c = z 317 c ∧ l 318 c = z 318 c ∧ l 324 c ≤ l 292 0
def deskR (l z : Sg) (t0 a : Nat) : Prop := l 326 a = z 326 a ∧ l 327 a = z 327 a ∧ l 328 a = z 328 a ∧ l 329 a = z 329 a ∧ l 331 a = z 331 a ∧ (z 326 a = 4 → l 330 a = z 330 a ∧ ∃ u, t0 < u ∧ u ≤ 30000 ∧ z 330 a = i32 u) ∧ (∃ w, w ≤ 30 ∧ z 329 a = i32 w) ∧ (∃ w, w ≤ 4 ∧ z 326 a = i32 w)
def LX (l z : Sg) (n : Nat) (x : Option Nat) : Prop := ∀ c, c < n → ¬ x = some c → lineR l z c
def UB (l z : Sg) (n : Nat) : Prop := ∀ c, n ≤ c → c < 60 → unb l z c
def DR (l z : Sg) (t0 : Nat) : Prop := ∀ a, a < 6 → deskR l z t0 a
def LK (z : Sg) (n : Nat) (x : Option Nat) : Prop :=
  (∀ c, c < n → ¬ x = some c → z 311 c = 2 ∨ z 311 c = 4 → ∃ a, a < 6 ∧ z 325 c = i32 a ∧ z 331 a = i32 c ∧ z 326 a = (if z 311 c = 2 then 2 else 3)) ∧
  (∀ a, a < 6 → z 326 a = 2 ∨ z 326 a = 3 → ∃ c, c < n ∧ ¬ x = some c ∧ z 331 a = i32 c ∧ z 325 c = i32 a ∧ z 311 c = (if z 326 a = 2 then 2 else 4))
def RX (l z : Sg) (n t t0 : Nat) (x : Option Nat) (s : Nat) : Prop := GR l z n t ∧ LX l z n x ∧ UB l z n ∧ DR l z t0 ∧ LK z n x ∧ JR l s
/-! what does not change -/
theorem nodeR_cg {l l' z z' : Sg} {m : Nat} (h : nodeR l z m) (hl : ∀ F, F = 296 ∨ (301 ≤ F ∧ F ≤ 306) ∨ (430 ≤ F ∧ F < 470) → l' F m = l F m) (hz : ∀ F, 296 ≤ F → F ≤ 306 → z' F m = z F m) : nodeR l' z' m := by
  have h6 : kyN z' m = kyN z m := by unfold kyN; rw [hz 306 (by decide) (by decide)]
  unfold nodeR at *
  rw [hl 296 (by decide), hl 301 (by decide), hl 302 (by decide), hl 303 (by decide), hl 304 (by decide), hl 305 (by decide), hl 306 (by decide), hl 433 (by decide), hl 437 (by decide), hl 438 (by decide), hl 439 (by decide), hl 440 (by decide), hl 441 (by decide), hl 442 (by decide), hl 443 (by decide), hl 444 (by decide),
    hz 296 (by decide) (by decide), hz 297 (by decide) (by decide), hz 298 (by decide) (by decide), hz 299 (by decide) (by decide), hz 300 (by decide) (by decide), hz 301 (by decide) (by decide), hz 302 (by decide) (by decide), hz 303 (by decide) (by decide), hz 304 (by decide) (by decide), hz 305 (by decide) (by decide), hz 306 (by decide) (by decide), h6]
  exact h
theorem lineR_cg {l l' z z' : Sg} {c : Nat} (h : lineR l z c) (hl : ∀ F, lF F = true → l' F c = l F c) (hz : ∀ F, lF F = true → z' F c = z F c) (ht : l' 292 0 = l 292 0) (hn : ∀ F m, F = 296 ∨ F = 298 ∨ F = 305 → z' F m = z F m) : lineR l' z' c := by
  have n1 : ∀ m, z' 296 m = z 296 m := fun m => hn 296 m (by decide)
  have n2 : ∀ m, z' 298 m = z 298 m := fun m => hn 298 m (by decide)
  have n3 : ∀ m, z' 305 m = z 305 m := fun m => hn 305 m (by decide)
  unfold lineR L0 L1 L2 L3 L4 L5 atN rowR clm at *
  simp only [hl 311 rfl, hl 312 rfl, hl 313 rfl, hl 314 rfl, hl 315 rfl, hl 316 rfl, hl 317 rfl, hl 318 rfl, hl 320 rfl, hl 321 rfl, hl 322 rfl, hl 323 rfl, hl 324 rfl, hl 325 rfl, hl 418 rfl, hl 420 rfl,
    hz 311 rfl, hz 312 rfl, hz 313 rfl, hz 314 rfl, hz 315 rfl, hz 316 rfl, hz 317 rfl, hz 318 rfl, hz 320 rfl, hz 321 rfl, hz 322 rfl, hz 323 rfl, hz 324 rfl, hz 325 rfl, ht, n1, n2, n3]
  exact h
theorem unb_cg {l l' z z' : Sg} {c : Nat} (h : unb l z c) (hl : ∀ F, lF F = true → l' F c = l F c) (hz : ∀ F, lF F = true → z' F c = z F c) (ht : l' 292 0 = l 292 0) : unb l' z' c := by
  unfold unb at *
  rw [hl 311 rfl, hl 312 rfl, hl 313 rfl, hl 325 rfl, hl 420 rfl, hl 317 rfl, hl 318 rfl, hl 324 rfl, hz 317 rfl, hz 318 rfl, ht]
  exact h
theorem deskR_cg {l l' z z' : Sg} {t0 a : Nat} (h : deskR l z t0 a) (hl : ∀ F, dF F = true → l' F a = l F a) (hz : ∀ F, dF F = true → z' F a = z F a) : deskR l' z' t0 a := by
  unfold deskR at *
  rw [hl 326 rfl, hl 327 rfl, hl 328 rfl, hl 329 rfl, hl 330 rfl, hl 331 rfl, hz 326 rfl, hz 327 rfl, hz 328 rfl, hz 329 rfl, hz 330 rfl, hz 331 rfl]
  exact h
/-- fields of lines and desks, of the journal, and what class and model count alike -/
def exF (F : Nat) : Bool := (lF F || dF F) || (jF F || (F == 309 || (F == 310 || F == 319)))
theorem GR_cg {l l' z z' : Sg} {n t : Nat} (h : GR l z n t) (hl : ∀ F i, exF F = false → ¬ F = 332 → l' F i = l F i) (hz : ∀ F i, exF F = false → ¬ F = 292 ∨ ¬ i = 41 → z' F i = z F i) (hm : MI z') (he : ∀ F i, F = 309 ∨ F = 310 ∨ F = 319 → l' F i = z' F i) (hp : ∀ i, i < 240 → -1 ≤ z' 319 i) : GR l' z' n t := by
  obtain ⟨g1, g2, g3, g4, g5, g6, g7, g8, g9, g10, g11, g12, g13, g14⟩ := h
  refine ⟨g1, g2, (hl _ _ rfl (by decide)).trans g3, (hz _ _ rfl (Or.inr (by decide))).trans g4, (hl _ _ rfl (by decide)).trans g5, (hz _ _ rfl (Or.inr (by decide))).trans g6, hm, fun m hm => nodeR_cg (g8 m hm) ?_ ?_, fun i hi => ?_, hp, fun F i hF => ?_, fun i hi => ?_, fun i hi => ?_, fun m hm i j hi hj he => ?_⟩
  · intro F hF
    refine hl F m ?_ (by rcases hF with h | h | h <;> omega)
    have h4 : 430 ≤ F → F < 470 → exF F = false := fun h1 h2 => by
      cases hq : exF F with
      | false => rfl
      | true =>
        unfold exF lF dF jF at hq
        simp only [Bool.or_eq_true, Bool.and_eq_true, Nat.ble_eq, Nat.blt_eq, beq_iff_eq] at hq
        omega
    rcases hF with rfl | ⟨h1, h2⟩ | ⟨h1, h2⟩
    · rfl
    · have : F = 301 ∨ F = 302 ∨ F = 303 ∨ F = 304 ∨ F = 305 ∨ F = 306 := by omega
      rcases this with rfl | rfl | rfl | rfl | rfl | rfl <;> rfl
    · exact h4 h1 h2
  · intro F h1 h2
    refine hz F m ?_ (Or.inl (by omega))
    have : F = 296 ∨ F = 297 ∨ F = 298 ∨ F = 299 ∨ F = 300 ∨ F = 301 ∨ F = 302 ∨ F = 303 ∨ F = 304 ∨ F = 305 ∨ F = 306 := by omega
    rcases this with rfl | rfl | rfl | rfl | rfl | rfl | rfl | rfl | rfl | rfl | rfl <;> rfl
  · rw [hz 308 i rfl (Or.inl (by decide))]; exact g9 i hi
  · by_cases q : F = 309 ∨ F = 310 ∨ F = 319
    · exact he F i q
    · have h8 : F = 293 ∨ F = 294 ∨ F = 295 ∨ F = 306 ∨ F = 307 ∨ F = 308 := by
        unfold eqF at hF
        simp only [Bool.or_eq_true, Bool.and_eq_true, Nat.ble_eq, beq_iff_eq] at hF
        omega
      have e : exF F = false ∧ ¬ F = 292 := by rcases h8 with rfl | rfl | rfl | rfl | rfl | rfl <;> exact ⟨rfl, by decide⟩
      rw [hl F i e.1 (by omega), hz F i e.1 (Or.inl e.2)]
      exact g11 F i hF
  · rw [hz 295 i rfl (Or.inl (by decide))]; exact g12 i hi
  · rw [hz 294 i rfl (Or.inl (by decide))]; exact g13 i hi
  · have e : kyN z' m = kyN z m := by unfold kyN; rw [hz 306 m rfl (Or.inl (by decide))]
    rw [e] at hi hj
    rw [hz 307 _ rfl (Or.inl (by decide)), hz 307 _ rfl (Or.inl (by decide))] at he
    exact g14 m hm i j hi hj he
theorem lF_ne {F : Nat} (h : lF F = true) : jF F = false ∧ ¬ (F = 309 ∨ F = 310 ∨ F = 319) ∧ ¬ F = 292 := by
  unfold lF at h
  simp only [Bool.or_eq_true, Bool.and_eq_true, Nat.ble_eq, Nat.blt_eq] at h
  refine ⟨?_, by omega, by omega⟩
  cases hq : jF F with
  | false => rfl
  | true =>
    unfold jF at hq
    simp only [Bool.and_eq_true, Nat.ble_eq] at hq
    omega
theorem dF_ne {F : Nat} (h : dF F = true) : jF F = false ∧ ¬ (F = 309 ∨ F = 310 ∨ F = 319) ∧ ¬ F = 292 ∧ lF F = false := by
  unfold dF at h
  simp only [Bool.and_eq_true, Nat.ble_eq] at h
  have : F = 326 ∨ F = 327 ∨ F = 328 ∨ F = 329 ∨ F = 330 ∨ F = 331 := by omega
  rcases this with rfl | rfl | rfl | rfl | rfl | rfl <;> exact ⟨rfl, by decide, by decide, rfl⟩
theorem exF_ne {F : Nat} (h : exF F = false) : jF F = false ∧ ¬ (F = 309 ∨ F = 310 ∨ F = 319) ∧ lF F = false ∧ dF F = false := by
  unfold exF at h
  simp only [Bool.or_eq_false_iff, beq_eq_false_iff_ne] at h
  obtain ⟨⟨h1, h2⟩, h3, h4, h5, h6⟩ := h
  exact ⟨h3, fun q => by rcases q with q | q | q; exact h4 q; exact h5 q; exact h6 q, h1, h2⟩
theorem LK_cg {z z' : Sg} {n : Nat} {x : Option Nat} (h : LK z n x) (h1 : ∀ F c, F = 311 ∨ F = 325 → ¬ x = some c → z' F c = z F c) (h2 : ∀ F a, F = 326 ∨ F = 331 → z' F a = z F a) : LK z' n x := by
  obtain ⟨k1, k2⟩ := h
  refine ⟨fun c hc hx hs => ?_, fun a ha hs => ?_⟩
  · rw [h1 311 c (Or.inl rfl) hx] at hs ⊢
    obtain ⟨a, p1, p2, p3, p4⟩ := k1 c hc hx hs
    exact ⟨a, p1, by rw [h1 325 c (Or.inr rfl) hx]; exact p2, by rw [h2 331 a (Or.inr rfl)]; exact p3, by rw [h2 326 a (Or.inl rfl)]; exact p4⟩
  · rw [h2 326 a (Or.inl rfl)] at hs ⊢
    obtain ⟨c, p1, p2, p3, p4, p5⟩ := k2 a ha hs
    exact ⟨c, p1, p2, by rw [h2 331 a (Or.inr rfl)]; exact p3, by rw [h1 325 c (Or.inr rfl) p2]; exact p4, by rw [h1 311 c (Or.inl rfl) p2]; exact p5⟩
/-- only the line of the open call has changed, the journal, and what class and model count alike -/
theorem RX_c {l l' z z' : Sg} {n t t0 c s s' : Nat} (h : RX l z n t t0 (some c) s) (hc : c < n)
    (hl : ∀ F i, jF F = false → ¬ (F = 309 ∨ F = 310 ∨ F = 319) → (lF F = true → ¬ i = c) → l' F i = l F i)
    (hz : ∀ F i, ¬ (F = 309 ∨ F = 310 ∨ F = 319) → (lF F = true → ¬ i = c) → z' F i = z F i)
    (hm : MI z') (he : ∀ F i, F = 309 ∨ F = 310 ∨ F = 319 → l' F i = z' F i) (hp : ∀ i, i < 240 → -1 ≤ z' 319 i) (hJ : JR l' s') : RX l' z' n t t0 (some c) s' := by
  obtain ⟨hG, hL, hU, hD, hK, _⟩ := h
  have ht : l' 292 0 = l 292 0 := hl 292 0 rfl (by decide) (fun q => by cases q)
  refine ⟨GR_cg hG (fun F i hF _ => ?_) (fun F i hF _ => ?_) hm he hp, fun k hk hx => ?_, fun k hk hk2 => ?_, fun a ha => ?_, LK_cg hK (fun F k hF hx => ?_) (fun F a hF => ?_), hJ⟩
  · have e := exF_ne hF
    exact hl F i e.1 e.2.1 (fun q => by rw [e.2.2.1] at q; cases q)
  · have e := exF_ne hF
    exact hz F i e.2.1 (fun q => by rw [e.2.2.1] at q; cases q)
  · have hkc : ¬ k = c := fun q => hx (by rw [q])
    refine lineR_cg (hL k hk hx) (fun F hF => hl F k (lF_ne hF).1 (lF_ne hF).2.1 (fun _ => hkc)) (fun F hF => hz F k (lF_ne hF).2.1 (fun _ => hkc)) ht (fun F m hF => ?_)
    rcases hF with rfl | rfl | rfl <;> exact hz _ _ (by decide) (fun q => by cases q)
  · have hkc : ¬ k = c := by omega
    exact unb_cg (hU k hk hk2) (fun F hF => hl F k (lF_ne hF).1 (lF_ne hF).2.1 (fun _ => hkc)) (fun F hF => hz F k (lF_ne hF).2.1 (fun _ => hkc)) ht
  · refine deskR_cg (hD a ha) (fun F hF => ?_) (fun F hF => ?_)
    · have e := dF_ne hF
      exact hl F a e.1 e.2.1 (fun q => by rw [e.2.2.2] at q; cases q)
    · have e := dF_ne hF
      exact hz F a e.2.1 (fun q => by rw [e.2.2.2] at q; cases q)
  · have hkc : ¬ k = c := fun q => hx (by rw [q])
    rcases hF with rfl | rfl <;> exact hz _ _ (by decide) (fun _ => hkc)
  · rcases hF with rfl | rfl <;> exact hz _ _ (by decide) (fun q => by cases q)
theorem RX_fill {l z : Sg} {n t t0 c s : Nat} (h : RX l z n t t0 (some c) s) (hl : lineR l z c) (hs : ¬ (z 311 c = 2 ∨ z 311 c = 4)) : RX l z n t t0 none s := by
  obtain ⟨hG, hL, hU, hD, hK, hJ⟩ := h
  refine ⟨hG, fun k hk _ => ?_, hU, hD, ⟨fun k hk _ hq => ?_, fun a ha hq => ?_⟩, hJ⟩
  · by_cases e : k = c
    · rw [e]; exact hl
    · exact hL k hk (fun q => e (by cases q; rfl))
  · by_cases e : k = c
    · rw [e] at hq; exact absurd hq hs
    · exact hK.1 k hk (fun q => e (by cases q; rfl)) hq
  · obtain ⟨k, p1, p2, p3⟩ := hK.2 a ha hq
    exact ⟨k, p1, (by simp), p3⟩
theorem RX_open {l z : Sg} {n t t0 c s : Nat} (h : RX l z n t t0 none s) (hs : ¬ (z 311 c = 2 ∨ z 311 c = 4)) : RX l z n t t0 (some c) s := by
  obtain ⟨hG, hL, hU, hD, hK, hJ⟩ := h
  refine ⟨hG, fun k hk _ => hL k hk (by simp), hU, hD, ⟨fun k hk _ hq => hK.1 k hk (by simp) hq, fun a ha hq => ?_⟩, hJ⟩
  obtain ⟨k, p1, _, p3, p4, p5⟩ := hK.2 a ha hq
  refine ⟨k, p1, fun q => hs ?_, p3, p4, p5⟩
  cases q
  rw [p5]
  split
  · exact Or.inl rfl
  · exact Or.inr rfl
