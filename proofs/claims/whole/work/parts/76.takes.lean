/-! ===== who takes which call ===== -/
theorem i32_nm1 {n : Nat} (h : n < 2147483648) : ¬ i32 n = -1 := fun r => absurd (show (0 : Int32) ≤ -1 by rw [← r]; exact (i32_le (a := 0) (by decide) h).mpr (Nat.zero_le _)) (by decide)
def tkb (z : Sg) (k : Nat) : Prop := z 311 k = 1 ∨ (z 311 k = 3 ∧ z 324 k ≤ z 292 0)
theorem f_15_eq {l z : Sg} {n t k : Nat} (hG : GR l z n t) (h : lineR l z k) : f_15 k (l 292 0) l = 0 ↔ ¬ tkb z k := by
  have ht : l 292 0 = z 292 0 := hG.2.2.2.2.1.trans hG.2.2.2.2.2.1.symm
  unfold f_15 tkb
  rw [h.1]
  by_cases h1 : z 311 k = 1
  · rw [if_pos h1]
    exact ⟨fun q => absurd q (by decide), fun q => absurd (Or.inl h1) q⟩
  rw [if_neg h1]
  by_cases h3 : z 311 k = 3
  · rw [if_neg (not_not_intro h3)]
    have e : l 292 0 < l 324 k ↔ ¬ z 324 k ≤ z 292 0 := by
      obtain ⟨_, _, _, q | q | q | q | q | q⟩ := h
      · rw [q.1] at h3; exact absurd h3 (by decide)
      · rw [q.1] at h3; exact absurd h3 (by decide)
      · rw [q.1] at h3; exact absurd h3 (by decide)
      · rcases q.2.2.2.2.2.2.1 with r | ⟨r1, r2⟩
        · rw [r, ht]; exact Int32.not_le.symm
        · rw [← ht]
          exact ⟨fun p => absurd r1 (Int32.not_le.mpr p), fun p => absurd r2 p⟩
      · rw [q.1] at h3; exact absurd h3 (by decide)
      · rw [q.1] at h3; exact absurd h3 (by decide)
    by_cases q : l 292 0 < l 324 k
    · rw [if_pos q]
      exact ⟨fun _ r => by rcases r with r | r; exact h1 r; exact (e.mp q) r.2, fun _ => rfl⟩
    · rw [if_neg q]
      exact ⟨fun r => absurd r (by decide), fun r => absurd (Or.inr ⟨h3, Classical.not_not.mp (fun p => q (e.mpr p))⟩) r⟩
  · rw [if_pos h3]
    exact ⟨fun _ r => by rcases r with r | r; exact h1 r; exact h3 r.1, fun _ => rfl⟩
theorem tkb_w {z : Sg} {k : Nat} (h : tkb z k) : isW z k := by
  rcases h with h | h
  · exact Or.inl h
  · exact Or.inr h.1
theorem f_16_eq {l z : Sg} {n t k : Nat} (hG : GR l z n t) (h : lineR l z k) (hw : isW z k) : f_16 k (l 292 0) l = score z k := by
  have ht : l 292 0 = z 292 0 := hG.2.2.2.2.1.trans hG.2.2.2.2.2.1.symm
  obtain ⟨e1, e2, e3, _⟩ := h.w.2 hw
  unfold f_16 f_104 score
  rw [e2, e3, ht]
theorem canT_iff {z : Sg} {a k q : Nat} (hq : q < 6) (h : z 320 k = i32 q) : canT z a k ↔ (tkb z k ∧ ¬ (z 327 a &&& ((1 : Int32) <<< (z 320 k &&& 31)) = 0)) := by
  unfold canT tkb
  rw [h, bit_iff _ hq]
  unfold isW
  constructor
  · rintro ⟨p1, p2, p3⟩
    refine ⟨?_, p2⟩
    rcases p1 with r | r
    · exact Or.inl r
    · rcases p3 with s | s
      · exact Or.inl s
      · exact Or.inr ⟨r, s⟩
  · rintro ⟨p1, p2⟩
    rcases p1 with r | r
    · exact ⟨Or.inl r, p2, Or.inl r⟩
    · exact ⟨Or.inr r.1, p2, Or.inr r.2⟩
theorem f_103_eq {z : Sg} {j q : Nat} (hq : q < j) (hj : j < 60) : f_103 (score z j) (i32 j) (score z q) (i32 q) = 0 ↔ ¬ ahead z j q := by
  unfold f_103 ahead
  have e : i32 q ≤ i32 j := (i32_le (by omega) (by omega)).mpr (by omega)
  by_cases h1 : score z q < score z j
  · rw [if_pos h1]
    exact ⟨fun r => absurd r (by decide), fun r => absurd (Or.inl h1) r⟩
  rw [if_neg h1]
  by_cases h2 : score z j = score z q
  · rw [if_neg (not_not_intro h2), if_pos e]
    exact ⟨fun _ r => by rcases r with r | r; exact h1 r; omega, fun _ => rfl⟩
  · rw [if_pos h2]
    exact ⟨fun _ r => by rcases r with r | r; exact h1 r; exact h2 r.1, fun _ => rfl⟩
theorem g_99_eq {l z : Sg} {n t ag : Nat} (hG : GR l z n t) (hL : LX l z n none) : ∀ d j (b : Int32), j + d = n → (∀ q, bestN z ag j = some q → b = score z q) → g_99 n (z 327 ag) d j (oI 0 (bestN z ag j)) b l = oI 0 (bestN z ag n)
  | 0, j, b, h, _ => by
    obtain rfl : j = n := by omega
    rw [g_99]
  | d + 1, j, b, h, hb => by
    have hn := hG.1
    have hl := hL j (by omega) (by simp)
    have e15 := f_15_eq hG hl
    rw [g_99]
    by_cases p : tkb z j
    · rw [if_neg (fun r => (e15.mp r) p)]
      have hw := tkb_w p
      obtain ⟨w1, w2, w3, q, w4, w5⟩ := hl.w.2 hw
      rw [w1, f_16_eq hG hl hw]
      have hcan := canT_iff (a := ag) w4 w5
      by_cases p2 : z 327 ag &&& ((1 : Int32) <<< (z 320 j &&& 31)) = 0
      · rw [if_pos p2]
        have hno : ¬ canT z ag j := fun r => (hcan.mp r).2 p2
        rw [← bestN_no1 hno]
        exact g_99_eq hG hL d (j + 1) b (by omega) (fun q hq => hb q (by rw [← bestN_no1 hno]; exact hq))
      · rw [if_neg p2]
        have hyes : canT z ag j := hcan.mpr ⟨p, p2⟩
        cases hbest : bestN z ag j with
        | none =>
          have ey : bestN z ag (j + 1) = some j := bestN_yes hyes (fun b hb => by rw [hbest] at hb; cases hb)
          rw [if_pos (show oI 0 none = (-1 : Int32) from rfl)]
          have := g_99_eq (ag := ag) hG hL d (j + 1) (score z j) (by omega) (fun q hq => by rw [ey] at hq; cases hq; rfl)
          rw [ey, oI_some] at this
          exact this
        | some q0 =>
          have hq0 := bestN_lt hbest
          have hb0 := hb q0 hbest
          rw [oI_some, if_neg (i32_nm1 (n := q0) (by omega))]
          subst hb0
          by_cases pa : ahead z j q0
          · rw [if_neg (fun r => ((f_103_eq hq0 (by omega)).mp r) pa)]
            have ey : bestN z ag (j + 1) = some j := bestN_yes hyes (fun b hb => by rw [hbest] at hb; cases hb; exact pa)
            have := g_99_eq (ag := ag) hG hL d (j + 1) (score z j) (by omega) (fun q hq => by rw [ey] at hq; cases hq; rfl)
            rw [ey, oI_some] at this
            exact this
          · rw [if_pos ((f_103_eq hq0 (by omega)).mpr pa)]
            have ey : bestN z ag (j + 1) = some q0 := (bestN_no2 hbest pa).trans hbest
            have := g_99_eq (ag := ag) hG hL d (j + 1) (score z q0) (by omega) (fun q hq => by rw [ey] at hq; cases hq; rfl)
            rw [ey, oI_some] at this
            exact this
    · rw [if_pos (e15.mpr p)]
      have hno : ¬ canT z ag j := by
        intro r
        apply p
        obtain ⟨r1, _, r3⟩ := r
        rcases r1 with r1 | r1
        · exact Or.inl r1
        · rcases r3 with r3 | r3
          · exact Or.inl r3
          · exact Or.inr ⟨r1, r3⟩
      rw [← bestN_no1 hno]
      exact g_99_eq hG hL d (j + 1) b (by omega) (fun q hq => hb q (by rw [← bestN_no1 hno]; exact hq))
theorem f_99_eq {l z : Sg} {n t ag : Nat} (hG : GR l z n t) (hL : LX l z n none) : f_99 n (z 327 ag) l = oI 0 (bestN z ag n) := g_99_eq hG hL n 0 0 (by omega) (fun q hq => by cases hq)
theorem bestN_none {z : Sg} {a : Nat} : ∀ {n : Nat}, bestN z a n = none ↔ ∀ j, j < n → ¬ canT z a j
  | 0 => ⟨fun _ j hj => by omega, fun _ => rfl⟩
  | n + 1 => by
    have ih := @bestN_none z a n
    by_cases p : canT z a n
    · constructor
      · intro h
        cases hb : bestN z a n with
        | none =>
          have := bestN_yes p (fun b h2 => by rw [hb] at h2; cases h2)
          rw [this] at h; cases h
        | some q =>
          by_cases pa : ahead z n q
          · have := bestN_yes p (fun b h2 => by rw [hb] at h2; cases h2; exact pa)
            rw [this] at h; cases h
          · have := (bestN_no2 hb pa).trans hb
            rw [this] at h; cases h
      · intro h
        exact absurd p (h n (Nat.lt_succ_self n))
    · rw [bestN_no1 p, ih]
      constructor
      · intro h j hj
        rcases Nat.lt_succ_iff_lt_or_eq.mp hj with r | rfl
        · exact h j r
        · exact p
      · intro h j hj
        exact h j (Nat.lt_succ_of_lt hj)
theorem and_or0 (s w x : Int32) : s &&& (w ||| x) = 0 ↔ s &&& w = 0 ∧ s &&& x = 0 := by
  have e : s &&& (w ||| x) = (s &&& w) ||| (s &&& x) := by
    apply Int32.toBitVec_inj.mp
    simp only [Int32.toBitVec_and, Int32.toBitVec_or]
    exact BitVec.and_or_distrib_left
  rw [e]
  simp only [← Int32.toBitVec_inj, Int32.toBitVec_or]
  show (s &&& w).toBitVec ||| (s &&& x).toBitVec = 0#32 ↔ (s &&& w).toBitVec = 0#32 ∧ (s &&& x).toBitVec = 0#32
  exact BitVec.or_eq_zero_iff
theorem g_98_eq {l z : Sg} {n t : Nat} (s : Int32) (hG : GR l z n t) (hL : LX l z n none) : ∀ d j (a : Int32), j + d = n → (s &&& g_98 n d j a l = 0 ↔ (s &&& a = 0 ∧ ∀ k, j ≤ k → k < n → tkb z k → s &&& ((1 : Int32) <<< (z 320 k &&& 31)) = 0))
  | 0, j, a, h => by
    rw [g_98]
    exact ⟨fun q => ⟨q, fun k h1 h2 => by omega⟩, fun q => q.1⟩
  | d + 1, j, a, h => by
    have hl := hL j (by omega) (by simp)
    have e15 := f_15_eq hG hl
    rw [g_98]
    by_cases p : tkb z j
    · rw [if_neg (fun r => (e15.mp r) p), g_98_eq s hG hL d (j + 1) _ (by omega), and_or0, (hl.w.2 (tkb_w p)).1]
      constructor
      · rintro ⟨⟨q1, q2⟩, q3⟩
        refine ⟨q1, fun k h1 h2 h3 => ?_⟩
        by_cases e : k = j
        · rw [e]; exact q2
        · exact q3 k (by omega) h2 h3
      · rintro ⟨q1, q2⟩
        exact ⟨⟨q1, q2 j (Nat.le_refl j) (by omega) p⟩, fun k h1 h2 h3 => q2 k (by omega) h2 h3⟩
    · rw [if_pos (e15.mpr p), g_98_eq s hG hL d (j + 1) _ (by omega)]
      constructor
      · rintro ⟨q1, q2⟩
        refine ⟨q1, fun k h1 h2 h3 => ?_⟩
        by_cases e : k = j
        · rw [e] at h3; exact absurd h3 p
        · exact q2 k (by omega) h2 h3
      · rintro ⟨q1, q2⟩
        exact ⟨q1, fun k h1 h2 h3 => q2 k (by omega) h2 h3⟩
theorem wanted_eq {l z : Sg} {n t a : Nat} (hG : GR l z n t) (hL : LX l z n none) : z 327 a &&& f_98 n l = 0 ↔ bestN z a n = none := by
  unfold f_98
  rw [g_98_eq _ hG hL n 0 0 (by omega), bestN_none]
  constructor
  · rintro ⟨_, h⟩ j hj hc
    obtain ⟨w1, w2, w3, q, w4, w5⟩ := (hL j hj (by simp)).w.2 hc.1
    have := (canT_iff w4 w5).mp hc
    exact this.2 (h j (Nat.zero_le j) hj this.1)
  · intro h
    refine ⟨by simp, fun k _ hk hp => ?_⟩
    obtain ⟨w1, w2, w3, q, w4, w5⟩ := (hL k hk (by simp)).w.2 (tkb_w hp)
    by_cases e : z 327 a &&& ((1 : Int32) <<< (z 320 k &&& 31)) = 0
    · exact e
    · exact absurd ((canT_iff w4 w5).mpr ⟨hp, e⟩) (h k hk)
theorem g_97_eq {l z : Sg} {n t t0 : Nat} (hG : GR l z n t) (hL : LX l z n none) (hD : DR l z t0) : ∀ d j (b : Int32), j + d = 6 → (∀ q, takerN z n j = some q → b = z 328 q) → g_97 (f_98 n l) d j (oI 0 (takerN z n j)) b l = oI 0 (takerN z n 6)
  | 0, j, b, h, _ => by
    obtain rfl : j = 6 := by omega
    rw [g_97]
  | d + 1, j, b, h, hb => by
    obtain ⟨d1, d2, d3, _⟩ := hD j (by omega)
    rw [g_97, d1, d2, d3]
    have hw := wanted_eq (a := j) hG hL
    by_cases p1 : z 326 j = 1
    · rw [if_neg (not_not_intro p1)]
      by_cases p2 : z 327 j &&& f_98 n l = 0
      · rw [if_pos p2]
        have hno : ¬ canA z n j := fun r => r.2 (hw.mp p2)
        rw [← takerN_no1 hno]
        exact g_97_eq hG hL hD d (j + 1) b (by omega) (fun q hq => hb q (by rw [← takerN_no1 hno]; exact hq))
      · rw [if_neg p2]
        have hyes : canA z n j := ⟨p1, fun r => p2 (hw.mpr r)⟩
        cases ht : takerN z n j with
        | none =>
          rw [if_pos (show oI 0 none = (-1 : Int32) from rfl)]
          have ey : takerN z n (j + 1) = some j := takerN_yes hyes (fun b hb => by rw [ht] at hb; cases hb)
          have := g_97_eq hG hL hD d (j + 1) (z 328 j) (by omega) (fun q hq => by rw [ey] at hq; cases hq; rfl)
          rw [ey, oI_some] at this
          exact this
        | some q0 =>
          have hq0 := (takerN_lt ht).1
          have hb0 := hb q0 ht
          rw [oI_some, if_neg (i32_nm1 (n := q0) (by omega))]
          subst hb0
          by_cases pa : z 328 j < z 328 q0
          · rw [if_neg (Int32.not_le.mpr pa)]
            have ey : takerN z n (j + 1) = some j := takerN_yes hyes (fun b hb => by rw [ht] at hb; cases hb; exact pa)
            have := g_97_eq hG hL hD d (j + 1) (z 328 j) (by omega) (fun q hq => by rw [ey] at hq; cases hq; rfl)
            rw [ey, oI_some] at this
            exact this
          · rw [if_pos (Int32.not_lt.mp pa)]
            have ey : takerN z n (j + 1) = some q0 := (takerN_no2 ht pa).trans ht
            have := g_97_eq hG hL hD d (j + 1) (z 328 q0) (by omega) (fun q hq => by rw [ey] at hq; cases hq; rfl)
            rw [ey, oI_some] at this
            exact this
    · rw [if_pos p1]
      have hno : ¬ canA z n j := fun r => p1 r.1
      rw [← takerN_no1 hno]
      exact g_97_eq hG hL hD d (j + 1) b (by omega) (fun q hq => hb q (by rw [← takerN_no1 hno]; exact hq))
theorem f_97_eq {l z : Sg} {n t t0 : Nat} (hG : GR l z n t) (hL : LX l z n none) (hD : DR l z t0) : f_97 n l = oI 0 (takerN z n 6) := g_97_eq hG hL hD 6 0 0 (by omega) (fun q hq => by cases hq)

/-! taking -/
theorem up2_d {l : Sg} {F G a i : Nat} {v : Int32} (hG : dF G = true) (h : dF F = true → ¬ i = a) : up2 l G a v F i = l F i := by
  unfold up2
  rw [if_neg]
  rintro ⟨rfl, rfl⟩
  exact h hG rfl
/-- only a desk has changed -/
theorem RX_d {l l' z z' : Sg} {n t t0 a s : Nat} {x y : Option Nat} (h : RX l z n t t0 x s)
    (hl : ∀ F i, (dF F = true → ¬ i = a) → l' F i = l F i) (hz : ∀ F i, (dF F = true → ¬ i = a) → z' F i = z F i) (hm : MI z') (hd : deskR l' z' t0 a) (hy : ∀ k, k < n → ¬ y = some k → x = some k → lineR l' z' k) (hK : LK z' n y) : RX l' z' n t t0 y s := by
  obtain ⟨hG, hL, hU, hD, _, hJ⟩ := h
  have fl : ∀ F i, dF F = false → l' F i = l F i := fun F i e => hl F i (fun q => by rw [e] at q; cases q)
  have fz : ∀ F i, dF F = false → z' F i = z F i := fun F i e => hz F i (fun q => by rw [e] at q; cases q)
  have lFd : ∀ {F}, lF F = true → dF F = false := fun {F} e => by
    cases q : dF F with
    | false => rfl
    | true => have := (dF_ne q).2.2.2; rw [this] at e; cases e
  have jd : ∀ {F}, 470 ≤ F → F ≤ 474 → dF F = false := fun {F} h1 h2 => by
    cases q : dF F with
    | false => rfl
    | true =>
      unfold dF at q
      simp only [Bool.and_eq_true, Nat.ble_eq] at q
      omega
  refine ⟨GR_cg hG (fun F i hF _ => fl F i (exF_ne hF).2.2.2) (fun F i hF _ => fz F i (exF_ne hF).2.2.2) hm (fun F i hF => ?_) (fun i hi => ?_), fun k hk hx => ?_, fun k hk hk2 => ?_, fun k hk => ?_, hK, ?_⟩
  · have e : dF F = false := by rcases hF with rfl | rfl | rfl <;> rfl
    rw [fl F i e, fz F i e]; exact WE9 hG F i hF
  · rw [fz 319 i rfl]; exact GR_p hG i hi
  · by_cases hxk : x = some k
    · exact hy k hk hx hxk
    refine lineR_cg (hL k hk hxk) (fun F hF => fl F k (lFd hF)) (fun F hF => fz F k (lFd hF)) (fl 292 0 rfl) (fun F m hF => ?_)
    rcases hF with rfl | rfl | rfl <;> exact fz _ _ rfl
  · exact unb_cg (hU k hk hk2) (fun F hF => fl F k (lFd hF)) (fun F hF => fz F k (lFd hF)) (fl 292 0 rfl)
  · by_cases e : k = a
    · rw [e]; exact hd
    · exact deskR_cg (hD k hk) (fun F _ => hl F k (fun _ => e)) (fun F _ => hz F k (fun _ => e))
  · exact ⟨JB_congr hJ.1 (fun F r h1 h2 => fl F r (jd h1 h2)) (fun k => fl 410 k rfl), fun k hk => jrn_congr (hJ.2 k hk) (fun F r h1 h2 => fl F r (jd (by omega) h2)) ⟨fl _ _ rfl, fl _ _ rfl, fl _ _ rfl, fl _ _ rfl⟩⟩
theorem RX_fill2 {l z : Sg} {n t t0 c s : Nat} (h : RX l z n t t0 (some c) s) (hl : lineR l z c) (hK : LK z n none) : RX l z n t t0 none s := by
  obtain ⟨hG, hL, hU, hD, _, hJ⟩ := h
  refine ⟨hG, fun k hk _ => ?_, hU, hD, hK, hJ⟩
  by_cases e : k = c
  · rw [e]; exact hl
  · exact hL k hk (fun q => e (by cases q; rfl))
/-- an agent who is READY takes a call that waits -/
theorem LK_take {z z' : Sg} {n c a v w : Nat} (h : LK z n none) (hc : c < n) (hn : n ≤ 60) (ha : a < 6) (hw : isW z c) (h1 : z 326 a = 1) (hv : (v = 2 ∧ w = 2) ∨ (v = 4 ∧ w = 3))
    (e1 : z' 311 c = i32 v) (e2 : z' 325 c = i32 a) (e3 : z' 331 a = i32 c) (e4 : z' 326 a = i32 w) (e5 : ∀ k, ¬ k = c → z' 311 k = z 311 k ∧ z' 325 k = z 325 k) (e6 : ∀ k, ¬ k = a → z' 326 k = z 326 k ∧ z' 331 k = z 331 k) : LK z' n none := by
  obtain ⟨k1, k2⟩ := h
  refine ⟨fun k hk _ hs => ?_, fun k hk hs => ?_⟩
  · by_cases e : k = c
    · subst e
      refine ⟨a, ha, e2, e3, ?_⟩
      rw [e1, e4]
      rcases hv with ⟨rfl, rfl⟩ | ⟨rfl, rfl⟩
      · rw [if_pos (show i32 2 = 2 from rfl)]; rfl
      · rw [if_neg (by decide)]; rfl
    · rw [(e5 k e).1] at hs ⊢
      obtain ⟨a', p1, p2, p3, p4⟩ := k1 k hk (by simp) hs
      have ea : ¬ a' = a := by
        rintro rfl
        rw [h1] at p4
        split at p4 <;> exact absurd p4 (by decide)
      exact ⟨a', p1, by rw [(e5 k e).2]; exact p2, by rw [(e6 a' ea).2]; exact p3, by rw [(e6 a' ea).1]; exact p4⟩
  · by_cases e : k = a
    · subst e
      refine ⟨c, hc, by simp, e3, e2, ?_⟩
      rw [e1, e4]
      rcases hv with ⟨rfl, rfl⟩ | ⟨rfl, rfl⟩
      · rw [if_pos (by decide)]; rfl
      · rw [if_neg (by decide)]; rfl
    · rw [(e6 k e).1] at hs ⊢
      obtain ⟨c', p1, p2, p3, p4, p5⟩ := k2 k hk hs
      have ec : ¬ c' = c := by
        rintro rfl
        unfold isW at hw
        rcases hw with q | q <;> rw [q] at p5 <;> split at p5 <;> exact absurd p5 (by decide)
      exact ⟨c', p1, by simp, by rw [(e6 k e).2]; exact p3, by rw [(e5 c' ec).2]; exact p4, by rw [(e5 c' ec).1]; exact p5⟩
theorem take_R {l z : Sg} {n t t0 c a s : Nat} (h : RX l z n t t0 none s) (hs : s + 2 ≤ 1024) (hc : c < n) (ha : a < 6) (h1 : z 326 a = 1) (hcan : canT z a c) : ∃ s', s' ≤ s + 2 ∧ RX (f_100 (i32 a) c l) (takeOne z c a) n t t0 none s' := by
  have hn := RX_n h
  have hw : isW z c := hcan.1
  have hl := h.2.1 c hc (by simp)
  have hnot : ¬ (z 311 c = 2 ∨ z 311 c = 4) := by
    intro q
    unfold isW at hw
    rcases hw with r | r <;> rw [r] at q <;> rcases q with q | q <;> exact absurd q (by decide)
  have hx := RX_open h hnot
  have ht : l 292 0 = z 292 0 := h.1.2.2.2.2.1.trans h.1.2.2.2.2.2.1.symm
  have h410 := h.2.2.2.2.2.1.2.2.2 c (by omega)
  obtain ⟨d1, d2, d3, d4, d5, d6, d7, d8⟩ := h.2.2.2.1 a ha
  -- both halves of a taking, by what the call is then
  have key : ∀ (v w : Nat), (v = 2 ∧ w = 2) ∨ (v = 4 ∧ w = 3) → ∀ (zl : Sg), (∀ F i, (lF F = true → ¬ i = c) → zl F i = z F i) → zl 311 c = i32 v → zl 325 c = i32 a → MI zl → zl 317 c = z 317 c → zl 318 c = z 318 c →
      (∀ (l2 : Sg), (∀ F i, jF F = false → (lF F = true → ¬ i = c) → l2 F i = l F i) → l2 311 c = i32 v → l2 325 c = i32 a → l2 313 c = -1 → l2 316 c = l 292 0 + 6 → (∀ F, ¬ (F = 311 ∨ F = 325 ∨ F = 313 ∨ F = 316) → jF F = false → l2 F c = l F c) → lineR l2 zl c) →
      ∃ s', s' ≤ s + 2 ∧ RX (up2 (up2 (up2 (up2 (up2 (f_92 c (i32 v) l) 325 c (i32 a)) 313 c (-1)) 316 c ((f_92 c (i32 v) l) 292 0 + 6)) 331 a ((f_92 c (i32 v) l) 410 c)) 326 a (i32 w)) (up2 (up2 zl 331 a (i32 c)) 326 a (i32 w)) n t t0 none s' := by
    intro v w hv zl z1 z2 z3 z4 z5 z6 hline
    obtain ⟨s', q1, q2, q3⟩ := turn_J (st := i32 v) h.2.2.2.2.2 hs (by omega : c < 60) (fun q => by rcases hv with ⟨rfl, _⟩ | ⟨rfl, _⟩ <;> rcases q with q | q <;> exact absurd q (by decide))
    generalize f_92 c (i32 v) l = lt at q2 q3 ⊢
    have e0 : lt 292 0 = l 292 0 := by rw [q3 292 0 rfl]; simp [up2]
    have e410 : lt 410 c = i32 c := by rw [q3 410 c rfl]; simpa [up2] using h410
    rw [e0, e410]
    have hl2 : ∀ F i, jF F = false → (lF F = true → ¬ i = c) → up2 (up2 (up2 lt 325 c (i32 a)) 313 c (-1)) 316 c (l 292 0 + 6) F i = l F i := fun F i g1 g2 => by
      rw [up2_c rfl g2, up2_c rfl g2, up2_c rfl g2, q3 F i g1, up2_c rfl g2]
    have hx2 : RX (up2 (up2 (up2 lt 325 c (i32 a)) 313 c (-1)) 316 c (l 292 0 + 6)) zl n t t0 (some c) s' :=
      RX_c1 hx hc hl2 z1 z4 (JR_up (JR_up (JR_up q2 rfl (by decide) (by decide)) rfl (by decide) (by decide)) rfl (by decide) (by decide))
    have hlin : lineR (up2 (up2 (up2 lt 325 c (i32 a)) 313 c (-1)) 316 c (l 292 0 + 6)) zl c := hline _ hl2 (by simp [up2]; rw [q3 311 c rfl]; simp [up2]) (by simp [up2]) (by simp [up2]) (by simp [up2]) (fun F g1 g2 => by
      have a1 : ¬ F = 316 := fun q => g1 (Or.inr (Or.inr (Or.inr q)))
      have a2 : ¬ F = 313 := fun q => g1 (Or.inr (Or.inr (Or.inl q)))
      have a3 : ¬ F = 325 := fun q => g1 (Or.inr (Or.inl q))
      have a4 : ¬ F = 311 := fun q => g1 (Or.inl q)
      have := q3 F c g2
      simp only [up2, a1, a2, a3, a4, false_and, if_false] at this ⊢
      exact this)
    generalize hl3 : up2 (up2 (up2 lt 325 c (i32 a)) 313 c (-1)) 316 c (l 292 0 + 6) = l3 at hx2 hlin hl2 ⊢
    have hKK : LK (up2 (up2 zl 331 a (i32 c)) 326 a (i32 w)) n none := by
      refine LK_take h.2.2.2.2.1 hc hn ha hw h1 hv ?_ ?_ (by simp [up2]) (by simp [up2]) (fun k hk => ?_) (fun k hk => ?_)
      · simpa [up2] using z2
      · simpa [up2] using z3
      · constructor
        · simp only [up2]; simp; exact z1 311 k (fun _ => hk)
        · simp only [up2]; simp; exact z1 325 k (fun _ => hk)
      · constructor
        · simp only [up2]; simp [hk]; exact z1 326 k (fun q => by cases q)
        · simp only [up2]; simp [hk]; exact z1 331 k (fun q => by cases q)
    have hlin3 : lineR (up2 (up2 l3 331 a (i32 c)) 326 a (i32 w)) (up2 (up2 zl 331 a (i32 c)) 326 a (i32 w)) c := by
      refine lineR_cg hlin (fun F hF => ?_) (fun F hF => ?_) (by simp [up2]) (fun F m hF => ?_)
      · have e : dF F = false := by
          cases q : dF F with
          | false => rfl
          | true => have := (dF_ne q).2.2.2; rw [this] at hF; cases hF
        rw [up2_d rfl (fun q => by rw [e] at q; cases q), up2_d rfl (fun q => by rw [e] at q; cases q)]
      · have e : dF F = false := by
          cases q : dF F with
          | false => rfl
          | true => have := (dF_ne q).2.2.2; rw [this] at hF; cases hF
        rw [up2_d rfl (fun q => by rw [e] at q; cases q), up2_d rfl (fun q => by rw [e] at q; cases q)]
      · rcases hF with rfl | rfl | rfl <;> simp [up2]
    refine ⟨s', q1, RX_d (a := a) hx2 (fun F i g => by rw [up2_d rfl g, up2_d rfl g]) (fun F i g => by rw [up2_d rfl g, up2_d rfl g]) (MI_up (MI_up z4 rfl) rfl) ?_ (fun k _ _ hk => by cases hk; exact hlin3) hKK⟩
    have g : ∀ F, dF F = true → l3 F a = l F a ∧ zl F a = z F a := fun F hF => by
      have e := dF_ne hF
      exact ⟨hl2 F a e.1 (fun q => by rw [e.2.2.2] at q; cases q), z1 F a (fun q => by rw [e.2.2.2] at q; cases q)⟩
    refine ⟨by simp [up2], ?_, ?_, ?_, by simp [up2], ?_, ?_, ⟨w, by omega, by simp [up2]⟩⟩
    · simp [up2]; rw [(g 327 rfl).1, (g 327 rfl).2]; exact d2
    · simp [up2]; rw [(g 328 rfl).1, (g 328 rfl).2]; exact d3
    · simp [up2]; rw [(g 329 rfl).1, (g 329 rfl).2]; exact d4
    · intro q
      simp [up2] at q
      rcases hv with ⟨_, rfl⟩ | ⟨_, rfl⟩ <;> exact absurd q (by decide)
    · obtain ⟨y, y1, y2⟩ := d7
      exact ⟨y, y1, by simp [up2]; rw [(g 329 rfl).2]; exact y2⟩
  obtain ⟨r311, r317, r318, hq⟩ := hl
  have hM := GR_m h.1
  unfold f_100 takeOne
  have hak : (i32 a).toNatClampNeg = a := i32_cl (by omega)
  simp only [bnd, hak]
  rw [r311]
  by_cases c1 : z 311 c = 1
  · rw [if_neg (not_not_intro c1), if_pos c1]
    have e : up2 (up2 (up2 (up2 (up2 (up2 z 325 c (i32 a)) 331 a (i32 c)) 311 c 2) 313 c (-1)) 320 c (-1)) 326 a 2 = up2 (up2 (up2 (up2 (up2 (up2 z 325 c (i32 a)) 311 c 2) 313 c (-1)) 320 c (-1)) 331 a (i32 c)) 326 a (i32 2) := by
      funext F i
      unfold up2
      by_cases q1 : F = 331
      · subst q1; simp
      · simp [q1]; rfl
    rw [e]
    have hL1 : L1 l z c := by
      rcases hq with q | q | q | q | q | q
      · rw [q.1] at c1; exact absurd c1 (by decide)
      · exact q
      · rw [q.1] at c1; exact absurd c1 (by decide)
      · rw [q.1] at c1; exact absurd c1 (by decide)
      · rw [q.1] at c1; exact absurd c1 (by decide)
      · rw [q.1] at c1; exact absurd c1 (by decide)
    obtain ⟨b1, b2, b3, b4, b5, b6, b7, _⟩ := hL1
    refine key 2 2 (Or.inl ⟨rfl, rfl⟩) _ (fun F i g => by rw [up2_c rfl g, up2_c rfl g, up2_c rfl g, up2_c rfl g]) (by simp [up2]; rfl) (by simp [up2]) (MI_up (MI_up (MI_up (MI_up hM rfl) rfl) rfl) rfl) (by simp [up2]) (by simp [up2]) ?_
    intro l2 g1 g2 g3 g4 g5 g6
    have g0 : l2 292 0 = l 292 0 := g1 292 0 rfl (fun q => by cases q)
    refine ⟨by rw [g2]; simp [up2]; rfl, ?_, ?_, Or.inr (Or.inr (Or.inl ⟨by simp [up2], ?_, ⟨g4, by simp [up2]⟩, by rw [g3]; simp [up2], ?_⟩))⟩
    · rw [g6 317 (by decide) rfl]; simpa [up2] using r317
    · rw [g6 318 (by decide) rfl]; simpa [up2] using r318
    · rw [g6 312 (by decide) rfl]; exact b2
    · rw [g6 324 (by decide) rfl, g0]; exact b6
  · rw [if_pos c1, if_neg c1]
    have c3 : z 311 c = 3 := by
      unfold isW at hw
      rcases hw with q | q
      · exact absurd q c1
      · exact q
    have e : up2 (up2 (up2 (up2 (up2 z 325 c (i32 a)) 331 a (i32 c)) 311 c 4) 316 c (z 292 0 + 6)) 326 a 3 = up2 (up2 (up2 (up2 (up2 z 325 c (i32 a)) 311 c 4) 316 c (z 292 0 + 6)) 331 a (i32 c)) 326 a (i32 3) := by
      funext F i
      unfold up2
      by_cases q1 : F = 331
      · subst q1; simp
      · simp [q1]; rfl
    rw [e]
    have hL3 : L3 l z c := by
      rcases hq with q | q | q | q | q | q
      · rw [q.1] at c3; exact absurd c3 (by decide)
      · rw [q.1] at c3; exact absurd c3 (by decide)
      · rw [q.1] at c3; exact absurd c3 (by decide)
      · exact q
      · rw [q.1] at c3; exact absurd c3 (by decide)
      · rw [q.1] at c3; exact absurd c3 (by decide)
    obtain ⟨b1, b2, b3, b4, b5, b6, b7, b8, b9⟩ := hL3
    have b7' : l 324 c ≤ l 292 0 := by
      rcases b7 with q | q
      · rw [q, ht]
        rcases hcan.2.2 with r | r
        · exact absurd r c1
        · exact r
      · exact q.1
    refine key 4 3 (Or.inr ⟨rfl, rfl⟩) _ (fun F i g => by rw [up2_c rfl g, up2_c rfl g, up2_c rfl g]) (by simp [up2]; rfl) (by simp [up2]) (MI_up (MI_up (MI_up hM rfl) rfl) rfl) (by simp [up2]) (by simp [up2]) ?_
    intro l2 g1 g2 g3 g4 g5 g6
    have g0 : l2 292 0 = l 292 0 := g1 292 0 rfl (fun q => by cases q)
    refine ⟨by rw [g2]; simp [up2]; rfl, ?_, ?_, Or.inr (Or.inr (Or.inr (Or.inr (Or.inl ⟨by simp [up2], ?_, ⟨g4, by simp [up2]; exact b3.2⟩, by rw [g3]; simp [up2], ?_, ?_, ?_, ?_, ?_, ?_⟩))))⟩
    · rw [g6 317 (by decide) rfl]; simpa [up2] using r317
    · rw [g6 318 (by decide) rfl]; simpa [up2] using r318
    · rw [g6 312 (by decide) rfl]; exact b2
    · unfold clm
      rw [g6 420 (by decide) rfl, g6 320 (by decide) rfl, g6 321 (by decide) rfl, g6 322 (by decide) rfl]
      simpa [clm, up2] using b5
    · simpa [up2] using b6
    · rw [g6 324 (by decide) rfl, g0]; exact b7'
    · rw [g5, ht]; simp [up2]
    · rw [g6 323 (by decide) rfl]; simpa [up2] using b8
    · simpa [up2] using b9
theorem canT_best {z : Sg} {a : Nat} : ∀ {n c : Nat}, bestN z a n = some c → c < n ∧ canT z a c
  | n + 1, c, h => by
    by_cases p : canT z a n
    · cases hb : bestN z a n with
      | none =>
        rw [bestN_yes p (fun b h2 => by rw [hb] at h2; cases h2)] at h
        cases h; exact ⟨Nat.lt_succ_self _, p⟩
      | some q =>
        by_cases pa : ahead z n q
        · rw [bestN_yes p (fun b h2 => by rw [hb] at h2; cases h2; exact pa)] at h
          cases h; exact ⟨Nat.lt_succ_self _, p⟩
        · rw [bestN_no2 hb pa] at h
          have := canT_best h
          exact ⟨Nat.lt_succ_of_lt this.1, this.2⟩
    · rw [bestN_no1 p] at h
      have := canT_best h
      exact ⟨Nat.lt_succ_of_lt this.1, this.2⟩
/-- the taking of calls, round by round -/
theorem takes_R {n t t0 : Nat} : ∀ (r j s : Nat) (l z : Sg), s + 2 * r ≤ 1024 → rdyN z 6 ≤ r → RX l z n t t0 none s → ∃ s', s' ≤ s + 2 * r ∧ RX (g_96 n r j l) (takesN n r z) n t t0 none s' ∧ takerN (takesN n r z) n 6 = none
  | 0, j, s, l, z, hs, hr, h => by
    rw [g_96, takesN]
    refine ⟨s, by omega, h, ?_⟩
    cases ht : takerN z n 6 with
    | none => rfl
    | some a =>
      have q := takerN_lt ht
      have := rdyN_pos q.2.1 q.1
      omega
  | r + 1, j, s, l, z, hs, hr, h => by
    have hn := RX_n h
    rw [g_96, f_97_eq h.1 h.2.1 h.2.2.2.1]
    cases ht : takerN z n 6 with
    | none =>
      rw [if_neg (show ¬ isA (oI 0 none) from by decide)]
      have eT : takesN n (r + 1) z = z := by rw [takesN, ht]
      rw [eT]
      exact ⟨s, by omega, h, ht⟩
    | some a =>
      have q := takerN_lt ht
      have hA : isA (oI 0 (some a)) := by
        rw [oI_some]
        exact ⟨(i32_le (a := 0) (by decide) (by omega)).mpr (Nat.zero_le _), (i32_lt (b := 6) (by omega) (by decide)).mpr q.1⟩
      rw [if_pos hA, oI_some, i32_cl (by omega), (h.2.2.2.1 a q.1).2.1, f_99_eq h.1 h.2.1]
      cases hb : bestN z a n with
      | none => exact absurd hb q.2.2
      | some c =>
        obtain ⟨c1, c2⟩ := canT_best hb
        have hC : isCl n (oI 0 (some c)) := by
          rw [oI_some]
          exact ⟨(i32_le (a := 0) (by decide) (by omega)).mpr (Nat.zero_le _), (i32_lt (by omega) (by omega)).mpr c1⟩
        rw [if_pos hC, oI_some, i32_cl (by omega)]
        obtain ⟨s1, p1, p2⟩ := take_R h (by omega) c1 q.1 q.2.1 c2
        have hrd := rdyN_take (c := c) q.2.1 6
        rw [if_pos q.1] at hrd
        obtain ⟨s2, p3, p4, p5⟩ := takes_R r (j + 1) s1 _ _ (by omega) (by omega) p2
        have eT : takesN n (r + 1) z = takesN n r (takeOne z c a) := by rw [takesN, ht]; simp only [hb]
        rw [eT]
        exact ⟨s2, by omega, p4, p5⟩
