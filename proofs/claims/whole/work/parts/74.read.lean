/-! ===== what class and model read alike ===== -/
def wOK (l z : Sg) (n : Nat) : Prop := ∀ c, c < n → (l 311 c = z 311 c) ∧ (isW z c → l 320 c = z 320 c ∧ l 321 c = z 321 c ∧ l 322 c = z 322 c ∧ ∃ q, q < 6 ∧ z 320 c = i32 q)
theorem lineR.w {l z : Sg} {c : Nat} (h : lineR l z c) : (l 311 c = z 311 c) ∧ (isW z c → l 320 c = z 320 c ∧ l 321 c = z 321 c ∧ l 322 c = z 322 c ∧ ∃ q, q < 6 ∧ z 320 c = i32 q) := by
  obtain ⟨h1, _, _, h⟩ := h
  refine ⟨h1, fun hw => ?_⟩
  unfold isW at hw
  rcases h with h | h | h | h | h | h
  · rw [h.1] at hw; rcases hw with q | q <;> exact absurd q (by decide)
  · exact h.2.2.2.1.2 h.2.2.2.2.1
  · rw [h.1] at hw; rcases hw with q | q <;> exact absurd q (by decide)
  · exact h.2.2.2.2.1.2 h.2.2.2.2.2.1
  · rw [h.1] at hw; rcases hw with q | q <;> exact absurd q (by decide)
  · rw [h.1] at hw; rcases hw with q | q <;> exact absurd q (by decide)
theorem RX.w {l z : Sg} {n t t0 s : Nat} {x : Option Nat} (h : RX l z n t t0 x s) (hx : ∀ c, x = some c → l 311 c = 0 ∧ z 311 c = 0) : wOK l z n := by
  intro c hc
  by_cases q : x = some c
  · have e := hx c q
    refine ⟨by rw [e.1, e.2], fun hw => ?_⟩
    unfold isW at hw
    rw [e.2] at hw
    rcases hw with q | q <;> exact absurd q (by decide)
  · exact (h.2.1 c hc q).w
theorem f_14_eq {l : Sg} {c : Nat} {w : Int32} : f_14 c w l = 0 ↔ ¬ (l 320 c = w ∧ isW l c) := by
  have e := @f_13_eq l c
  unfold f_13 at e
  unfold f_14
  by_cases h : l 320 c = w
  · rw [if_neg (not_not_intro h), e]
    exact ⟨fun q r => q r.2, fun q r => q ⟨h, r⟩⟩
  · rw [if_pos h]
    exact ⟨fun _ q => h q.1, fun _ => rfl⟩
theorem g_102_eq {l z : Sg} {n : Nat} {s : Int32} (hw : wOK l z n) : ∀ d j, j + d = n → g_102 n s d j (i32 (cntW z s j)) l = i32 (cntW z s n)
  | 0, j, h => by
    obtain rfl : j = n := by omega
    rw [g_102]
  | d + 1, j, h => by
    have e := hw j (by omega)
    have ew : (l 320 j = s ∧ isW l j) ↔ (isW z j ∧ z 320 j = s) := by
      have e1 : isW l j ↔ isW z j := by unfold isW; rw [e.1]
      constructor
      · rintro ⟨p1, p2⟩
        exact ⟨e1.mp p2, by rw [← (e.2 (e1.mp p2)).1]; exact p1⟩
      · rintro ⟨p1, p2⟩
        exact ⟨by rw [(e.2 p1).1]; exact p2, e1.mpr p1⟩
    rw [g_102, ← g_102_eq hw d (j + 1) (by omega)]
    by_cases q : isW z j ∧ z 320 j = s
    · rw [if_neg (by rw [f_14_eq, Classical.not_not]; exact ew.mpr q)]
      rw [show cntW z s (j + 1) = cntW z s j + 1 by rw [cntW, if_pos q], show (1 : Int32) = i32 1 from rfl, i32_add]
    · rw [if_pos (by rw [f_14_eq]; exact fun r => q (ew.mp r))]
      rw [show cntW z s (j + 1) = cntW z s j by rw [cntW, if_neg q, Nat.add_zero]]
theorem f_102_eq {l z : Sg} {n : Nat} {s : Int32} (hw : wOK l z n) : f_102 n s l = i32 (cntW z s n) := g_102_eq hw n 0 (by omega)
theorem f_28_eq {t : Nat} (ht : t ≤ 20000) : f_28 (i32 t) = i32 (t / 240 % 7) := by
  unfold f_28
  rw [show (240 : Int32) = i32 240 from rfl, show (7 : Int32) = i32 7 from rfl, i32_div (by omega) (by decide) (by decide), i32_mod (by omega) (by decide) (by decide)]
theorem lt_i32 {x : Int32} {q : Nat} (hq : q < 2147483647) : x ≤ i32 (q + 1) - 1 ↔ x < i32 (q + 1) := by
  rw [show i32 (q + 1) - 1 = i32 q from i32_sub (a := q + 1) (b := 1) (by omega), Int32.le_iff_toInt_le, Int32.lt_iff_toInt_lt, i32_int (by omega), i32_int (by omega)]
  omega
theorem f_29_eq {l z : Sg} {n t : Nat} (h : GR l z n t) : f_29 (l 292 0) l = 0 ↔ ¬ openN z t := by
  obtain ⟨g1, g2, g3, g4, g5, g6, g7, g8, g9, g10, g11, g12, g13, _⟩ := h
  have e3 := fun i => g11 293 i rfl
  have e4 := fun i => g11 294 i rfl
  have e5 := fun i => g11 295 i rfl
  have hd : i32 t / (240 : Int32) = i32 (t / 240) := i32_div (b := 240) (by omega) (by decide) (by decide)
  have hm : i32 t - i32 (t / 240) * (240 : Int32) = i32 (t % 240) := by
    rw [← hd]; exact i32_mod (b := 240) (by omega) (by decide) (by decide)
  unfold f_29 openN
  rw [g5, f_28_eq g2, hd, hm]
  have a1 : ¬ i32 (t / 240) < 0 := i32_nn (by omega)
  have a2 : ¬ (84 : Int32) ≤ i32 (t / 240) := fun q => by
    have := (i32_le (a := 84) (b := t / 240) (by decide) (by omega)).mp q
    omega
  have a3 : ¬ i32 (t / 240 % 7) < 0 := i32_nn (by omega)
  have a4 : ¬ (7 : Int32) ≤ i32 (t / 240 % 7) := fun q => by
    have := (i32_le (a := 7) (b := t / 240 % 7) (by decide) (by omega)).mp q
    omega
  rw [if_neg a1, if_neg a2, i32_cl (by omega), e5, i32_cl (by omega), e3, e4]
  obtain ⟨q, hq, hq2⟩ := g13 (t / 240 % 7) (by omega)
  have hlt : i32 (t % 240) ≤ z 294 (t / 240 % 7) - 1 ↔ i32 (t % 240) < z 294 (t / 240 % 7) := by
    rw [hq2]
    cases q with
    | zero =>
      constructor
      · intro r
        have e : (i32 0 - 1).toInt = -1 := by decide
        rw [Int32.le_iff_toInt_le, e, i32_int (by omega)] at r
        omega
      · intro r
        exact absurd r (i32_nn (n := t % 240) (by omega))
    | succ q => exact lt_i32 (by omega)
  rw [hlt]
  by_cases b1 : z 295 (t / 240) = 0
  · rw [if_pos b1, if_neg a3, if_neg a4]
    by_cases b2 : i32 (t % 240) < z 293 (t / 240 % 7)
    · rw [if_pos b2]
      exact ⟨fun _ r => absurd b2 (Int32.not_lt.mpr r.2.1), fun _ => rfl⟩
    · rw [if_neg b2]
      by_cases b3 : i32 (t % 240) < z 294 (t / 240 % 7)
      · rw [if_neg (Int32.not_le.mpr b3)]
        exact ⟨fun r => absurd r (by decide), fun r => absurd ⟨b1, Int32.not_lt.mp b2, b3⟩ r⟩
      · rw [if_pos (Int32.not_lt.mp b3)]
        exact ⟨fun _ r => b3 r.2.2, fun _ => rfl⟩
  · rw [if_neg b1]
    exact ⟨fun _ r => b1 r.1, fun _ => rfl⟩
theorem bit_sl : ∀ q, q < 6 → ((1 : Int32) <<< (i32 q &&& 31)).toBitVec = BitVec.twoPow 32 q := by decide +kernel
theorem bit_sm : ∀ q, q < 6 → ((i32 q &&& 31).toBitVec.smod 32).toNat = q := by decide +kernel
theorem bit_tp : ∀ q, q < 6 → ¬ BitVec.twoPow 32 q = 0#32 := by decide +kernel
theorem bit_iff (m : Int32) {q : Nat} (hq : q < 6) : m >>> (i32 q &&& 31) &&& 1 = 1 ↔ ¬ m &&& ((1 : Int32) <<< (i32 q &&& 31)) = 0 := by
  have e : (m >>> (i32 q &&& 31)).toBitVec = m.toBitVec.sshiftRight q := by
    show m.toBitVec.sshiftRight ((i32 q &&& 31).toBitVec.smod 32).toNat = _
    rw [bit_sm q hq]
  rw [← Int32.toBitVec_inj, ← Int32.toBitVec_inj, Int32.toBitVec_and, Int32.toBitVec_and, bit_sl q hq, e, BitVec.and_twoPow]
  show (m.toBitVec.sshiftRight q &&& 1#32) = 1#32 ↔ ¬ _ = 0#32
  rw [BitVec.and_one_eq_setWidth_ofBool_getLsbD, BitVec.getLsbD_sshiftRight]
  have h1 : (!decide (32 ≤ 0) && if q + 0 < 32 then m.toBitVec.getLsbD (q + 0) else m.toBitVec.msb) = m.toBitVec.getLsbD q := by
    rw [if_pos (by omega)]
    rfl
  rw [h1]
  cases hb : m.toBitVec.getLsbD q
  · exact ⟨fun z => absurd z (by decide), fun z => absurd (by simp) z⟩
  · exact ⟨fun _ z => absurd ((if_pos rfl).symm.trans z) (bit_tp q hq), fun _ => by decide⟩
theorem f_84_eq {l z : Sg} {q : Nat} (hq : q < 6) (h1 : ∀ a, a < 6 → l 326 a = z 326 a ∧ l 327 a = z 327 a) : f_84 (i32 q) l = 0 ↔ ¬ free z (i32 q) := by
  have key : ∀ d j, j + d = 6 → (g_84 (i32 q) d j l = 0 ↔ ¬ ∃ k, j ≤ k ∧ k < 6 ∧ (z 326 k = 1 ∧ z 327 k >>> (i32 q &&& 31) &&& 1 = 1)) := by
    intro d
    induction d with
    | zero =>
      intro j h
      rw [g_84]
      exact ⟨fun _ ⟨k, p1, p2, _⟩ => by omega, fun _ => rfl⟩
    | succ d ih =>
      intro j h
      have e := h1 j (by omega)
      rw [g_84, e.1, e.2]
      have hi := ih (j + 1) (by omega)
      by_cases b1 : z 326 j = 1
      · rw [if_neg (not_not_intro b1)]
        by_cases b2 : z 327 j &&& ((1 : Int32) <<< (i32 q &&& 31)) = 0
        · rw [if_pos b2, hi]
          constructor
          · rintro p ⟨k, k1, k2, k3⟩
            by_cases e : k = j
            · subst e; exact absurd b2 ((bit_iff _ hq).mp k3.2)
            · exact p ⟨k, by omega, k2, k3⟩
          · rintro p ⟨k, k1, k2, k3⟩
            exact p ⟨k, by omega, k2, k3⟩
        · rw [if_neg b2]
          exact ⟨fun p => absurd p (by decide), fun p => absurd ⟨j, Nat.le_refl j, by omega, b1, (bit_iff _ hq).mpr b2⟩ p⟩
      · rw [if_pos b1, hi]
        constructor
        · rintro p ⟨k, k1, k2, k3⟩
          by_cases e : k = j
          · subst e; exact b1 k3.1
          · exact p ⟨k, by omega, k2, k3⟩
        · rintro p ⟨k, k1, k2, k3⟩
          exact p ⟨k, by omega, k2, k3⟩
  unfold f_84 free
  rw [key 6 0 (by omega)]
  constructor
  · rintro p ⟨k, k1, k2⟩
    exact p ⟨k, Nat.zero_le k, k1, k2⟩
  · rintro p ⟨k, _, k1, k2⟩
    exact p ⟨k, k1, k2⟩
theorem f_83_eq {l z : Sg} {n t t0 c m : Nat} (hG : GR l z n t) (hw : wOK l z n) (hD : DR l z t0) (hm : m < 30) (h4 : z 296 m = 4) (hnum : l 317 c = z 317 c) : f_83 n c m l = 0 ↔ ¬ soM z n t c m := by
  obtain ⟨n1, n2, n3, n4, n5, n6, n7, n8, n9, n10, n11, n12, n13, n14, n15⟩ := hG.2.2.2.2.2.2.2.1 m hm
  obtain ⟨p1, p2, p3, ⟨w, w1, w2⟩, p5⟩ := n14 h4
  unfold f_83 soM
  rw [p1, p2, p3]
  by_cases b0 : z 299 m = 0
  · rw [if_pos b0, if_pos b0]
    exact f_29_eq hG
  rw [if_neg b0, if_neg b0]
  by_cases b1 : z 299 m = 1
  · rw [if_pos b1, if_pos b1, hnum]
    by_cases q : z 317 c < z 297 m
    · rw [if_pos q]
      exact ⟨fun _ => Int32.not_le.mpr q, fun _ => rfl⟩
    · rw [if_neg q]
      exact ⟨fun r => absurd r (by decide), fun r => absurd (Int32.not_lt.mp q) r⟩
  rw [if_neg b1, if_neg b1]
  by_cases b2 : z 299 m = 2
  · rw [if_pos b2, if_pos b2, f_102_eq hw]
    by_cases q : i32 (cntW z (z 297 m) n) < z 298 m
    · rw [if_pos q]
      exact ⟨fun _ => Int32.not_le.mpr q, fun _ => rfl⟩
    · rw [if_neg q]
      exact ⟨fun r => absurd r (by decide), fun r => absurd (Int32.not_lt.mp q) r⟩
  rw [if_neg b2, if_neg b2]
  by_cases b3 : z 299 m = 3
  · rw [if_pos b3, if_pos b3, hG.2.2.2.2.1, f_28_eq hG.2.1]
    by_cases q : i32 (t / 240 % 7) = z 297 m
    · rw [if_neg (not_not_intro q)]
      exact ⟨fun r => absurd r (by decide), fun r => absurd q r⟩
    · rw [if_pos q]
      exact ⟨fun _ => q, fun _ => rfl⟩
  rw [if_neg b3, if_neg b3]
  have b4 : z 299 m = 4 := by
    have : w = 0 ∨ w = 1 ∨ w = 2 ∨ w = 3 ∨ w = 4 := by omega
    rcases this with rfl | rfl | rfl | rfl | rfl
    · exact absurd w2 b0
    · exact absurd w2 b1
    · exact absurd w2 b2
    · exact absurd w2 b3
    · exact w2
  obtain ⟨q, hq, hq2⟩ := p5 (Or.inr b4)
  rw [hq2]
  exact f_84_eq hq (fun a ha => ⟨(hD a ha).1, (hD a ha).2.1⟩)
