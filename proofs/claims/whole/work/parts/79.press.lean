/-! ===== presses, time that is up ===== -/
theorem lineR.s0 {l z : Sg} {c : Nat} (h : lineR l z c) (hs : z 311 c = 0) : L0 l z c := by
  obtain ⟨_, _, _, q | q | q | q | q | q⟩ := h
  · exact q
  all_goals (have := q.1; rw [hs] at this; exact absurd this (by decide))
theorem lineR.s1 {l z : Sg} {c : Nat} (h : lineR l z c) (hs : z 311 c = 1) : L1 l z c := by
  obtain ⟨_, _, _, q | q | q | q | q | q⟩ := h
  · have := q.1; rw [hs] at this; exact absurd this (by decide)
  · exact q
  all_goals (have := q.1; rw [hs] at this; exact absurd this (by decide))
theorem lineR.s2 {l z : Sg} {c : Nat} (h : lineR l z c) (hs : z 311 c = 2) : L2 l z c := by
  obtain ⟨_, _, _, q | q | q | q | q | q⟩ := h
  · have := q.1; rw [hs] at this; exact absurd this (by decide)
  · have := q.1; rw [hs] at this; exact absurd this (by decide)
  · exact q
  all_goals (have := q.1; rw [hs] at this; exact absurd this (by decide))
theorem lineR.s4 {l z : Sg} {c : Nat} (h : lineR l z c) (hs : z 311 c = 4) : L4 l z c := by
  obtain ⟨_, _, _, q | q | q | q | q | q⟩ := h
  · have := q.1; rw [hs] at this; exact absurd this (by decide)
  · have := q.1; rw [hs] at this; exact absurd this (by decide)
  · have := q.1; rw [hs] at this; exact absurd this (by decide)
  · have := q.1; rw [hs] at this; exact absurd this (by decide)
  · exact q
  · have := q.1; rw [hs] at this; exact absurd this (by decide)
theorem L0.atR {l z : Sg} {c m : Nat} (h : lineR l z c) (hs : z 311 c = 0) (hm : m < 30) (h3 : z 313 c = i32 m) (hk : z 296 m = 2 ∨ z 296 m = 3) : atR l z c m ∧ (z 296 m = 3 → ∃ r dg, z 314 c = i32 r ∧ 10 ^ dg ≤ r ∧ r < 10 ^ (dg + 1) ∧ l 418 c = i32 dg ∧ dg ≤ 5 ∧ i32 dg < z 298 m) := by
  obtain ⟨_, b2, b3, b4, b5, b6, m', hm', b7, b8, b9⟩ := h.s0 hs
  have : m' = m := by
    rw [b7] at h3
    exact (i32_inj (by omega) (by omega)).mp h3
  subst this
  have hp : lpre l z c m' := ⟨b2, b3, b4, b5, h.2.1, h.2.2.1, by rw [oI_some]; exact b8⟩
  rcases b9 with k | ⟨k, hr⟩ | ⟨k, hr, hd⟩
  · rw [k] at hk; rcases hk with q | q <;> exact absurd q (by decide)
  · exact ⟨⟨h.1.trans hs, hs, b7, hp, hr⟩, fun q => by rw [k] at q; exact absurd q (by decide)⟩
  · exact ⟨⟨h.1.trans hs, hs, b7, hp, hr⟩, fun _ => hd⟩
theorem kyN_row {z : Sg} {c m : Nat} {its : Int32} {m' : Nat} : kyN (sRow z c m its) m' = kyN z m' := by
  unfold kyN sRow
  simp [up2]
/-- a digit -/
theorem digit_R {l z : Sg} {n t t0 c s m k0 : Nat} (h : RX l z n t t0 (some c) s) (hc : c < n) (hm : m < 30) (hk : z 296 m = 2 ∨ z 296 m = 3) (hk0 : k0 ≤ 9) (ha : atR l z c m) (hd : z 296 m = 3 → ∃ r dg, z 314 c = i32 r ∧ 10 ^ dg ≤ r ∧ r < 10 ^ (dg + 1) ∧ l 418 c = i32 dg ∧ dg ≤ 5 ∧ i32 dg < z 298 m) :
    gon z (if f_26 m ((f_20 c (i32 k0) (l 292 0 + l 304 m) l) 314 c) ((f_20 c (i32 k0) (l 292 0 + l 304 m) l) 418 c) (f_20 c (i32 k0) (l 292 0 + l 304 m) l) = 0 then f_87 c m (f_20 c (i32 k0) (l 292 0 + l 304 m) l) else (-2, f_20 c (i32 k0) (l 292 0 + l 304 m) l)).2 (sDigit z n t c m (kyN z m) (rwN z c) (i32 k0)) n t t0 c s
      (if f_26 m ((f_20 c (i32 k0) (l 292 0 + l 304 m) l) 314 c) ((f_20 c (i32 k0) (l 292 0 + l 304 m) l) 418 c) (f_20 c (i32 k0) (l 292 0 + l 304 m) l) = 0 then f_87 c m (f_20 c (i32 k0) (l 292 0 + l 304 m) l) else (-2, f_20 c (i32 k0) (l 292 0 + l 304 m) l)).1 := by
  obtain ⟨a1, a2, a3, hp, r1, r2, q, p, r3, r4, r5, r6⟩ := ha
  obtain ⟨n1, n2, n3, n4, n5, n6, n7, n8, n9, n10, n11, n12, n13, n14, n15⟩ := GR_n h.1 hm
  have ht : l 292 0 = z 292 0 := h.1.2.2.2.2.1.trans h.1.2.2.2.2.2.1.symm
  have ecom : l 314 c * 10 + i32 k0 = 10 * z 314 c + i32 k0 := by rw [r1, Int32.mul_comm]
  have e20 : f_20 c (i32 k0) (l 292 0 + l 304 m) l = up2 (up2 (up2 l 314 c (10 * z 314 c + i32 k0)) 418 c (l 418 c + 1)) 316 c (z 292 0 + z 304 m) := by
    unfold f_20
    rw [ecom, ht, n7]
  rw [e20]
  have hx : RX (up2 (up2 (up2 l 314 c (10 * z 314 c + i32 k0)) 418 c (l 418 c + 1)) 316 c (z 292 0 + z 304 m)) (sRow z c m (i32 k0)) n t t0 (some c) s :=
    RX_c1 h hc (fun F i _ h2 => by rw [up2_c rfl h2, up2_c rfl h2, up2_c rfl h2]) (fun F i h2 => by unfold sRow; rw [up2_c rfl h2, up2_c rfl h2]) (MI_up (MI_up (GR_m h.1) rfl) rfl) (JR_up (JR_up (JR_up h.2.2.2.2.2 rfl (by decide) (by decide)) rfl (by decide) (by decide)) rfl (by decide) (by decide))
  obtain ⟨f2, f3, f4, f5, f6, f7, f8⟩ := hp
  have hp2 : lpre (up2 (up2 (up2 l 314 c (10 * z 314 c + i32 k0)) 418 c (l 418 c + 1)) 316 c (z 292 0 + z 304 m)) (sRow z c m (i32 k0)) c m := ⟨by simpa [up2] using f2, by simpa [up2] using f3, by simpa [clm, sRow, up2] using f4, by simpa [up2] using f5, by simpa [sRow, up2] using f6, by simpa [sRow, up2] using f7, by simpa [up2] using f8⟩
  have hrow : rowR (up2 (up2 (up2 l 314 c (10 * z 314 c + i32 k0)) 418 c (l 418 c + 1)) 316 c (z 292 0 + z 304 m)) (sRow z c m (i32 k0)) c m := ⟨by simp [sRow, up2], by simpa [sRow, up2] using r2, q, p, by simpa [sRow, up2] using r3, by simpa [sRow, up2] using r4, r5, r6⟩
  have hat : atR (up2 (up2 (up2 l 314 c (10 * z 314 c + i32 k0)) 418 c (l 418 c + 1)) 316 c (z 292 0 + z 304 m)) (sRow z c m (i32 k0)) c m := ⟨by simpa [up2] using a1, by simpa [sRow, up2] using a2, by simpa [sRow, up2] using a3, hp2, hrow⟩
  have x314 : (up2 (up2 (up2 l 314 c (10 * z 314 c + i32 k0)) 418 c (l 418 c + 1)) 316 c (z 292 0 + z 304 m)) 314 c = 10 * z 314 c + i32 k0 := by simp [up2]
  have x418 : (up2 (up2 (up2 l 314 c (10 * z 314 c + i32 k0)) 418 c (l 418 c + 1)) 316 c (z 292 0 + z 304 m)) 418 c = l 418 c + 1 := by simp [up2]
  have x316 : (up2 (up2 (up2 l 314 c (10 * z 314 c + i32 k0)) 418 c (l 418 c + 1)) 316 c (z 292 0 + z 304 m)) 316 c = z 292 0 + z 304 m := by simp [up2]
  have x296 : (up2 (up2 (up2 l 314 c (10 * z 314 c + i32 k0)) 418 c (l 418 c + 1)) 316 c (z 292 0 + z 304 m)) 296 m = z 296 m := by simpa [up2] using n1
  have x438 : (up2 (up2 (up2 l 314 c (10 * z 314 c + i32 k0)) 418 c (l 418 c + 1)) 316 c (z 292 0 + z 304 m)) 438 m = l 438 m := by simp [up2]
  have k296 : (sRow z c m (i32 k0)) 296 m = z 296 m := by simp [sRow, up2]
  rw [x314, x418]
  generalize up2 (up2 (up2 l 314 c (10 * z 314 c + i32 k0)) 418 c (l 418 c + 1)) 316 c (z 292 0 + z 304 m) = l3 at hx hp2 hrow hat x314 x418 x316 x296 x438 ⊢
  have hfillc : ∀ (hN : atN l3 (sRow z c m (i32 k0)) c m), RX l3 (sRow z c m (i32 k0)) n t t0 none s := by
    intro hN
    obtain ⟨g2, g3, g4, g5, g6, g7, g8⟩ := hp2
    obtain ⟨t1, t2, t3, _, _⟩ := hat
    refine RX_fill hx ⟨t1.trans t2.symm, g6, g7, Or.inl ⟨t2, g2, g3, g4, g5, ?_, m, hm, t3, by rw [oI_some] at g8; exact g8, hN⟩⟩ (by rw [t2]; decide)
    rw [x316]; simp [sRow, up2]
  have e26 : f_26 m (10 * z 314 c + i32 k0) (l 418 c + 1) l3 = if ¬ l3 296 m = 2 then (if l3 438 m ≤ l 418 c + 1 then 0 else 1) else f_11 m (10 * z 314 c + i32 k0) l3 := rfl
  rw [e26, x296]
  by_cases k2 : z 296 m = 2
  · have k3 : ¬ z 296 m = 3 := by rw [k2]; decide
    rw [if_neg (not_not_intro k2)]
    have e11 := f_11_eq (m := m) (its := 10 * z 314 c + i32 k0) (WEk hx.1) (by rw [kyN_row]; exact ⟨n10.1, by simpa [sRow, up2] using n10.2⟩)
    rw [kyN_row] at e11
    unfold sDigit
    rw [if_neg k3]
    by_cases hb : 0 < bgN (sRow z c m (i32 k0)) m (10 * z 314 c + i32 k0) (kyN z m)
    · have hne : ¬ f_11 m (10 * z 314 c + i32 k0) l3 = 0 := fun x => (e11.mp x) hb
      rw [if_pos hb]
      simp only [hne, if_false]
      exact Or.inl ⟨rfl, hfillc (Or.inr (Or.inl ⟨by rw [k296]; exact k2, hrow⟩)), fun F i hF => kp_row hF⟩
    · rw [if_neg hb]
      simp only [e11.mpr hb, if_true]
      have := endRow_R (dg := 0) hx hc hm (by rw [k296]; exact hk) hat (fun x => by rw [k296] at x; exact absurd x k3)
      rw [kyN_row] at this
      cases hpk : pkey (sRow z c m (i32 k0)) m (10 * z 314 c + i32 k0) (kyN z m) with
      | some j => exact gon_tr this (fun F i hF => kp_row hF)
      | none =>
        have e : sDone (sRow z c m (i32 k0)) n t c m (kyN z m) 0 = sFails (sRow z c m (i32 k0)) n t c m := by
          have r : (sRow z c m (i32 k0)) 314 c = 10 * z 314 c + i32 k0 := by simp [sRow, up2]
          unfold sDone
          rw [k296, if_pos k2, r, hpk]
          show (if z 296 m = 3 ∧ _ then _ else _) = _
          rw [if_neg (fun x => k3 x.1)]
        rw [e] at this
        exact gon_tr this (fun F i hF => kp_row hF)
  · have k3 : z 296 m = 3 := hk.resolve_left k2
    rw [if_pos k2]
    obtain ⟨r, dg, y1, y2, y3, y4, y5, y6⟩ := hd k3
    obtain ⟨b1, b2, a, b, w1, w2, w3, w4, w5⟩ := n13 k3
    have ern : rwN z c = dg := by
      unfold rwN
      rw [ndN_of hm a3, if_pos k3, y1, dgN_of y2 y3 (by omega)]
    have e418 : l 418 c + 1 = i32 (dg + 1) := by rw [y4]; exact i32_add dg 1
    have hdb : dg < b := by rw [w5] at y6; exact (i32_lt (by omega) (by omega)).mp y6
    have p1 : 10 ^ (dg + 1) = 10 ^ dg * 10 := Nat.pow_succ 10 dg
    have p2 : 10 ^ (dg + 1 + 1) = 10 ^ (dg + 1) * 10 := Nat.pow_succ 10 (dg + 1)
    have p3 : 10 ^ (dg + 1) ≤ 10 ^ 6 := Nat.pow_le_pow_right (by decide) (by omega)
    have erow : 10 * z 314 c + i32 k0 = i32 (10 * r + k0) := by rw [y1, show (10 : Int32) * i32 r = i32 (10 * r) from i32_mul 10 r, i32_add]
    unfold sDigit
    rw [if_pos k3, ern, x438, b2, w5, e418]
    by_cases hbe : dg + 1 = b
    · rw [if_pos (show i32 (dg + 1) = i32 b by rw [hbe])]
      simp only [show i32 b ≤ i32 (dg + 1) from by rw [hbe]; exact Int32.le_refl _, if_true]
      have := endRow_R (dg := dg + 1) hx hc hm (by rw [k296]; exact hk) hat (fun _ => ⟨by rw [x418, e418], by omega⟩)
      rw [kyN_row] at this
      exact gon_tr this (fun F i hF => kp_row hF)
    · rw [if_neg (fun x => hbe ((i32_inj (by omega) (by omega)).mp x))]
      simp only [show ¬ i32 b ≤ i32 (dg + 1) from fun x => by have := (i32_le (by omega) (by omega)).mp x; omega, if_false, show ¬ (1 : Int32) = 0 by decide]
      refine Or.inl ⟨rfl, hfillc (Or.inr (Or.inr ⟨by rw [k296]; exact k3, hrow, 10 * r + k0, dg + 1, ?_, by omega, by omega, by rw [x418, e418], by omega, ?_⟩)), fun F i hF => kp_row hF⟩
      · rw [← erow]; simp [sRow, up2]
      · have : (sRow z c m (i32 k0)) 298 m = i32 b := by simpa [sRow, up2] using w5
        rw [this]
        exact (i32_lt (by omega) (by omega)).mpr (by omega)
/-- a call tells something -/
theorem answer_R {l z : Sg} {n t t0 c s k0 : Nat} (h : RX l z n t t0 none s) (hc : c < n) (hk0 : k0 ≤ 11) (hs : z 311 c = 0 ∨ z 311 c = 1) : gon z (f_85 c (i32 k0) l).2 (mPress z n t c (i32 k0)) n t t0 c s (f_85 c (i32 k0) l).1 := by
  have hn := RX_n h
  have hl := h.2.1 c hc (by simp)
  have hx := RX_open (c := c) h (by rcases hs with q | q <;> rw [q] <;> decide)
  rcases hs with hs | hs
  · have hL := hl.s0 hs
    obtain ⟨_, b2, b3, b4, b5, b6, m, hm, b7, b8, b9⟩ := hL
    obtain ⟨n1, n2, n3, n4, n5, n6, n7, n8, n9, n10, n11, n12, n13, n14, n15⟩ := GR_n h.1 hm
    have end_ : ndN z c = m := ndN_of hm b7
    unfold f_85 mPress sPress
    rw [b8, if_pos (isN_of hm), i32_cl (by omega), end_, n1, if_neg (show ¬ z 311 c = 1 by rw [hs]; decide)]
    by_cases k1 : z 296 m = 1
    · rw [if_neg (by rw [k1]; decide), if_neg (by rw [k1]; decide), if_neg (by rw [k1]; decide), if_neg (by rw [k1]; decide)]
      exact Or.inl ⟨rfl, h, fun F i _ => rfl⟩
    · have hk : z 296 m = 2 ∨ z 296 m = 3 := by
        rcases b9 with q | q | q
        · exact absurd q k1
        · exact Or.inl q.1
        · exact Or.inr q.1
      obtain ⟨hat, hdig⟩ := L0.atR hl hs hm b7 hk
      have e85 : (if z 296 m = 2 then (bnd2 (f_86 c m (i32 k0) l) fun v4 l4 => (v4, l4)) else (if z 296 m = 3 then (bnd2 (f_86 c m (i32 k0) l) fun v6 l6 => (v6, l6)) else (if z 296 m = 7 then (if ¬ i32 k0 = 1 then ((-2 : Int32), l) else (l 302 m, l)) else ((-2 : Int32), l)))) = f_86 c m (i32 k0) l := by
        rcases hk with q | q
        · rw [if_pos q]; rfl
        · rw [if_neg (by rw [q]; decide), if_pos q]; rfl
      rw [e85, if_pos hk]
      unfold f_86
      by_cases g10 : i32 k0 = 10
      · rw [if_neg (not_not_intro g10), if_pos g10]
        exact Or.inl ⟨rfl, listen_R hx hc hm hk hat, fun F i hF => kp_listen hF⟩
      · rw [if_pos g10, if_neg g10]
        by_cases g11 : i32 k0 = 11
        · rw [if_neg (not_not_intro g11), if_pos g11]
          refine endRow_R hx hc hm hk hat (fun q => ?_)
          obtain ⟨r, dg, y1, y2, y3, y4, y5, y6⟩ := hdig q
          have ern : rwN z c = dg := by
            unfold rwN
            rw [end_, if_pos q, y1, dgN_of y2 y3 (by omega)]
          rw [ern]
          exact ⟨y4, by omega⟩
        · rw [if_pos g11, if_neg g11]
          have h9 : k0 ≤ 9 := by
            have : ¬ k0 = 10 := fun x => g10 (by rw [x]; rfl)
            have : ¬ k0 = 11 := fun x => g11 (by rw [x]; rfl)
            omega
          exact digit_R hx hc hm hk h9 hat hdig
  · have hL := hl.s1 hs
    obtain ⟨_, b2, b3, b4, b5, b6, b7, m, hm, b8, b9, b10⟩ := hL
    obtain ⟨n1, n2, n3, n4, n5, n6, n7, n8, n9, n10, n11, n12, n13, n14, n15⟩ := GR_n h.1 hm
    have end_ : ndN z c = m := ndN_of hm b8
    unfold f_85 mPress sPress
    rw [b9, if_pos (isN_of hm), i32_cl (by omega), end_, n1, if_pos hs, if_neg (by rw [b10]; decide), if_neg (by rw [b10]; decide), if_pos b10, n3 (by rw [b10]; decide)]
    by_cases g1 : i32 k0 = 1
    · rw [if_neg (not_not_intro g1)]
      by_cases e : z 302 m ≤ -2
      · rw [if_neg (fun x => x.2 e)]
        have : z 302 m = -2 := Int32.le_antisymm e (n5 b10)
        exact Or.inl ⟨this, h, fun F i _ => rfl⟩
      · rw [if_pos ⟨g1, e⟩]
        have e1 : -1 ≤ z 302 m := by
          rw [Int32.le_iff_toInt_le] at e ⊢
          have e0 : (-1 : Int32).toInt = -1 := by decide
          have e2 : (-2 : Int32).toInt = -2 := by decide
          omega
        exact Or.inr ⟨z, m, hm, e1, ((GR_m h.1).1 m hm).2, rfl, hx, b2, b3, b4, b6, hl.2.1, hl.2.2.1, by rw [oI_some]; exact b9⟩
    · rw [if_pos g1, if_neg (fun x => g1 x.1)]
      exact Or.inl ⟨rfl, h, fun F i _ => rfl⟩
/-- the time at a node is up -/
theorem timeUp_R {l z : Sg} {n t t0 c s : Nat} (h : RX l z n t t0 none s) (hc : c < n) (hs : z 311 c = 0 ∨ z 311 c = 1) : gon z (f_89 c l).2 (mUp z n t c) n t t0 c s (f_89 c l).1 := by
  have hl := h.2.1 c hc (by simp)
  have hx := RX_open (c := c) h (by rcases hs with q | q <;> rw [q] <;> decide)
  have h4 : ¬ z 311 c = 4 := by rcases hs with q | q <;> rw [q] <;> decide
  unfold mUp
  rw [if_neg h4]
  rcases hs with hs | hs
  · have hL := hl.s0 hs
    obtain ⟨_, b2, b3, b4, b5, b6, m, hm, b7, b8, b9⟩ := hL
    obtain ⟨n1, n2, n3, n4, n5, n6, n7, n8, n9, n10, n11, n12, n13, n14, n15⟩ := GR_n h.1 hm
    have end_ : ndN z c = m := ndN_of hm b7
    unfold f_89 sUp
    rw [b8, if_pos (isN_of hm), i32_cl (by omega), end_, n1]
    by_cases k1 : z 296 m = 1
    · rw [if_neg (by rw [k1]; decide), if_pos (by rw [k1]; decide), if_pos (Or.inr k1)]
      have n2' := n2 (Or.inl k1)
      refine Or.inr ⟨z, m, hm, ?_, ?_, ?_, hx, b2, b3, b4, b5, hl.2.1, hl.2.2.1, by rw [oI_some]; exact b8⟩
      · show -1 ≤ l 301 m
        rw [n2'.1]; exact n2'.2
      · show l 301 m ≤ 29
        rw [n2'.1]; exact ((GR_m h.1).1 m hm).1
      · show sGoes z n t c (some m) (z 301 m) = sGoes z n t c (some m) (l 301 m)
        rw [n2'.1]
    · have hk : z 296 m = 2 ∨ z 296 m = 3 := by
        rcases b9 with q | q | q
        · exact absurd q k1
        · exact Or.inl q.1
        · exact Or.inr q.1
      obtain ⟨hat, hdig⟩ := L0.atR hl hs hm b7 hk
      have e89 : (if z 296 m = 2 then (bnd2 (f_87 c m l) fun v4 l4 => (v4, l4)) else (if ¬ z 296 m = 3 then (l 301 m, l) else (bnd2 (f_87 c m l) fun v6 l6 => (v6, l6)))) = f_87 c m l := by
        rcases hk with q | q
        · rw [if_pos q]; rfl
        · rw [if_neg (by rw [q]; decide), if_neg (not_not_intro q)]; rfl
      rw [e89, if_neg (show ¬ (z 311 c = 1 ∨ z 296 m = 1) from fun x => by rcases x with x | x; rw [hs] at x; exact absurd x (by decide); exact k1 x)]
      refine endRow_R hx hc hm hk hat (fun q => ?_)
      obtain ⟨r, dg, y1, y2, y3, y4, y5, y6⟩ := hdig q
      have ern : rwN z c = dg := by
        unfold rwN
        rw [end_, if_pos q, y1, dgN_of y2 y3 (by omega)]
      rw [ern]
      exact ⟨y4, by omega⟩
  · have hL := hl.s1 hs
    obtain ⟨_, b2, b3, b4, b5, b6, b7, m, hm, b8, b9, b10⟩ := hL
    obtain ⟨n1, n2, n3, n4, n5, n6, n7, n8, n9, n10, n11, n12, n13, n14, n15⟩ := GR_n h.1 hm
    have end_ : ndN z c = m := ndN_of hm b8
    unfold f_89 sUp
    rw [b9, if_pos (isN_of hm), i32_cl (by omega), end_, n1, if_neg (by rw [b10]; decide), if_pos (by rw [b10]; decide), if_pos (Or.inl hs)]
    have n2' := n2 (by rw [b10]; decide)
    refine Or.inr ⟨z, m, hm, ?_, ?_, ?_, hx, b2, b3, b4, b6, hl.2.1, hl.2.2.1, by rw [oI_some]; exact b9⟩
    · show -1 ≤ l 301 m
      rw [n2'.1]; exact n2'.2
    · show l 301 m ≤ 29
      rw [n2'.1]; exact ((GR_m h.1).1 m hm).1
    · show sGoes z n t c (some m) (z 301 m) = sGoes z n t c (some m) (l 301 m)
      rw [n2'.1]
