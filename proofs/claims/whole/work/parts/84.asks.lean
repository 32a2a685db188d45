/-! ===== what is so, class and model ===== -/
theorem lineR.s5 {l z : Sg} {c : Nat} (h : lineR l z c) (hs : z 311 c = 5) : L5 l z c := by
  obtain ⟨_, _, _, q | q | q | q | q | q⟩ := h
  · have := q.1; rw [hs] at this; exact absurd this (by decide)
  · have := q.1; rw [hs] at this; exact absurd this (by decide)
  · have := q.1; rw [hs] at this; exact absurd this (by decide)
  · have := q.1; rw [hs] at this; exact absurd this (by decide)
  · have := q.1; rw [hs] at this; exact absurd this (by decide)
  · exact q
theorem lineR.end5 {l z : Sg} {c : Nat} (h : lineR l z c) (hs : ¬ z 311 c = 5) : l 312 c = -1 := by
  obtain ⟨_, _, _, q | q | q | q | q | q⟩ := h
  · exact q.2.1
  · exact q.2.1
  · exact q.2.1
  · exact q.2.1
  · exact q.2.1
  · exact absurd q.1 hs
theorem lineR.nd {l z : Sg} {c : Nat} (h : lineR l z c) : (2 ≤ z 311 c → l 313 c = -1) ∧ (¬ 2 ≤ z 311 c → l 313 c = z 313 c) := by
  obtain ⟨_, _, _, q | q | q | q | q | q⟩ := h
  · obtain ⟨m, _, m1, m2, _⟩ := q.2.2.2.2.2.2
    rw [q.1, m1, m2]
    exact ⟨fun x => absurd x (by decide), fun _ => rfl⟩
  · obtain ⟨m, _, m1, m2, _⟩ := q.2.2.2.2.2.2.2
    rw [q.1, m1, m2]
    exact ⟨fun x => absurd x (by decide), fun _ => rfl⟩
  · rw [q.1]; exact ⟨fun _ => q.2.2.1.1, fun x => absurd (by decide) x⟩
  · rw [q.1]; exact ⟨fun _ => q.2.2.1.1, fun x => absurd (by decide) x⟩
  · rw [q.1]; exact ⟨fun _ => q.2.2.1.1, fun x => absurd (by decide) x⟩
  · rw [q.1]; exact ⟨fun _ => q.2.2.1.1, fun x => absurd (by decide) x⟩
theorem lineR.eq13 {l z : Sg} {c : Nat} (h : lineR l z c) : l 313 c = z 313 c := by
  obtain ⟨_, _, _, q | q | q | q | q | q⟩ := h
  · obtain ⟨m, _, m1, m2, _⟩ := q.2.2.2.2.2.2
    rw [m1, m2]
  · obtain ⟨m, _, m1, m2, _⟩ := q.2.2.2.2.2.2.2
    rw [m1, m2]
  · rw [q.2.2.1.1, q.2.2.1.2]
  · rw [q.2.2.1.1, q.2.2.1.2]
  · rw [q.2.2.1.1, q.2.2.1.2]
  · rw [q.2.2.1.1, q.2.2.1.2]
section ASKS
variable {l z : Sg} {n t s : Nat} {a b : Int32}
theorem isCl_lt (hn : n ≤ 60) (h : isCl n a) : a.toNatClampNeg < n ∧ i32 a.toNatClampNeg = a := rng_i32 (b := n) (by omega) h.1 h.2
theorem sim_state (h : RX l z n t t none s) (hs : s < 512) (hk : takerN z n 6 = none) : simO (wo 205 (f_56 n a l)) (f_168 n t a z) := by
  have hRR : RR l z := ⟨n, t, s, h, hs, hk⟩
  unfold f_56 f_168
  by_cases h1 : isCl n a
  · rw [if_pos h1, if_pos (show isC n a from h1)]
    exact simO_ok (by simp [up2]) (h.2.1 _ (isCl_lt (RX_n h) h1).1 (by simp)).1 (RR_thr hRR)
  · rw [if_neg h1, if_neg (show ¬ isC n a from h1)]
    exact simO_no rfl (by decide) (by simp [up2]; rfl) (RR_thr hRR)
theorem sim_end (h : RX l z n t t none s) (hs : s < 512) (hk : takerN z n 6 = none) : simO (wo 206 (f_57 n a l)) (f_169 n t a z) := by
  have hRR : RR l z := ⟨n, t, s, h, hs, hk⟩
  unfold f_57 f_169
  by_cases h1 : isCl n a
  · have hl := h.2.1 _ (isCl_lt (RX_n h) h1).1 (by simp)
    rw [if_pos h1, if_pos (show isC n a from h1)]
    by_cases h5 : z 311 a.toNatClampNeg = 5
    · rw [if_neg (not_not_intro h5)]
      exact simO_ok (by simp [up2]) (hl.s5 h5).2.1 (RR_thr hRR)
    · rw [if_pos h5]
      exact simO_ok (by simp [up2]) (hl.end5 h5) (RR_thr hRR)
  · rw [if_neg h1, if_neg (show ¬ isC n a from h1)]
    exact simO_no rfl (by decide) (by simp [up2]; rfl) (RR_thr hRR)
theorem sim_nodeOf (h : RX l z n t t none s) (hs : s < 512) (hk : takerN z n 6 = none) : simO (wo 207 (f_58 n a l)) (f_170 n t a z) := by
  have hRR : RR l z := ⟨n, t, s, h, hs, hk⟩
  unfold f_58 f_170
  by_cases h1 : isCl n a
  · have hl := (h.2.1 _ (isCl_lt (RX_n h) h1).1 (by simp)).nd
    rw [if_pos h1, if_pos (show isC n a from h1)]
    by_cases h5 : 2 ≤ z 311 a.toNatClampNeg
    · rw [if_pos h5]
      exact simO_ok (by simp [up2]) (hl.1 h5) (RR_thr hRR)
    · rw [if_neg h5]
      exact simO_ok (by simp [up2]) (hl.2 h5) (RR_thr hRR)
  · rw [if_neg h1, if_neg (show ¬ isC n a from h1)]
    exact simO_no rfl (by decide) (by simp [up2]; rfl) (RR_thr hRR)
theorem sim_numberOf (h : RX l z n t t none s) (hs : s < 512) (hk : takerN z n 6 = none) : simO (wo 208 (f_59 n a l)) (f_171 n t a z) := by
  have hRR : RR l z := ⟨n, t, s, h, hs, hk⟩
  unfold f_59 f_171
  by_cases h1 : isCl n a
  · rw [if_pos h1, if_pos (show isC n a from h1)]
    exact simO_ok (by simp [up2]) (h.2.1 _ (isCl_lt (RX_n h) h1).1 (by simp)).2.1 (RR_thr hRR)
  · rw [if_neg h1, if_neg (show ¬ isC n a from h1)]
    exact simO_no rfl (by decide) (by simp [up2]; rfl) (RR_thr hRR)
theorem wOK_R (h : RX l z n t t none s) : wOK l z n := RX.w h (fun c q => by cases q)
theorem sim_waiting (h : RX l z n t t none s) (hs : s < 512) (hk : takerN z n 6 = none) : simO (wo 211 (f_62 n a l)) (f_175 n t a z) := by
  have hRR : RR l z := ⟨n, t, s, h, hs, hk⟩
  unfold f_62 f_175
  by_cases h1 : 0 ≤ a ∧ a ≤ 5
  · rw [if_pos h1, if_pos h1]
    have e : cntW (up2 z 292 41 0) a n = cntW z a n := cntW_cg (fun k _ => ⟨by unfold isW; simp [up2], fun _ => by simp [up2]⟩)
    exact simO_ok (by simp [up2]) (by rw [f_102_eq (wOK_R h), e]) (RR_thr hRR)
  · rw [if_neg h1, if_neg h1]
    exact simO_no rfl (by decide) (by simp [up2]; rfl) (RR_thr hRR)
theorem isA_lt (h : isA a) : a.toNatClampNeg < 6 ∧ i32 a.toNatClampNeg = a := rng_i32 (b := 6) (by decide) h.1 h.2
theorem sim_agent (h : RX l z n t t none s) (hs : s < 512) (hk : takerN z n 6 = none) : simO (wo 212 (f_63 n a l)) (f_176 n t a z) := by
  have hRR : RR l z := ⟨n, t, s, h, hs, hk⟩
  unfold f_63 f_176
  by_cases h1 : isA a
  · rw [if_pos h1, if_pos h1]
    exact simO_ok (by simp [up2]) (h.2.2.2.1 _ (isA_lt h1).1).1 (RR_thr hRR)
  · rw [if_neg h1, if_neg h1]
    exact simO_no rfl (by decide) (by simp [up2]; rfl) (RR_thr hRR)
theorem sim_callOf (h : RX l z n t t none s) (hs : s < 512) (hk : takerN z n 6 = none) : simO (wo 213 (f_64 n a l)) (f_177 n t a z) := by
  have hRR : RR l z := ⟨n, t, s, h, hs, hk⟩
  unfold f_64 f_177
  by_cases h1 : isA a
  · rw [if_pos h1, if_pos h1]
    exact simO_ok (by simp [up2]) (h.2.2.2.1 _ (isA_lt h1).1).2.2.2.2.1 (RR_thr hRR)
  · rw [if_neg h1, if_neg h1]
    exact simO_no rfl (by decide) (by simp [up2]; rfl) (RR_thr hRR)
theorem sim_begun (h : RX l z n t t none s) (hs : s < 512) (hk : takerN z n 6 = none) : simO (wo 215 (f_66 n a l)) (f_179 n t a z) := by
  have hRR : RR l z := ⟨n, t, s, h, hs, hk⟩
  unfold f_66 f_179
  by_cases h1 : isN a
  · rw [if_pos h1, if_pos h1]
    exact simO_ok (by simp [up2]) (WE9 h.1 310 _ (Or.inr (Or.inl rfl))) (RR_thr hRR)
  · rw [if_neg h1, if_neg h1]
    exact simO_no rfl (by decide) (by simp [up2]; rfl) (RR_thr hRR)
theorem sim_ways (h : RX l z n t t none s) (hs : s < 512) (hk : takerN z n 6 = none) : simO (wo 214 (f_65 n a b l)) (f_178 n t a b z) := by
  have hRR : RR l z := ⟨n, t, s, h, hs, hk⟩
  unfold f_65 f_178
  by_cases h1 : isN a
  · rw [if_pos h1, if_pos h1]
    by_cases h2 : isT b
    · rw [if_pos h2, if_pos h2]
      by_cases h3 : 0 ≤ b
      · rw [if_pos h3]
        obtain ⟨e1, e2⟩ := isT_nn h2 h3
        have e3 : (b + 1).toNatClampNeg = b.toNatClampNeg + 1 := by
          rw [← i32_s1 e2, i32_cl (by omega)]
        refine simO_ok (by simp [up2]) ?_ (RR_thr hRR)
        rw [e3, if_neg (by omega), Nat.add_sub_cancel]
        exact WE9 h.1 309 _ (Or.inl rfl)
      · rw [if_neg h3]
        have e : b = -1 := by
          by_cases q : b = -1
          · exact q
          · exact absurd (isT_lt h2 q).1 h3
        subst e
        refine simO_ok (by simp [up2]) ?_ (RR_thr hRR)
        rw [if_pos (by decide)]
        exact WE9 h.1 309 _ (Or.inl rfl)
    · rw [if_neg h2, if_neg h2]
      exact simO_no rfl (by decide) (by simp [up2]; rfl) (RR_thr hRR)
  · rw [if_neg h1, if_neg h1]
    exact simO_no rfl (by decide) (by simp [up2]; rfl) (RR_thr hRR)
theorem sim_isOpen (h : RX l z n t t none s) (hs : s < 512) (hk : takerN z n 6 = none) : f_44 l = (f_127 n t z).1 ∧ RR l (f_127 n t z).2 := by
  have hRR : RR l z := ⟨n, t, s, h, hs, hk⟩
  have e := f_29_eq (z := up2 z 292 41 0) (RX_thr (w := 0) h).1
  unfold f_44 f_127
  by_cases q : openN (up2 z 292 41 0) t
  · rw [if_pos q]
    refine ⟨?_, RR_thr hRR⟩
    rcases f_29_01 (l 292 0) l with r | r
    · exact absurd q (e.mp r)
    · exact r
  · rw [if_neg q]
    exact ⟨e.mpr q, RR_thr hRR⟩
theorem sim_calls (h : RX l z n t t none s) (hs : s < 512) (hk : takerN z n 6 = none) : f_55 n l = (f_167 n t z).1 ∧ RR l (f_167 n t z).2 := ⟨rfl, RR_thr ⟨n, t, s, h, hs, hk⟩⟩
/-! places -/
theorem f_103_gen {c j : Nat} (hc : c < 60) (hj : j < 60) : f_103 (score z j) (i32 j) (score z c) (i32 c) = 0 ↔ ¬ (score z c < score z j ∨ (score z j = score z c ∧ j < c)) := by
  unfold f_103
  have e : i32 c ≤ i32 j ↔ c ≤ j := i32_le (by omega) (by omega)
  by_cases h1 : score z c < score z j
  · rw [if_pos h1]
    exact ⟨fun r => absurd r (by decide), fun r => absurd (Or.inl h1) r⟩
  rw [if_neg h1]
  by_cases h2 : score z j = score z c
  · rw [if_neg (not_not_intro h2)]
    by_cases h3 : c ≤ j
    · rw [if_pos (e.mpr h3)]
      exact ⟨fun _ r => by rcases r with r | r; exact h1 r; omega, fun _ => rfl⟩
    · rw [if_neg (fun q => h3 (e.mp q))]
      exact ⟨fun r => absurd r (by decide), fun r => absurd (Or.inr ⟨h2, by omega⟩) r⟩
  · rw [if_pos h2]
    exact ⟨fun _ r => by rcases r with r | r; exact h1 r; exact h2 r.1, fun _ => rfl⟩
theorem add0 (a : Int32) : a + 0 = a := by
  apply Int32.toBitVec_inj.mp
  simp
theorem places_eq {c : Nat} (h : RX l z n t t none s) (hc : c < n) (hw : isW z c) : ∀ d j (a : Int32), j + d = n → ∃ v, g_60 n c (i32 c) (score z c) d j a l = (.inl v, l) ∧ g_172 n c d j a z = (v, z)
  | 0, j, a, hj => by
    rw [g_60, g_172, if_pos hw]
    exact ⟨a, rfl, rfl⟩
  | d + 1, j, a, hj => by
    have hn := RX_n h
    have hl := h.2.1 j (by omega) (by simp)
    have hlc := h.2.1 c hc (by simp)
    have ew : isW l j ↔ isW z j := by unfold isW; rw [hl.1]
    rw [g_60, g_172, if_pos hw, add0]
    by_cases p : isW z j
    · rw [if_pos p]
      obtain ⟨e1, _⟩ := hl.w.2 p
      obtain ⟨e2, _⟩ := hlc.w.2 hw
      have e14 := f_14_eq (l := l) (c := j) (w := l 320 c)
      rw [f_16_eq h.1 hl p]
      have e103 := f_103_gen (z := z) (c := c) (j := j) (by omega) (by omega)
      by_cases q : z 320 j = z 320 c
      · rw [if_neg (fun x => (e14.mp x) ⟨by rw [e1, e2]; exact q, ew.mpr p⟩), if_neg (not_not_intro q)]
        by_cases r : score z c < score z j ∨ (score z j = score z c ∧ j < c)
        · rw [if_neg (fun x => (e103.mp x) r), if_pos r]
          exact places_eq h hc hw d (j + 1) (a + 1) (by omega)
        · rw [if_pos (e103.mpr r), if_neg r]
          exact places_eq h hc hw d (j + 1) a (by omega)
      · rw [if_pos (e14.mpr (fun x => q (by rw [← e1, ← e2]; exact x.1))), if_pos q]
        exact places_eq h hc hw d (j + 1) a (by omega)
    · rw [if_neg p, if_pos (f_14_eq.mpr (fun x => p (ew.mp x.2)))]
      exact places_eq h hc hw d (j + 1) a (by omega)
theorem g_172_no {c : Nat} (hw : ¬ isW z c) : ∀ d j a, g_172 n c d j a z = (-1, z)
  | 0, j, a => by rw [g_172, if_neg hw]
  | d + 1, j, a => by rw [g_172, if_neg hw, if_neg hw]
theorem sim_placeOf (h0 : RX l z n t t none s) (hs : s < 512) (hk : takerN z n 6 = none) : simO (wo 209 (f_60 n a l)) (f_173 n t a z) := by
  have hRR : RR l z := ⟨n, t, s, h0, hs, hk⟩
  have h := RX_thr (w := 0) h0
  have h41 : (up2 z 292 41 0) 292 41 = 0 := by simp [up2]
  have hR2 := RR_thr (w := 0) hRR
  unfold f_60 f_173 f_172 bnd2
  by_cases h1 : isCl n a
  · rw [if_pos h1, if_pos (show isC n a from h1)]
    obtain ⟨c1, c2⟩ := isCl_lt (RX_n h) h1
    generalize up2 z 292 41 0 = z0 at h h41 hR2 ⊢
    generalize a.toNatClampNeg = c at c1 c2 ⊢
    subst c2
    have hl := h.2.1 c c1 (by simp)
    have ew : isW l c ↔ isW z0 c := by unfold isW; rw [hl.1]
    by_cases hw : isW z0 c
    · rw [if_pos (show ¬ f_13 c l = 0 from fun q => (f_13_eq.mp q) (ew.mpr hw)), f_16_eq h.1 hl hw]
      obtain ⟨v, v1, v2⟩ := places_eq h c1 hw n 0 0 (by omega)
      rw [v1, v2]
      exact simO_ok h41 rfl hR2
    · rw [if_neg (show ¬ ¬ f_13 c l = 0 from not_not_intro (f_13_eq.mpr (fun q => hw (ew.mp q)))), g_172_no hw]
      exact simO_ok h41 rfl hR2
  · rw [if_neg h1, if_neg (show ¬ isC n a from h1)]
    exact simO_no rfl (by decide) (by simp [up2]; rfl) (RR_thr hRR)
theorem replay_tail {x tt o sc : Int32} {l4 : Sg} (hno : ∀ j, n ≤ j → j < 60 → l4 475 j = -1) : ∀ d j (a : Int32), j + d = 60 → n ≤ j → g_7 x tt o sc d j a l4 = (a, l4)
  | 0, j, a, _, _ => by rw [g_7]
  | d + 1, j, a, h1, h2 => by
    rw [g_7, hno j h2 (by omega), if_pos (by decide)]
    exact replay_tail hno d (j + 1) a (by omega) (by omega)
theorem replays_eq {c r0 : Nat} {l4 : Sg} (h : RX l z n t t none s) (hc : c < n) (hw : isW z c) (h4 : ∀ F i, ¬ F = 475 → l4 F i = l F i) (h5 : ∀ k, k < 60 → l4 475 k = oI 0 (opn l k s)) (hr : opn l c s = some r0) (hr2 : l 472 r0 = l 320 c) : ∀ d j (a : Int32), j + d = n → ∃ v, g_7 (i32 c) (l 292 0) (i32 r0) (score z c) (60 - j) j a l4 = (v, l4) ∧ g_172 n c d j a z = (v, z)
  | 0, j, a, hj => by
    obtain rfl : j = n := by omega
    have hn := RX_n h
    rw [g_172, if_pos hw]
    refine ⟨a, replay_tail (n := j) (fun k k1 k2 => ?_) (60 - j) j a (by omega) (Nat.le_refl j), rfl⟩
    rw [h5 k k2]
    have hu := h.2.2.1 k k1 k2
    have : opn l k s = none := (h.2.2.2.2.2.2 k k2).2 (fun q => by unfold isW at q; rw [hu.1] at q; rcases q with q | q <;> exact absurd q (by decide))
    rw [this]; rfl
  | d + 1, j, a, hj => by
    have hn := RX_n h
    have hl := h.2.1 j (by omega) (by simp)
    have hlc := h.2.1 c hc (by simp)
    have ew : isW l j ↔ isW z j := by unfold isW; rw [hl.1]
    have e60 : 60 - j = (60 - (j + 1)) + 1 := by omega
    have hs1 := h.2.2.2.2.2.1.2.1
    rw [e60, g_7, g_172, if_pos hw, add0, h5 j (by omega)]
    by_cases p : isW z j
    · rw [if_pos p]
      obtain ⟨r, p1, p2, p3, p4⟩ := (h.2.2.2.2.2.2 j (by omega)).1 (ew.mpr p)
      have hrs := (opn_lt p1).1
      have hrs0 := (opn_lt hr).1
      obtain ⟨e1, e1b, e1c, _⟩ := hl.w.2 p
      obtain ⟨e2, _⟩ := hlc.w.2 hw
      rw [p1, oI_some, if_neg (i32_nn (by omega)), if_neg (fun q => by have := (i32_le (a := 1024) (by decide) (by omega)).mp q; omega), i32_cl (by omega), i32_cl (by omega), h4 472 r (by decide), h4 472 r0 (by decide), h4 473 r (by decide), h4 474 r (by decide), p2, p3, p4, hr2]
      have e103 := f_103_gen (z := z) (c := c) (j := j) (by omega) (by omega)
      have esc : f_104 (l 321 j) (l 292 0 - l 322 j) = score z j := f_16_eq h.1 hl p
      rw [esc, e1, e2]
      by_cases q : z 320 j = z 320 c
      · rw [if_neg (not_not_intro q), if_neg (not_not_intro q)]
        by_cases r : score z c < score z j ∨ (score z j = score z c ∧ j < c)
        · rw [if_neg (fun x => (e103.mp x) r), if_pos r]
          exact replays_eq h hc hw h4 h5 hr hr2 d (j + 1) (a + 1) (by omega)
        · rw [if_pos (e103.mpr r), if_neg r]
          exact replays_eq h hc hw h4 h5 hr hr2 d (j + 1) a (by omega)
      · rw [if_pos q, if_pos q]
        exact replays_eq h hc hw h4 h5 hr hr2 d (j + 1) a (by omega)
    · have hno : opn l j s = none := (h.2.2.2.2.2.2 j (by omega)).2 (fun x => p (ew.mp x))
      rw [if_neg p, hno, if_pos (show oI 0 none < 0 by decide)]
      exact replays_eq h hc hw h4 h5 hr hr2 d (j + 1) a (by omega)
theorem sim_placeByReplay (h0 : RX l z n t t none s) (hs : s < 512) (hk : takerN z n 6 = none) : simO (wo 210 (f_61 n a l)) (f_174 n t a z) := by
  have hRR : RR l z := ⟨n, t, s, h0, hs, hk⟩
  have h := RX_thr (w := 0) h0
  have h41 : (up2 z 292 41 0) 292 41 = 0 := by simp [up2]
  have hk2 : takerN (up2 z 292 41 0) n 6 = none := taker_cg hk (fun a _ q => ⟨by simpa [up2] using q, by simp [up2]⟩) (fun k _ _ => ⟨by simp [up2], by simp [up2], by simp [up2]⟩) (by simp [up2])
  unfold f_61 f_174 f_172 bnd2
  by_cases h1 : isCl n a
  · rw [if_pos h1, if_pos (show isC n a from h1)]
    obtain ⟨c1, c2⟩ := isCl_lt (RX_n h) h1
    have hn := RX_n h
    generalize up2 z 292 41 0 = z0 at h h41 hk2 ⊢
    unfold f_7 bnd
    rw [if_neg (Int32.not_lt.mpr h1.1), if_pos (by rw [← c2]; exact (i32_lt (b := 60) (by omega) (by decide)).mpr (by omega))]
    generalize a.toNatClampNeg = c at c1 c2 ⊢
    subst c2
    obtain ⟨r1, r2⟩ := f_6_rd h.2.2.2.2.2.1
    have hJ : JR (f_6 l) s := ⟨JB_congr h.2.2.2.2.2.1 (fun F r _ h2 => r1 F r (by omega)) (fun c => r1 _ _ (by decide)), fun c hc => jrn_congr (h.2.2.2.2.2.2 c hc) (fun F r _ h2 => r1 F r (by omega)) ⟨r1 _ _ (by decide), r1 _ _ (by decide), r1 _ _ (by decide), r1 _ _ (by decide)⟩⟩
    have hR2 : RR (f_6 l) z0 := ⟨n, t, s, RX_j h (fun F i hF => r1 F i (jF_ne hF).2.2.2.2.2) hJ, hs, hk2⟩
    generalize f_6 l = l4 at r1 r2 hJ hR2 ⊢
    have hl := h.2.1 c c1 (by simp)
    have ew : isW l c ↔ isW z0 c := by unfold isW; rw [hl.1]
    dsimp only
    rw [r2 c (by omega)]
    by_cases hw : isW z0 c
    · obtain ⟨r, p1, p2, p3, p4⟩ := (h.2.2.2.2.2.2 c (by omega)).1 (ew.mpr hw)
      have hrs := (opn_lt p1).1
      have hs1 := h.2.2.2.2.2.1.2.1
      rw [p1, oI_some, if_neg (i32_nn (by omega)), if_pos (by exact (i32_lt (b := 1024) (by omega) (by decide)).mpr (by omega)), i32_cl (by omega), r1 473 r (by decide), r1 474 r (by decide), p3, p4]
      have esc : f_104 (l 321 c) (l 292 0 - l 322 c) = score z0 c := f_16_eq h.1 hl hw
      rw [esc]
      obtain ⟨v, v1, v2⟩ := replays_eq h c1 hw r1 r2 p1 p2 n 0 0 (by omega)
      rw [v1, v2]
      exact simO_ok h41 rfl hR2
    · have hno : opn l c s = none := (h.2.2.2.2.2.2 c (by omega)).2 (fun x => hw (ew.mp x))
      rw [hno, if_pos (show oI 0 none < 0 by decide), g_172_no hw]
      exact simO_ok h41 rfl hR2
  · rw [if_neg h1, if_neg (show ¬ isC n a from h1)]
    exact simO_no rfl (by decide) (by simp [up2]; rfl) (RR_thr hRR)
end ASKS
