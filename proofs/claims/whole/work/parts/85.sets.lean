/-! ===== hours, agents, keys ===== -/
theorem RX_wk {l z : Sg} {n t t0 s F i : Nat} {v : Int32} (h : RX l z n t t0 none s) (hF : F = 293 ∨ F = 294 ∨ F = 295) (h4 : F = 294 → ∃ q, q ≤ 240 ∧ v = i32 q) (h5 : F = 295 → v = 0 ∨ v = 1) : RX (up2 l F i v) (up2 z F i v) n t t0 none s := by
  obtain ⟨hG, hL, hU, hD, hK, hJ⟩ := h
  obtain ⟨g1, g2, g3, g4, g5, g6, g7, g8, g9, g10, g11, g12, g13, g14⟩ := hG
  have e : ∀ G k, ¬ (G = 293 ∨ G = 294 ∨ G = 295) → up2 l F i v G k = l G k := fun G k hG => by
    unfold up2
    rw [if_neg (fun q => hG (by rw [q.1]; exact hF))]
  have ez : ∀ G k, ¬ (G = 293 ∨ G = 294 ∨ G = 295) → up2 z F i v G k = z G k := fun G k hG => by
    unfold up2
    rw [if_neg (fun q => hG (by rw [q.1]; exact hF))]
  have lne : ∀ {G}, lF G = true → ¬ (G = 293 ∨ G = 294 ∨ G = 295) := fun {G} hG q => by rcases q with rfl | rfl | rfl <;> cases hG
  have dne : ∀ {G}, dF G = true → ¬ (G = 293 ∨ G = 294 ∨ G = 295) := fun {G} hG q => by rcases q with rfl | rfl | rfl <;> cases hG
  have ek : ∀ m, kyN (up2 z F i v) m = kyN z m := fun m => by unfold kyN; rw [ez 306 m (by decide)]
  have hM : MI (up2 z F i v) := MI_up g7 (by rcases hF with rfl | rfl | rfl <;> rfl)
  refine ⟨⟨g1, g2, by rw [e _ _ (by decide)]; exact g3, by rw [ez _ _ (by decide)]; exact g4, by rw [e _ _ (by decide)]; exact g5, by rw [ez _ _ (by decide)]; exact g6, hM, fun m hm => nodeR_cg (g8 m hm) (fun G hG => e G m (by omega)) (fun G h1 h2 => ez G m (by omega)), fun k hk => by rw [ez 308 k (by decide)]; exact g9 k hk, fun k hk => by rw [ez 319 k (by decide)]; exact g10 k hk, fun G k hG => ?_, fun k hk => ?_, fun k hk => ?_, fun m hm a b ha hb he => ?_⟩, fun c hc hx => lineR_cg (hL c hc hx) (fun G hG => e G c (lne hG)) (fun G hG => ez G c (lne hG)) (e _ _ (by decide)) (fun G m hG => ez G m (by omega)), fun c hc hc2 => unb_cg (hU c hc hc2) (fun G hG => e G c (lne hG)) (fun G hG => ez G c (lne hG)) (e _ _ (by decide)), fun a ha => deskR_cg (hD a ha) (fun G hG => e G a (dne hG)) (fun G hG => ez G a (dne hG)), LK_cg hK (fun G c hG _ => ez G c (by omega)) (fun G a hG => ez G a (by omega)), ?_⟩
  · have := g11 G k hG
    unfold up2
    rw [this]
  · unfold up2
    split
    · rename_i q
      exact h5 q.1.symm
    · exact g12 k hk
  · unfold up2
    split
    · rename_i q
      exact h4 q.1.symm
    · exact g13 k hk
  · rw [ek] at ha hb
    rw [ez 307 _ (by decide), ez 307 _ (by decide)] at he
    exact g14 m hm a b ha hb he
  · exact ⟨JB_congr hJ.1 (fun G r _ _ => e G r (by omega)) (fun c => e 410 c (by decide)), fun k hk => jrn_congr (hJ.2 k hk) (fun G r _ _ => e G r (by omega)) ⟨e _ _ (by decide), e _ _ (by decide), e _ _ (by decide), e _ _ (by decide)⟩⟩
section SETS
variable {l z : Sg} {n t s : Nat} {a b c d e : Int32}
theorem taker_41 (hk : takerN z n 6 = none) {w : Int32} : takerN (up2 z 292 41 w) n 6 = none := taker_cg hk (fun a _ q => ⟨by simpa [up2] using q, by simp [up2]⟩) (fun k _ _ => ⟨by simp [up2], by simp [up2], by simp [up2]⟩) (by simp [up2])
theorem sim_hours (h0 : RX l z n t t none s) (hs : s < 512) (hk : takerN z n 6 = none) : simV (wv 193 (f_42 n a b c l)) (f_124 n t a b c z) := by
  have hRR : RR l z := ⟨n, t, s, h0, hs, hk⟩
  unfold f_42 f_124
  by_cases h1 : 0 ≤ a ∧ a ≤ 6
  · rw [if_pos h1, if_pos h1]
    by_cases h2 : 0 ≤ b ∧ b ≤ 240
    · rw [if_pos h2, if_pos h2]
      by_cases h3 : b ≤ c ∧ c ≤ 240
      · rw [if_pos h3, if_pos h3]
        have h := RX_thr (w := 0) h0
        obtain ⟨q, q1, q2⟩ := i32_of (n := 240) (by decide) (Int32.le_trans h2.1 h3.1) h3.2
        refine simV_ok (by simp [up2]) ⟨n, t, s, RX_wk (RX_wk h (Or.inl rfl) (fun x => absurd x (by decide)) (fun x => absurd x (by decide))) (Or.inr (Or.inl rfl)) (fun _ => ⟨q, q1, q2⟩) (fun x => absurd x (by decide)), hs, ?_⟩
        exact taker_cg hk (fun a _ q => ⟨by simpa [up2] using q, by simp [up2]⟩) (fun k _ _ => ⟨by simp [up2], by simp [up2], by simp [up2]⟩) (by simp [up2])
      · rw [if_neg h3, if_neg h3]
        exact simV_no rfl (by simp [up2]; rfl) (RR_thr hRR)
    · rw [if_neg h2, if_neg h2]
      exact simV_no rfl (by simp [up2]; rfl) (RR_thr hRR)
  · rw [if_neg h1, if_neg h1]
    exact simV_no rfl (by simp [up2]; rfl) (RR_thr hRR)
theorem sim_holiday (h0 : RX l z n t t none s) (hs : s < 512) (hk : takerN z n 6 = none) (hb : b = 0 ∨ b = 1) : simO (wh 194 (f_43 n a b l)) (if (f_125 n t a b z).1 = 0 then 0 else 1, (f_125 n t a b z).2) := by
  have hRR : RR l z := ⟨n, t, s, h0, hs, hk⟩
  unfold f_43 f_125
  by_cases h1 : 0 ≤ a ∧ a ≤ 83
  · rw [if_pos h1, if_pos h1]
    have h := RX_thr (w := 0) h0
    have ev : l 295 a.toNatClampNeg = z 295 a.toNatClampNeg := h0.1.2.2.2.2.2.2.2.2.2.2.1 295 _ rfl
    refine ⟨by simp [up2]; rfl, fun _ => ?_, RR_o ⟨n, t, s, RX_wk h (Or.inr (Or.inr rfl)) (fun x => absurd x (by decide)) (fun _ => hb), hs, ?_⟩⟩
    · simp [wh, up2, ev]
    · exact taker_cg hk (fun a _ q => ⟨by simpa [up2] using q, by simp [up2]⟩) (fun k _ _ => ⟨by simp [up2], by simp [up2], by simp [up2]⟩) (by simp [up2])
  · rw [if_neg h1, if_neg h1]
    refine ⟨by simp [up2]; rfl, fun q => ?_, RR_thr hRR⟩
    have q2 : han 194 1 = 0 := q
    have q3 : han 194 1 = 1 := rfl
    rw [q3] at q2
    exact absurd q2 (by decide)
/-! agents -/
theorem LK_a {z' : Sg} {a : Nat} (h : LK z n none) (ha : ¬ (z 326 a = 2 ∨ z 326 a = 3)) (hz : ∀ F i, (dF F = true → ¬ i = a) → z' F i = z F i) (ha2 : ¬ (z' 326 a = 2 ∨ z' 326 a = 3)) : LK z' n none := by
  refine ⟨fun k hk hx hq => ?_, fun k hk hq => ?_⟩
  · rw [hz 311 k (fun q => by cases q)] at hq ⊢
    obtain ⟨a', p1, p2, p3, p4⟩ := h.1 k hk hx hq
    have : ¬ a' = a := by
      rintro rfl
      apply ha
      rw [p4]
      split
      · exact Or.inl rfl
      · exact Or.inr rfl
    exact ⟨a', p1, by rw [hz 325 k (fun q => by cases q)]; exact p2, by rw [hz 331 a' (fun _ => this)]; exact p3, by rw [hz 326 a' (fun _ => this)]; exact p4⟩
  · have hka : ¬ k = a := by
      rintro rfl
      exact ha2 hq
    rw [hz 326 k (fun _ => hka)] at hq ⊢
    obtain ⟨c', p1, p2, p3, p4, p5⟩ := h.2 k hk hq
    exact ⟨c', p1, p2, by rw [hz 331 k (fun _ => hka)]; exact p3, by rw [hz 325 c' (fun q => by cases q)]; exact p4, by rw [hz 311 c' (fun q => by cases q)]; exact p5⟩
theorem f_157_eq {a : Nat} : f_157 a z = 0 ↔ ¬ (z 326 a = 2 ∨ z 326 a = 3) := by
  unfold f_157
  by_cases h2 : z 326 a = 2
  · rw [if_pos h2]
    exact ⟨fun q => absurd q (by decide), fun q => absurd (Or.inl h2) q⟩
  · rw [if_neg h2]
    by_cases h3 : z 326 a = 3
    · rw [if_neg (not_not_intro h3)]
      exact ⟨fun q => absurd q (by decide), fun q => absurd (Or.inr h3) q⟩
    · rw [if_pos h3]
      exact ⟨fun _ q => by rcases q with q | q; exact h2 q; exact h3 q, fun _ => rfl⟩
theorem sim_wrap (h0 : RX l z n t t none s) (hs : s < 512) (hk : takerN z n 6 = none) : simO (wo 201 (f_51 n a b l)) (f_160 n t a b z) := by
  have hRR : RR l z := ⟨n, t, s, h0, hs, hk⟩
  unfold f_51 f_160
  by_cases h1 : isA a
  · rw [if_pos h1, if_pos h1, up2_up2]
    have ha := (isA_lt h1).1
    obtain ⟨d1, d2, d3, d4, d5, d6, d7, d8⟩ := h0.2.2.2.1 _ ha
    by_cases h2 : 0 ≤ b ∧ b ≤ 30
    · rw [if_pos h2, if_pos h2]
      have h := RX_thr (w := 0) h0
      obtain ⟨q, q1, q2⟩ := i32_of (n := 30) (by decide) h2.1 h2.2
      generalize a.toNatClampNeg = m at ha d1 d2 d3 d4 d5 d6 d7 d8 ⊢
      refine simO_ok (by simp [up2]) d4 ⟨n, t, s, RX_d (a := m) h (fun F i g => up2_d rfl g) (fun F i g => up2_d rfl g) (MI_up (GR_m h.1) rfl) ?_ (fun k _ _ q => by cases q) ?_, hs, ?_⟩
      · refine ⟨by simpa [up2] using d1, by simpa [up2] using d2, by simpa [up2] using d3, by simp [up2], by simpa [up2] using d5, fun x => ?_, ⟨q, q1, by simp [up2, q2]⟩, by simpa [up2] using d8⟩
        simp [up2] at x ⊢
        exact d6 x
      · exact LK_cg h.2.2.2.2.1 (fun F c hF _ => by rcases hF with rfl | rfl <;> simp [up2]) (fun F a hF => by rcases hF with rfl | rfl <;> simp [up2])
      · exact taker_cg hk (fun a _ q => ⟨by simpa [up2] using q, by simp [up2]⟩) (fun k _ _ => ⟨by simp [up2], by simp [up2], by simp [up2]⟩) (by simp [up2])
    · rw [if_neg h2, if_neg h2, up2_up2]
      exact simO_no rfl (by decide) (by simp [up2]; rfl) (RR_thr hRR)
  · rw [if_neg h1, if_neg h1]
    exact simO_no rfl (by decide) (by simp [up2]; rfl) (RR_thr hRR)
theorem sim_signOff (h0 : RX l z n t t none s) (hs : s < 512) (hk : takerN z n 6 = none) : simO (wo 200 (f_50 n a l)) (f_159 n t a z) := by
  have hRR : RR l z := ⟨n, t, s, h0, hs, hk⟩
  unfold f_50 f_159
  by_cases h1 : isA a
  · rw [if_pos h1, if_pos h1, up2_up2]
    have ha := (isA_lt h1).1
    obtain ⟨d1, d2, d3, d4, d5, d6, d7, d8⟩ := h0.2.2.2.1 _ ha
    have h := RX_thr (w := 0) h0
    have e157 := f_157_eq (z := up2 z 292 41 0) (a := a.toNatClampNeg)
    rw [d1]
    have e326 : up2 z 292 41 0 326 a.toNatClampNeg = z 326 a.toNatClampNeg := by simp [up2]
    rw [e326] at e157
    by_cases h2 : z 326 a.toNatClampNeg = 2 ∨ z 326 a.toNatClampNeg = 3
    · rw [if_neg (not_not_intro h2), if_neg (fun q => (e157.mp q) h2), up2_up2]
      exact simO_no rfl (by decide) (by simp [up2]; rfl) (RR_thr hRR)
    · rw [if_pos h2, if_pos (e157.mpr h2)]
      generalize a.toNatClampNeg = m at ha d1 d2 d3 d4 d5 d6 d7 d8 h2 e326 ⊢
      refine simO_ok (by simp [up2]) rfl ⟨n, t, s, RX_d (a := m) h (fun F i g => up2_d rfl g) (fun F i g => up2_d rfl g) (MI_up (GR_m h.1) rfl) ?_ (fun k _ _ q => by cases q) ?_, hs, ?_⟩
      · refine ⟨by simp [up2], by simpa [up2] using d2, by simpa [up2] using d3, by simpa [up2] using d4, by simpa [up2] using d5, fun x => ?_, by simpa [up2] using d7, ⟨0, by decide, by simp [up2]; rfl⟩⟩
        simp [up2] at x
      · refine LK_a (a := m) h.2.2.2.2.1 (by rw [e326]; exact h2) (fun F i g => up2_d rfl g) ?_
        simp [up2]
      · refine taker_cg hk (fun a _ q => ?_) (fun k _ _ => ⟨by simp [up2], by simp [up2], by simp [up2]⟩) (by simp [up2])
        by_cases e : a = m
        · subst e; simp [up2] at q
        · simp [up2, e] at q
          exact ⟨q, by simp [up2]⟩
  · rw [if_neg h1, if_neg h1]
    exact simO_no rfl (by decide) (by simp [up2]; rfl) (RR_thr hRR)
theorem takes41 : (sTakes z n) 292 41 = z 292 41 := S_takes 6 z 41
theorem sim_signOn (h0 : RX l z n t t none s) (hs : s < 512) (hk : takerN z n 6 = none) : simO (wo 199 (f_49 n a b l)) (f_158 n t a b z) := by
  have hRR : RR l z := ⟨n, t, s, h0, hs, hk⟩
  unfold f_49 f_158
  by_cases h1 : isA a
  · rw [if_pos h1, if_pos h1, up2_up2]
    have ha := (isA_lt h1).1
    obtain ⟨d1, d2, d3, d4, d5, d6, d7, d8⟩ := h0.2.2.2.1 _ ha
    by_cases h2 : 1 ≤ b ∧ b ≤ 63
    · rw [if_pos h2, if_pos h2]
      have h := RX_thr (w := 0) h0
      have e157 := f_157_eq (z := up2 z 292 41 0) (a := a.toNatClampNeg)
      have e326 : up2 z 292 41 0 326 a.toNatClampNeg = z 326 a.toNatClampNeg := by simp [up2]
      rw [e326] at e157
      rw [d1]
      by_cases h3 : z 326 a.toNatClampNeg = 2 ∨ z 326 a.toNatClampNeg = 3
      · rw [if_neg (not_not_intro h3), if_neg (fun q => (e157.mp q) h3), up2_up2]
        exact simO_no rfl (by decide) (by simp [up2]; rfl) (RR_thr hRR)
      · rw [if_pos h3, if_pos (e157.mpr h3)]
        simp only [bnd]
        have h41 : up2 z 292 41 0 292 41 = 0 := by simp [up2]
        have f326 : ∀ F i, dF F = true → up2 z 292 41 0 F i = z F i := fun F i hF => by unfold up2; rw [if_neg (fun q => (dF_ne hF).2.2.1 q.1)]
        have ht : l 292 0 = z 292 0 := h0.1.2.2.2.2.1.trans h0.1.2.2.2.2.2.1.symm
        have hzt : up2 z 292 41 0 292 0 = z 292 0 := by simp [up2]
        generalize a.toNatClampNeg = m at ha d1 d2 d3 d4 d5 d6 d7 d8 h3 e326 e157 ⊢
        have hf := fun F hF => f326 F m hF
        generalize up2 z 292 41 0 = z0 at h h41 hf hzt e326 ⊢
        have hx : RX (up2 l 327 m b) (up2 z0 327 m b) n t t none s := by
          refine RX_d (a := m) h (fun F i g => up2_d rfl g) (fun F i g => up2_d rfl g) (MI_up (GR_m h.1) rfl) ?_ (fun k _ _ q => by cases q) ?_
          · obtain ⟨c1, c2, c3, c4, c5, c6, c7, c8⟩ := h.2.2.2.1 m ha
            exact ⟨by simpa [up2] using c1, by simp [up2], by simpa [up2] using c3, by simpa [up2] using c4, by simpa [up2] using c5, fun x => by simp [up2] at x ⊢; exact c6 x, by simpa [up2] using c7, by simpa [up2] using c8⟩
          · exact LK_cg h.2.2.2.2.1 (fun F c hF _ => by rcases hF with rfl | rfl <;> simp [up2]) (fun F a hF => by rcases hF with rfl | rfl <;> simp [up2])
        by_cases h4 : z 326 m = 0
        · rw [if_neg (not_not_intro h4), if_neg (not_not_intro h4)]
          have hx2 : RX (f_1 m (l 292 0) (up2 l 327 m b)) (sReady (up2 z0 327 m b) m) n t t none s := by
            refine RX_d (a := m) hx (fun F i g => by unfold f_1; rw [up2_d rfl g, up2_d rfl g, up2_d rfl g]) (fun F i g => by unfold sReady; rw [up2_d rfl g, up2_d rfl g, up2_d rfl g]) (MI_up (MI_up (MI_up (GR_m hx.1) rfl) rfl) rfl) ?_ (fun k _ _ q => by cases q) ?_
            · obtain ⟨c1, c2, c3, c4, c5, c6, c7, c8⟩ := hx.2.2.2.1 m ha
              refine ⟨by simp [f_1, sReady, up2], by simp [f_1, sReady, up2], ?_, ?_, by simp [f_1, sReady, up2], fun x => ?_, ?_, ⟨1, by decide, by simp [sReady, up2]; rfl⟩⟩
              · simp [f_1, sReady, up2]; rw [ht, hzt]
              · simp [up2] at c4; simp [f_1, sReady, up2]; exact c4
              · simp [sReady, up2] at x
              · simp [up2] at c7; simp [sReady, up2]; exact c7
            · refine LK_a (a := m) hx.2.2.2.2.1 ?_ (fun F i g => by unfold sReady; rw [up2_d rfl g, up2_d rfl g, up2_d rfl g]) ?_
              · have : up2 z0 327 m b 326 m = z 326 m := by simp [up2]; exact e326
                rw [this]; exact h3
              · simp [sReady, up2]
          obtain ⟨s', q1, q2, q3⟩ := settle_R hx2 (by omega)
          refine simO_ok ?_ (q2.2.2.2.1 m ha).2.2.2.2.1 ⟨n, t, s', q2, q1, q3⟩
          rw [takes41]; simpa [sReady, up2] using h41
        · rw [if_pos h4, if_pos h4]
          obtain ⟨s', q1, q2, q3⟩ := settle_R hx (by omega)
          refine simO_ok ?_ (q2.2.2.2.1 m ha).2.2.2.2.1 ⟨n, t, s', q2, q1, q3⟩
          rw [takes41]; simpa [up2] using h41
    · rw [if_neg h2, if_neg h2, up2_up2]
      exact simO_no rfl (by decide) (by simp [up2]; rfl) (RR_thr hRR)
  · rw [if_neg h1, if_neg h1]
    exact simO_no rfl (by decide) (by simp [up2]; rfl) (RR_thr hRR)
/-! times, leaving -/
theorem quiet41 {w : Int32} : quiet (up2 z 292 41 w) n ↔ quiet z n := by
  unfold quiet
  simp [up2]
theorem sim_leaving (h : RX l z n t t none s) (hs : s < 512) (hk : takerN z n 6 = none) : simV (wv 191 (f_40 n a b l)) (f_122 n t a b z) := by
  have hRR : RR l z := ⟨n, t, s, h, hs, hk⟩
  unfold f_40 f_122
  by_cases h1 : isN a
  · rw [if_pos h1, if_pos h1]
    by_cases h2 : isT b
    · rw [if_pos h2, if_pos h2]
      by_cases h3 : quiet z n
      · rw [if_pos ((quiet_iff h).mpr h3), if_pos h3]
        obtain ⟨hm, _⟩ := isN_lt h1
        generalize a.toNatClampNeg = m at hm ⊢
        obtain ⟨n1, n2, n3, n4, n5, n6, n7, n8, n9, n10, n11, n12, n13, n14, n15⟩ := GR_n h.1 hm
        rw [n1]
        by_cases h7 : z 296 m = 7
        · rw [if_pos h7, if_neg (not_not_intro h7)]
          refine simV_ok (by simp [up2]) (tell_ok h hs hk h3 hm (fun F i g => up2_n rfl g) (fun F i g g2 => by rw [up2_n rfl g]; exact up2_41 g2) ?_ ?_ ?_)
          · refine ⟨by simpa [up2] using n1, by simpa [up2] using n2, fun _ => by simp [up2], fun q => ?_, fun _ => ?_, by simpa [up2] using n6, by simpa [up2] using n7, by simpa [up2] using n8, by simpa [up2] using n9, by simpa [kyN, up2] using n10, by simpa [up2] using n11, by simpa [up2] using n12, by simpa [up2] using n13, by simpa [up2] using n14, by simpa [up2] using n15⟩
            · exact absurd (by simpa [up2] using h7) q
            · simp [up2]; exact Int32.le_trans (by decide) h2.1
          · have := ((GR_m h.1).1 m hm).1
            exact ⟨by simpa [up2] using this, by simp [up2]; exact h2.2⟩
          · simp [kyN, up2]
        · rw [if_neg h7, if_pos h7]
          exact simV_no rfl (by simp [up2]; rfl) (RR_thr hRR)
      · rw [if_neg (fun q => h3 ((quiet_iff h).mp q)), if_neg h3]
        exact simV_no rfl (by simp [up2]; rfl) (RR_thr hRR)
    · rw [if_neg h2, if_neg h2]
      exact simV_no rfl (by simp [up2]; rfl) (RR_thr hRR)
  · rw [if_neg h1, if_neg h1]
    exact simV_no rfl (by simp [up2]; rfl) (RR_thr hRR)
theorem sim_times (h : RX l z n t t none s) (hs : s < 512) (hk : takerN z n 6 = none) : simV (wv 186 (f_35 n a b c d e l)) (f_117 n t a b c d e z) := by
  have hRR : RR l z := ⟨n, t, s, h, hs, hk⟩
  unfold f_35 f_117
  by_cases h1 : isN a
  · rw [if_pos h1, if_pos h1]
    by_cases h2 : isT e
    · rw [if_pos h2, if_pos h2]
      by_cases h3 : 1 ≤ b ∧ b ≤ 60
      · rw [if_pos h3, if_pos h3]
        by_cases h4 : 1 ≤ c ∧ c ≤ 20
        · rw [if_pos h4, if_pos h4]
          by_cases h5 : 1 ≤ d ∧ d ≤ 5
          · rw [if_pos h5, if_pos h5]
            by_cases h6 : quiet z n
            · rw [if_pos ((quiet_iff h).mpr h6), if_pos (quiet41.mpr h6)]
              obtain ⟨hm, _⟩ := isN_lt h1
              generalize a.toNatClampNeg = m at hm ⊢
              obtain ⟨n1, n2, n3, n4, n5, n6, n7, n8, n9, n10, n11, n12, n13, n14, n15⟩ := GR_n h.1 hm
              obtain ⟨p, p1, p2⟩ := i32_of (n := 5) (by decide) (Int32.le_trans (by decide) h5.1) h5.2
              have p3 : 1 ≤ p := by rw [p2] at h5; exact (i32_le (a := 1) (by decide) (by omega)).mp h5.1
              have hok : z 296 m = 2 ∨ z 296 m = 3 → simV (wv 186 (.inl 0, up2 (up2 (up2 (up2 l 303 m b) 304 m c) 305 m d) 302 m e)) (up2 (up2 (up2 (up2 (up2 z 292 41 0) 303 m b) 304 m c) 305 m d) 302 m e) := by
                intro hk23
                have h7 : ¬ z 296 m = 7 := by rcases hk23 with q | q <;> rw [q] <;> decide
                refine simV_ok (by simp [up2]) (tell_ok h hs hk h6 hm (fun F i g => by rw [up2_n rfl g, up2_n rfl g, up2_n rfl g, up2_n rfl g]) (fun F i g g2 => by rw [up2_n rfl g, up2_n rfl g, up2_n rfl g, up2_n rfl g]; exact up2_41 g2) ?_ ?_ ?_)
                · refine ⟨by simpa [up2] using n1, by simpa [up2] using n2, fun _ => by simp [up2], fun _ => ?_, fun q => ?_, by simp [up2], by simp [up2], by simp [up2], by simpa [up2] using n9, by simpa [kyN, up2] using n10, by simpa [up2] using n11, fun _ => ⟨p, p3, p1, by simp [up2, p2]⟩, by simpa [up2] using n13, by simpa [up2] using n14, by simpa [up2] using n15⟩
                  · simp [up2]; exact h2.1
                  · exact absurd (by simpa [up2] using q) h7
                · have := ((GR_m h.1).1 m hm).1
                  exact ⟨by simpa [up2] using this, by simp [up2]; exact h2.2⟩
                · simp [kyN, up2]
              rw [n1, up2_up2]
              by_cases k2 : z 296 m = 2
              · rw [if_pos k2, if_pos k2]; exact hok (Or.inl k2)
              · rw [if_neg k2, if_neg k2]
                by_cases k3 : z 296 m = 3
                · rw [if_pos k3, if_neg (not_not_intro k3)]; exact hok (Or.inr k3)
                · rw [if_neg k3, if_pos k3, up2_up2]
                  exact simV_no rfl (by simp [up2]; rfl) (RR_thr hRR)
            · rw [if_neg (fun q => h6 ((quiet_iff h).mp q)), if_neg (fun q => h6 (quiet41.mp q)), up2_up2]
              exact simV_no rfl (by simp [up2]; rfl) (RR_thr hRR)
          · rw [if_neg h5, if_neg h5]
            exact simV_no rfl (by simp [up2]; rfl) (RR_thr hRR)
        · rw [if_neg h4, if_neg h4]
          exact simV_no rfl (by simp [up2]; rfl) (RR_thr hRR)
      · rw [if_neg h3, if_neg h3]
        exact simV_no rfl (by simp [up2]; rfl) (RR_thr hRR)
    · rw [if_neg h2, if_neg h2]
      exact simV_no rfl (by simp [up2]; rfl) (RR_thr hRR)
  · rw [if_neg h1, if_neg h1]
    exact simV_no rfl (by simp [up2]; rfl) (RR_thr hRR)
end SETS
