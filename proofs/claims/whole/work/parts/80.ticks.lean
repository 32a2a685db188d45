/-! ===== agents let calls go; ticks ===== -/
theorem RX_out {l z : Sg} {n t t0 s : Nat} {x : Option Nat} {v w : Int32} (h : RX l z n t t0 x s) : RX (up2 l 332 0 v) (up2 z 292 41 w) n t t0 x s := by
  obtain ⟨hG, hL, hU, hD, hK, hJ⟩ := h
  have e : ∀ F i, ¬ F = 332 → up2 l 332 0 v F i = l F i := fun F i hF => by unfold up2; rw [if_neg (fun q => hF q.1)]
  have ez : ∀ F i, ¬ F = 292 ∨ ¬ i = 41 → up2 z 292 41 w F i = z F i := fun F i hF => by
    unfold up2
    rw [if_neg]
    rintro ⟨p1, p2⟩
    rcases hF with q | q
    · exact q p1
    · exact q p2
  have lne : ∀ {F}, lF F = true → ¬ F = 332 ∧ ¬ F = 292 := fun {F} hF => by
    refine ⟨?_, (lF_ne hF).2.2⟩
    rintro rfl
    cases hF
  have dne : ∀ {F}, dF F = true → ¬ F = 332 ∧ ¬ F = 292 := fun {F} hF => by
    refine ⟨?_, (dF_ne hF).2.2.1⟩
    rintro rfl
    cases hF
  refine ⟨GR_cg hG (fun F i _ h2 => e F i h2) (fun F i _ h2 => ez F i h2) (MI_up (GR_m hG) rfl) (fun F i hF => ?_) (fun i hi => GR_p hG i hi), fun k hk hx => lineR_cg (hL k hk hx) (fun F hF => e F k (lne hF).1) (fun F hF => ez F k (Or.inl (lne hF).2)) (e _ _ (by decide)) (fun F m hF => ez F m (Or.inl (by omega))), fun k hk hk2 => unb_cg (hU k hk hk2) (fun F hF => e F k (lne hF).1) (fun F hF => ez F k (Or.inl (lne hF).2)) (e _ _ (by decide)), fun a ha => deskR_cg (hD a ha) (fun F hF => e F a (dne hF).1) (fun F hF => ez F a (Or.inl (dne hF).2)), LK_cg hK (fun F k hF _ => ez F k (Or.inl (by omega))) (fun F a hF => ez F a (Or.inl (by omega))), ?_⟩
  · rw [e F i (by omega), ez F i (Or.inl (by omega))]; exact WE9 hG F i hF
  · exact ⟨JB_congr hJ.1 (fun F r _ _ => e F r (by omega)) (fun c => e _ _ (by decide)), fun k hk => jrn_congr (hJ.2 k hk) (fun F r _ _ => e F r (by omega)) ⟨e _ _ (by decide), e _ _ (by decide), e _ _ (by decide), e _ _ (by decide)⟩⟩
theorem RX_thr {l z : Sg} {n t t0 s : Nat} {x : Option Nat} {w : Int32} (h : RX l z n t t0 x s) : RX l (up2 z 292 41 w) n t t0 x s := by
  have := RX_out (v := l 332 0) (w := w) h
  have e : up2 l 332 0 (l 332 0) = l := by
    funext F i
    unfold up2
    split
    · rename_i q; rw [q.1, q.2]
    · rfl
  rw [e] at this
  exact this
/-- the open call is over, when nobody has it -/
theorem ends_R2 {l z : Sg} {n t t0 c s : Nat} {how : Int32} (h : RX l z n t t0 (some c) s) (h1 : l 325 c = -1) (h2 : l 317 c = z 317 c) (h3 : l 318 c = z 318 c) (hc : c < n) (hs : s + 2 ≤ 1024) : ∃ s', s' ≤ s + 2 ∧ RX (f_91 c how l) (sEnds z c how) n t t0 none s' := by
  have hn := RX_n h
  obtain ⟨s', q1, q2, q3⟩ := close_J (how := how) h.2.2.2.2.2 hs (by omega) h1
  have hx : RX (f_91 c how l) (sEnds z c how) n t t0 (some c) s' := by
    refine RX_c1 h hc (fun F i h1 h2 => ?_) (fun F i h2 => ?_) (MI_ends (GR_m h.1)) q2
    · rw [q3 F i h1, up2_c rfl h2, up2_c rfl h2, up2_c rfl h2]
    · unfold sEnds
      rw [up2_c rfl h2, up2_c rfl h2, up2_c rfl h2, up2_c rfl h2]
  refine ⟨s', q1, RX_fill hx ⟨?_, ?_, ?_, Or.inr (Or.inr (Or.inr (Or.inr (Or.inr ⟨?_, ?_, ?_, ?_⟩))))⟩ (by simp [sEnds, up2])⟩
  · rw [q3 311 c rfl]; simp [sEnds, up2]
  · rw [q3 317 c rfl]; simpa [sEnds, up2] using h2
  · rw [q3 318 c rfl]; simpa [sEnds, up2] using h3
  · simp [sEnds, up2]
  · rw [q3 312 c rfl]; simp [sEnds, up2]
  · exact ⟨by rw [q3 313 c rfl]; simp [up2], by simp [sEnds, up2]⟩
  · rw [q3 325 c rfl]; simpa [up2] using h1
theorem up2_comm {l : Sg} {F G i j : Nat} {u v : Int32} (h : ¬ F = G) : up2 (up2 l F i u) G j v = up2 (up2 l G j v) F i u := by
  funext A k
  unfold up2
  by_cases h1 : A = G ∧ k = j
  · rw [if_pos h1, if_neg (fun q => h (q.1.symm.trans h1.1)), if_pos h1]
  · rw [if_neg h1]
    by_cases h2 : A = F ∧ k = i
    · rw [if_pos h2, if_pos h2]
    · rw [if_neg h2, if_neg h2, if_neg h1]
/-- the model's half of a letting go -/
def mGo (z : Sg) (c a : Nat) : Sg := if z 311 c = 2 then sWraps z a else sReady z a
theorem mGo_rd {z : Sg} {c a F i : Nat} (h : dF F = false) : mGo z c a F i = z F i := by
  have e : ∀ G, dF G = true → ¬ F = G := fun G hG q => by rw [q, hG] at h; cases h
  have e1 := e 326 rfl
  have e2 := e 328 rfl
  have e3 := e 330 rfl
  have e4 := e 331 rfl
  unfold mGo sWraps sReady
  split
  · split <;> simp [up2, e1, e2, e3, e4]
  · simp [up2, e1, e2, e4]
theorem letGo_R {l z : Sg} {n t t0 c s : Nat} (h : RX l z n t t0 none s) (ht0 : t0 ≤ t) (hc : c < n) (hs : z 311 c = 2 ∨ z 311 c = 4) :
    ∃ a, a < 6 ∧ z 325 c = i32 a ∧ z 331 a = i32 c ∧ z 326 a = (if z 311 c = 2 then 2 else 3) ∧ RX (f_101 c l) (mGo z c a) n t t0 (some c) s ∧ (∀ F i, dF F = false → ¬ (F = 325 ∧ i = c) → f_101 c l F i = l F i) ∧ f_101 c l 325 c = -1 ∧ (mGo z c a) 326 a ≠ 2 ∧ (mGo z c a) 326 a ≠ 3 := by
  have hn := RX_n h
  have hl := h.2.1 c hc (by simp)
  obtain ⟨a, ha, w1, w2, w3⟩ := h.2.2.2.2.1.1 c hc (by simp) hs
  have h325 : l 325 c = i32 a := by
    rcases hs with q | q
    · exact ((hl.s2 q).2.2.2.1).trans w1
    · exact ((hl.s4 q).2.2.2.1).trans w1
  obtain ⟨d1, d2, d3, d4, d5, d6, ⟨w, dw, d7⟩, d8⟩ := h.2.2.2.1 a ha
  have ht : l 292 0 = z 292 0 := h.1.2.2.2.2.1.trans h.1.2.2.2.2.2.1.symm
  have htn : z 292 0 = i32 t := h.1.2.2.2.2.2.1
  have htl := h.1.2.1
  have hA : isA (i32 a) := ⟨(i32_le (a := 0) (by decide) (by omega)).mpr (Nat.zero_le _), (i32_lt (b := 6) (by omega) (by decide)).mpr ha⟩
  have hlk : ∀ z' : Sg, (∀ F i, dF F = false → z' F i = z F i) → (∀ F k, dF F = true → ¬ k = a → z' F k = z F k) → ¬ (z' 326 a = 2 ∨ z' 326 a = 3) → LK z' n (some c) := by
    intro z' e1 e2 e3
    refine ⟨fun k hk hx hq => ?_, fun k hk hq => ?_⟩
    · rw [e1 311 k rfl] at hq ⊢
      obtain ⟨a', p1, p2, p3, p4⟩ := h.2.2.2.2.1.1 k hk (by simp) hq
      have : ¬ a' = a := by
        rintro rfl
        rw [w2] at p3
        exact hx (by rw [(i32_inj (by omega) (by omega)).mp p3])
      exact ⟨a', p1, by rw [e1 325 k rfl]; exact p2, by rw [e2 331 a' rfl this]; exact p3, by rw [e2 326 a' rfl this]; exact p4⟩
    · have hka : ¬ k = a := fun q => by rw [q] at hq; exact e3 hq
      rw [e2 326 k rfl hka] at hq ⊢
      obtain ⟨c', p1, _, p3, p4, p5⟩ := h.2.2.2.2.1.2 k hk hq
      refine ⟨c', p1, fun q => ?_, by rw [e2 331 k rfl hka]; exact p3, by rw [e1 325 c' rfl]; exact p4, by rw [e1 311 c' rfl]; exact p5⟩
      cases q
      rw [w1] at p4
      exact hka ((i32_inj (by omega) (by omega)).mp p4).symm
  -- READY
  have hrdy : RX (up2 (up2 (up2 (up2 l 326 a 1) 331 a (-1)) 328 a (l 292 0)) 325 c (-1)) (sReady z a) n t t0 (some c) s := by
    have h1 : RX (up2 (up2 (up2 l 326 a 1) 331 a (-1)) 328 a (l 292 0)) (sReady z a) n t t0 (some c) s := by
      refine RX_d (a := a) h (fun F i g => by rw [up2_d rfl g, up2_d rfl g, up2_d rfl g]) (fun F i g => by unfold sReady; rw [up2_d rfl g, up2_d rfl g, up2_d rfl g]) (MI_up (MI_up (MI_up (GR_m h.1) rfl) rfl) rfl) ?_ (fun k _ _ q => by cases q) (hlk _ (fun F i g => ?_) (fun F k _ g => ?_) ?_)
      · refine ⟨by simp [sReady, up2], by simpa [sReady, up2] using d2, by simpa [sReady, up2] using ht, by simpa [sReady, up2] using d4, by simp [sReady, up2], fun q => ?_, ⟨w, dw, by simpa [sReady, up2] using d7⟩, ⟨1, by decide, by simp [sReady, up2]; rfl⟩⟩
        simp [sReady, up2] at q
      · have := mGo_rd (z := up2 z 311 c 4) (c := c) (a := a) (i := i) g
        unfold sReady
        rw [up2_d rfl (fun q => by rw [g] at q; cases q), up2_d rfl (fun q => by rw [g] at q; cases q), up2_d rfl (fun q => by rw [g] at q; cases q)]
      · unfold sReady
        rw [up2_d rfl (fun _ => g), up2_d rfl (fun _ => g), up2_d rfl (fun _ => g)]
      · simp [sReady, up2]
    exact RX_c1 h1 hc (fun F i _ g => up2_c rfl g) (fun F i _ => rfl) (GR_m h1.1) (JR_up h1.2.2.2.2.2 rfl (by decide) (by decide))
  have hwr : ¬ w = 0 → RX (up2 (up2 (up2 (up2 l 326 a 4) 331 a (-1)) 330 a (l 292 0 + l 329 a)) 325 c (-1)) (up2 (up2 (up2 z 326 a 4) 330 a (z 292 0 + z 329 a)) 331 a (-1)) n t t0 (some c) s := by
    intro hw0
    have h1 : RX (up2 (up2 (up2 l 326 a 4) 331 a (-1)) 330 a (l 292 0 + l 329 a)) (up2 (up2 (up2 z 326 a 4) 330 a (z 292 0 + z 329 a)) 331 a (-1)) n t t0 (some c) s := by
      refine RX_d (a := a) h (fun F i g => by rw [up2_d rfl g, up2_d rfl g, up2_d rfl g]) (fun F i g => by rw [up2_d rfl g, up2_d rfl g, up2_d rfl g]) (MI_up (MI_up (MI_up (GR_m h.1) rfl) rfl) rfl) ?_ (fun k _ _ q => by cases q) (hlk _ (fun F i g => ?_) (fun F k _ g => ?_) ?_)
      · refine ⟨by simp [up2], by simpa [up2] using d2, by simpa [up2] using d3, by simpa [up2] using d4, by simp [up2], fun q => ⟨by simp [up2, ht, d4], t + w, by omega, by omega, ?_⟩, ⟨w, dw, by simpa [up2] using d7⟩, ⟨4, by decide, by simp [up2]; rfl⟩⟩
        simp [up2]
        rw [htn, d7, i32_add]
      · rw [up2_d rfl (fun q => by rw [g] at q; cases q), up2_d rfl (fun q => by rw [g] at q; cases q), up2_d rfl (fun q => by rw [g] at q; cases q)]
      · rw [up2_d rfl (fun _ => g), up2_d rfl (fun _ => g), up2_d rfl (fun _ => g)]
      · simp [up2]
    exact RX_c1 h1 hc (fun F i _ g => up2_c rfl g) (fun F i _ => rfl) (GR_m h1.1) (JR_up h1.2.2.2.2.2 rfl (by decide) (by decide))
  have hcm1 : f_1 a (l 292 0) (up2 l 325 c (-1)) = up2 (up2 (up2 (up2 l 326 a 1) 331 a (-1)) 328 a (l 292 0)) 325 c (-1) := by
    unfold f_1
    rw [up2_comm (F := 325) (G := 326) (by decide), up2_comm (F := 325) (G := 331) (by decide), up2_comm (F := 325) (G := 328) (by decide)]
  have hcm2 : f_2 a (l 292 0) (up2 l 325 c (-1)) = up2 (up2 (up2 (up2 l 326 a 4) 331 a (-1)) 330 a (l 292 0 + l 329 a)) 325 c (-1) := by
    unfold f_2
    have e : up2 l 325 c (-1) 329 a = l 329 a := by simp [up2]
    rw [e, up2_comm (F := 325) (G := 326) (by decide), up2_comm (F := 325) (G := 331) (by decide), up2_comm (F := 325) (G := 330) (by decide)]
  have e101 : f_101 c l = if ¬ l 311 c = 2 then f_1 a (l 292 0) (up2 l 325 c (-1)) else if l 329 a ≤ 0 then f_1 a (l 292 0) (up2 l 325 c (-1)) else f_2 a (l 292 0) (up2 l 325 c (-1)) := by
    unfold f_101
    rw [h325, if_pos hA, i32_cl (by omega)]
    rfl
  refine ⟨a, ha, w1, w2, w3, ?_⟩
  rw [e101, hcm1, hcm2, hl.1, d4]
  have rd1 : ∀ F i, dF F = false → ¬ (F = 325 ∧ i = c) → up2 (up2 (up2 (up2 l 326 a 1) 331 a (-1)) 328 a (l 292 0)) 325 c (-1) F i = l F i := fun F i g1 g2 => by
    have e : up2 (up2 (up2 (up2 l 326 a 1) 331 a (-1)) 328 a (l 292 0)) 325 c (-1) F i = up2 (up2 (up2 l 326 a 1) 331 a (-1)) 328 a (l 292 0) F i := by
      show (if F = 325 ∧ i = c then _ else _) = _
      rw [if_neg g2]
    rw [e, up2_d rfl (fun q => by rw [g1] at q; cases q), up2_d rfl (fun q => by rw [g1] at q; cases q), up2_d rfl (fun q => by rw [g1] at q; cases q)]
  have rd2 : ∀ F i, dF F = false → ¬ (F = 325 ∧ i = c) → up2 (up2 (up2 (up2 l 326 a 4) 331 a (-1)) 330 a (l 292 0 + z 329 a)) 325 c (-1) F i = l F i := fun F i g1 g2 => by
    have e : up2 (up2 (up2 (up2 l 326 a 4) 331 a (-1)) 330 a (l 292 0 + z 329 a)) 325 c (-1) F i = up2 (up2 (up2 l 326 a 4) 331 a (-1)) 330 a (l 292 0 + z 329 a) F i := by
      show (if F = 325 ∧ i = c then _ else _) = _
      rw [if_neg g2]
    rw [e, up2_d rfl (fun q => by rw [g1] at q; cases q), up2_d rfl (fun q => by rw [g1] at q; cases q), up2_d rfl (fun q => by rw [g1] at q; cases q)]
  unfold mGo
  by_cases hs2 : z 311 c = 2
  · rw [if_neg (not_not_intro hs2), if_pos hs2]
    unfold sWraps
    by_cases hw0 : w = 0
    · have e0 : z 329 a = 0 := by rw [d7, hw0]; rfl
      rw [if_pos (by rw [e0]; exact Int32.le_refl _), if_pos e0]
      exact ⟨hrdy, rd1, by simp [up2], by simp [sReady, up2], by simp [sReady, up2]⟩
    · have e0 : ¬ z 329 a = 0 := by rw [d7]; exact fun q => hw0 ((i32_inj (b := 0) (by omega) (by decide)).mp q)
      have e1 : ¬ z 329 a ≤ 0 := by rw [d7]; exact fun q => by have := (i32_le (b := 0) (by omega) (by decide)).mp q; omega
      rw [if_neg e1, if_neg e0]
      have := hwr hw0
      rw [d4] at this
      exact ⟨this, rd2, by simp [up2], by simp [up2], by simp [up2]⟩
  · rw [if_pos hs2, if_neg hs2]
    exact ⟨hrdy, rd1, by simp [up2], by simp [sReady, up2], by simp [sReady, up2]⟩
theorem f_91_go {l : Sg} {c : Nat} {how : Int32} (h : f_101 c l 325 c = -1) : f_91 c how l = f_91 c how (f_101 c l) := by
  have e := f_101_none h
  unfold f_91
  simp only [bnd]
  rw [e]
/-- a call is over, with whatever agent it had -/
theorem close_R {l z : Sg} {n t t0 c s : Nat} {how : Int32} (h : RX l z n t t0 none s) (ht0 : t0 ≤ t) (hc : c < n) (hs : s + 2 ≤ 1024) (h5 : ¬ z 311 c = 5) :
    (¬ (z 311 c = 2 ∨ z 311 c = 4) ∧ ∃ s', s' ≤ s + 2 ∧ RX (f_91 c how l) (sEnds z c how) n t t0 none s') ∨ (∃ a, a < 6 ∧ z 325 c = i32 a ∧ z 331 a = i32 c ∧ z 326 a = (if z 311 c = 2 then 2 else 3) ∧ (z 311 c = 2 ∨ z 311 c = 4) ∧ ∃ s', s' ≤ s + 2 ∧ RX (f_91 c how l) (sEnds (mGo z c a) c how) n t t0 none s') := by
  have hl := h.2.1 c hc (by simp)
  by_cases hq : z 311 c = 2 ∨ z 311 c = 4
  · obtain ⟨a, ha, w1, w2, w3, hx, r1, r2, _, _⟩ := letGo_R h ht0 hc hq
    refine Or.inr ⟨a, ha, w1, w2, w3, hq, ?_⟩
    rw [f_91_go r2]
    refine ends_R2 hx r2 ?_ ?_ hc hs
    · rw [r1 317 c rfl (by simp), mGo_rd rfl]; exact hl.2.1
    · rw [r1 318 c rfl (by simp), mGo_rd rfl]; exact hl.2.2.1
  · refine Or.inl ⟨hq, ends_R2 (RX_open h hq) ?_ hl.2.1 hl.2.2.1 hc hs⟩
    obtain ⟨_, _, _, q | q | q | q | q | q⟩ := hl
    · exact q.2.2.1
    · exact q.2.2.1
    · exact absurd (Or.inl q.1) hq
    · exact q.2.2.2.1
    · exact absurd (Or.inr q.1) hq
    · exact absurd q.1 h5

theorem f_101_323 {l : Sg} {c : Nat} {v : Int32} : f_101 c (up2 l 323 c v) = up2 (f_101 c l) 323 c v := by
  have e1 : up2 l 323 c v 325 c = l 325 c := by simp [up2]
  have e2 : up2 l 323 c v 311 c = l 311 c := by simp [up2]
  have e3 : up2 l 323 c v 292 0 = l 292 0 := by simp [up2]
  have e4 : ∀ a, up2 l 323 c v 329 a = l 329 a := fun a => by simp [up2]
  have e5 : ∀ a, up2 (up2 l 323 c v) 325 c (-1) 329 a = up2 l 325 c (-1) 329 a := fun a => by simp [up2]
  unfold f_101 f_1 f_2
  simp only [bnd]
  rw [e1, e2, e3, e4, e5]
  by_cases h : isA (l 325 c)
  · rw [if_pos h, if_pos h]
    by_cases h2 : l 311 c = 2
    · rw [if_neg (not_not_intro h2), if_neg (not_not_intro h2)]
      by_cases h3 : l 329 (l 325 c).toNatClampNeg ≤ 0
      · rw [if_pos h3, if_pos h3, up2_comm (F := 323) (G := 325) (by decide), up2_comm (F := 323) (G := 326) (by decide), up2_comm (F := 323) (G := 331) (by decide), up2_comm (F := 323) (G := 328) (by decide)]
      · rw [if_neg h3, if_neg h3, up2_comm (F := 323) (G := 325) (by decide), up2_comm (F := 323) (G := 326) (by decide), up2_comm (F := 323) (G := 331) (by decide), up2_comm (F := 323) (G := 330) (by decide)]
    · rw [if_pos h2, if_pos h2, up2_comm (F := 323) (G := 325) (by decide), up2_comm (F := 323) (G := 326) (by decide), up2_comm (F := 323) (G := 331) (by decide), up2_comm (F := 323) (G := 328) (by decide)]
  · rw [if_neg h, if_neg h]
/-- a call that was not picked up -/
theorem ring_R {l z : Sg} {n t t0 c s : Nat} (h : RX l z n t t0 none s) (ht0 : t0 ≤ t) (hc : c < n) (hs : s + 2 ≤ 1024) (h4 : z 311 c = 4) : ∃ s', s' ≤ s + 2 ∧ RX (f_90 c l) (sMiss z c (z 325 c).toNatClampNeg) n t t0 none s' := by
  have hn := RX_n h
  have hl := h.2.1 c hc (by simp)
  obtain ⟨_, b2, b3, b4, b5, b6, b7, b8, b9, b10⟩ := hl.s4 h4
  obtain ⟨a, ha, w1, w2, w3, hx, r1, r2, _, _⟩ := letGo_R h ht0 hc (Or.inr h4)
  have ht : l 292 0 = z 292 0 := h.1.2.2.2.2.1.trans h.1.2.2.2.2.2.1.symm
  have hg : mGo z c a = sReady z a := by unfold mGo; rw [if_neg (by rw [h4]; decide)]
  rw [hg] at hx
  rw [w1, i32_cl (by omega)]
  have rl : ∀ F, dF F = false → ¬ F = 325 → f_101 c l F c = l F c := fun F g1 g2 => r1 F c g1 (fun q => g2 q.1)
  have rz : ∀ F i, dF F = false → sReady z a F i = z F i := fun F i g => by rw [← hg]; exact mGo_rd g
  unfold f_90 sMiss
  simp only [bnd]
  rw [f_101_323, b9]
  generalize hl1 : f_101 c l = l1 at hx r1 r2 rl ⊢
  -- the count of rings is one more
  have hx2 : ∀ v, RX (up2 l1 323 c v) (up2 (sReady z a) 323 c v) n t t0 (some c) s := fun v => RX_c1 hx hc (fun F i _ g => up2_c rfl g) (fun F i g => up2_c rfl g) (MI_up (GR_m hx.1) rfl) (JR_up hx.2.2.2.2.2 rfl (by decide) (by decide))
  rcases b10 with q | q
  · rw [q, if_pos (by decide), if_neg (by decide)]
    have hj : JR (up2 (up2 l1 323 c (0 + 1)) 324 c (up2 l1 323 c (0 + 1) 292 0 + 30)) s := JR_up (hx2 _).2.2.2.2.2 rfl (by decide) (by decide)
    obtain ⟨y1, y2, y3, yq, y4, y5⟩ := b5.2 b6
    have e320 : up2 (up2 l1 323 c (0 + 1)) 324 c (up2 l1 323 c (0 + 1) 292 0 + 30) 320 c = i32 yq := by
      simp [up2]
      rw [rl 320 rfl (by decide), y1, y5]
    obtain ⟨s', t1, t2, t3⟩ := turn_J (st := 3) (c := c) hj (by omega) (by omega) (fun _ => by rw [e320]; exact i32_nm1 (by omega))
    refine ⟨s', t1, ?_⟩
    have e0 : l1 292 0 = z 292 0 := by rw [r1 292 0 rfl (by simp), ht]
    have hx3 : RX (f_92 c 3 (up2 (up2 l1 323 c (0 + 1)) 324 c (up2 l1 323 c (0 + 1) 292 0 + 30))) (up2 (up2 (up2 (sReady z a) 323 c (0 + 1)) 311 c 3) 324 c (z 292 0 + 30)) n t t0 (some c) s' :=
      RX_c1 hx hc (fun F i g1 g2 => by rw [t3 F i g1, up2_c rfl g2, up2_c rfl g2, up2_c rfl g2]) (fun F i g => by rw [up2_c rfl g, up2_c rfl g, up2_c rfl g]) (MI_up (MI_up (MI_up (GR_m hx.1) rfl) rfl) rfl) t2
    refine RX_fill hx3 ⟨?_, ?_, ?_, Or.inr (Or.inr (Or.inr (Or.inl ⟨?_, ?_, ?_, ?_, ?_, ?_, Or.inl ?_, ?_, Or.inr ?_⟩)))⟩ (by simp [up2])
    · rw [t3 311 c rfl]; simp [up2]
    · rw [t3 317 c rfl]; simp [up2]; rw [rl 317 rfl (by decide), rz 317 c rfl]; exact hl.2.1
    · rw [t3 318 c rfl]; simp [up2]; rw [rl 318 rfl (by decide), rz 318 c rfl]; exact hl.2.2.1
    · simp [up2]
    · rw [t3 312 c rfl]; simp [up2]; rw [rl 312 rfl (by decide)]; exact b2
    · exact ⟨by rw [t3 313 c rfl]; simp [up2]; rw [rl 313 rfl (by decide)]; exact b3.1, by simp [up2]; rw [rz 313 c rfl]; exact b3.2⟩
    · rw [t3 325 c rfl]; simpa [up2] using r2
    · unfold clm
      rw [t3 420 c rfl, t3 320 c rfl, t3 321 c rfl, t3 322 c rfl]
      simp only [up2]
      simp
      rw [rl 420 rfl (by decide), rl 320 rfl (by decide), rl 321 rfl (by decide), rl 322 rfl (by decide), rz 320 c rfl, rz 321 c rfl, rz 322 c rfl]
      simpa [clm] using b5
    · have e : up2 (up2 (up2 (sReady z a) 323 c (0 + 1)) 311 c 3) 324 c (z 292 0 + 30) 320 c = z 320 c := by
        have := rz 320 c rfl
        simpa [up2] using this
      rw [e]; exact b6
    · rw [t3 324 c rfl]; simp [up2, e0]
    · rw [t3 323 c rfl]; simp [up2]
    · simp [up2]
  · rw [q, if_neg (by decide), if_pos (by decide)]
    have e9 : f_101 c (up2 l 323 c (1 + 1)) 325 c = -1 := by rw [f_101_323, hl1]; simpa [up2] using r2
    rw [f_91_go e9, f_101_323, hl1]
    refine ends_R2 (hx2 _) (by simpa [up2] using r2) ?_ ?_ hc hs
    · simp [up2]; rw [rl 317 rfl (by decide), rz 317 c rfl]; exact hl.2.1
    · simp [up2]; rw [rl 318 rfl (by decide), rz 318 c rfl]; exact hl.2.2.1
theorem UOK_R {l z : Sg} {n t t0 c s : Nat} (h : RX l z n t t0 none s) (hc : c < n) (hs : z 311 c = 0 ∨ z 311 c = 1 ∨ z 311 c = 4) : UOK z c := by
  have hn := RX_n h
  have hl := h.2.1 c hc (by simp)
  refine ⟨fun h4 => ?_, fun h4 => ?_⟩
  · obtain ⟨a, ha, w1, _⟩ := h.2.2.2.2.1.1 c hc (by simp) (Or.inr h4)
    rw [w1, i32_cl (by omega)]
    exact ⟨ha, rfl⟩
  · rcases hs with hs | hs | hs
    · obtain ⟨_, b2, b3, b4, b5, b6, m, hm, b7, b8, b9⟩ := hl.s0 hs
      have hN := GR_n h.1 hm
      refine ⟨m, hm, b7, hN.2.2.2.2.2.2.2.2.2.1, fun k3 => ⟨by rw [hs]; decide, ?_⟩⟩
      rcases b9 with q | q | q
      · rw [k3] at q; exact absurd q (by decide)
      · have := q.1; rw [k3] at this; exact absurd this (by decide)
      · obtain ⟨r, dg, y1, y2, y3, y4, y5, y6⟩ := q.2.2
        exact ⟨r, dg, y1, y2, y3, by omega⟩
    · obtain ⟨_, b2, b3, b4, b5, b6, b7, m, hm, b8, b9, b10⟩ := hl.s1 hs
      have hN := GR_n h.1 hm
      exact ⟨m, hm, b8, hN.2.2.2.2.2.2.2.2.2.1, fun k3 => by rw [b10] at k3; exact absurd k3 (by decide)⟩
    · exact absurd hs h4
theorem lineR.due {l z : Sg} {c : Nat} (h : lineR l z c) (hs : z 311 c = 0 ∨ z 311 c = 1 ∨ z 311 c = 4) : l 316 c = z 316 c := by
  rcases hs with hs | hs | hs
  · exact (h.s0 hs).2.2.2.2.2.1
  · exact (h.s1 hs).2.2.2.2.2.2.1
  · exact (h.s4 hs).2.2.2.2.2.2.2.1
theorem due_iff {l z : Sg} {c : Nat} (h : lineR l z c) : (z 311 c < 2 ∨ z 311 c = 4) ↔ (z 311 c = 0 ∨ z 311 c = 1 ∨ z 311 c = 4) := by
  obtain ⟨_, _, _, q | q | q | q | q | q⟩ := h <;> rw [q.1] <;> decide
/-- the calls' times, by rising numbers -/
theorem moves_R {n t t0 : Nat} (ht0 : t0 ≤ t) : ∀ (d j s : Nat) (l z : Sg), j + d = n → s + 4 * d + 2 ≤ 1024 → RX l z n t t0 none s → okMove n t d j z ∧ ∃ s', s' ≤ s + 4 * d ∧ RX (g_88 n d j l) (mMove n t d j z) n t t0 none s'
  | 0, j, s, l, z, h, hs, hx => by
    rw [g_88, mMove]
    exact ⟨trivial, s, by omega, hx⟩
  | d + 1, j, s, l, z, h, hs, hx => by
    have hc : j < n := by omega
    have hl := hx.2.1 j hc (by simp)
    have ht : l 292 0 = z 292 0 := hx.1.2.2.2.2.1.trans hx.1.2.2.2.2.2.1.symm
    have hdi := due_iff hl
    rw [g_88, mMove, okMove, hl.1]
    by_cases hd : dueN z j
    · have hst := hdi.mp hd.1
      have e316 : l 316 j = l 292 0 := by rw [hl.due hst, ht]; exact hd.2
      have hU := UOK_R hx hc hst
      rw [if_pos e316, if_pos hd]
      by_cases h4 : z 311 j = 4
      · rw [if_neg (not_not_intro h4)]
        obtain ⟨s1, p1, p2⟩ := ring_R hx ht0 hc (by omega) h4
        have e : mUp z n t j = sMiss z j (z 325 j).toNatClampNeg := by unfold mUp; rw [if_pos h4]
        rw [e]
        obtain ⟨q1, s2, q2, q3⟩ := moves_R ht0 d (j + 1) s1 _ _ (by omega) (by omega) p2
        exact ⟨⟨fun _ => ⟨hU, q1⟩, fun x => absurd hd x⟩, s2, by omega, q3⟩
      · rw [if_pos h4]
        have h01 : z 311 j = 0 ∨ z 311 j = 1 := by
          rcases hst with q | q | q
          · exact Or.inl q
          · exact Or.inr q
          · exact absurd q h4
        have hgo := timeUp_R hx hc h01
        have e88 : (if z 311 j = 0 then (bnd2 (f_89 j l) fun v5 l5 => (if v5 = (-2 : Int32) then g_88 n d (j + 1) l5 else (bnd (f_81 n j v5 l5) fun l7 => g_88 n d (j + 1) l7))) else (if ¬ z 311 j = (1 : Int32) then g_88 n d (j + 1) l else (bnd2 (f_89 j l) fun v9 l9 => (if v9 = (-2 : Int32) then g_88 n d (j + 1) l9 else (bnd (f_81 n j v9 l9) fun l11 => g_88 n d (j + 1) l11))))) = if (f_89 j l).1 = -2 then g_88 n d (j + 1) (f_89 j l).2 else g_88 n d (j + 1) (f_81 n j (f_89 j l).1 (f_89 j l).2) := by
          rcases h01 with q | q
          · rw [if_pos q]; rfl
          · rw [if_neg (by rw [q]; decide), if_neg (not_not_intro q)]; rfl
        rw [e88]
        by_cases hv : (f_89 j l).1 = -2
        · rw [if_pos hv]
          rcases hgo with g | ⟨z1, m, hm, g1, g2, _⟩
          · obtain ⟨q1, s2, q2, q3⟩ := moves_R ht0 d (j + 1) s _ _ (by omega) (by omega) g.2.1
            exact ⟨⟨fun _ => ⟨hU, q1⟩, fun x => absurd hd x⟩, s2, by omega, q3⟩
          · exact absurd hv (of_m2 g2 g1)
        · rw [if_neg hv]
          obtain ⟨s1, p1, p2⟩ := gon_lead hgo hv hc (by omega)
          obtain ⟨q1, s2, q2, q3⟩ := moves_R ht0 d (j + 1) s1 _ _ (by omega) (by omega) p2
          exact ⟨⟨fun _ => ⟨hU, q1⟩, fun x => absurd hd x⟩, s2, by omega, q3⟩
    · rw [if_neg hd]
      have enext : (if l 316 j = l 292 0 then (if ¬ z 311 j = (4 : Int32) then (if z 311 j = 0 then (bnd2 (f_89 j l) fun v5 l5 => (if v5 = (-2 : Int32) then g_88 n d (j + 1) l5 else (bnd (f_81 n j v5 l5) fun l7 => g_88 n d (j + 1) l7))) else (if ¬ z 311 j = (1 : Int32) then g_88 n d (j + 1) l else (bnd2 (f_89 j l) fun v9 l9 => (if v9 = (-2 : Int32) then g_88 n d (j + 1) l9 else (bnd (f_81 n j v9 l9) fun l11 => g_88 n d (j + 1) l11))))) else (bnd (f_90 j l) fun l12 => g_88 n d (j + 1) l12)) else g_88 n d (j + 1) l) = g_88 n d (j + 1) l := by
        by_cases e : l 316 j = l 292 0
        · rw [if_pos e]
          have hno : ¬ (z 311 j = 0 ∨ z 311 j = 1 ∨ z 311 j = 4) := fun q => hd ⟨hdi.mpr q, by rw [← hl.due q, ← ht]; exact e⟩
          rw [if_pos (fun q => hno (Or.inr (Or.inr q))), if_neg (fun q => hno (Or.inl q)), if_pos (fun q => hno (Or.inr (Or.inl q)))]
        · rw [if_neg e]
      rw [enext]
      obtain ⟨q1, s2, q2, q3⟩ := moves_R ht0 d (j + 1) s _ _ (by omega) (by omega) hx
      exact ⟨⟨fun x => absurd x hd, fun _ => q1⟩, s2, by omega, q3⟩

/-- the agents whose wrapping up is over -/
theorem wraps_R {n t t0 : Nat} (ht : t = t0 + 1) : ∀ (d j s : Nat) (l z : Sg), j + d = 6 → RX l z n t t0 none s → (∀ a, a < j → ¬ (z 326 a = 4 ∧ z 330 a = z 292 0)) → ∃ s', RX (g_94 d j l) (mWrapped d j z) n t t0 none s' ∧ s' = s ∧ ∀ a, a < 6 → ¬ ((mWrapped d j z) 326 a = 4 ∧ (mWrapped d j z) 330 a = (mWrapped d j z) 292 0)
  | 0, j, s, l, z, h, hx, hp => by
    rw [g_94, mWrapped]
    exact ⟨s, hx, rfl, fun a ha => hp a (by omega)⟩
  | d + 1, j, s, l, z, h, hx, hp => by
    obtain ⟨d1, d2, d3, d4, d5, d6, d7, d8⟩ := hx.2.2.2.1 j (by omega)
    have hn := RX_n hx
    have hlz : l 292 0 = z 292 0 := hx.1.2.2.2.2.1.trans hx.1.2.2.2.2.2.1.symm
    have hzt : z 292 0 = i32 t := hx.1.2.2.2.2.2.1
    have htl := hx.1.2.1
    rw [g_94, mWrapped, d1]
    simp only [bnd]
    by_cases h4 : z 326 j = 4
    · obtain ⟨e1, u, u1, u2, u3⟩ := d6 h4
      rw [if_neg (not_not_intro h4), e1]
      have hiff : l 292 0 < z 330 j ↔ ¬ z 330 j = z 292 0 := by
        rw [hlz, hzt, u3, i32_lt (by omega) (by omega), i32_inj (by omega) (by omega)]
        omega
      by_cases hq : z 330 j = z 292 0
      · rw [if_neg (fun q => (hiff.mp q) hq), if_pos ⟨h4, hq⟩]
        have hx2 : RX (f_1 j (l 292 0) l) (sReady z j) n t t0 none s := by
          refine RX_d (a := j) hx (fun F i g => by unfold f_1; rw [up2_d rfl g, up2_d rfl g, up2_d rfl g]) (fun F i g => by unfold sReady; rw [up2_d rfl g, up2_d rfl g, up2_d rfl g]) (MI_up (MI_up (MI_up (GR_m hx.1) rfl) rfl) rfl) ?_ (fun k _ _ q => by cases q) ⟨fun k hk hq1 hq2 => ?_, fun k hk hq1 => ?_⟩
          · refine ⟨by simp [f_1, sReady, up2], by simpa [f_1, sReady, up2] using d2, by simpa [f_1, sReady, up2] using hlz, by simpa [f_1, sReady, up2] using d4, by simp [f_1, sReady, up2], fun q => ?_, ?_, ⟨1, by decide, by simp [sReady, up2]; rfl⟩⟩
            · simp [sReady, up2] at q
            · obtain ⟨w, w1, w2⟩ := d7
              exact ⟨w, w1, by simpa [sReady, up2] using w2⟩
          · have g : ∀ F i, dF F = false → sReady z j F i = z F i := fun F i e => by unfold sReady; rw [up2_d rfl (fun q => by rw [e] at q; cases q), up2_d rfl (fun q => by rw [e] at q; cases q), up2_d rfl (fun q => by rw [e] at q; cases q)]
            rw [g 311 k rfl] at hq2 ⊢
            obtain ⟨a, p1, p2, p3, p4⟩ := hx.2.2.2.2.1.1 k hk hq1 hq2
            have : ¬ a = j := by
              rintro rfl
              rw [h4] at p4
              split at p4 <;> exact absurd p4 (by decide)
            refine ⟨a, p1, by rw [g 325 k rfl]; exact p2, ?_, ?_⟩
            · simp [sReady, up2, this]; exact p3
            · simp [sReady, up2, this]; exact p4
          · have g : ∀ F i, dF F = false → sReady z j F i = z F i := fun F i e => by unfold sReady; rw [up2_d rfl (fun q => by rw [e] at q; cases q), up2_d rfl (fun q => by rw [e] at q; cases q), up2_d rfl (fun q => by rw [e] at q; cases q)]
            have hkj : ¬ k = j := by
              rintro rfl
              simp [sReady, up2] at hq1
            have e326 : sReady z j 326 k = z 326 k := by simp [sReady, up2, hkj]
            rw [e326] at hq1 ⊢
            obtain ⟨c, p1, p2, p3, p4, p5⟩ := hx.2.2.2.2.1.2 k hk hq1
            exact ⟨c, p1, p2, by simp [sReady, up2, hkj]; exact p3, by rw [g 325 c rfl]; exact p4, by rw [g 311 c rfl]; exact p5⟩
        refine wraps_R ht d (j + 1) s _ _ (by omega) hx2 (fun a ha => ?_)
        by_cases e : a = j
        · subst e
          rintro ⟨q1, _⟩
          simp [sReady, up2] at q1
        · have := hp a (by omega)
          simpa [sReady, up2, e] using this
      · rw [if_pos (hiff.mpr hq), if_neg (fun q => hq q.2)]
        refine wraps_R ht d (j + 1) s _ _ (by omega) hx (fun a ha => ?_)
        by_cases e : a = j
        · subst e; exact fun q => hq q.2
        · exact hp a (by omega)
    · rw [if_pos h4, if_neg (fun q => h4 q.1)]
      refine wraps_R ht d (j + 1) s _ _ (by omega) hx (fun a ha => ?_)
      by_cases e : a = j
      · subst e; exact fun q => h4 q.1
      · exact hp a (by omega)
