/-! ===== the journal is struck ===== -/
theorem g_181_rd {v : Int32} : ∀ (d j : Nat) (l : Sg) (F i : Nat), g_181 v d j l F i = if F = 475 ∧ (j ≤ i ∧ i < j + d) then v else l F i
  | 0, j, l, F, i => by
    rw [g_181, if_neg (by omega)]
  | d + 1, j, l, F, i => by
    rw [g_181, g_181_rd d (j + 1)]
    by_cases h : F = 475 ∧ (j + 1 ≤ i ∧ i < j + 1 + d)
    · rw [if_pos h, if_pos ⟨h.1, by omega, by omega⟩]
    · rw [if_neg h]
      unfold up2
      by_cases h2 : F = 475 ∧ i = j
      · rw [if_pos h2, if_pos ⟨h2.1, by omega, by omega⟩]
      · rw [if_neg h2, if_neg]
        rintro ⟨p1, p2, p3⟩
        by_cases e : i = j
        · exact h2 ⟨p1, e⟩
        · exact h ⟨p1, by omega, by omega⟩
theorem opn_cg475 {l : Sg} {c k s : Nat} {v : Int32} : opn (up2 l 475 k v) c s = opn l c s := opn_congr (fun r _ => by simp [up2])
theorem opn_s {l : Sg} {c j : Nat} : opn l c (j + 1) = if l 471 j = i32 c then (if l 472 j = -1 then none else some j) else opn l c j := by rw [opn]
theorem replay_R {s : Nat} (hs : s ≤ 1024) : ∀ (d j : Nat) (l : Sg), j + d = 1024 → j ≤ s → l 470 0 = i32 s → (∀ r, r < s → ∃ c, c < 60 ∧ l 471 r = i32 c) → (∀ c, c < 60 → l 475 c = oI 0 (opn l c j)) →
    (∀ F i, ¬ F = 475 → g_6 d j l F i = l F i) ∧ ∀ c, c < 60 → g_6 d j l 475 c = oI 0 (opn l c s)
  | 0, j, l, h, hj, h0, hw, ho => by
    obtain rfl : j = s := by omega
    have e : g_6 0 j l = l := by
      rw [g_6]
      split <;> rfl
    rw [e]
    exact ⟨fun F i _ => rfl, ho⟩
  | d + 1, j, l, h, hj, h0, hw, ho => by
    rw [g_6, h0]
    by_cases e : s ≤ j
    · obtain rfl : j = s := by omega
      rw [if_pos (Int32.le_refl _)]
      exact ⟨fun F i _ => rfl, ho⟩
    · rw [if_neg (fun q => e ((i32_le (by omega) (by omega)).mp q))]
      obtain ⟨c0, hc0, hc1⟩ := hw j (by omega)
      rw [hc1, if_neg (i32_nn (by omega)), if_neg (fun q => by have := (i32_le (a := 60) (by decide) (by omega)).mp q; omega), i32_cl (by omega)]
      have step : ∀ v : Int32, v = (if l 472 j = -1 then (-1 : Int32) else i32 j) → (∀ F i, ¬ F = 475 → g_6 d (j + 1) (up2 l 475 c0 v) F i = l F i) ∧ ∀ c, c < 60 → g_6 d (j + 1) (up2 l 475 c0 v) 475 c = oI 0 (opn l c s) := by
        intro v hv
        obtain ⟨r1, r2⟩ := replay_R hs d (j + 1) (up2 l 475 c0 v) (by omega) (by omega) (by simpa [up2] using h0) (fun r hr => by simpa [up2] using hw r hr) (fun c hc => by
          rw [opn_cg475, opn_s, hc1]
          by_cases q : c = c0
          · subst q
            rw [if_pos rfl]
            have : up2 l 475 c v 475 c = v := by simp [up2]
            rw [this, hv]
            split
            · rfl
            · rw [oI_some]
          · rw [if_neg (fun r => q ((i32_inj (by omega) (by omega)).mp r).symm)]
            have : up2 l 475 c0 v 475 c = l 475 c := by simp [up2, q]
            rw [this]
            exact ho c hc)
        refine ⟨fun F i hF => ?_, fun c hc => ?_⟩
        · rw [r1 F i hF]; simp [up2, hF]
        · rw [r2 c hc, opn_cg475]
      by_cases e2 : l 472 j = -1
      · rw [if_neg (not_not_intro e2)]
        exact step _ (by rw [if_pos e2])
      · rw [if_pos e2]
        exact step _ (by rw [if_neg e2])
theorem f_6_rd {l : Sg} {s : Nat} (h : JB l s) : (∀ F i, ¬ F = 475 → f_6 l F i = l F i) ∧ ∀ c, c < 60 → f_6 l 475 c = oI 0 (opn l c s) := by
  obtain ⟨h0, hs, hw, _⟩ := h
  unfold f_6 f_181
  simp only [bnd]
  have e : ∀ F i, ¬ F = 475 → g_181 (-1) 60 0 l F i = l F i := fun F i hF => by rw [g_181_rd, if_neg (fun q => hF q.1)]
  have eo : ∀ c r, opn (g_181 (-1) 60 0 l) c r = opn l c r := fun c r => opn_congr (fun k _ => ⟨e _ _ (by decide), e _ _ (by decide)⟩)
  obtain ⟨r1, r2⟩ := replay_R hs 1024 0 (g_181 (-1) 60 0 l) (by omega) (by omega) (by rw [e _ _ (by decide)]; exact h0) (fun r hr => by rw [e _ _ (by decide)]; exact hw r hr) (fun c hc => by
    rw [g_181_rd, if_pos ⟨rfl, by omega, by omega⟩]; rfl)
  exact ⟨fun F i hF => (r1 F i hF).trans (e F i hF), fun c hc => by rw [r2 c hc, eo]⟩
def cntO (l : Sg) (s j : Nat) : Nat → Nat
  | 0 => 0
  | c + 1 => cntO l s j c + (match opn l c s with | some r => if r < j then 1 else 0 | none => 0)
theorem cntO_le {l : Sg} {s j : Nat} : ∀ c, cntO l s j c ≤ c
  | 0 => Nat.le_refl 0
  | c + 1 => by
    have := cntO_le (l := l) (s := s) (j := j) c
    unfold cntO
    split
    · split <;> omega
    · omega
theorem cntO_mono {l : Sg} {s j : Nat} : ∀ c, cntO l s j c ≤ cntO l s (j + 1) c
  | 0 => Nat.le_refl 0
  | c + 1 => by
    have := cntO_mono (l := l) (s := s) (j := j) c
    unfold cntO
    cases opn l c s with
    | none => exact Nat.add_le_add_right this _
    | some r =>
      show cntO l s j c + (if r < j then 1 else 0) ≤ cntO l s (j + 1) c + (if r < j + 1 then 1 else 0)
      split <;> split <;> omega
theorem cntO_s {l : Sg} {s j k : Nat} (h : opn l k s = some j) : ∀ c, k < c → cntO l s j c + 1 ≤ cntO l s (j + 1) c
  | c + 1, hk => by
    unfold cntO
    by_cases e : k = c
    · subst e
      rw [h]
      have := cntO_mono (l := l) (s := s) (j := j) k
      show cntO l s j k + (if j < j then 1 else 0) + 1 ≤ cntO l s (j + 1) k + (if j < j + 1 then 1 else 0)
      rw [if_neg (by omega), if_pos (by omega)]
      omega
    · have := cntO_s h c (by omega)
      cases opn l c s with
      | none => omega
      | some r =>
        show cntO l s j c + (if r < j then 1 else 0) + 1 ≤ cntO l s (j + 1) c + (if r < j + 1 then 1 else 0)
        split <;> split <;> omega
/-- what is kept so far -/
def kept (l0 l : Sg) (s j q c : Nat) : Prop := (∀ r0, opn l0 c s = some r0 → r0 < j → ∃ r, opn l c q = some r ∧ l 472 r = l0 472 r0 ∧ l 473 r = l0 473 r0 ∧ l 474 r = l0 474 r0) ∧ ((∀ r0, opn l0 c s = some r0 → ¬ r0 < j) → opn l c q = none)
theorem strike_R {l0 : Sg} {s : Nat} (hJ : JR l0 s) (h5 : ∀ c, c < 60 → l0 475 c = oI 0 (opn l0 c s)) : ∀ (d j q : Nat) (l : Sg), j + d = 1024 → j ≤ s → q ≤ j → (∀ F i, ¬ (471 ≤ F ∧ F ≤ 474) → l F i = l0 F i) → (∀ F r, j ≤ r → l F r = l0 F r) → (∀ r, r < q → ∃ c, c < 60 ∧ l 471 r = i32 c) → (∀ c, c < 60 → kept l0 l s j q c) → q ≤ cntO l0 s j 60 →
    ∃ s', s' ≤ 60 ∧ JR (g_5 d j q l) s' ∧ ∀ F i, jF F = false → g_5 d j q l F i = l0 F i := by
  have hs := hJ.1.2.1
  have hend : ∀ (q : Nat) (l : Sg), q ≤ s → (∀ F i, ¬ (471 ≤ F ∧ F ≤ 474) → l F i = l0 F i) → (∀ r, r < q → ∃ c, c < 60 ∧ l 471 r = i32 c) → (∀ c, c < 60 → kept l0 l s s q c) → q ≤ cntO l0 s s 60 → ∃ s', s' ≤ 60 ∧ JR (up2 l 470 0 (i32 q)) s' ∧ ∀ F i, jF F = false → up2 l 470 0 (i32 q) F i = l0 F i := by
    intro q l hq e1 e2 e3 e4
    have hq60 : q ≤ 60 := Nat.le_trans e4 (cntO_le 60)
    have ho : ∀ c r, opn (up2 l 470 0 (i32 q)) c r = opn l c r := fun c r => opn_congr (fun k _ => by simp [up2])
    refine ⟨q, hq60, ⟨⟨by simp [up2], by omega, fun r hr => by simpa [up2] using e2 r hr, fun c hc => ?_⟩, fun c hc => ?_⟩, fun F i hF => ?_⟩
    · have : up2 l 470 0 (i32 q) 410 c = l 410 c := by simp [up2]
      rw [this, e1 410 c (by decide)]; exact hJ.1.2.2.2 c hc
    · have g : ∀ F, ¬ (470 ≤ F ∧ F ≤ 474) → up2 l 470 0 (i32 q) F c = l0 F c := fun F hF => by
        rw [← e1 F c (by omega)]; unfold up2; rw [if_neg (by omega)]
      have gw : isW (up2 l 470 0 (i32 q)) c ↔ isW l0 c := by unfold isW; rw [g 311 (by decide)]
      obtain ⟨k1, k2⟩ := e3 c hc
      obtain ⟨j1, j2⟩ := hJ.2 c hc
      refine ⟨fun hw => ?_, fun hw => ?_⟩
      · obtain ⟨r0, p1, p2, p3, p4⟩ := j1 (gw.mp hw)
        obtain ⟨r, q1, q2, q3, q4⟩ := k1 r0 p1 (opn_lt p1).1
        refine ⟨r, by rw [ho]; exact q1, ?_, ?_, ?_⟩
        · rw [g 320 (by decide), ← p2, ← q2]; simp [up2]
        · rw [g 321 (by decide), ← p3, ← q3]; simp [up2]
        · rw [g 322 (by decide), ← p4, ← q4]; simp [up2]
      · rw [ho]
        exact k2 (fun r0 p => by rw [j2 (fun x => hw (gw.mpr x))] at p; cases p)
    · obtain ⟨a0, a1, a2, a3, a4, _⟩ := jF_ne hF
      rw [← e1 F i (by omega)]
      unfold up2
      rw [if_neg (by omega)]
  intro d
  induction d with
  | zero =>
    intro j q l h hj hq e1 e2 e3 e4 e5
    obtain rfl : j = s := by omega
    have e : g_5 0 j q l = up2 l 470 0 (i32 q) := by
      rw [g_5]
      split <;> rfl
    rw [e]
    exact hend q l hq e1 e3 e4 e5
  | succ d ih =>
    intro j q l h hj hq e1 e2 e3 e4 e5
    have h0 : l 470 0 = i32 s := (e1 470 0 (by decide)).trans hJ.1.1
    rw [g_5, h0]
    by_cases e : s ≤ j
    · obtain rfl : j = s := by omega
      rw [if_pos (Int32.le_refl _)]
      exact hend q l hq e1 e3 e4 e5
    · rw [if_neg (fun x => e ((i32_le (by omega) (by omega)).mp x))]
      obtain ⟨c0, hc0, hc1⟩ := hJ.1.2.2.1 j (by omega)
      have hw : l 471 j = i32 c0 := (e2 471 j (Nat.le_refl j)).trans hc1
      rw [hw, if_neg (i32_nn (by omega)), if_neg (fun x => by have := (i32_le (a := 60) (by decide) (by omega)).mp x; omega), i32_cl (by omega), e1 475 c0 (by decide), h5 c0 hc0]
      have hkeep : oI 0 (opn l0 c0 s) = i32 j ↔ opn l0 c0 s = some j := by
        cases ho : opn l0 c0 s with
        | none =>
          constructor
          · intro x; exact absurd x.symm (i32_nm1 (by omega))
          · intro x; cases x
        | some r =>
          rw [oI_some]
          have := (opn_lt ho).1
          constructor
          · intro x; rw [(i32_inj (by omega) (by omega)).mp x]
          · intro x; cases x; rfl
      by_cases p : opn l0 c0 s = some j
      · rw [if_neg (not_not_intro (hkeep.mpr p))]
        have v2 := e2 472 j (Nat.le_refl j)
        have v3 := e2 473 j (Nat.le_refl j)
        have v4 := e2 474 j (Nat.le_refl j)
        rw [v2, v3, v4]
        have hsk := (opn_lt p).2.2
        have rd : ∀ F r, ¬ r = q → up2 (up2 (up2 (up2 l 471 q (i32 c0)) 472 q (l0 472 j)) 473 q (l0 473 j)) 474 q (l0 474 j) F r = l F r := fun F r hr => by simp [up2, hr]
        have rdF : ∀ F r, ¬ (471 ≤ F ∧ F ≤ 474) → up2 (up2 (up2 (up2 l 471 q (i32 c0)) 472 q (l0 472 j)) 473 q (l0 473 j)) 474 q (l0 474 j) F r = l F r := fun F r hr => by
          have a1 : ¬ F = 471 := by omega
          have a2 : ¬ F = 472 := by omega
          have a3 : ¬ F = 473 := by omega
          have a4 : ¬ F = 474 := by omega
          simp [up2, a1, a2, a3, a4]
        have r471 : up2 (up2 (up2 (up2 l 471 q (i32 c0)) 472 q (l0 472 j)) 473 q (l0 473 j)) 474 q (l0 474 j) 471 q = i32 c0 := by simp [up2]
        have r472 : up2 (up2 (up2 (up2 l 471 q (i32 c0)) 472 q (l0 472 j)) 473 q (l0 473 j)) 474 q (l0 474 j) 472 q = l0 472 j := by simp [up2]
        have r473 : up2 (up2 (up2 (up2 l 471 q (i32 c0)) 472 q (l0 472 j)) 473 q (l0 473 j)) 474 q (l0 474 j) 473 q = l0 473 j := by simp [up2]
        have r474 : up2 (up2 (up2 (up2 l 471 q (i32 c0)) 472 q (l0 472 j)) 473 q (l0 473 j)) 474 q (l0 474 j) 474 q = l0 474 j := by simp [up2]
        generalize up2 (up2 (up2 (up2 l 471 q (i32 c0)) 472 q (l0 472 j)) 473 q (l0 473 j)) 474 q (l0 474 j) = l2 at rd rdF r471 r472 r473 r474 ⊢
        have oq : ∀ c, opn l2 c q = opn l c q := fun c => opn_congr (fun r hr => ⟨rd _ _ (by omega), rd _ _ (by omega)⟩)
        refine ih (j + 1) (q + 1) l2 (by omega) (by omega) (by omega) (fun F i hF => (rdF F i hF).trans (e1 F i hF)) (fun F r hr => (rd F r (by omega)).trans (e2 F r (by omega))) (fun r hr => ?_) (fun c hc => ?_) ?_
        · by_cases x : r = q
          · exact ⟨c0, hc0, by rw [x]; exact r471⟩
          · rw [rd 471 r x]; exact e3 r (by omega)
        · have eo : opn l2 c (q + 1) = if c = c0 then some q else opn l c q := by
            rw [opn_s, r471, r472, if_neg hsk, oq]
            by_cases x : c = c0
            · rw [if_pos x, if_pos (by rw [x])]
            · rw [if_neg x, if_neg (fun y => x ((i32_inj (by omega) (by omega)).mp y).symm)]
          obtain ⟨k1, k2⟩ := e4 c hc
          by_cases x : c = c0
          · subst x
            rw [if_pos rfl] at eo
            refine ⟨fun r0 p1 p2 => ?_, fun p1 => absurd (Nat.lt_succ_self j) (p1 j p)⟩
            rw [p] at p1
            cases p1
            exact ⟨q, eo, r472, r473, r474⟩
          · rw [if_neg x] at eo
            have hne : ∀ r0, opn l0 c s = some r0 → ¬ r0 = j := fun r0 p1 p2 => by
              have := (opn_lt p1).2.1
              rw [p2, hc1] at this
              exact x ((i32_inj (by omega) (by omega)).mp this).symm
            refine ⟨fun r0 p1 p2 => ?_, fun p1 => ?_⟩
            · have := hne r0 p1
              obtain ⟨r, q1, q2, q3, q4⟩ := k1 r0 p1 (by omega)
              have hrq := (opn_lt q1).1
              exact ⟨r, by rw [eo]; exact q1, by rw [rd _ _ (by omega)]; exact q2, by rw [rd _ _ (by omega)]; exact q3, by rw [rd _ _ (by omega)]; exact q4⟩
            · rw [eo]
              exact k2 (fun r0 p2 p3 => p1 r0 p2 (by omega))
        · have := cntO_s p 60 hc0
          omega
      · rw [if_pos (fun x => p (hkeep.mp x))]
        refine ih (j + 1) q l (by omega) (by omega) (by omega) e1 (fun F r hr => e2 F r (by omega)) e3 (fun c hc => ?_) (Nat.le_trans e5 (cntO_mono 60))
        obtain ⟨k1, k2⟩ := e4 c hc
        have hne : ∀ r0, opn l0 c s = some r0 → ¬ r0 = j := fun r0 p1 p2 => by
          have := (opn_lt p1).2.1
          rw [p2, hc1] at this
          have := (i32_inj (by omega) (by omega)).mp this
          subst this
          rw [p2] at p1
          exact p p1
        refine ⟨fun r0 p1 p2 => ?_, fun p1 => k2 (fun r0 p2 p3 => p1 r0 p2 (by omega))⟩
        have := hne r0 p1
        exact k1 r0 p1 (by omega)
theorem f_5_R {l : Sg} {s : Nat} (h : JR l s) : ∃ s', s' < 512 ∧ JR (f_5 l) s' ∧ ∀ F i, jF F = false → f_5 l F i = l F i := by
  unfold f_5
  rw [h.1.1]
  by_cases q : 512 ≤ s
  · rw [if_pos (show (512 : Int32) ≤ i32 s from (i32_le (a := 512) (by decide) (by have := h.1.2.1; omega)).mpr q)]
    obtain ⟨r1, r2⟩ := f_6_rd h.1
    simp only [bnd]
    have eo : ∀ c, opn (f_6 l) c s = opn l c s := fun c => opn_congr (fun k _ => ⟨r1 _ _ (by decide), r1 _ _ (by decide)⟩)
    have hJ : JR (f_6 l) s := ⟨JB_congr h.1 (fun F r _ h2 => r1 F r (by omega)) (fun c => r1 _ _ (by decide)), fun c hc => jrn_congr (h.2 c hc) (fun F r _ h2 => r1 F r (by omega)) ⟨r1 _ _ (by decide), r1 _ _ (by decide), r1 _ _ (by decide), r1 _ _ (by decide)⟩⟩
    obtain ⟨s', p1, p2, p3⟩ := strike_R hJ (fun c hc => by rw [r2 c hc, eo]) 1024 0 0 (f_6 l) (by omega) (by omega) (by omega) (fun F i _ => rfl) (fun F r _ => rfl) (fun r hr => by omega) (fun c hc => ⟨fun r0 _ h0 => by omega, fun _ => rfl⟩) (Nat.zero_le _)
    exact ⟨s', by omega, p2, fun F i hF => (p3 F i hF).trans (r1 F i (jF_ne hF).2.2.2.2.2)⟩
  · rw [if_neg (show ¬ (512 : Int32) ≤ i32 s from fun x => q ((i32_le (a := 512) (by decide) (by have := h.1.2.1; omega)).mp x))]
    exact ⟨s, by omega, h, fun F i _ => rfl⟩
theorem RX_j {l l' z : Sg} {n t t0 s s' : Nat} {x : Option Nat} (h : RX l z n t t0 x s) (hl : ∀ F i, jF F = false → l' F i = l F i) (hJ : JR l' s') : RX l' z n t t0 x s' := by
  obtain ⟨hG, hL, hU, hD, hK, _⟩ := h
  refine ⟨GR_cg hG (fun F i hF _ => hl F i (exF_ne hF).1) (fun F i _ _ => rfl) (GR_m hG) (fun F i hF => ?_) (GR_p hG), fun k hk hx => lineR_cg (hL k hk hx) (fun F hF => hl F k (lF_ne hF).1) (fun F _ => rfl) (hl _ _ rfl) (fun F m _ => rfl), fun k hk hk2 => unb_cg (hU k hk hk2) (fun F hF => hl F k (lF_ne hF).1) (fun F _ => rfl) (hl _ _ rfl), fun a ha => deskR_cg (hD a ha) (fun F hF => hl F a (dF_ne hF).1) (fun F _ => rfl), hK, hJ⟩
  rw [hl F i (by rcases hF with rfl | rfl | rfl <;> rfl)]
  exact WE9 hG F i hF
/-- behind every change: calls are taken, the journal is struck -/
theorem settle_R {l z : Sg} {n t t0 s : Nat} (h : RX l z n t t0 none s) (hs : s + 12 ≤ 1024) : ∃ s', s' < 512 ∧ RX (f_95 n l) (sTakes z n) n t t0 none s' ∧ takerN (sTakes z n) n 6 = none := by
  obtain ⟨s1, p1, p2, p3⟩ := takes_R 6 0 s l z (by omega) (rdyN_le z 6) h
  obtain ⟨s2, q1, q2, q3⟩ := f_5_R p2.2.2.2.2.2
  unfold f_95 f_96 sTakes
  simp only [bnd]
  exact ⟨s2, q1, RX_j p2 q3 q2, p3⟩
