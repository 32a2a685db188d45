/-! ===== the journal ===== -/
def jF (F : Nat) : Bool := Nat.ble 470 F && Nat.ble F 475
theorem jF_ne {F : Nat} (h : jF F = false) : F ≠ 470 ∧ F ≠ 471 ∧ F ≠ 472 ∧ F ≠ 473 ∧ F ≠ 474 ∧ F ≠ 475 := by
  have e : ∀ k, jF k = true → F ≠ k := fun k hk q => by rw [q, hk] at h; cases h
  exact ⟨e _ rfl, e _ rfl, e _ rfl, e _ rfl, e _ rfl, e _ rfl⟩
def opn (l : Sg) (c : Nat) : Nat → Option Nat
  | 0 => none
  | r + 1 => if l 471 r = i32 c then (if l 472 r = -1 then none else some r) else opn l c r
theorem opn_congr {l l' : Sg} {c : Nat} : ∀ {s : Nat}, (∀ r, r < s → l' 471 r = l 471 r ∧ l' 472 r = l 472 r) → opn l' c s = opn l c s
  | 0, _ => rfl
  | s + 1, h => by
    unfold opn
    rw [(h s (Nat.lt_succ_self s)).1, (h s (Nat.lt_succ_self s)).2, opn_congr (fun r hr => h r (Nat.lt_succ_of_lt hr))]
theorem opn_lt {l : Sg} {c : Nat} : ∀ {s r : Nat}, opn l c s = some r → r < s ∧ l 471 r = i32 c ∧ ¬ l 472 r = -1
  | s + 1, r, h => by
    unfold opn at h
    split at h
    · split at h
      · cases h
      · cases h; exact ⟨Nat.lt_succ_self _, by assumption, by assumption⟩
    · have := opn_lt h
      exact ⟨Nat.lt_succ_of_lt this.1, this.2⟩
def jrn (l : Sg) (s c : Nat) : Prop := (isW l c → ∃ r, opn l c s = some r ∧ l 472 r = l 320 c ∧ l 473 r = l 321 c ∧ l 474 r = l 322 c) ∧ (¬ isW l c → opn l c s = none)
def JB (l : Sg) (s : Nat) : Prop := l 470 0 = i32 s ∧ s ≤ 1024 ∧ (∀ r, r < s → ∃ c, c < 60 ∧ l 471 r = i32 c) ∧ ∀ c, c < 60 → l 410 c = i32 c
def JX (l : Sg) (s c : Nat) : Prop := JB l s ∧ ∀ k, k < 60 → k ≠ c → jrn l s k
def JR (l : Sg) (s : Nat) : Prop := JB l s ∧ ∀ k, k < 60 → jrn l s k
theorem JR.x {l : Sg} {s c : Nat} (h : JR l s) : JX l s c := ⟨h.1, fun k hk _ => h.2 k hk⟩
theorem JX.r {l : Sg} {s c : Nat} (h : JX l s c) (hc : jrn l s c) : JR l s := ⟨h.1, fun k hk => by
  by_cases q : k = c
  · rw [q]; exact hc
  · exact h.2 k hk q⟩
theorem jrn_congr {l l' : Sg} {s c : Nat} (h : jrn l s c) (h1 : ∀ F r, 471 ≤ F → F ≤ 474 → l' F r = l F r) (h2 : l' 311 c = l 311 c ∧ l' 320 c = l 320 c ∧ l' 321 c = l 321 c ∧ l' 322 c = l 322 c) : jrn l' s c := by
  obtain ⟨e1, e2, e3, e4⟩ := h2
  unfold jrn isW at *
  rw [e1, e2, e3, e4, opn_congr (l := l) (l' := l') (fun r _ => ⟨h1 471 r (by decide) (by decide), h1 472 r (by decide) (by decide)⟩)]
  refine ⟨fun hw => ?_, h.2⟩
  obtain ⟨r, p1, p2, p3, p4⟩ := h.1 hw
  exact ⟨r, p1, by rw [h1 472 r (by decide) (by decide)]; exact p2, by rw [h1 473 r (by decide) (by decide)]; exact p3, by rw [h1 474 r (by decide) (by decide)]; exact p4⟩
theorem JB_congr {l l' : Sg} {s : Nat} (h : JB l s) (h1 : ∀ F r, 470 ≤ F → F ≤ 474 → l' F r = l F r) (h2 : ∀ c, l' 410 c = l 410 c) : JB l' s := by
  obtain ⟨p1, p2, p3, p4⟩ := h
  refine ⟨(h1 470 0 (by decide) (by decide)).trans p1, p2, fun r hr => ?_, fun c hc => (h2 c).trans (p4 c hc)⟩
  rw [h1 471 r (by decide) (by decide)]
  exact p3 r hr
/-- an update away from the journal and the lines' claims -/
theorem JX_up {l : Sg} {s c F i : Nat} {v : Int32} (h : JX l s c) (hF : jF F = false) (h4 : F ≠ 410) (hi : i = c ∨ ¬ (F = 311 ∨ F = 320 ∨ F = 321 ∨ F = 322)) : JX (up2 l F i v) s c := by
  have hj := jF_ne hF
  have e : ∀ G r, 470 ≤ G → G ≤ 474 → up2 l F i v G r = l G r := fun G r h1 h2 => by
    unfold up2
    rw [if_neg]
    rintro ⟨rfl, _⟩
    have : jF G = true := by unfold jF; simp only [Bool.and_eq_true, Nat.ble_eq]; omega
    rw [this] at hF
    cases hF
  refine ⟨JB_congr h.1 e (fun k => by unfold up2; rw [if_neg (fun q => h4 q.1.symm)]), fun k hk hkc => jrn_congr (h.2 k hk hkc) (fun G r h1 h2 => e G r (by omega) h2) ?_⟩
  have g : ∀ G, (G = 311 ∨ G = 320 ∨ G = 321 ∨ G = 322) → up2 l F i v G k = l G k := fun G hG => by
    unfold up2
    rw [if_neg]
    rintro ⟨rfl, rfl⟩
    rcases hi with q | q
    · exact hkc q
    · exact q hG
  exact ⟨g _ (Or.inl rfl), g _ (Or.inr (Or.inl rfl)), g _ (Or.inr (Or.inr (Or.inl rfl))), g _ (Or.inr (Or.inr (Or.inr rfl)))⟩
theorem JR_up {l : Sg} {s F i : Nat} {v : Int32} (h : JR l s) (hF : jF F = false) (h4 : F ≠ 410) (hi : ¬ (F = 311 ∨ F = 320 ∨ F = 321 ∨ F = 322)) : JR (up2 l F i v) s := by
  refine ⟨(JX_up (c := 60) h.x hF h4 (Or.inr hi)).1, fun k hk => (JX_up (c := 60) h.x hF h4 (Or.inr hi)).2 k hk (by omega)⟩
def wrt (l : Sg) (s : Nat) (a b e f : Int32) : Sg := up2 (up2 (up2 (up2 (up2 l 471 s a) 472 s b) 473 s e) 474 s f) 470 0 (i32 (s + 1))
theorem f_4_eq {l : Sg} {s : Nat} {a b e f : Int32} (h : l 470 0 = i32 s) (hs : s < 1024) : f_4 a b e f l = wrt l s a b e f := by
  unfold f_4 wrt
  rw [h, if_neg, i32_cl (by omega), show i32 s + 1 = i32 (s + 1) from i32_add s 1]
  intro q
  have := (i32_le (a := 1024) (b := s) (by decide) (by omega)).mp q
  omega
theorem wrt_core {l : Sg} {s F i : Nat} {a b e f : Int32} (hF : jF F = false) : wrt l s a b e f F i = l F i := by
  obtain ⟨h0, h1, h2, h3, h4, _⟩ := jF_ne hF
  simp [wrt, up2, h0, h1, h2, h3, h4]
theorem opn_wrt {l : Sg} {s c k : Nat} {b e f : Int32} (hc : c < 60) (hk : k < 60) : opn (wrt l s (i32 c) b e f) k (s + 1) = if k = c then (if b = -1 then none else some s) else opn l k s := by
  have e1 : opn (wrt l s (i32 c) b e f) k s = opn l k s := opn_congr (fun r hr => by
    have : ¬ r = s := by omega
    simp [wrt, up2, this])
  rw [opn, e1]
  have e2 : wrt l s (i32 c) b e f 471 s = i32 c := by simp [wrt, up2]
  have e3 : wrt l s (i32 c) b e f 472 s = b := by simp [wrt, up2]
  rw [e2, e3]
  by_cases h : k = c
  · rw [if_pos h, if_pos (by rw [h])]
  · rw [if_neg h, if_neg (fun q => h ((i32_inj (by omega) (by omega)).mp q).symm)]
theorem JX_wrt {l : Sg} {s c : Nat} {b e f : Int32} (h : JX l s c) (hs : s < 1024) (hc : c < 60) : JX (wrt l s (i32 c) b e f) (s + 1) c := by
  obtain ⟨⟨p1, p2, p3, p4⟩, p5⟩ := h
  refine ⟨⟨by simp [wrt, up2], by omega, fun r hr => ?_, fun k hk => by rw [wrt_core rfl]; exact p4 k hk⟩, fun k hk hkc => ?_⟩
  · by_cases q : r = s
    · exact ⟨c, hc, by simp [wrt, up2, q]⟩
    · obtain ⟨x, hx, hx2⟩ := p3 r (by omega)
      exact ⟨x, hx, by simp [wrt, up2, q]; exact hx2⟩
  · have hj := p5 k hk hkc
    have ew : isW (wrt l s (i32 c) b e f) k ↔ isW l k := by unfold isW; rw [wrt_core rfl]
    refine ⟨fun hw => ?_, fun hw => ?_⟩
    · obtain ⟨r, q1, q2, q3, q4⟩ := hj.1 (ew.mp hw)
      have hr := (opn_lt q1).1
      have hr2 : ¬ r = s := by omega
      refine ⟨r, by rw [opn_wrt hc hk, if_neg hkc]; exact q1, ?_, ?_, ?_⟩
      · rw [wrt_core (F := 320) rfl, ← q2]; simp [wrt, up2, hr2]
      · rw [wrt_core (F := 321) rfl, ← q3]; simp [wrt, up2, hr2]
      · rw [wrt_core (F := 322) rfl, ← q4]; simp [wrt, up2, hr2]
    · rw [opn_wrt hc hk, if_neg hkc]
      exact hj.2 (fun q => hw (ew.mpr q))
theorem f_13_eq {l : Sg} {c : Nat} : f_13 c l = 0 ↔ ¬ isW l c := by
  unfold f_13 isW
  by_cases h1 : l 311 c = 1
  · rw [if_pos h1]
    constructor
    · intro q; exact absurd q (by decide)
    · intro q; exact absurd (Or.inl h1) q
  · rw [if_neg h1]
    by_cases h3 : l 311 c = 3
    · rw [if_neg (not_not_intro h3)]
      constructor
      · intro q; exact absurd q (by decide)
      · intro q; exact absurd (Or.inr h3) q
    · rw [if_pos h3]
      constructor
      · intro _ q
        rcases q with q | q
        · exact h1 q
        · exact h3 q
      · intro _; rfl
/-- every change of what a call does, in the journal -/
theorem turn_J {l : Sg} {s c : Nat} {st : Int32} (h : JR l s) (hs : s + 2 ≤ 1024) (hc : c < 60) (hb : st = 1 ∨ st = 3 → ¬ l 320 c = -1) : ∃ s', s' ≤ s + 2 ∧ JR (f_92 c st l) s' ∧ ∀ F i, jF F = false → f_92 c st l F i = up2 l 311 c st F i := by
  have h410 := h.1.2.2.2 c hc
  have hw2 : ∀ l' : Sg, isW (up2 l' 311 c st) c ↔ (st = 1 ∨ st = 3) := fun l' => by unfold isW; simp [up2]
  -- the second half, from a journal in which c does not wait
  have key : ∀ (l' : Sg) (s' : Nat), JX l' s' c → opn l' c s' = none → s' + 1 ≤ 1024 → l' 410 c = i32 c → ¬ (st = 1 ∨ st = 3) ∨ ¬ l' 320 c = -1 → ∃ s2, s2 ≤ s' + 1 ∧ JR (if f_13 c (up2 l' 311 c st) = 0 then up2 l' 311 c st else f_4 (l' 410 c) (l' 320 c) (l' 321 c) (l' 322 c) (up2 l' 311 c st)) s2 ∧ ∀ F i, jF F = false → (if f_13 c (up2 l' 311 c st) = 0 then up2 l' 311 c st else f_4 (l' 410 c) (l' 320 c) (l' 321 c) (l' 322 c) (up2 l' 311 c st)) F i = up2 l' 311 c st F i := by
    intro l' s' hx ho hs' h4 hb'
    have hx2 : JX (up2 l' 311 c st) s' c := JX_up hx rfl (by decide) (Or.inl rfl)
    have ho2 : opn (up2 l' 311 c st) c s' = none := by rw [opn_congr (l := l') (fun r _ => by simp [up2])]; exact ho
    by_cases hq : st = 1 ∨ st = 3
    · have hn : ¬ f_13 c (up2 l' 311 c st) = 0 := by rw [f_13_eq, Classical.not_not]; exact (hw2 l').mpr hq
      rw [if_neg hn]
      have e4 : f_4 (l' 410 c) (l' 320 c) (l' 321 c) (l' 322 c) (up2 l' 311 c st) = wrt (up2 l' 311 c st) s' (i32 c) (l' 320 c) (l' 321 c) (l' 322 c) := by
        rw [h4]
        exact f_4_eq hx2.1.1 (by omega)
      rw [e4]
      have hx3 := JX_wrt (b := l' 320 c) (e := l' 321 c) (f := l' 322 c) hx2 (by omega) hc
      refine ⟨s' + 1, Nat.le_refl _, hx3.r ⟨fun _ => ⟨s', ?_, ?_, ?_, ?_⟩, fun q => ?_⟩, fun F i hF => wrt_core hF⟩
      · rw [opn_wrt hc hc, if_pos rfl, if_neg]
        rcases hb' with q | q
        · exact absurd hq q
        · exact q
      · rw [wrt_core (F := 320) rfl]; simp [wrt, up2]
      · rw [wrt_core (F := 321) rfl]; simp [wrt, up2]
      · rw [wrt_core (F := 322) rfl]; simp [wrt, up2]
      · refine absurd ?_ q
        have : isW (wrt (up2 l' 311 c st) s' (i32 c) (l' 320 c) (l' 321 c) (l' 322 c)) c ↔ isW (up2 l' 311 c st) c := by unfold isW; rw [wrt_core rfl]
        exact this.mpr ((hw2 l').mpr hq)
    · have hn : f_13 c (up2 l' 311 c st) = 0 := f_13_eq.mpr (fun q => hq ((hw2 l').mp q))
      rw [if_pos hn]
      exact ⟨s', by omega, hx2.r ⟨fun q => absurd ((hw2 l').mp q) hq, fun _ => ho2⟩, fun F i _ => rfl⟩
  unfold f_92
  simp only [bnd]
  by_cases hw : isW l c
  · have hn : ¬ f_13 c l = 0 := by rw [f_13_eq, Classical.not_not]; exact hw
    rw [if_neg hn]
    have e4 : f_4 (l 410 c) (-1) 0 (l 292 0) l = wrt l s (i32 c) (-1) 0 (l 292 0) := by
      rw [h410]
      exact f_4_eq h.1.1 (by omega)
    rw [e4]
    have hx := JX_wrt (b := -1) (e := 0) (f := l 292 0) (h.x (c := c)) (by omega) hc
    have ho : opn (wrt l s (i32 c) (-1) 0 (l 292 0)) c (s + 1) = none := by rw [opn_wrt hc hc, if_pos rfl, if_pos rfl]
    obtain ⟨s2, q1, q2, q3⟩ := key _ (s + 1) hx ho (by omega) (by rw [wrt_core rfl]; exact h410) (by
      by_cases q : st = 1 ∨ st = 3
      · exact Or.inr (by rw [wrt_core rfl]; exact hb q)
      · exact Or.inl q)
    refine ⟨s2, by omega, q2, fun F i hF => (q3 F i hF).trans ?_⟩
    unfold up2
    rw [wrt_core hF]
  · have hn : f_13 c l = 0 := f_13_eq.mpr hw
    rw [if_pos hn]
    obtain ⟨s2, q1, q2, q3⟩ := key l s h.x ((h.2 c hc).2 hw) (by omega) h410 (by
      by_cases q : st = 1 ∨ st = 3
      · exact Or.inr (hb q)
      · exact Or.inl q)
    exact ⟨s2, by omega, q2, q3⟩
