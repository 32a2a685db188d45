/-! ===== a call on its way ===== -/
/-- the open call, on its way in the class and the model; where it stands in the class -/
def flw (l z : Sg) (c : Nat) (bf : Option Nat) : Prop := l 311 c = 0 ∧ l 312 c = -1 ∧ l 325 c = -1 ∧ clm l z c ∧ l 324 c ≤ l 292 0 ∧ l 317 c = z 317 c ∧ l 318 c = z 318 c ∧ l 313 c = oI 0 bf
theorem WE9 {l z : Sg} {n t : Nat} (h : GR l z n t) : ∀ F i, F = 309 ∨ F = 310 ∨ F = 319 → l F i = z F i := by
  intro F i hF
  exact h.2.2.2.2.2.2.2.2.2.2.1 F i (by rcases hF with rfl | rfl | rfl <;> rfl)
theorem GR_p {l z : Sg} {n t : Nat} (h : GR l z n t) : ∀ i, i < 240 → -1 ≤ z 319 i := h.2.2.2.2.2.2.2.2.2.1
theorem GR_m {l z : Sg} {n t : Nat} (h : GR l z n t) : MI z := h.2.2.2.2.2.2.1
theorem GR_n {l z : Sg} {n t m : Nat} (h : GR l z n t) (hm : m < 30) : nodeR l z m := h.2.2.2.2.2.2.2.1 m hm
/-- updates of the open line's fields alone, the same frame for class and model -/
theorem RX_c1 {l l' z z' : Sg} {n t t0 c s s' : Nat} (h : RX l z n t t0 (some c) s) (hc : c < n)
    (hl : ∀ F i, jF F = false → (lF F = true → ¬ i = c) → l' F i = l F i)
    (hz : ∀ F i, (lF F = true → ¬ i = c) → z' F i = z F i)
    (hm : MI z') (hJ : JR l' s') : RX l' z' n t t0 (some c) s' := by
  refine RX_c h hc (fun F i h1 _ h3 => hl F i h1 h3) (fun F i _ h2 => hz F i h2) hm (fun F i hF => ?_) (fun i hi => ?_) hJ
  · have e : jF F = false ∧ lF F = false := by rcases hF with rfl | rfl | rfl <;> exact ⟨rfl, rfl⟩
    rw [hl F i e.1 (fun q => by rw [e.2] at q; cases q), hz F i (fun q => by rw [e.2] at q; cases q)]
    exact WE9 h.1 F i hF
  · rw [hz 319 i (fun q => by cases q)]
    exact GR_p h.1 i hi
theorem up2_c {l : Sg} {F G c i : Nat} {v : Int32} (hG : lF G = true) (h : lF F = true → ¬ i = c) : up2 l G c v F i = l F i := by
  unfold up2
  rw [if_neg]
  rintro ⟨rfl, rfl⟩
  exact h hG rfl
theorem RX_n {l z : Sg} {n t t0 s : Nat} {x : Option Nat} (h : RX l z n t t0 x s) : n ≤ 60 := h.1.1
/-- nobody has the call: it is let go without anything -/
theorem f_101_none {l : Sg} {c : Nat} (h : l 325 c = -1) : f_101 c l = l := by
  unfold f_101
  rw [h, if_neg (by unfold isA; decide)]
/-- the end of a call that nobody has -/
theorem close_J {l : Sg} {s c : Nat} {how : Int32} (h : JR l s) (hs : s + 2 ≤ 1024) (hc : c < 60) (h5 : l 325 c = -1) : ∃ s', s' ≤ s + 2 ∧ JR (f_91 c how l) s' ∧ ∀ F i, jF F = false → f_91 c how l F i = up2 (up2 (up2 l 311 c 5) 312 c how) 313 c (-1) F i := by
  unfold f_91
  simp only [bnd]
  rw [f_101_none h5]
  obtain ⟨s', q1, q2, q3⟩ := turn_J (st := 5) h hs hc (fun q => by rcases q with q | q <;> exact absurd q (by decide))
  refine ⟨s', q1, JR_up (JR_up q2 rfl (by decide) (by decide)) rfl (by decide) (by decide), fun F i hF => ?_⟩
  unfold up2
  split
  · rfl
  split
  · rfl
  exact q3 F i hF
theorem ends_R {l z : Sg} {n t t0 c s : Nat} {bf : Option Nat} {how : Int32} (h : RX l z n t t0 (some c) s) (hf : flw l z c bf) (hc : c < n) (hs : s + 2 ≤ 1024) : ∃ s', s' ≤ s + 2 ∧ RX (f_91 c how l) (sEnds z c how) n t t0 none s' := by
  have hn := RX_n h
  obtain ⟨s', q1, q2, q3⟩ := close_J (how := how) h.2.2.2.2.2 hs (by omega) hf.2.2.1
  have hx : RX (f_91 c how l) (sEnds z c how) n t t0 (some c) s' := by
    refine RX_c1 h hc (fun F i h1 h2 => ?_) (fun F i h2 => ?_) (MI_ends (GR_m h.1)) q2
    · rw [q3 F i h1, up2_c rfl h2, up2_c rfl h2, up2_c rfl h2]
    · unfold sEnds
      rw [up2_c rfl h2, up2_c rfl h2, up2_c rfl h2, up2_c rfl h2]
  refine ⟨s', q1, RX_fill hx ?_ (by simp [sEnds, up2])⟩
  obtain ⟨f1, f2, f3, f4, f5, f6, f7, f8⟩ := hf
  refine ⟨?_, ?_, ?_, Or.inr (Or.inr (Or.inr (Or.inr (Or.inr ⟨?_, ?_, ?_, ?_⟩))))⟩
  · rw [q3 311 c rfl]; simp [sEnds, up2]
  · rw [q3 317 c rfl]; simpa [sEnds, up2] using f6
  · rw [q3 318 c rfl]; simpa [sEnds, up2] using f7
  · simp [sEnds, up2]
  · rw [q3 312 c rfl]; simp [sEnds, up2]
  · exact ⟨by rw [q3 313 c rfl]; simp [up2], by simp [sEnds, up2]⟩
  · rw [q3 325 c rfl]; simpa [up2] using f3
theorem of_m2 {x : Int32} (h : x ≤ 29) (h2 : -1 ≤ x) : ¬ x = -2 := by
  rintro rfl
  exact absurd h2 (by decide)
theorem cntW_cg {z z' : Sg} {s : Int32} : ∀ {n : Nat}, (∀ k, k < n → (isW z' k ↔ isW z k) ∧ (isW z k → z' 320 k = z 320 k)) → cntW z' s n = cntW z s n
  | 0, _ => rfl
  | n + 1, h => by
    unfold cntW
    rw [cntW_cg (fun k hk => h k (Nat.lt_succ_of_lt hk))]
    have e := h n (Nat.lt_succ_self n)
    have : (isW z' n ∧ z' 320 n = s) ↔ (isW z n ∧ z 320 n = s) := by
      constructor
      · rintro ⟨p1, p2⟩
        have := e.1.mp p1
        exact ⟨this, by rw [← e.2 this]; exact p2⟩
      · rintro ⟨p1, p2⟩
        exact ⟨e.1.mpr p1, by rw [e.2 p1]; exact p2⟩
    by_cases q : isW z n ∧ z 320 n = s
    · rw [if_pos q, if_pos (this.mpr q)]
    · rw [if_neg q, if_neg (fun r => q (this.mp r))]
/-- what is so behind a node: it stays, or it goes on -/
def aft (l z : Sg) (n t t0 c s s' m : Nat) (v : Int32) : Prop := (v = -2 ∧ RX l z n t t0 none s') ∨ (-1 ≤ v ∧ v ≤ 29 ∧ RX l z n t t0 (some c) s ∧ flw l z c (some m))
theorem enter_R {l z : Sg} {n t t0 c s m : Nat} (h : RX l z n t t0 (some c) s) (hf : flw l z c (some m)) (hz1 : z 311 c = 0) (hz3 : z 313 c = i32 m) (hm : m < 30) (hc : c < n) (hs : s + 2 ≤ 1024) :
    (f_82 n c m l).1 = (sActIn z n t c m).2 ∧ ∃ s', s' ≤ s + 2 ∧ aft (f_82 n c m l).2 (sActIn z n t c m).1 n t t0 c s s' m (f_82 n c m l).1 := by
  have hn := RX_n h
  have hc60 : c < 60 := by omega
  have hG := h.1
  have hM := GR_m hG
  obtain ⟨n1, n2, n3, n4, n5, n6, n7, n8, n9, n10, n11, n12, n13, n14, n15⟩ := GR_n hG hm
  have h29 := hM.1 m hm
  obtain ⟨f1, f2, f3, f4, f5, f6, f7, f8⟩ := hf
  have f8' : l 313 c = i32 m := by rw [f8]; show i32 (0 + m) = i32 m; rw [Nat.zero_add]
  have hw : wOK l z n := RX.w h (fun k hk => by cases hk; exact ⟨f1, hz1⟩)
  have ht : l 292 0 = z 292 0 := hG.2.2.2.2.1.trans hG.2.2.2.2.2.1.symm
  have hdd := MI_d hM hc60
  by_cases k1 : z 296 m = 1
  · have eC : f_82 n c m l = (-2, up2 l 316 c (l 292 0 + l 433 m)) := by
      unfold f_82; rw [n1, if_pos k1]
    have eM : sActIn z n t c m = (up2 z 316 c (z 292 0 + z 297 m), -2) := by
      unfold sActIn sActs; rw [if_neg (fun q => absurd (k1.symm.trans q.1) (by decide)), if_pos k1]
    rw [eC, eM]
    refine ⟨rfl, s, by omega, Or.inl ⟨rfl, ?_⟩⟩
    have hx : RX (up2 l 316 c (l 292 0 + l 433 m)) (up2 z 316 c (z 292 0 + z 297 m)) n t t0 (some c) s :=
      RX_c1 h hc (fun F i _ h2 => up2_c rfl h2) (fun F i h2 => up2_c rfl h2) (MI_up hM rfl) (JR_up h.2.2.2.2.2 rfl (by decide) (by decide))
    refine RX_fill hx ⟨?_, ?_, ?_, Or.inl ⟨?_, ?_, ?_, ?_, ?_, ?_, m, hm, ?_, ?_, Or.inl ?_⟩⟩ ?_
    · simpa [up2] using f1.trans hz1.symm
    · simpa [up2] using f6
    · simpa [up2] using f7
    · simpa [up2] using hz1
    · simpa [up2] using f2
    · simpa [up2] using f3
    · simpa [clm, up2] using f4
    · simpa [up2] using f5
    · simp [up2, ht, n11 k1]
    · simpa [up2] using hz3
    · simpa [up2] using f8'
    · simpa [up2] using k1
    · simp [up2, hz1]
  by_cases k23 : z 296 m = 2 ∨ z 296 m = 3
  · have eC : f_82 n c m l = (-2, f_19 c (l 292 0 + l 303 m) (up2 l 315 c 0)) := by
      unfold f_82; rw [n1, if_neg k1]
      rcases k23 with q | q
      · rw [if_pos q]; rfl
      · rw [if_neg (by rw [q]; decide), if_pos q]; rfl
    have eM : sActIn z n t c m = (sListen (up2 z 315 c 0) c m, -2) := by
      unfold sActIn sActs
      rw [if_neg (fun q => by rcases k23 with r | r <;> exact absurd (r.symm.trans q.1) (by decide)), if_neg k1, if_pos k23]
    rw [eC, eM]
    refine ⟨rfl, s, by omega, Or.inl ⟨rfl, ?_⟩⟩
    unfold f_19 sListen
    have hx : RX (up2 (up2 (up2 (up2 l 315 c 0) 314 c 1) 418 c 0) 316 c (l 292 0 + l 303 m)) (up2 (up2 (up2 z 315 c 0) 314 c 1) 316 c (up2 z 315 c 0 292 0 + up2 z 315 c 0 303 m)) n t t0 (some c) s :=
      RX_c1 h hc (fun F i _ h2 => by rw [up2_c rfl h2, up2_c rfl h2, up2_c rfl h2, up2_c rfl h2]) (fun F i h2 => by rw [up2_c rfl h2, up2_c rfl h2, up2_c rfl h2]) (MI_up (MI_up (MI_up hM rfl) rfl) rfl) (JR_up (JR_up (JR_up (JR_up h.2.2.2.2.2 rfl (by decide) (by decide)) rfl (by decide) (by decide)) rfl (by decide) (by decide)) rfl (by decide) (by decide))
    obtain ⟨p, p1, p2, p3⟩ := n12 k23
    have hrow : rowR (up2 (up2 (up2 (up2 l 315 c 0) 314 c 1) 418 c 0) 316 c (l 292 0 + l 303 m)) (up2 (up2 (up2 z 315 c 0) 314 c 1) 316 c (up2 z 315 c 0 292 0 + up2 z 315 c 0 303 m)) c m := ⟨by simp [up2], by simp [up2], 0, p, by simp [up2]; rfl, by simpa [up2] using p3, by omega, p2⟩
    refine RX_fill hx ⟨?_, ?_, ?_, Or.inl ⟨?_, ?_, ?_, ?_, ?_, ?_, m, hm, ?_, ?_, ?_⟩⟩ ?_
    · simpa [up2] using f1.trans hz1.symm
    · simpa [up2] using f6
    · simpa [up2] using f7
    · simpa [up2] using hz1
    · simpa [up2] using f2
    · simpa [up2] using f3
    · simpa [clm, up2] using f4
    · simpa [up2] using f5
    · simp [up2, ht, n6]
    · simpa [up2] using hz3
    · simpa [up2] using f8'
    · rcases k23 with q | q
      · exact Or.inr (Or.inl ⟨by simpa [up2] using q, hrow⟩)
      · obtain ⟨_, _, a, b, a1, a2, a3, a4, a5⟩ := n13 q
        refine Or.inr (Or.inr ⟨by simpa [up2] using q, hrow, 1, 0, by simp [up2]; rfl, by decide, by decide, by simp [up2]; rfl, by decide, ?_⟩)
        have : z 298 m = i32 b := a5
        simp only [up2]
        simp
        rw [this]
        exact (i32_lt (a := 0) (b := b) (by decide) (by omega)).mpr (by omega)
    · simp [up2, hz1]
  have k2 : ¬ z 296 m = 2 := fun q => k23 (Or.inl q)
  have k3 : ¬ z 296 m = 3 := fun q => k23 (Or.inr q)
  have hf' : flw l z c (some m) := ⟨f1, f2, f3, f4, f5, f6, f7, f8⟩
  by_cases k4 : z 296 m = 4
  · have eC : f_82 n c m l = if f_83 n c m l = 0 then (l 302 m, l) else (l 301 m, l) := by
      unfold f_82; rw [n1, if_neg k1, if_neg k2, if_neg k3, if_pos k4]
    have eM : sActIn z n t c m = (z, if soM z n t c m then z 301 m else z 302 m) := by
      unfold sActIn sActs; rw [if_neg (fun q => absurd (k4.symm.trans q.1) (by decide)), if_neg k1, if_neg k23, if_pos k4]
    rw [eC, eM]
    have e := f_83_eq (c := c) (m := m) hG hw h.2.2.2.1 hm k4 f6
    have n2' := n2 (by rw [k4]; decide)
    by_cases q : soM z n t c m
    · rw [if_neg (fun r => (e.mp r) q)]
      refine ⟨?_, s, by omega, Or.inr ⟨?_, ?_, h, hf'⟩⟩
      · show l 301 m = if soM z n t c m then z 301 m else z 302 m
        rw [if_pos q]; exact n2'.1
      · rw [n2'.1]; exact n2'.2
      · rw [n2'.1]; exact h29.1
    · rw [if_pos (e.mpr q)]
      have n3' := n3 (by rw [k4]; decide)
      refine ⟨?_, s, by omega, Or.inr ⟨?_, ?_, h, hf'⟩⟩
      · show l 302 m = if soM z n t c m then z 301 m else z 302 m
        rw [if_neg q]; exact n3'
      · show -1 ≤ l 302 m
        rw [n3']; exact n4 (by rw [k4]; decide)
      · show l 302 m ≤ 29
        rw [n3']; exact h29.2
  by_cases k5 : z 296 m = 5
  · have eC : f_82 n c m l = bnd2 (f_22 c (l 302 m) l) fun v9 l9 => (if ¬ v9 = 0 then (l9 301 m, l9) else (bnd (f_91 c (3 : Int32) l9) fun l11 => ((-2 : Int32), l11))) := by
      unfold f_82; rw [n1, if_neg k1, if_neg k2, if_neg k3, if_neg k4, if_pos k5]
    have eM : sActIn z n t c m = if dpt z c = 4 then (sEnds z c 3, -2) else (up2 (up2 z 319 (4 * c + dpt z c) (z 302 m)) 318 c (i32 (dpt z c + 1)), z 301 m) := by
      unfold sActIn sActs; rw [if_neg (fun q => absurd (k5.symm.trans q.1) (by decide)), if_neg k1, if_neg k23, if_neg k4, if_pos k5]
    rw [eC, eM]
    have n2' := n2 (by rw [k5]; decide)
    have n3' := n3 (by rw [k5]; decide)
    have hd4 : l 318 c = i32 (dpt z c) := f7.trans hdd.2
    simp only [bnd2, bnd]
    by_cases q : dpt z c = 4
    · have e22 : f_22 c (l 302 m) l = (0, l) := by
        unfold f_22
        rw [hd4, q, if_neg (by decide), if_neg (by decide)]
      rw [e22, if_pos q]
      obtain ⟨s', q1, q2⟩ := ends_R (how := 3) h hf' hc hs
      exact ⟨rfl, s', q1, Or.inl ⟨rfl, q2⟩⟩
    · have hdl : dpt z c < 4 := by omega
      have e22 : f_22 c (l 302 m) l = (1, up2 (up2 l 319 (4 * c + dpt z c) (l 302 m)) 318 c (i32 (dpt z c + 1))) := by
        unfold f_22
        rw [hd4, if_neg (i32_nn (by omega)), if_pos (show i32 (dpt z c) < 4 from (i32_lt (b := 4) (by omega) (by decide)).mpr hdl), i32_cl (by omega), show i32 (dpt z c) + 1 = i32 (dpt z c + 1) from i32_add _ 1]
      rw [e22, if_neg q]
      simp only [show ¬ (1 : Int32) = 0 by decide, not_false_eq_true, if_true]
      refine ⟨by simpa [up2] using n2'.1, s, by omega, Or.inr ⟨by simp [up2]; rw [n2'.1]; exact n2'.2, by simp [up2]; rw [n2'.1]; exact h29.1, ?_, ?_⟩⟩
      · refine RX_c h hc (fun F i h1 h2 h3 => ?_) (fun F i h2 h3 => ?_) (MI_dep (MI_pile hM h29.2) (by omega)) (fun F i hF => ?_) (fun i hi => ?_) (JR_up (JR_up h.2.2.2.2.2 rfl (by decide) (by decide)) rfl (by decide) (by decide))
        · show up2 (up2 l 319 (4 * c + dpt z c) (l 302 m)) 318 c (i32 (dpt z c + 1)) F i = l F i
          rw [up2_c rfl h3]
          have : ¬ F = 319 := fun q => h2 (Or.inr (Or.inr q))
          simp [up2, this]
        · show up2 (up2 z 319 (4 * c + dpt z c) (z 302 m)) 318 c (i32 (dpt z c + 1)) F i = z F i
          rw [up2_c rfl h3]
          have : ¬ F = 319 := fun q => h2 (Or.inr (Or.inr q))
          simp [up2, this]
        · have e9 := WE9 hG F i hF
          have : ¬ F = 318 := by rcases hF with rfl | rfl | rfl <;> decide
          show up2 (up2 l 319 (4 * c + dpt z c) (l 302 m)) 318 c (i32 (dpt z c + 1)) F i = up2 (up2 z 319 (4 * c + dpt z c) (z 302 m)) 318 c (i32 (dpt z c + 1)) F i
          unfold up2
          simp only [if_neg (show ¬ (F = 318 ∧ i = c) from fun q => this q.1)]
          rw [n3', e9]
        · show -1 ≤ up2 (up2 z 319 (4 * c + dpt z c) (z 302 m)) 318 c (i32 (dpt z c + 1)) 319 i
          unfold up2
          rw [if_neg (fun q => absurd q.1 (by decide))]
          split
          · exact n4 (by rw [k5]; decide)
          · exact GR_p hG i hi
      · refine ⟨?_, ?_, ?_, ?_, ?_, ?_, ?_, ?_⟩
        · simpa [up2] using f1
        · simpa [up2] using f2
        · simpa [up2] using f3
        · simpa [clm, up2] using f4
        · simpa [up2] using f5
        · simpa [up2] using f6
        · simp [up2]
        · simpa [up2] using f8
  by_cases k6 : z 296 m = 6
  · have eC : f_82 n c m l = f_23 c l := by
      unfold f_82; rw [n1, if_neg k1, if_neg k2, if_neg k3, if_neg k4, if_neg k5, if_pos k6]; rfl
    rw [eC]
    have hd4 : l 318 c = i32 (dpt z c) := f7.trans hdd.2
    by_cases q : dpt z c = 0
    · have e23 : f_23 c l = (-1, l) := by
        unfold f_23
        rw [hd4, q, if_pos (by decide)]
      have eM : sActIn z n t c m = (z, -1) := by unfold sActIn; rw [if_pos ⟨k6, q⟩]
      rw [e23, eM]
      exact ⟨rfl, s, by omega, Or.inr ⟨(by show (-1 : Int32) ≤ -1; decide), (by show (-1 : Int32) ≤ 29; decide), h, hf'⟩⟩
    · have eM : sActIn z n t c m = (up2 z 318 c (i32 (dpt z c - 1)), z 319 (4 * c + (dpt z c - 1))) := by
        unfold sActIn sActs; rw [if_neg (fun r => q r.2), if_neg k1, if_neg k23, if_neg k4, if_neg k5, if_pos k6]
      have e1 : i32 (dpt z c) - 1 = i32 (dpt z c - 1) := i32_sub (a := dpt z c) (b := 1) (by omega)
      have e23 : f_23 c l = (l 319 (4 * c + (dpt z c - 1)), up2 l 318 c (i32 (dpt z c - 1))) := by
        unfold f_23
        rw [hd4, if_neg (fun r => by have := (i32_le (b := 0) (by omega) (by decide)).mp r; omega), if_pos (show i32 (dpt z c) ≤ 4 from (i32_le (b := 4) (by omega) (by decide)).mpr hdd.1), e1, i32_cl (by omega)]
      rw [e23, eM]
      have e9 := WE9 hG 319 (4 * c + (dpt z c - 1)) (Or.inr (Or.inr rfl))
      refine ⟨e9, s, by omega, Or.inr ⟨?_, ?_, ?_, ?_⟩⟩
      · show -1 ≤ l 319 (4 * c + (dpt z c - 1))
        rw [e9]; exact GR_p hG _ (by omega)
      · show l 319 (4 * c + (dpt z c - 1)) ≤ 29
        rw [e9]; exact hM.2.2.1 _ (by omega)
      · exact RX_c1 h hc (fun F i _ h2 => up2_c rfl h2) (fun F i h2 => up2_c rfl h2) (MI_dep hM (by omega)) (JR_up h.2.2.2.2.2 rfl (by decide) (by decide))
      · refine ⟨?_, ?_, ?_, ?_, ?_, ?_, ?_, ?_⟩
        · simpa [up2] using f1
        · simpa [up2] using f2
        · simpa [up2] using f3
        · simpa [clm, up2] using f4
        · simpa [up2] using f5
        · simpa [up2] using f6
        · simp [up2]
        · simpa [up2] using f8
  by_cases k7 : z 296 m = 7
  · have eC : f_82 n c m l = bnd (f_17 c m (l 292 0) l) fun l15 => (if (f_102 n (l15 442 m) l15) < l15 444 m then (bnd (f_92 c (1 : Int32) (up2 l15 316 c (l15 292 0 + l15 438 m))) fun l17 => ((-2 : Int32), l17)) else (l15 301 m, l15)) := by
      unfold f_82; rw [n1, if_neg k1, if_neg k2, if_neg k3, if_neg k4, if_neg k5, if_neg k6, if_pos k7]
    have eM : sActIn z n t c m = sLines z n c m := by
      unfold sActIn sActs; rw [if_neg (fun q => k6 q.1), if_neg k1, if_neg k23, if_neg k4, if_neg k5, if_neg k6, if_pos k7]
    rw [eC, eM]
    obtain ⟨p1, p2, p3, p4, q, q1, q2⟩ := n15 k7
    have n2' := n2 (by rw [k7]; decide)
    have e17 : f_17 c m (l 292 0) l = up2 (up2 (up2 (up2 l 420 c 1) 320 c (z 297 m)) 321 c (z 298 m)) 322 c (l 292 0) := by
      unfold f_17
      rw [p1, p2]
    simp only [bnd]
    rw [e17]
    -- the claim: relation and flow behind it
    have hx : RX (up2 (up2 (up2 (up2 l 420 c 1) 320 c (z 297 m)) 321 c (z 298 m)) 322 c (l 292 0)) (sLine1 z c m) n t t0 (some c) s := by
      refine RX_c1 h hc (fun F i _ h2 => by rw [up2_c rfl h2, up2_c rfl h2, up2_c rfl h2, up2_c rfl h2]) (fun F i h2 => by unfold sLine1; rw [up2_c rfl h2, up2_c rfl h2, up2_c rfl h2]) (MI_up (MI_up (MI_up hM rfl) rfl) rfl) ?_
      have hj := (h.2.2.2.2.2.x (c := c))
      have hj2 : JX (up2 (up2 (up2 (up2 l 420 c 1) 320 c (z 297 m)) 321 c (z 298 m)) 322 c (l 292 0)) s c := JX_up (JX_up (JX_up (JX_up hj rfl (by decide) (Or.inl rfl)) rfl (by decide) (Or.inl rfl)) rfl (by decide) (Or.inl rfl)) rfl (by decide) (Or.inl rfl)
      refine hj2.r ⟨fun hw0 => ?_, fun _ => ?_⟩
      · unfold isW at hw0
        simp [up2, f1] at hw0
      · rw [opn_congr (l := l) (fun r _ => by simp [up2])]
        exact (h.2.2.2.2.2.2 c hc60).2 (fun r => by unfold isW at r; rw [f1] at r; rcases r with r | r <;> exact absurd r (by decide))
    have hclm : clm (up2 (up2 (up2 (up2 l 420 c 1) 320 c (z 297 m)) 321 c (z 298 m)) 322 c (l 292 0)) (sLine1 z c m) c := by
      refine ⟨⟨fun r => ?_, fun r => ?_⟩, fun _ => ⟨?_, ?_, ?_, q, q1, ?_⟩⟩
      · simp [up2] at r
      · simp [sLine1, up2, q2] at r
        exact absurd r (i32_nn (by omega))
      · simp [sLine1, up2]
      · simp [sLine1, up2]
      · simp [sLine1, up2, ht]
      · simpa [sLine1, up2] using q2
    have hfl : flw (up2 (up2 (up2 (up2 l 420 c 1) 320 c (z 297 m)) 321 c (z 298 m)) 322 c (l 292 0)) (sLine1 z c m) c (some m) := by
      refine ⟨?_, ?_, ?_, hclm, ?_, ?_, ?_, ?_⟩
      · simpa [up2] using f1
      · simpa [up2] using f2
      · simpa [up2] using f3
      · simpa [up2] using f5
      · simpa [sLine1, up2] using f6
      · simpa [sLine1, up2] using f7
      · simpa [up2] using f8
    have hw2 : wOK (up2 (up2 (up2 (up2 l 420 c 1) 320 c (z 297 m)) 321 c (z 298 m)) 322 c (l 292 0)) (sLine1 z c m) n := RX.w hx (fun k hk => by cases hk; exact ⟨by simpa [up2] using f1, by simpa [sLine1, up2] using hz1⟩)
    have ecnt : cntW (sLine1 z c m) (z 297 m) n = cntW z (z 297 m) n := cntW_cg (fun k hk => by
      by_cases q : k = c
      · subst q
        have e0 : ¬ isW z k := fun r => by unfold isW at r; rw [hz1] at r; rcases r with r | r <;> exact absurd r (by decide)
        refine ⟨⟨fun r => ?_, fun r => absurd r e0⟩, fun r => absurd r e0⟩
        exfalso
        unfold isW at r
        simp [sLine1, up2, hz1] at r
      · constructor
        · unfold isW
          simp [sLine1, up2]
        · intro _
          simp [sLine1, up2, q])
    have r442 : (up2 (up2 (up2 (up2 l 420 c 1) 320 c (z 297 m)) 321 c (z 298 m)) 322 c (l 292 0)) 442 m = z 297 m := by simpa [up2] using p1
    have r444 : (up2 (up2 (up2 (up2 l 420 c 1) 320 c (z 297 m)) 321 c (z 298 m)) 322 c (l 292 0)) 444 m = z 300 m := by simpa [up2] using p4
    rw [r442, r444, f_102_eq hw2, ecnt]
    unfold sLines
    by_cases hcap : z 300 m ≤ i32 (cntW z (z 297 m) n)
    · rw [if_neg (Int32.not_lt.mpr hcap), if_pos hcap]
      refine ⟨by simpa [up2] using n2'.1, s, by omega, Or.inr ⟨?_, ?_, hx, hfl⟩⟩
      · show -1 ≤ up2 _ _ _ _ _ _
        simp [up2]; rw [n2'.1]; exact n2'.2
      · show up2 _ _ _ _ _ _ ≤ 29
        simp [up2]; rw [n2'.1]; exact h29.1
    · rw [if_pos (Int32.not_le.mp hcap), if_neg hcap]
      generalize hl1 : up2 (up2 (up2 (up2 l 420 c 1) 320 c (z 297 m)) 321 c (z 298 m)) 322 c (l 292 0) = l1 at hx hclm hfl ⊢
      have rd1 : ∀ F i, (lF F = true → ¬ i = c) → l1 F i = l F i := fun F i h2 => by rw [← hl1, up2_c rfl h2, up2_c rfl h2, up2_c rfl h2, up2_c rfl h2]
      have r320 : l1 320 c = z 297 m := by rw [← hl1]; simp [up2]
      obtain ⟨g1, g2, g3, g4, g5, g6, g7, g8⟩ := hfl
      have hj1 : JR (up2 l1 316 c (l1 292 0 + l1 438 m)) s := JR_up hx.2.2.2.2.2 rfl (by decide) (by decide)
      obtain ⟨s', t1, t2, t3⟩ := turn_J (st := 1) (c := c) hj1 (by omega) hc60 (fun _ => by
        show ¬ up2 l1 316 c _ 320 c = -1
        simp only [up2]
        simp
        rw [r320, q2]
        intro r
        exact absurd (show (0 : Int32) ≤ -1 from by rw [← r]; exact (i32_le (a := 0) (by decide) (by omega)).mpr (Nat.zero_le q)) (by decide))
      refine ⟨rfl, s', by omega, Or.inl ⟨rfl, ?_⟩⟩
      have hx3 : RX (f_92 c 1 (up2 l1 316 c (l1 292 0 + l1 438 m))) (up2 (up2 (sLine1 z c m) 311 c 1) 316 c (z 292 0 + z 299 m)) n t t0 (some c) s' :=
        RX_c1 hx hc (fun F i h1 h2 => by rw [t3 F i h1, up2_c rfl h2, up2_c rfl h2]) (fun F i h2 => by rw [up2_c rfl h2, up2_c rfl h2]) (MI_up (MI_up (GR_m hx.1) rfl) rfl) t2
      show RX (f_92 c 1 (up2 l1 316 c (l1 292 0 + l1 438 m))) (up2 (up2 (sLine1 z c m) 311 c 1) 316 c (z 292 0 + z 299 m)) n t t0 none s'
      refine RX_fill hx3 ⟨?_, ?_, ?_, Or.inr (Or.inl ⟨?_, ?_, ?_, ?_, ?_, ?_, ?_, m, hm, ?_, ?_, ?_⟩)⟩ ?_
      · rw [t3 311 c rfl]; simp [up2]
      · rw [t3 317 c rfl]; simpa [up2] using g6
      · rw [t3 318 c rfl]; simpa [up2] using g7
      · simp [up2]
      · rw [t3 312 c rfl]; simpa [up2] using g2
      · rw [t3 325 c rfl]; simpa [up2] using g3
      · unfold clm
        rw [t3 420 c rfl, t3 320 c rfl, t3 321 c rfl, t3 322 c rfl]
        simpa [clm, up2] using g4
      · have e3 : (up2 (up2 (sLine1 z c m) 311 c 1) 316 c (z 292 0 + z 299 m)) 320 c = i32 q := by simpa [up2, sLine1] using q2
        rw [e3]
        exact i32_nn (by omega)
      · rw [t3 324 c rfl, t3 292 0 rfl]; simpa [up2] using g5
      · rw [t3 316 c rfl]
        simp [up2]
        rw [rd1 292 0 (fun q => by cases q), rd1 438 m (fun q => by cases q), p3, ht]
      · simpa [up2, sLine1] using hz3
      · rw [t3 313 c rfl]
        simp [up2]
        rw [g8]; show i32 (0 + m) = i32 m; rw [Nat.zero_add]
      · simpa [up2, sLine1] using k7
      · simp [up2]
  by_cases k8 : z 296 m = 8
  · have eC : f_82 n c m l = if ¬ l 420 c = 0 then (bnd (f_92 c (3 : Int32) (up2 (up2 l 313 c (-1 : Int32)) 323 c (0 : Int32))) fun l20 => ((-2 : Int32), l20)) else (bnd (f_91 c (0 : Int32) l) fun l21 => ((-2 : Int32), l21)) := by
      unfold f_82; rw [n1, if_neg k1, if_neg k2, if_neg k3, if_neg k4, if_neg k5, if_neg k6, if_neg k7, if_pos k8]
    have eM : sActIn z n t c m = if z 320 c < 0 then (sEnds z c 0, -2) else (up2 (up2 (up2 (up2 z 311 c 3) 313 c (-1)) 323 c 0) 324 c 0, -2) := by
      unfold sActIn sActs; rw [if_neg (fun q => k6 q.1), if_neg k1, if_neg k23, if_neg k4, if_neg k5, if_neg k6, if_neg k7, if_pos k8]
    rw [eC, eM]
    simp only [bnd]
    by_cases q : z 320 c < 0
    · have e0 : l 420 c = 0 := f4.1.mpr q
      rw [if_neg (not_not_intro e0), if_pos q]
      obtain ⟨s', q1, q2⟩ := ends_R (how := 0) h hf' hc hs
      exact ⟨rfl, s', q1, Or.inl ⟨rfl, q2⟩⟩
    · have e0 : ¬ l 420 c = 0 := fun r => q (f4.1.mp r)
      rw [if_pos e0, if_neg q]
      obtain ⟨a1, a2, a3, y, y1, y2⟩ := f4.2 q
      have hj1 : JR (up2 (up2 l 313 c (-1)) 323 c 0) s := JR_up (JR_up h.2.2.2.2.2 rfl (by decide) (by decide)) rfl (by decide) (by decide)
      obtain ⟨s', t1, t2, t3⟩ := turn_J (st := 3) (c := c) hj1 (by omega) hc60 (fun _ => by
        simp only [up2]
        simp
        rw [a1, y2]
        intro r
        exact absurd (show (0 : Int32) ≤ -1 from by rw [← r]; exact (i32_le (a := 0) (by decide) (by omega)).mpr (Nat.zero_le y)) (by decide))
      refine ⟨rfl, s', by omega, Or.inl ⟨rfl, ?_⟩⟩
      have hx3 : RX (f_92 c 3 (up2 (up2 l 313 c (-1)) 323 c 0)) (up2 (up2 (up2 (up2 z 311 c 3) 313 c (-1)) 323 c 0) 324 c 0) n t t0 (some c) s' :=
        RX_c1 h hc (fun F i h1 h2 => by rw [t3 F i h1, up2_c rfl h2, up2_c rfl h2, up2_c rfl h2]) (fun F i h2 => by rw [up2_c rfl h2, up2_c rfl h2, up2_c rfl h2, up2_c rfl h2]) (MI_up (MI_up (MI_up (MI_up hM rfl) rfl) rfl) rfl) t2
      show RX (f_92 c 3 (up2 (up2 l 313 c (-1)) 323 c 0)) (up2 (up2 (up2 (up2 z 311 c 3) 313 c (-1)) 323 c 0) 324 c 0) n t t0 none s'
      refine RX_fill hx3 ⟨?_, ?_, ?_, Or.inr (Or.inr (Or.inr (Or.inl ⟨?_, ?_, ?_, ?_, ?_, ?_, Or.inr ⟨?_, ?_⟩, ?_, Or.inl ?_⟩)))⟩ ?_
      · rw [t3 311 c rfl]; simp [up2]
      · rw [t3 317 c rfl]; simpa [up2] using f6
      · rw [t3 318 c rfl]; simpa [up2] using f7
      · simp [up2]
      · rw [t3 312 c rfl]; simpa [up2] using f2
      · exact ⟨by rw [t3 313 c rfl]; simp [up2], by simp [up2]⟩
      · rw [t3 325 c rfl]; simpa [up2] using f3
      · unfold clm
        rw [t3 420 c rfl, t3 320 c rfl, t3 321 c rfl, t3 322 c rfl]
        simpa [clm, up2] using f4
      · simpa [up2] using q
      · rw [t3 324 c rfl, t3 292 0 rfl]; simpa [up2] using f5
      · rw [t3 292 0 rfl]
        simp [up2]
        rw [hG.2.2.2.2.1]
        exact (i32_le (a := 0) (by decide) (by have := hG.2.1; omega)).mpr (Nat.zero_le t)
      · rw [t3 323 c rfl]; simp [up2]
      · simp [up2]
      · simp [up2]
  · have eC : f_82 n c m l = (-1, l) := by
      unfold f_82; rw [n1, if_neg k1, if_neg k2, if_neg k3, if_neg k4, if_neg k5, if_neg k6, if_neg k7, if_neg k8]
    have eM : sActIn z n t c m = (z, -1) := by
      unfold sActIn sActs; rw [if_neg (fun q => k6 q.1), if_neg k1, if_neg k23, if_neg k4, if_neg k5, if_neg k6, if_neg k7, if_neg k8]
    rw [eC, eM]
    exact ⟨rfl, s, by omega, Or.inr ⟨(by show (-1 : Int32) ≤ -1; decide), (by show (-1 : Int32) ≤ 29; decide), h, hf'⟩⟩
/-- where the class and the model come to a node, or to the end -/
theorem way_R {l z : Sg} {n t t0 c s m : Nat} {bf : Option Nat} (h : RX l z n t t0 (some c) s) (hf : flw l z c bf) (hm : m < 30) (hc : c < n) (hb : ∀ b, bf = some b → b < 30) :
    RX (up2 (f_93 (l 313 c) (i32 m) l) 313 c (i32 m)) (sCome z c bf m) n t t0 (some c) s ∧ flw (up2 (f_93 (l 313 c) (i32 m) l) 313 c (i32 m)) (sCome z c bf m) c (some m) := by
  have hn := RX_n h
  obtain ⟨f1, f2, f3, f4, f5, f6, f7, f8⟩ := hf
  have hM := GR_m h.1
  have hfin : ∀ (l' z' : Sg), (∀ F i, ¬ F = 309 → l' F i = l F i) → (∀ F i, ¬ F = 309 → (lF F = true → ¬ i = c) → z' F i = z F i) → (∀ i, l' 309 i = z' 309 i) → MI z' → (∀ F, ¬ (F = 311 ∨ F = 313) → ¬ F = 309 → z' F c = z F c) → RX (up2 l' 313 c (i32 m)) z' n t t0 (some c) s ∧ flw (up2 l' 313 c (i32 m)) z' c (some m) := by
    intro l' z' e1 e2 e3 e4 e5
    have hJ : JR l' s := by
      refine ⟨JB_congr h.2.2.2.2.2.1 (fun F r h1 h2 => e1 F r (by omega)) (fun k => e1 410 k (by decide)), fun k hk => jrn_congr (h.2.2.2.2.2.2 k hk) (fun F r h1 h2 => e1 F r (by omega)) ⟨e1 _ _ (by decide), e1 _ _ (by decide), e1 _ _ (by decide), e1 _ _ (by decide)⟩⟩
    refine ⟨RX_c h hc (fun F i h1 h2 h3 => ?_) (fun F i h2 h3 => e2 F i (fun q => h2 (Or.inl q)) h3) e4 (fun F i hF => ?_) (fun i hi => ?_) (JR_up hJ rfl (by decide) (by decide)), ?_⟩
    · rw [up2_c rfl h3]; exact e1 F i (fun q => h2 (Or.inl q))
    · have h3 : ¬ F = 313 := by rcases hF with rfl | rfl | rfl <;> decide
      have h4 : up2 l' 313 c (i32 m) F i = l' F i := by unfold up2; rw [if_neg (fun q => h3 q.1)]
      rw [h4]
      by_cases q : F = 309
      · rw [q]; exact e3 i
      · rw [e1 F i q, e2 F i q (by rcases hF with rfl | rfl | rfl <;> exact fun r => by cases r)]
        exact WE9 h.1 F i hF
    · rw [e2 319 i (by decide) (fun q => by cases q)]; exact GR_p h.1 i hi
    · have g : ∀ F, ¬ F = 309 → ¬ F = 313 → up2 l' 313 c (i32 m) F c = l F c := fun F h1 h2 => by
        rw [← e1 F c h1]; unfold up2; rw [if_neg (fun q => h2 q.1)]
      refine ⟨?_, ?_, ?_, ?_, ?_, ?_, ?_, ?_⟩
      · rw [g 311 (by decide) (by decide)]; exact f1
      · rw [g 312 (by decide) (by decide)]; exact f2
      · rw [g 325 (by decide) (by decide)]; exact f3
      · unfold clm
        rw [g 420 (by decide) (by decide), g 320 (by decide) (by decide), g 321 (by decide) (by decide), g 322 (by decide) (by decide), e5 320 (by decide) (by decide), e5 321 (by decide) (by decide), e5 322 (by decide) (by decide)]
        exact f4
      · rw [g 324 (by decide) (by decide)]
        have : up2 l' 313 c (i32 m) 292 0 = l 292 0 := by rw [← e1 292 0 (by decide)]; unfold up2; rw [if_neg (fun q => absurd q.1 (by decide))]
        rw [this]; exact f5
      · rw [g 317 (by decide) (by decide), e5 317 (by decide) (by decide)]; exact f6
      · rw [g 318 (by decide) (by decide), e5 318 (by decide) (by decide)]; exact f7
      · show up2 l' 313 c (i32 m) 313 c = i32 (0 + m)
        simp [up2]
  have hz313 : ∀ (zz : Sg) F i, (lF F = true → ¬ i = c) → up2 (up2 zz 311 c 0) 313 c (i32 m) F i = zz F i := fun zz F i h2 => by rw [up2_c rfl h2, up2_c rfl h2]
  cases bf with
  | none =>
    have e93 : f_93 (l 313 c) (i32 m) l = l := by
      unfold f_93
      rw [f8]
      show (if isN (-1 : Int32) then _ else l) = l
      rw [if_neg (by decide)]
    rw [e93]
    unfold sCome
    refine hfin l _ (fun F i _ => rfl) (fun F i _ h3 => hz313 z F i h3) (fun i => ?_) (MI_up (MI_up hM rfl) rfl) (fun F h1 h2 => ?_)
    · rw [hz313 z 309 i (fun q => by cases q)]; exact WE9 h.1 309 i (Or.inl rfl)
    · unfold up2
      rw [if_neg (fun q => h1 (Or.inr q.1)), if_neg (fun q => h1 (Or.inl q.1))]
  | some b =>
    have hb30 := hb b rfl
    have f8' : l 313 c = i32 b := by rw [f8]; show i32 (0 + b) = i32 b; rw [Nat.zero_add]
    have e93 : f_93 (l 313 c) (i32 m) l = up2 l 309 (31 * b + m) (l 309 (31 * b + m) + 1) := by
      unfold f_93
      rw [f8', if_pos (isN_of hb30), if_neg (fun q => isN_m1 (isN_of hm) q), if_pos (isN_of hm), i32_cl (by omega), i32_cl (by omega)]
    rw [e93]
    have eS : sCome z c (some b) m = up2 (up2 (up2 z 309 (31 * b + m) (z 309 (31 * b + m) + 1)) 311 c 0) 313 c (i32 m) := rfl
    rw [eS]
    have e9 := WE9 h.1 309 (31 * b + m) (Or.inl rfl)
    refine hfin _ _ (fun F i hF => by unfold up2; rw [if_neg (fun q => hF q.1)]) (fun F i hF h3 => by rw [hz313 _ F i h3]; unfold up2; rw [if_neg (fun q => hF q.1)]) (fun i => ?_) (MI_up (MI_up (MI_up hM rfl) rfl) rfl) (fun F h1 h2 => ?_)
    · rw [hz313 _ 309 i (fun q => by cases q)]
      unfold up2
      rw [e9, WE9 h.1 309 i (Or.inl rfl)]
    · unfold up2
      rw [if_neg (fun q => h1 (Or.inr q.1)), if_neg (fun q => h1 (Or.inl q.1)), if_neg (fun q => h2 q.1)]
/-- the end, by the way from a node to NONE -/
theorem out_R {l z : Sg} {n t t0 c s b : Nat} (h : RX l z n t t0 (some c) s) (hf : flw l z c (some b)) (hb : b < 30) (hc : c < n) (hs : s + 2 ≤ 1024) :
    ∃ s', s' ≤ s + 2 ∧ RX (f_91 c 0 (f_93 (l 313 c) (-1) l)) (sEnds (up2 z 309 (31 * b + 30) (z 309 (31 * b + 30) + 1)) c 0) n t t0 none s' := by
  obtain ⟨f1, f2, f3, f4, f5, f6, f7, f8⟩ := hf
  have f8' : l 313 c = i32 b := by rw [f8]; show i32 (0 + b) = i32 b; rw [Nat.zero_add]
  have e93 : f_93 (l 313 c) (-1) l = up2 l 309 (31 * b + 30) (l 309 (31 * b + 30) + 1) := by
    unfold f_93
    rw [f8', if_pos (isN_of hb), if_pos rfl, i32_cl (by omega)]
  rw [e93]
  have e9 := WE9 h.1 309 (31 * b + 30) (Or.inl rfl)
  have hx : RX (up2 l 309 (31 * b + 30) (l 309 (31 * b + 30) + 1)) (up2 z 309 (31 * b + 30) (z 309 (31 * b + 30) + 1)) n t t0 (some c) s := by
    refine RX_c h hc (fun F i _ h2 _ => by unfold up2; rw [if_neg (fun q => h2 (Or.inl q.1))]) (fun F i h2 _ => by unfold up2; rw [if_neg (fun q => h2 (Or.inl q.1))]) (MI_up (GR_m h.1) rfl) (fun F i hF => ?_) (fun i hi => ?_) (JR_up h.2.2.2.2.2 rfl (by decide) (by decide))
    · unfold up2
      rw [e9, WE9 h.1 F i hF]
    · exact GR_p h.1 i hi
  exact ends_R hx (bf := some b) ⟨by simpa [up2] using f1, by simpa [up2] using f2, by simpa [up2] using f3, by simpa [clm, up2] using f4, by simpa [up2] using f5, by simpa [up2] using f6, by simpa [up2] using f7, by simpa [up2] using f8⟩ hc hs
theorem oI_some (b : Nat) : oI 0 (some b) = i32 b := by show i32 (0 + b) = i32 b; rw [Nat.zero_add]
theorem sCome_z {z : Sg} {c m : Nat} {bf : Option Nat} : sCome z c bf m 311 c = 0 ∧ sCome z c bf m 313 c = i32 m := by
  unfold sCome
  constructor <;> simp [up2]
theorem goes_2a {n c : Nat} (r j : Nat) (l : Sg) : g_81 n c (r + 1) j (-2) l = l := by rw [g_81, if_pos rfl]
theorem goes_2b {n t c : Nat} (r : Nat) (z : Sg) (bf : Option Nat) : goL n t c r z bf (-2) = z := by
  cases r with
  | zero => rw [goL, if_pos (by decide)]; unfold sOut; rw [if_neg (by decide)]
  | succ r => rw [goL, if_pos (by decide)]; unfold sOut; rw [if_neg (by decide)]
theorem goes_1x {n c : Nat} {a : Int32} (h12 : ¬ a = -2) (hn1 : ¬ isN a) (r j : Nat) (l : Sg) : g_81 n c (r + 1) j a l = f_91 c 0 (f_93 (l 313 c) a l) := by
  rw [g_81, if_neg h12]
  by_cases hj : j = 20
  · rw [if_neg (not_not_intro hj), if_neg hn1]
    unfold bnd
    exact if_neg hn1
  · rw [if_pos hj]
    unfold bnd
    exact if_neg hn1
theorem goes_1a {n c : Nat} (r j : Nat) (l : Sg) : g_81 n c (r + 1) j (-1) l = f_91 c 0 (f_93 (l 313 c) (-1) l) := goes_1x (by decide) (by decide) r j l
theorem goes_1b {n t c : Nat} (r b : Nat) (z : Sg) : goL n t c r z (some b) (-1) = sEnds (up2 z 309 (31 * b + 30) (z 309 (31 * b + 30) + 1)) c 0 := by
  cases r with
  | zero => rw [goL, if_pos (by decide)]; unfold sOut; rw [if_pos rfl]
  | succ r => rw [goL, if_pos (by decide)]; unfold sOut; rw [if_pos rfl]
theorem goes_0 {n t t0 c s j : Nat} {l z : Sg} {bf : Option Nat} {a : Int32} (hc : c < n) (hs : s + 2 ≤ 1024) (hj : j = 20) (a1 : -1 ≤ a) (a2 : a ≤ 29) (e1 : ¬ a = -1) (hx : RX l z n t t0 (some c) s) (hf : flw l z c bf) : ∃ s', s' ≤ s + 2 ∧ RX (g_81 n c 1 j a l) (goL n t c 0 z bf a) n t t0 none s' := by
  have hN : isN a := isT_lt ⟨a1, a2⟩ e1
  have e2 : ¬ a = -2 := of_m2 a2 a1
  rw [g_81, if_neg e2, if_neg (not_not_intro hj), if_pos hN, goL, if_neg (Int32.not_lt.mpr hN.1)]
  exact ends_R hx hf hc hs
theorem goes_s {n t t0 c s j r : Nat} {l z : Sg} {bf : Option Nat} {a : Int32} (hc : c < n) (hs : s + 2 ≤ 1024) (hj : ¬ j = 20) (hb : ∀ b, bf = some b → b < 30) (a1 : -1 ≤ a) (a2 : a ≤ 29) (e1 : ¬ a = -1) (hx : RX l z n t t0 (some c) s) (hf : flw l z c bf)
    (ih : ∀ (l1 z1 : Sg) (m : Nat) (v : Int32), m < 30 → ((v = -2 ∧ ∃ s1, s1 ≤ s + 2 ∧ RX l1 z1 n t t0 none s1) ∨ (-1 ≤ v ∧ v ≤ 29 ∧ RX l1 z1 n t t0 (some c) s ∧ flw l1 z1 c (some m))) → ∃ s', s' ≤ s + 2 ∧ RX (g_81 n c (r + 1) (j + 1) v l1) (goL n t c r z1 (some m) v) n t t0 none s') :
    ∃ s', s' ≤ s + 2 ∧ RX (g_81 n c (r + 1 + 1) j a l) (goL n t c (r + 1) z bf a) n t t0 none s' := by
  have hN : isN a := isT_lt ⟨a1, a2⟩ e1
  have e2 : ¬ a = -2 := of_m2 a2 a1
  obtain ⟨hm, hmi⟩ := isN_lt hN
  rw [g_81, if_neg e2, if_pos hj, goL, if_neg (Int32.not_lt.mpr hN.1)]
  simp only [bnd, bnd2, if_pos hN]
  have hway := way_R hx hf hm hc hb
  rw [hmi] at hway
  obtain ⟨w1, w2⟩ := hway
  obtain ⟨v1, s', v2, v3⟩ := enter_R w1 w2 (sCome_z).1 (sCome_z).2 hm hc hs
  rw [← v1]
  refine ih _ _ _ _ hm ?_
  rcases v3 with ⟨x1, x2⟩ | x
  · exact Or.inl ⟨x1, s', v2, x2⟩
  · exact Or.inr x
/-- the loop of both -/
theorem goes_R {n t t0 c s : Nat} (hc : c < n) (hs : s + 2 ≤ 1024) : ∀ (r j : Nat) (l z : Sg) (bf : Option Nat) (a : Int32), r + j = 20 → (∀ b, bf = some b → b < 30) → (a = -1 → ¬ bf = none) →
    ((a = -2 ∧ ∃ s1, s1 ≤ s + 2 ∧ RX l z n t t0 none s1) ∨ (-1 ≤ a ∧ a ≤ 29 ∧ RX l z n t t0 (some c) s ∧ flw l z c bf)) → ∃ s', s' ≤ s + 2 ∧ RX (g_81 n c (r + 1) j a l) (goL n t c r z bf a) n t t0 none s' := by
  intro r
  induction r with
  | zero =>
    intro j l z bf a hj hb ha hi
    rcases hi with ⟨rfl, s1, q1, q2⟩ | ⟨a1, a2, hx, hf⟩
    · rw [goes_2a, goes_2b]; exact ⟨s1, q1, q2⟩
    · by_cases e1 : a = -1
      · subst e1
        cases bf with
        | none => exact absurd rfl (ha rfl)
        | some b =>
          rw [goes_1a, goes_1b]
          exact out_R hx hf (hb b rfl) hc hs
      · exact goes_0 hc hs (by omega) a1 a2 e1 hx hf
  | succ r ih =>
    intro j l z bf a hj hb ha hi
    rcases hi with ⟨rfl, s1, q1, q2⟩ | ⟨a1, a2, hx, hf⟩
    · rw [goes_2a, goes_2b]; exact ⟨s1, q1, q2⟩
    · by_cases e1 : a = -1
      · subst e1
        cases bf with
        | none => exact absurd rfl (ha rfl)
        | some b =>
          rw [goes_1a, goes_1b]
          exact out_R hx hf (hb b rfl) hc hs
      · exact goes_s hc hs (by omega) hb a1 a2 e1 hx hf (fun l1 z1 m v hm hv => ih (j + 1) l1 z1 (some m) v (by omega) (fun b q => by cases q; exact hm) (fun _ q => by cases q) hv)
/-- a call is led on: from a node, or from outside -/
theorem lead_R {l z : Sg} {n t t0 c s : Nat} {bf : Option Nat} {a : Int32} (h : RX l z n t t0 (some c) s) (hc : c < n) (hs : s + 4 ≤ 1024) (hb : ∀ b, bf = some b → b < 30) (ha : a = -1 → ¬ bf = none) (a1 : -1 ≤ a) (a2 : a ≤ 29)
    (hf : l 312 c = -1 ∧ l 325 c = -1 ∧ clm l z c ∧ l 324 c ≤ l 292 0 ∧ l 317 c = z 317 c ∧ l 318 c = z 318 c ∧ l 313 c = oI 0 bf) : ∃ s', s' ≤ s + 4 ∧ RX (f_81 n c a l) (sGoes z n t c bf a) n t t0 none s' := by
  have hn := RX_n h
  obtain ⟨s1, q1, q2, q3⟩ := turn_J (st := 0) h.2.2.2.2.2 (by omega) (by omega : c < 60) (fun q => by rcases q with q | q <;> exact absurd q (by decide))
  have hx : RX (f_92 c 0 l) z n t t0 (some c) s1 := RX_c1 h hc (fun F i h1 h2 => by rw [q3 F i h1, up2_c rfl h2]) (fun F i _ => rfl) (GR_m h.1) q2
  obtain ⟨f2, f3, f4, f5, f6, f7, f8⟩ := hf
  have hfl : flw (f_92 c 0 l) z c bf := by
    refine ⟨?_, ?_, ?_, ?_, ?_, ?_, ?_, ?_⟩
    · rw [q3 311 c rfl]; simp [up2]
    · rw [q3 312 c rfl]; simpa [up2] using f2
    · rw [q3 325 c rfl]; simpa [up2] using f3
    · unfold clm
      rw [q3 420 c rfl, q3 320 c rfl, q3 321 c rfl, q3 322 c rfl]
      simpa [clm, up2] using f4
    · rw [q3 324 c rfl, q3 292 0 rfl]; simpa [up2] using f5
    · rw [q3 317 c rfl]; simpa [up2] using f6
    · rw [q3 318 c rfl]; simpa [up2] using f7
    · rw [q3 313 c rfl]; simpa [up2] using f8
  unfold f_81 sGoes
  simp only [bnd]
  obtain ⟨s', p1, p2⟩ := goes_R (s := s1) hc (by omega) 20 0 _ _ bf a rfl hb ha (Or.inr ⟨a1, a2, hx, hfl⟩)
  exact ⟨s', by omega, p2⟩
