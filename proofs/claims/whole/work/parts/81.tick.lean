/-! ===== a tick ===== -/
theorem lineR_now {l z : Sg} {t c : Nat} (h : lineR l z c) (h0 : l 292 0 = i32 t) (h1 : z 292 0 = i32 t) (ht : t + 1 ≤ 20000) : lineR (up2 l 292 0 (i32 (t + 1))) (up2 z 292 0 (i32 (t + 1))) c := by
  have e : ∀ F, ¬ F = 292 → ∀ i, up2 l 292 0 (i32 (t + 1)) F i = l F i := fun F hF i => by unfold up2; rw [if_neg (fun q => hF q.1)]
  have ez : ∀ F, ¬ F = 292 → ∀ i, up2 z 292 0 (i32 (t + 1)) F i = z F i := fun F hF i => by unfold up2; rw [if_neg (fun q => hF q.1)]
  have en : up2 l 292 0 (i32 (t + 1)) 292 0 = i32 (t + 1) := by simp [up2]
  have le1 : ∀ x : Int32, x ≤ l 292 0 → x ≤ i32 (t + 1) := fun x hx => by
    rw [h0] at hx
    exact Int32.le_trans hx ((i32_le (by omega) (by omega)).mpr (by omega))
  obtain ⟨a1, a2, a3, hq⟩ := h
  refine ⟨by rw [e 311 (by decide), ez 311 (by decide)]; exact a1, by rw [e 317 (by decide), ez 317 (by decide)]; exact a2, by rw [e 318 (by decide), ez 318 (by decide)]; exact a3, ?_⟩
  unfold L0 L1 L2 L3 L4 L5 atN rowR clm at *
  simp only [e 312 (by decide), e 313 (by decide), e 314 (by decide), e 315 (by decide), e 316 (by decide), e 320 (by decide), e 321 (by decide), e 322 (by decide), e 323 (by decide), e 324 (by decide), e 325 (by decide), e 418 (by decide), e 420 (by decide), ez 311 (by decide), ez 312 (by decide), ez 313 (by decide), ez 314 (by decide), ez 315 (by decide), ez 316 (by decide), ez 320 (by decide), ez 321 (by decide), ez 322 (by decide), ez 323 (by decide), ez 324 (by decide), ez 325 (by decide), ez 296 (by decide), ez 298 (by decide), ez 305 (by decide), en]
  rcases hq with q | q | q | q | q | q
  · exact Or.inl ⟨q.1, q.2.1, q.2.2.1, q.2.2.2.1, le1 _ q.2.2.2.2.1, q.2.2.2.2.2⟩
  · exact Or.inr (Or.inl ⟨q.1, q.2.1, q.2.2.1, q.2.2.2.1, q.2.2.2.2.1, le1 _ q.2.2.2.2.2.1, q.2.2.2.2.2.2⟩)
  · exact Or.inr (Or.inr (Or.inl ⟨q.1, q.2.1, q.2.2.1, q.2.2.2.1, le1 _ q.2.2.2.2⟩))
  · refine Or.inr (Or.inr (Or.inr (Or.inl ⟨q.1, q.2.1, q.2.2.1, q.2.2.2.1, q.2.2.2.2.1, q.2.2.2.2.2.1, ?_, q.2.2.2.2.2.2.2⟩)))
    rcases q.2.2.2.2.2.2.1 with r | r
    · exact Or.inl r
    · exact Or.inr ⟨le1 _ r.1, le1 _ r.2⟩
  · exact Or.inr (Or.inr (Or.inr (Or.inr (Or.inl ⟨q.1, q.2.1, q.2.2.1, q.2.2.2.1, q.2.2.2.2.1, q.2.2.2.2.2.1, le1 _ q.2.2.2.2.2.2.1, q.2.2.2.2.2.2.2⟩))))
  · exact Or.inr (Or.inr (Or.inr (Or.inr (Or.inr q))))
theorem RX_now {l z : Sg} {n t t0 s : Nat} (h : RX l z n t t0 none s) (ht : t + 1 ≤ 20000) : RX (up2 l 292 0 (i32 (t + 1))) (up2 z 292 0 (i32 (t + 1))) n (t + 1) t0 none s := by
  obtain ⟨hG, hL, hU, hD, hK, hJ⟩ := h
  have e : ∀ F i, ¬ F = 292 → up2 l 292 0 (i32 (t + 1)) F i = l F i := fun F i hF => by unfold up2; rw [if_neg (fun q => hF q.1)]
  have ez : ∀ F i, ¬ F = 292 → up2 z 292 0 (i32 (t + 1)) F i = z F i := fun F i hF => by unfold up2; rw [if_neg (fun q => hF q.1)]
  obtain ⟨g1, g2, g3, g4, g5, g6, g7, g8, g9, g10, g11, g12, g13, g14⟩ := hG
  have ek : ∀ m, kyN (up2 z 292 0 (i32 (t + 1))) m = kyN z m := fun m => by unfold kyN; rw [ez 306 m (by decide)]
  refine ⟨⟨g1, ht, by simpa [up2] using g3, by simpa [up2] using g4, by simp [up2], by simp [up2], MI_up g7 rfl, fun m hm => nodeR_cg (g8 m hm) (fun F hF => e F m (by omega)) (fun F h1 h2 => ez F m (by omega)), fun i hi => by rw [ez 308 i (by decide)]; exact g9 i hi, fun i hi => by rw [ez 319 i (by decide)]; exact g10 i hi, fun F i hF => ?_, fun i hi => by rw [ez 295 i (by decide)]; exact g12 i hi, fun i hi => by rw [ez 294 i (by decide)]; exact g13 i hi, fun m hm i j hi hj he => ?_⟩, fun c hc hx => lineR_now (hL c hc hx) g5 g6 ht, fun c hc hc2 => ?_, fun a ha => deskR_cg (hD a ha) (fun F hF => e F a (dF_ne hF).2.2.1) (fun F hF => ez F a (dF_ne hF).2.2.1), LK_cg hK (fun F c hF _ => ez F c (by omega)) (fun F a hF => ez F a (by omega)), ?_⟩
  · have hn : ¬ F = 292 := by rintro rfl; cases hF
    rw [e F i hn, ez F i hn]; exact g11 F i hF
  · rw [ek] at hi hj
    rw [ez 307 _ (by decide), ez 307 _ (by decide)] at he
    exact g14 m hm i j hi hj he
  · obtain ⟨u1, u2, u3, u4, u5, u6, u7, u8⟩ := hU c hc hc2
    refine ⟨by rw [e 311 c (by decide)]; exact u1, by rw [e 312 c (by decide)]; exact u2, by rw [e 313 c (by decide)]; exact u3, by rw [e 325 c (by decide)]; exact u4, by rw [e 420 c (by decide)]; exact u5, by rw [e 317 c (by decide), ez 317 c (by decide)]; exact u6, by rw [e 318 c (by decide), ez 318 c (by decide)]; exact u7, ?_⟩
    rw [e 324 c (by decide), show up2 l 292 0 (i32 (t + 1)) 292 0 = i32 (t + 1) by simp [up2]]
    rw [g5] at u8
    exact Int32.le_trans u8 ((i32_le (by omega) (by omega)).mpr (by omega))
  · exact ⟨JB_congr hJ.1 (fun F r _ _ => e F r (by omega)) (fun c => e 410 c (by decide)), fun k hk => jrn_congr (hJ.2 k hk) (fun F r _ _ => e F r (by omega)) ⟨e _ _ (by decide), e _ _ (by decide), e _ _ (by decide), e _ _ (by decide)⟩⟩
theorem RX_t0 {l z : Sg} {n t t0 s : Nat} (h : RX l z n t t0 none s) (ht : t = t0 + 1) (hp : ∀ a, a < 6 → ¬ (z 326 a = 4 ∧ z 330 a = z 292 0)) : RX l z n t t none s := by
  obtain ⟨hG, hL, hU, hD, hK, hJ⟩ := h
  refine ⟨hG, hL, hU, fun a ha => ?_, hK, hJ⟩
  obtain ⟨d1, d2, d3, d4, d5, d6, d7, d8⟩ := hD a ha
  refine ⟨d1, d2, d3, d4, d5, fun q => ?_, d7, d8⟩
  obtain ⟨e1, u, u1, u2, u3⟩ := d6 q
  refine ⟨e1, u, ?_, u2, u3⟩
  have := hp a ha
  have hz : z 292 0 = i32 t := hG.2.2.2.2.2.1
  by_cases e : u = t
  · exact absurd ⟨q, by rw [u3, hz, e]⟩ this
  · omega
/-- what is not touched -/
theorem S_goes {z : Sg} {n t c : Nat} {bf : Option Nat} {a : Int32} (hI : MI z) (hc : c < 60) (h29 : a ≤ 29) (j : Nat) : sGoes z n t c bf a 292 j = z 292 j := (goL_MI hc 20 z bf a hI h29).2 j
theorem S_fails {z : Sg} {n t c m : Nat} (hI : MI z) (hc : c < 60) (hm : m < 30) (j : Nat) : sFails z n t c m 292 j = z 292 j := by
  unfold sFails
  split
  · rw [S_goes (MI_up hI rfl) hc (hI.1 m hm).2]; simp [up2]
  · simp [sListen, up2]
theorem S_done {z : Sg} {n t c m q dg : Nat} (hI : MI z) (hc : c < 60) (hm : m < 30) (hq : q ≤ 10) (j : Nat) : sDone z n t c m q dg 292 j = z 292 j := by
  generalize hw : sDone z n t c m q dg = w
  unfold sDone at hw
  split at hw
  · rename_i k hk
    rw [← hw]
    refine S_goes hI hc (hI.2.1 _ ?_) j
    split at hk
    · have := (pkey_lt hk).1
      omega
    · cases hk
  · split at hw
    · rw [← hw, S_goes (MI_up hI rfl) hc (hI.1 m hm).1]; simp [up2]
    · rw [← hw]; exact S_fails hI hc hm j
theorem S_mUp {z : Sg} {n t c : Nat} (hI : MI z) (hc : c < 60) (hU : UOK z c) (j : Nat) : mUp z n t c 292 j = z 292 j := by
  unfold mUp
  split
  · unfold sMiss
    split <;> simp [sEnds, sReady, up2]
  · rename_i h4
    obtain ⟨m, hm, hnd, hq, _⟩ := hU.2 h4
    unfold sUp
    rw [ndN_of hm hnd]
    split
    · exact S_goes hI hc (hI.1 m hm).1 j
    · exact S_done hI hc hm hq.1 j
theorem S_move {n t n' t' : Nat} : ∀ d k z, k + d ≤ 60 → okMove n t d k z → CZ z n' t' → ∀ j, mMove n t d k z 292 j = z 292 j
  | 0, k, z, _, _, _, j => rfl
  | d + 1, k, z, hk, ho, hI, j => by
    unfold mMove
    by_cases hd : dueN z k
    · rw [if_pos hd]
      have := ho.1 hd
      rw [S_move d (k + 1) _ (by omega) this.2 (CZ_mUp (by omega) this.1 hI) j]
      exact S_mUp hI.2.2 (by omega) this.1 j
    · rw [if_neg hd]
      exact S_move d (k + 1) _ (by omega) (ho.2 hd) hI j
theorem S_wrapped : ∀ d k z j, mWrapped d k z 292 j = z 292 j
  | 0, k, z, j => rfl
  | d + 1, k, z, j => by
    unfold mWrapped
    split
    · rw [S_wrapped d (k + 1) _ j]; simp [sReady, up2]
    · exact S_wrapped d (k + 1) _ j
theorem S_takes {n : Nat} : ∀ r z j, takesN n r z 292 j = z 292 j
  | 0, z, j => rfl
  | r + 1, z, j => by
    cases ht : takerN z n 6 with
    | none => rw [takesN, ht]
    | some a =>
      cases hb : bestN z a n with
      | none => rw [takesN, ht]; simp only [hb]
      | some c =>
        have e : takesN n (r + 1) z = takesN n r (takeOne z c a) := by rw [takesN, ht]; simp only [hb]
        rw [e, S_takes r _ j]; exact takeOne_292 j
theorem RX.cz {l z : Sg} {n t t0 s : Nat} {x : Option Nat} (h : RX l z n t t0 x s) : CZ z n t := ⟨h.1.2.2.2.1, h.1.2.2.2.2.2.1, GR_m h.1⟩
theorem RX.ci {l z : Sg} {n t t0 s : Nat} {x : Option Nat} (h : RX l z n t t0 x s) : CI l n := ⟨h.1.2.2.1, s, h.2.2.2.2.2.1.2.1, h.2.2.2.2.2.1.1⟩
noncomputable def cTick (n : Nat) (l : Sg) : Sg := f_95 n (f_94 (f_88 n (up2 l 292 0 (l 292 0 + 1))))
theorem tick_R {l z : Sg} {n t s : Nat} (h : RX l z n t t none s) (hs : s < 512) (ht : t + 1 ≤ 20000) : okTick n t z ∧ (mTick n t z) 292 41 = z 292 41 ∧ ∃ s', s' < 512 ∧ RX (cTick n l) (mTick n t z) n (t + 1) (t + 1) none s' ∧ takerN (mTick n t z) n 6 = none := by
  have hn := RX_n h
  have e1 : l 292 0 + 1 = i32 (t + 1) := by rw [h.1.2.2.2.2.1]; exact i32_add t 1
  have h1 := RX_now h ht
  obtain ⟨m1, s1, m2, m3⟩ := moves_R (t := t + 1) (t0 := t) (by omega) n 0 s _ _ (by omega) (by omega) h1
  obtain ⟨s2, w1, w2, w3⟩ := wraps_R rfl 6 0 s1 _ _ (by omega) m3 (fun a ha => by omega)
  obtain ⟨s3, q1, q2, q3⟩ := settle_R (RX_t0 w1 rfl w3) (by omega)
  unfold cTick mTick okTick f_94 f_88
  rw [e1]
  refine ⟨m1, ?_, s3, q1, q2, q3⟩
  unfold sTakes
  rw [S_takes, S_wrapped, S_move n 0 _ (by omega) m1 h1.cz]
  simp [up2]
theorem ticks_R {n u : Nat} : ∀ (d j t s : Nat) (l z : Sg), t + d ≤ 20000 → RX l z n t t none s → s < 512 → takerN z n 6 = none → z 292 41 = 0 → okTicks n d t z ∧ ∃ l2 s', g_54 n u d j l = (.inl (l2 292 0), l2) ∧ s' < 512 ∧ RX l2 (mTicks n d t z) n (t + d) (t + d) none s' ∧ takerN (mTicks n d t z) n 6 = none ∧ (mTicks n d t z) 292 41 = 0
  | 0, j, t, s, l, z, _, h, hs, hk, h41 => by
    rw [g_54, okTicks, mTicks]
    exact ⟨h41, l, s, rfl, hs, h, hk, h41⟩
  | d + 1, j, t, s, l, z, ht, h, hs, hk, h41 => by
    obtain ⟨o1, o2, s1, o3, o4, o5⟩ := tick_R h hs (by omega)
    obtain ⟨p1, l2, s2, p2, p3, p4, p5, p6⟩ := ticks_R (u := u) d (j + 1) (t + 1) s1 (cTick n l) (mTick n t z) (by omega) o4 o3 o5 (o2.trans h41)
    rw [g_54, okTicks, mTicks]
    refine ⟨⟨h41, o1, p1⟩, l2, s2, ?_, p3, ?_, p5, p6⟩
    · simp only [bnd]
      exact p2
    · rw [show t + (d + 1) = t + 1 + d by omega]; exact p4
