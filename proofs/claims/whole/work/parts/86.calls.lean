/-! ===== calls come, press, hang up, are picked up; agents finish, transfer; time passes ===== -/
section CALLS
variable {l z : Sg} {n t s : Nat} {a b c d e : Int32}
theorem RX_born {w : Int32} {m : Nat} (h : RX l z n t t none s) (hn : n < 60) (hm : m < 30) : RX (up2 (up2 l 292 19 (i32 (n + 1))) 310 m (l 310 m + 1)) (up2 (up2 (up2 z 292 19 (i32 (n + 1))) 320 n (-1)) 310 m (z 310 m + 1)) (n + 1) t t (some n) s ∧ l 312 n = -1 := by
  obtain ⟨hG, hL, hU, hD, hK, hJ⟩ := h
  have hu := hU n (Nat.le_refl n) hn
  obtain ⟨g1, g2, g3, g4, g5, g6, g7, g8, g9, g10, g11, g12, g13, g14⟩ := hG
  have el : ∀ F i, ¬ (F = 292 ∧ i = 19) → ¬ F = 310 → up2 (up2 l 292 19 (i32 (n + 1))) 310 m (l 310 m + 1) F i = l F i := fun F i h1 h2 => by
    unfold up2
    rw [if_neg (fun q => h2 q.1), if_neg h1]
  have ez : ∀ F i, ¬ (F = 292 ∧ i = 19) → ¬ F = 310 → ¬ (F = 320 ∧ i = n) → up2 (up2 (up2 z 292 19 (i32 (n + 1))) 320 n (-1)) 310 m (z 310 m + 1) F i = z F i := fun F i h1 h2 h3 => by
    unfold up2
    rw [if_neg (fun q => h2 q.1), if_neg h3, if_neg h1]
  have e310 : ∀ i, l 310 i = z 310 i := fun i => g11 310 i rfl
  have ek : ∀ k, kyN (up2 (up2 (up2 z 292 19 (i32 (n + 1))) 320 n (-1)) 310 m (z 310 m + 1)) k = kyN z k := fun k => by unfold kyN; rw [ez 306 k (by simp) (by decide) (by simp)]
  have lne : ∀ {F}, lF F = true → ¬ F = 292 ∧ ¬ F = 310 := fun {F} hF => ⟨(lF_ne hF).2.2, fun q => by rw [q] at hF; cases hF⟩
  have dne : ∀ {F}, dF F = true → ¬ F = 292 ∧ ¬ F = 310 ∧ ¬ F = 320 := fun {F} hF => ⟨(dF_ne hF).2.2.1, (fun q => by rw [q] at hF; cases hF), (fun q => by rw [q] at hF; cases hF)⟩
  have ht : up2 (up2 l 292 19 (i32 (n + 1))) 310 m (l 310 m + 1) 292 0 = l 292 0 := el 292 0 (by simp) (by decide)
  refine ⟨⟨⟨by omega, g2, by simp [up2], by simp [up2], by rw [ht]; exact g5, by rw [ez 292 0 (by simp) (by decide) (by simp)]; exact g6, MI_up (MI_up (MI_up g7 rfl) rfl) rfl, fun k hk => nodeR_cg (g8 k hk) (fun F hF => el F k (by omega) (by omega)) (fun F h1 h2 => ez F k (by omega) (by omega) (by omega)), fun i hi => by rw [ez 308 i (by simp) (by decide) (by simp)]; exact g9 i hi, fun i hi => by rw [ez 319 i (by simp) (by decide) (by simp)]; exact g10 i hi, fun F i hF => ?_, fun i hi => by rw [ez 295 i (by simp) (by decide) (by simp)]; exact g12 i hi, fun i hi => by rw [ez 294 i (by simp) (by decide) (by simp)]; exact g13 i hi, fun k hk i j hi hj he => ?_⟩, fun k hk hx => ?_, fun k hk hk2 => ?_, fun k hk => ?_, ⟨fun k hk hx hq => ?_, fun k hk hq => ?_⟩, ?_⟩, hu.2.1⟩
  · by_cases q : F = 310
    · subst q
      unfold up2
      rw [e310 m, e310 i]
      simp
    · have hn2 : ¬ F = 292 := by rintro rfl; cases hF
      have hn3 : ¬ F = 320 := by rintro rfl; cases hF
      rw [el F i (fun x => hn2 x.1) q, ez F i (fun x => hn2 x.1) q (fun x => hn3 x.1)]
      exact g11 F i hF
  · rw [ek] at hi hj
    rw [ez 307 _ (by simp) (by decide) (by simp), ez 307 _ (by simp) (by decide) (by simp)] at he
    exact g14 k hk i j hi hj he
  · have hkn : ¬ k = n := fun q => hx (by rw [q])
    refine lineR_cg (hL k (by omega) (by simp)) (fun F hF => el F k (fun q => (lne hF).1 q.1) (lne hF).2) (fun F hF => ez F k (fun q => (lne hF).1 q.1) (lne hF).2 (fun q => hkn q.2)) ht (fun F j hF => ez F j (by omega) (by omega) (by omega))
  · refine unb_cg (hU k (by omega) hk2) (fun F hF => el F k (fun q => (lne hF).1 q.1) (lne hF).2) (fun F hF => ez F k (fun q => (lne hF).1 q.1) (lne hF).2 (by omega)) ht
  · exact deskR_cg (hD k hk) (fun F hF => el F k (fun q => (dne hF).1 q.1) (dne hF).2.1) (fun F hF => ez F k (fun q => (dne hF).1 q.1) (dne hF).2.1 (fun q => (dne hF).2.2 q.1))
  · have hkn : ¬ k = n := fun q => hx (by rw [q])
    rw [ez 311 k (by simp) (by decide) (by simp)] at hq ⊢
    obtain ⟨a', p1, p2, p3, p4⟩ := hK.1 k (by omega) (by simp) hq
    exact ⟨a', p1, by rw [ez 325 k (by simp) (by decide) (by simp)]; exact p2, by rw [ez 331 a' (by simp) (by decide) (by simp)]; exact p3, by rw [ez 326 a' (by simp) (by decide) (by simp)]; exact p4⟩
  · rw [ez 326 k (by simp) (by decide) (by simp)] at hq ⊢
    obtain ⟨c', p1, p2, p3, p4, p5⟩ := hK.2 k hk hq
    exact ⟨c', by omega, fun q => by cases q; omega, by rw [ez 331 k (by simp) (by decide) (by simp)]; exact p3, by rw [ez 325 c' (by simp) (by decide) (by simp)]; exact p4, by rw [ez 311 c' (by simp) (by decide) (by simp)]; exact p5⟩
  · exact ⟨JB_congr hJ.1 (fun F r h1 _ => el F r (by omega) (by omega)) (fun c => el 410 c (by simp) (by decide)), fun k hk => jrn_congr (hJ.2 k hk) (fun F r h1 _ => el F r (by omega) (by omega)) ⟨el _ _ (by simp) (by decide), el _ _ (by simp) (by decide), el _ _ (by simp) (by decide), el _ _ (by simp) (by decide)⟩⟩
theorem sim_call (h0 : RX l z n t t none s) (hs : s < 512) (hk : takerN z n 6 = none) : simO (wo 195 (f_45 n a l)) (f_150 n t a z) := by
  have hRR : RR l z := ⟨n, t, s, h0, hs, hk⟩
  have hn60 := RX_n h0
  unfold f_45 f_150
  by_cases h1 : isN a
  · rw [if_pos h1, if_pos h1]
    by_cases h2 : n < 60
    · rw [if_pos h2, if_pos (show ¬ n = 60 by omega)]
      have h := RX_thr (w := 0) h0
      have h41 : up2 z 292 41 0 292 41 = 0 := by simp [up2]
      have e310 : z 310 a.toNatClampNeg = up2 z 292 41 0 310 a.toNatClampNeg := by simp [up2]
      rw [e310]
      generalize up2 z 292 41 0 = z0 at h h41 ⊢
      obtain ⟨hm, hma⟩ := isN_lt h1
      have hb := (RX_born (w := 0) h h2 hm).1
      have hu := h.2.2.1 n (Nat.le_refl n) h2
      obtain ⟨u1, u2, u3, u4, u5, u6, u7, u8⟩ := hu
      have e80 : f_80 (n + 1) n a (up2 l 292 19 (i32 (n + 1))) = f_81 (n + 1) n a (up2 (up2 l 292 19 (i32 (n + 1))) 310 a.toNatClampNeg (l 310 a.toNatClampNeg + 1)) := by
        unfold f_80
        rw [if_pos h1]
        simp only [bnd]
        have : up2 l 292 19 (i32 (n + 1)) 310 a.toNatClampNeg = l 310 a.toNatClampNeg := by simp [up2]
        rw [this]
      simp only [bnd]
      rw [e80]
      obtain ⟨s1, p1, p2⟩ := lead_R (bf := none) (a := a) hb (Nat.lt_succ_self n) (by omega) (fun b q => by cases q) (fun q => absurd q (isN_m1 h1)) (Int32.le_trans (by decide) h1.1) h1.2 (by
        refine ⟨by simpa [up2] using u2, by simpa [up2] using u4, ⟨⟨fun _ => by simp [up2], fun _ => by simpa [up2] using u5⟩, fun q => absurd (by simp [up2]) q⟩, by simpa [up2] using u8, by simpa [up2] using u6, by simpa [up2] using u7, by rw [show oI 0 none = (-1 : Int32) from rfl]; simpa [up2] using u3⟩)
      obtain ⟨s2, q1, q2, q3⟩ := settle_R p2 (by omega)
      refine simO_ok ?_ rfl ⟨n + 1, t, s2, q2, q1, q3⟩
      rw [takes41, S_goes (GR_m hb.1) (by omega) h1.2]
      simpa [up2] using h41
    · rw [if_neg h2, if_neg (show ¬ ¬ n = 60 by omega)]
      exact simO_no rfl (by decide) (by simp [up2]; rfl) (RR_thr hRR)
  · rw [if_neg h1, if_neg h1]
    exact simO_no rfl (by decide) (by simp [up2]; rfl) (RR_thr hRR)
theorem st_lt {c : Nat} (h : lineR l z c) : (2 : Int32) ≤ z 311 c ↔ ¬ (z 311 c = 0 ∨ z 311 c = 1) := by
  obtain ⟨_, _, _, q | q | q | q | q | q⟩ := h <;> rw [q.1] <;> decide
theorem S_press {z : Sg} {n t c : Nat} {key : Int32} (hI : MI z) (hc : c < 60) (hL : LOK z c) (j : Nat) : mPress z n t c key 292 j = z 292 j := by
  obtain ⟨m, hm, hnd, hq, _⟩ := hL
  generalize hw : mPress z n t c key = w
  unfold mPress sPress at hw
  rw [ndN_of hm hnd] at hw
  have hdig : sDigit z n t c m (kyN z m) (rwN z c) key 292 j = z 292 j := by
    have hr : MI (sRow z c m key) := MI_up (MI_up hI rfl) rfl
    have er : sRow z c m key 292 j = z 292 j := by simp [sRow, up2]
    generalize hw2 : sDigit z n t c m (kyN z m) (rwN z c) key = w2
    unfold sDigit at hw2
    repeat' split at hw2
    all_goals first
      | (rw [← hw2, S_done hr hc hm hq.1]; exact er)
      | (rw [← hw2, S_fails hr hc hm]; exact er)
      | (rw [← hw2]; exact er)
  repeat' split at hw
  all_goals first
    | (rw [← hw]; exact S_goes hI hc (hI.1 m hm).2 j)
    | (rw [← hw]; exact S_done hI hc hm hq.1 j)
    | (rw [← hw]; exact hdig)
    | (rw [← hw]; simp [sListen, up2]; done)
    | rw [← hw]
theorem sim_press (h0 : RX l z n t t none s) (hs : s < 512) (hk : takerN z n 6 = none) : simO (wo 196 (f_46 n a b l)) (f_153 n t a b z) ∧ (∀ c, c < n → z 311 c < 2 → LOK z c) := by
  have hLK : ∀ c, c < n → z 311 c < 2 → LOK z c := fun c hc hq => by
    have hl := h0.2.1 c hc (by simp)
    have h01 : z 311 c = 0 ∨ z 311 c = 1 := Classical.not_not.mp (fun q => absurd hq (Int32.not_lt.mpr ((st_lt hl).mpr q)))
    exact (UOK_R h0 hc (by rcases h01 with q | q; exact Or.inl q; exact Or.inr (Or.inl q))).2 (by rcases h01 with q | q <;> rw [q] <;> decide)
  refine ⟨?_, hLK⟩
  have hRR : RR l z := ⟨n, t, s, h0, hs, hk⟩
  unfold f_46 f_153
  by_cases h1 : isCl n a
  · rw [if_pos h1, if_pos (show isC n a from h1)]
    obtain ⟨c1, c2⟩ := isCl_lt (RX_n h0) h1
    have hn := RX_n h0
    by_cases h2 : 0 ≤ b ∧ b ≤ 11
    · rw [if_pos h2, if_pos h2]
      obtain ⟨k0, k1, k2⟩ := i32_of (n := 11) (by decide) h2.1 h2.2
      subst k2
      have hl := h0.2.1 _ c1 (by simp)
      have hst := st_lt hl
      by_cases h3 : z 311 a.toNatClampNeg = 0 ∨ z 311 a.toNatClampNeg = 1
      · rw [if_neg (fun q => (hst.mp q) h3), up2_up2, i32_cl (by omega)]
        have h := RX_thr (w := 0) h0
        have h41 : up2 z 292 41 0 292 41 = 0 := by simp [up2]
        have hk0 : takerN (up2 z 292 41 0) n 6 = none := taker_41 hk
        have hLz : LOK (up2 z 292 41 0) a.toNatClampNeg := LOK_thr (hLK _ c1 (by rcases h3 with q | q <;> rw [q] <;> decide))
        have h3' : up2 z 292 41 0 311 a.toNatClampNeg = 0 ∨ up2 z 292 41 0 311 a.toNatClampNeg = 1 := by simpa [up2] using h3
        have e46 : (if l 311 a.toNatClampNeg = 0 then (bnd2 (f_85 a.toNatClampNeg (i32 k0) l) fun v6 l6 => (if v6 = (-2 : Int32) then ((.inl (l6 313 a.toNatClampNeg), l6) : PO) else (bnd (f_81 n a.toNatClampNeg v6 l6) fun l8 => (bnd (f_95 n l8) fun l9 => (.inl (l9 313 a.toNatClampNeg), l9))))) else (if l 311 a.toNatClampNeg = (1 : Int32) then (bnd2 (f_85 a.toNatClampNeg (i32 k0) l) fun v11 l11 => (if v11 = (-2 : Int32) then ((.inl (l11 313 a.toNatClampNeg), l11) : PO) else (bnd (f_81 n a.toNatClampNeg v11 l11) fun l13 => (bnd (f_95 n l13) fun l14 => (.inl (l14 313 a.toNatClampNeg), l14))))) else (.inr 2, l))) = if (f_85 a.toNatClampNeg (i32 k0) l).1 = -2 then (.inl ((f_85 a.toNatClampNeg (i32 k0) l).2 313 a.toNatClampNeg), (f_85 a.toNatClampNeg (i32 k0) l).2) else (.inl ((f_95 n (f_81 n a.toNatClampNeg (f_85 a.toNatClampNeg (i32 k0) l).1 (f_85 a.toNatClampNeg (i32 k0) l).2)) 313 a.toNatClampNeg), f_95 n (f_81 n a.toNatClampNeg (f_85 a.toNatClampNeg (i32 k0) l).1 (f_85 a.toNatClampNeg (i32 k0) l).2)) := by
          rw [hl.1]
          rcases h3 with q | q
          · rw [if_pos q]; rfl
          · rw [if_neg (by rw [q]; decide), if_pos q]; rfl
        rw [e46]
        simp only [bnd]
        have hgo := answer_R (k0 := k0) h c1 k1 h3'
        have s41 := S_press (n := n) (t := t) (key := i32 k0) (GR_m h.1) (by omega : a.toNatClampNeg < 60) hLz 41
        generalize mPress (up2 z 292 41 0) n t a.toNatClampNeg (i32 k0) = z' at hgo s41 ⊢
        generalize f_85 a.toNatClampNeg (i32 k0) l = r at hgo ⊢
        by_cases hv : r.1 = -2
        · rw [if_pos hv]
          rcases hgo with ⟨_, g2, g3⟩ | ⟨z1, m, hm, g1, g2, _⟩
          · have hk' : takerN z' n 6 = none := taker_cg hk0 (fun a _ q => ⟨by rw [← g3 326 a (by decide)]; exact q, g3 327 a (by decide)⟩) (fun k _ _ => ⟨g3 311 k (by decide), g3 320 k (by decide), g3 324 k (by decide)⟩) (g3 292 0 (by decide))
            rw [sTakes_none hk']
            exact simO_ok (s41.trans h41) (g2.2.1 _ c1 (by simp)).eq13 ⟨n, t, s, g2, hs, hk'⟩
          · exact absurd hv (of_m2 g2 g1)
        · rw [if_neg hv]
          obtain ⟨s1, p1, p2⟩ := gon_lead hgo hv c1 (by omega)
          obtain ⟨s2, q1, q2, q3⟩ := settle_R p2 (by omega)
          exact simO_ok (by rw [takes41]; exact s41.trans h41) (q2.2.1 _ c1 (by simp)).eq13 ⟨n, t, s2, q2, q1, q3⟩
      · rw [if_pos (hst.mpr h3), hl.1, if_neg (fun q => h3 (Or.inl q)), if_neg (fun q => h3 (Or.inr q)), up2_up2]
        exact simO_no rfl (by decide) (by simp [up2]; rfl) (RR_thr hRR)
    · rw [if_neg h2, if_neg h2, up2_up2]
      exact simO_no rfl (by decide) (by simp [up2]; rfl) (RR_thr hRR)
  · rw [if_neg h1, if_neg (show ¬ isC n a from h1)]
    exact simO_no rfl (by decide) (by simp [up2]; rfl) (RR_thr hRR)
theorem ready_ends {z : Sg} {c k : Nat} {how : Int32} : sReady (sEnds z c how) k = sEnds (sReady z k) c how := by
  have e : sEnds z c how 292 0 = z 292 0 := by simp [sEnds, up2]
  unfold sReady
  rw [e]
  unfold sEnds
  rw [up2_comm (F := 320) (G := 326) (by decide), up2_comm (F := 313) (G := 326) (by decide), up2_comm (F := 312) (G := 326) (by decide), up2_comm (F := 311) (G := 326) (by decide), up2_comm (F := 320) (G := 328) (by decide), up2_comm (F := 313) (G := 328) (by decide), up2_comm (F := 312) (G := 328) (by decide), up2_comm (F := 311) (G := 328) (by decide), up2_comm (F := 320) (G := 331) (by decide), up2_comm (F := 313) (G := 331) (by decide), up2_comm (F := 312) (G := 331) (by decide), up2_comm (F := 311) (G := 331) (by decide)]
theorem wraps_ends {z : Sg} {c k : Nat} {how : Int32} : sWraps (sEnds z c how) k = sEnds (sWraps z k) c how := by
  have e : sEnds z c how 292 0 = z 292 0 := by simp [sEnds, up2]
  have e2 : sEnds z c how 329 k = z 329 k := by simp [sEnds, up2]
  unfold sWraps
  rw [e, e2]
  split
  · exact ready_ends
  · unfold sEnds
    rw [up2_comm (F := 320) (G := 326) (by decide), up2_comm (F := 313) (G := 326) (by decide), up2_comm (F := 312) (G := 326) (by decide), up2_comm (F := 311) (G := 326) (by decide), up2_comm (F := 320) (G := 330) (by decide), up2_comm (F := 313) (G := 330) (by decide), up2_comm (F := 312) (G := 330) (by decide), up2_comm (F := 311) (G := 330) (by decide), up2_comm (F := 320) (G := 331) (by decide), up2_comm (F := 313) (G := 331) (by decide), up2_comm (F := 312) (G := 331) (by decide), up2_comm (F := 311) (G := 331) (by decide)]
theorem ends41 {z : Sg} {c : Nat} {how : Int32} : sEnds z c how 292 41 = z 292 41 := by simp [sEnds, up2]
theorem go41 {z : Sg} {c k : Nat} : mGo z c k 292 41 = z 292 41 := mGo_rd rfl
/-- whom a call is with, as the model keeps it -/
theorem with_R (h : RX l z n t t none s) : ∀ c, c < n → (z 311 c = 2 ∨ z 311 c = 4) → (z 325 c).toNatClampNeg < 6 ∧ i32 (z 325 c).toNatClampNeg = z 325 c := by
  intro c hc hq
  obtain ⟨k, p1, p2, _⟩ := h.2.2.2.2.1.1 c hc (by simp) hq
  rw [p2, i32_cl (by omega)]
  exact ⟨p1, rfl⟩
theorem holds_R (h : RX l z n t t none s) : ∀ k, k < 6 → z 326 k = 2 → (z 331 k).toNatClampNeg < n ∧ i32 (z 331 k).toNatClampNeg = z 331 k := by
  intro k hk hq
  have hn := RX_n h
  obtain ⟨c, p1, _, p3, _⟩ := h.2.2.2.2.1.2 k hk (Or.inl hq)
  rw [p3, i32_cl (by omega)]
  exact ⟨p1, rfl⟩
theorem sim_hang (h0 : RX l z n t t none s) (hs : s < 512) (hk : takerN z n 6 = none) : simO (wo 197 (f_47 n a l)) (f_154 n t a z) := by
  have hRR : RR l z := ⟨n, t, s, h0, hs, hk⟩
  unfold f_47 f_154
  by_cases h1 : isCl n a
  · rw [if_pos h1, if_pos (show isC n a from h1)]
    obtain ⟨c1, c2⟩ := isCl_lt (RX_n h0) h1
    have hl := h0.2.1 _ c1 (by simp)
    rw [hl.1]
    by_cases h5 : z 311 a.toNatClampNeg = 5
    · rw [if_neg (not_not_intro h5), if_neg (not_not_intro h5), up2_up2]
      exact simO_no rfl (by decide) (by simp [up2]; rfl) (RR_thr hRR)
    · rw [if_pos h5, if_pos h5, up2_up2]
      simp only [bnd]
      have h := RX_thr (w := 0) h0
      have h41 : up2 z 292 41 0 292 41 = 0 := by simp [up2]
      have e311 : up2 z 292 41 0 311 a.toNatClampNeg = z 311 a.toNatClampNeg := by simp [up2]
      have e325 : up2 z 292 41 0 325 a.toNatClampNeg = z 325 a.toNatClampNeg := by simp [up2]
      rw [← e311] at h5 ⊢
      rw [← e325]
      generalize up2 z 292 41 0 = z0 at h h41 h5 ⊢
      have eE : up2 (up2 (up2 (up2 z0 311 a.toNatClampNeg 5) 312 a.toNatClampNeg 1) 313 a.toNatClampNeg (-1)) 320 a.toNatClampNeg (-1) = sEnds z0 a.toNatClampNeg 1 := rfl
      rw [eE]
      rcases close_R (how := 1) h (Nat.le_refl t) c1 (by omega) h5 with ⟨q, s1, p1, p2⟩ | ⟨k, k1, k2, k3, k4, k5, s1, p1, p2⟩
      · rw [if_pos (fun x => q (Or.inl x)), if_pos (fun x => q (Or.inr x))]
        obtain ⟨s2, q1, q2, q3⟩ := settle_R p2 (by omega)
        exact simO_ok (by rw [takes41, ends41]; exact h41) rfl ⟨n, t, s2, q2, q1, q3⟩
      · have h41' : sEnds (mGo z0 a.toNatClampNeg k) a.toNatClampNeg 1 292 41 = 0 := by rw [ends41, go41]; exact h41
        obtain ⟨s2, q1, q2, q3⟩ := settle_R p2 (by omega)
        rw [k2, i32_cl (by omega)]
        by_cases q : z0 311 a.toNatClampNeg = 2
        · rw [if_neg (not_not_intro q), wraps_ends]
          have eg : mGo z0 a.toNatClampNeg k = sWraps z0 k := by unfold mGo; rw [if_pos q]
          rw [eg] at q2 q3 h41'
          exact simO_ok (by rw [takes41]; exact h41') rfl ⟨n, t, s2, q2, q1, q3⟩
        · have q4 := k5.resolve_left q
          rw [if_pos q, if_neg (not_not_intro q4), ready_ends]
          have eg : mGo z0 a.toNatClampNeg k = sReady z0 k := by unfold mGo; rw [if_neg q]
          rw [eg] at q2 q3 h41'
          exact simO_ok (by rw [takes41]; exact h41') rfl ⟨n, t, s2, q2, q1, q3⟩
  · rw [if_neg h1, if_neg (show ¬ isC n a from h1)]
    exact simO_no rfl (by decide) (by simp [up2]; rfl) (RR_thr hRR)
theorem sim_finish (h0 : RX l z n t t none s) (hs : s < 512) (hk : takerN z n 6 = none) : simO (wo 202 (f_52 n a l)) (f_161 n t a z) := by
  have hRR : RR l z := ⟨n, t, s, h0, hs, hk⟩
  have hn := RX_n h0
  unfold f_52 f_161
  by_cases h1 : isA a
  · rw [if_pos h1, if_pos h1]
    have ha := (isA_lt h1).1
    obtain ⟨d1, d2, d3, d4, d5, d6, d7, d8⟩ := h0.2.2.2.1 _ ha
    rw [d1, d5]
    by_cases h2 : z 326 a.toNatClampNeg = 2
    · rw [if_pos h2, if_neg (not_not_intro h2), up2_up2]
      simp only [bnd]
      have h := RX_thr (w := 0) h0
      have h41 : up2 z 292 41 0 292 41 = 0 := by simp [up2]
      have e326 : up2 z 292 41 0 326 a.toNatClampNeg = z 326 a.toNatClampNeg := by simp [up2]
      have e331 : up2 z 292 41 0 331 a.toNatClampNeg = z 331 a.toNatClampNeg := by simp [up2]
      rw [← e326] at h2
      rw [← e331]
      generalize a.toNatClampNeg = m at ha h2 ⊢
      generalize up2 z 292 41 0 = z0 at h h41 h2 ⊢
      obtain ⟨c, p1, _, p3, p4, p5⟩ := h.2.2.2.2.1.2 m ha (Or.inl h2)
      rw [h2, if_pos rfl] at p5
      rw [p3, i32_cl (by omega)]
      have hC : isCl n (i32 c) := ⟨(i32_le (a := 0) (by decide) (by omega)).mpr (Nat.zero_le _), (i32_lt (by omega) (by omega)).mpr p1⟩
      rw [if_pos hC]
      have eE : up2 (up2 (up2 (up2 z0 311 c 5) 312 c 4) 313 c (-1)) 320 c (-1) = sEnds z0 c 4 := rfl
      rw [eE, wraps_ends]
      rcases close_R (how := 4) h (Nat.le_refl t) p1 (by omega) (by rw [p5]; decide) with ⟨q, _⟩ | ⟨k, k1, k2, k3, k4, k5, s1, q1, q2⟩
      · exact absurd (Or.inl p5) q
      · have hkm : k = m := by rw [p4] at k2; exact ((i32_inj (by omega) (by omega)).mp k2).symm
        subst hkm
        have eg : mGo z0 c k = sWraps z0 k := by unfold mGo; rw [if_pos p5]
        have h41' : sEnds (mGo z0 c k) c 4 292 41 = 0 := by rw [ends41, go41]; exact h41
        rw [eg] at q2 h41'
        obtain ⟨s2, r1, r2, r3⟩ := settle_R q2 (by omega)
        exact simO_ok (by rw [takes41]; exact h41') rfl ⟨n, t, s2, r2, r1, r3⟩
    · rw [if_neg h2, if_pos h2, up2_up2]
      exact simO_no rfl (by decide) (by simp [up2]; rfl) (RR_thr hRR)
  · rw [if_neg h1, if_neg h1]
    exact simO_no rfl (by decide) (by simp [up2]; rfl) (RR_thr hRR)
theorem sim_transfer (h0 : RX l z n t t none s) (hs : s < 512) (hk : takerN z n 6 = none) : simO (wo 203 (f_53 n a b l)) (f_162 n t a b z) := by
  have hRR : RR l z := ⟨n, t, s, h0, hs, hk⟩
  have hn := RX_n h0
  unfold f_53 f_162
  have hAi : (0 ≤ a ∧ a ≤ 5) ↔ isA a := isA_iff
  by_cases h1 : isA a
  · rw [if_pos h1, if_pos (hAi.mpr h1)]
    have ha := (isA_lt h1).1
    by_cases h2 : isN b
    · rw [if_pos h2, if_pos h2]
      obtain ⟨d1, d2, d3, d4, d5, d6, d7, d8⟩ := h0.2.2.2.1 _ ha
      rw [d1, d5]
      by_cases h3 : z 326 a.toNatClampNeg = 2
      · rw [if_pos h3, if_neg (not_not_intro h3)]
        simp only [bnd]
        have h := RX_thr (w := 0) h0
        have h41 : up2 z 292 41 0 292 41 = 0 := by simp [up2]
        have e326 : up2 z 292 41 0 326 a.toNatClampNeg = z 326 a.toNatClampNeg := by simp [up2]
        have e331 : up2 z 292 41 0 331 a.toNatClampNeg = z 331 a.toNatClampNeg := by simp [up2]
        rw [← e326] at h3
        rw [← e331]
        generalize a.toNatClampNeg = m at ha h3 ⊢
        generalize up2 z 292 41 0 = z0 at h h41 h3 ⊢
        obtain ⟨c, p1, _, p3, p4, p5⟩ := h.2.2.2.2.1.2 m ha (Or.inl h3)
        rw [h3, if_pos rfl] at p5
        rw [p3, i32_cl (by omega)]
        have hC : isCl n (i32 c) := ⟨(i32_le (a := 0) (by decide) (by omega)).mpr (Nat.zero_le _), (i32_lt (by omega) (by omega)).mpr p1⟩
        rw [if_pos hC]
        have hl := h.2.1 c p1 (by simp)
        obtain ⟨k, k1, k2, k3, k4, hx, r1, r2, _, _⟩ := letGo_R h (Nat.le_refl t) p1 (Or.inl p5)
        have hkm : k = m := by rw [p4] at k2; exact ((i32_inj (by omega) (by omega)).mp k2).symm
        subst hkm
        have eg : mGo z0 c k = sWraps z0 k := by unfold mGo; rw [if_pos p5]
        have rz : ∀ F i, dF F = false → sWraps z0 k F i = z0 F i := fun F i g => by rw [← eg]; exact mGo_rd g
        rw [eg] at hx
        obtain ⟨hb30, hbi⟩ := isN_lt h2
        have e80 : f_80 n c b (f_18 c (f_101 c l)) = f_81 n c b (up2 (f_18 c (f_101 c l)) 310 b.toNatClampNeg (f_101 c l 310 b.toNatClampNeg + 1)) := by
          unfold f_80
          rw [if_pos h2]
          simp only [bnd]
          have : f_18 c (f_101 c l) 310 b.toNatClampNeg = f_101 c l 310 b.toNatClampNeg := by simp [f_18, up2]
          rw [this]
        rw [e80]
        unfold f_18
        generalize hl1 : f_101 c l = l1 at hx r1 r2 ⊢
        generalize hz1 : sWraps z0 k = z1 at hx rz ⊢
        have hx2 : RX (up2 (up2 (up2 l1 420 c 0) 318 c 0) 310 b.toNatClampNeg (l1 310 b.toNatClampNeg + 1)) (up2 (up2 (up2 z1 318 c 0) 320 c (-1)) 310 b.toNatClampNeg (z1 310 b.toNatClampNeg + 1)) n t t (some c) s := by
          have w9 := WE9 hx.1
          refine RX_c hx p1 (fun F i g1 g2 g3 => ?_) (fun F i g2 g3 => ?_) (MI_up (MI_up (MI_dep (d := 0) (GR_m hx.1) (by decide)) rfl) rfl) (fun F i hF => ?_) (fun i hi => ?_) (JR_up (JR_up (JR_up hx.2.2.2.2.2 rfl (by decide) (by decide)) rfl (by decide) (by decide)) rfl (by decide) (by decide))
          · have : ¬ F = 310 := fun q => g2 (Or.inr (Or.inl q))
            have e : up2 (up2 (up2 l1 420 c 0) 318 c 0) 310 b.toNatClampNeg (l1 310 b.toNatClampNeg + 1) F i = up2 (up2 l1 420 c 0) 318 c 0 F i := by
              show (if F = 310 ∧ _ then _ else _) = _
              rw [if_neg (fun q => this q.1)]
            rw [e, up2_c rfl g3, up2_c rfl g3]
          · have : ¬ F = 310 := fun q => g2 (Or.inr (Or.inl q))
            have e : up2 (up2 (up2 z1 318 c 0) 320 c (-1)) 310 b.toNatClampNeg (z1 310 b.toNatClampNeg + 1) F i = up2 (up2 z1 318 c 0) 320 c (-1) F i := by
              show (if F = 310 ∧ _ then _ else _) = _
              rw [if_neg (fun q => this q.1)]
            rw [e, up2_c rfl g3, up2_c rfl g3]
          · have q1 := w9 F i hF
            have q2 := w9 310 b.toNatClampNeg (Or.inr (Or.inl rfl))
            have a1 : ¬ F = 420 := by omega
            have a2 : ¬ F = 318 := by omega
            have a3 : ¬ F = 320 := by omega
            unfold up2
            rw [q1, q2]
            simp [a1, a2, a3]
          · have := GR_p hx.1 i hi
            simpa [up2] using this
        obtain ⟨_, b2, b3, b4, b5⟩ := hl.s2 p5
        have rl : ∀ F, dF F = false → ¬ F = 325 → l1 F c = l F c := fun F g1 g2 => r1 F c g1 (fun q => g2 q.1)
        obtain ⟨s1, q1, q2⟩ := lead_R (bf := none) (a := b) hx2 p1 (by omega) (fun b q => by cases q) (fun q => absurd q (isN_m1 h2)) (Int32.le_trans (by decide) h2.1) h2.2 (by
          refine ⟨?_, by simpa [up2] using r2, ⟨⟨fun _ => by simp [up2], fun _ => by simp [up2]⟩, fun q => absurd (by simp [up2]) q⟩, ?_, ?_, by simp [up2], ?_⟩
          · simp [up2]; rw [rl 312 rfl (by decide)]; exact b2
          · simp [up2]; rw [rl 324 rfl (by decide), r1 292 0 rfl (by simp)]; exact b5
          · simp [up2]; rw [rl 317 rfl (by decide), rz 317 c rfl]; exact hl.2.1
          · rw [show oI 0 none = (-1 : Int32) from rfl]; simp [up2]; rw [rl 313 rfl (by decide)]; exact b3.1)
        obtain ⟨s2, t1, t2, t3⟩ := settle_R q2 (by omega)
        refine simO_ok ?_ rfl ⟨n, t, s2, t2, t1, t3⟩
        rw [takes41, S_goes (GR_m hx2.1) (by omega) h2.2]
        simp [up2]
        rw [rz 292 41 rfl]; exact h41
      · rw [if_neg h3, if_pos h3]
        exact simO_no rfl (by decide) (by simp [up2]; rfl) (RR_thr hRR)
    · rw [if_neg h2, if_neg h2]
      exact simO_no rfl (by decide) (by simp [up2]; rfl) (RR_thr hRR)
  · rw [if_neg h1, if_neg (fun q => h1 (hAi.mp q))]
    exact simO_no rfl (by decide) (by simp [up2]; rfl) (RR_thr hRR)
theorem sim_pass (h0 : RX l z n t t none s) (hs : s < 512) (hk : takerN z n 6 = none) : simO (wo 204 (f_54 n a l)) (mPass n t a z) ∧ (1 ≤ a ∧ a ≤ 100 → i32 t + a ≤ 20000 → t + a.toNatClampNeg ≤ 20000 ∧ okTicks n a.toNatClampNeg t (up2 z 292 41 0)) := by
  have hRR : RR l z := ⟨n, t, s, h0, hs, hk⟩
  have htl := h0.1.2.1
  have hsum : 1 ≤ a ∧ a ≤ 100 → i32 t + a ≤ 20000 → t + a.toNatClampNeg ≤ 20000 := by
    intro q1 q2
    obtain ⟨u, u1, rfl⟩ := i32_of (n := 100) (by decide) (Int32.le_trans (by decide) q1.1) q1.2
    rw [i32_cl (by omega)]
    rw [i32_add] at q2
    exact (i32_le (b := 20000) (by omega) (by decide)).mp q2
  have h := RX_thr (w := 0) h0
  have h41 : up2 z 292 41 0 292 41 = 0 := by simp [up2]
  have hk0 : takerN (up2 z 292 41 0) n 6 = none := taker_41 hk
  constructor
  · unfold f_54 mPass
    by_cases h1 : 1 ≤ a ∧ a ≤ 100
    · rw [if_pos h1, if_pos h1, h0.1.2.2.2.2.1]
      by_cases h2 : i32 t + a ≤ 20000
      · rw [if_pos h2, if_pos h2]
        obtain ⟨p1, l2, s', p2, p3, p4, p5, p6⟩ := ticks_R (u := a.toNatClampNeg) a.toNatClampNeg 0 t s l (up2 z 292 41 0) (hsum h1 h2) h hs hk0 h41
        rw [p2]
        exact simO_ok p6 (p4.1.2.2.2.2.1.trans p4.1.2.2.2.2.2.1.symm) ⟨n, _, s', p4, p3, p5⟩
      · rw [if_neg h2, if_neg h2]
        exact simO_no rfl (by decide) (by simp [up2]; rfl) (RR_thr hRR)
    · rw [if_neg h1, if_neg h1]
      exact simO_no rfl (by decide) (by simp [up2]; rfl) (RR_thr hRR)
  · intro q1 q2
    exact ⟨hsum q1 q2, (ticks_R (u := a.toNatClampNeg) a.toNatClampNeg 0 t s l (up2 z 292 41 0) (hsum q1 q2) h hs hk0 h41).1⟩
end CALLS
