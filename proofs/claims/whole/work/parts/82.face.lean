/-! ===== the face, call by call ===== -/
def RR (l z : Sg) : Prop := ∃ n t s, RX l z n t t none s ∧ s < 512 ∧ takerN z n 6 = none
def simV (r : Int32 × Sg) (z' : Sg) : Prop := z' 292 41 = r.1 ∧ RR r.2 z'
def simO (r : Int32 × Sg) (m : Int32 × Sg) : Prop := m.2 292 41 = r.1 ∧ (r.1 = 0 → r.2 332 0 = m.1) ∧ RR r.2 m.2
theorem takerN_none {z : Sg} {n : Nat} : takerN z n 6 = none ↔ ∀ a, a < 6 → z 326 a = 1 → ∀ j, j < n → ¬ canT z a j := by
  have key : ∀ j, (takerN z n j = none ↔ ∀ a, a < j → ¬ canA z n a) := by
    intro j
    induction j with
    | zero => exact ⟨fun _ a ha => by omega, fun _ => rfl⟩
    | succ j ih =>
      by_cases p : canA z n j
      · constructor
        · intro h
          cases hb : takerN z n j with
          | none =>
            rw [takerN_yes p (fun b h2 => by rw [hb] at h2; cases h2)] at h; cases h
          | some q =>
            by_cases pa : z 328 j < z 328 q
            · rw [takerN_yes p (fun b h2 => by rw [hb] at h2; cases h2; exact pa)] at h; cases h
            · rw [takerN_no2 hb pa, hb] at h; cases h
        · intro h; exact absurd p (h j (Nat.lt_succ_self j))
      · rw [takerN_no1 p, ih]
        constructor
        · intro h a ha
          rcases Nat.lt_succ_iff_lt_or_eq.mp ha with r | rfl
          · exact h a r
          · exact p
        · intro h a ha
          exact h a (Nat.lt_succ_of_lt ha)
  rw [key 6]
  constructor
  · intro h a ha h1 j hj hc
    exact h a ha ⟨h1, fun q => (bestN_none.mp q) j hj hc⟩
  · rintro h a ha ⟨h1, h2⟩
    exact h2 (bestN_none.mpr (h a ha h1))
theorem taker_cg {z z' : Sg} {n : Nat} (h : takerN z n 6 = none) (h1 : ∀ a, a < 6 → z' 326 a = 1 → z 326 a = 1 ∧ z' 327 a = z 327 a) (h2 : ∀ k, k < n → isW z' k → z' 311 k = z 311 k ∧ z' 320 k = z 320 k ∧ z' 324 k = z 324 k) (h3 : z' 292 0 = z 292 0) : takerN z' n 6 = none := by
  rw [takerN_none] at h ⊢
  intro a ha hr j hj hc
  obtain ⟨r1, r2⟩ := h1 a ha hr
  obtain ⟨e1, e2, e3⟩ := h2 j hj hc.1
  refine h a ha r1 j hj ?_
  obtain ⟨c1, c2, c3⟩ := hc
  refine ⟨?_, by rw [← r2, ← e2]; exact c2, by rw [← e1, ← e3, ← h3]; exact c3⟩
  unfold isW at c1 ⊢
  rw [← e1]; exact c1
theorem sTakes_none {z : Sg} {n : Nat} (h : takerN z n 6 = none) : sTakes z n = z := by
  unfold sTakes
  rw [takesN, h]
theorem RR_thr {l z : Sg} {w : Int32} (h : RR l z) : RR l (up2 z 292 41 w) := by
  obtain ⟨n, t, s, h1, h2, h3⟩ := h
  exact ⟨n, t, s, RX_thr h1, h2, taker_cg h3 (fun a _ q => ⟨by simpa [up2] using q, by simp [up2]⟩) (fun k _ _ => ⟨by simp [up2], by simp [up2], by simp [up2]⟩) (by simp [up2])⟩
theorem RR_out {l z : Sg} {v w : Int32} (h : RR l z) : RR (up2 l 332 0 v) (up2 z 292 41 w) := by
  obtain ⟨n, t, s, h1, h2, h3⟩ := h
  exact ⟨n, t, s, RX_out h1, h2, taker_cg h3 (fun a _ q => ⟨by simpa [up2] using q, by simp [up2]⟩) (fun k _ _ => ⟨by simp [up2], by simp [up2], by simp [up2]⟩) (by simp [up2])⟩
theorem RR_o {l z : Sg} {v : Int32} (h : RR l z) : RR (up2 l 332 0 v) z := by
  have := RR_out (v := v) (w := z 292 41) h
  have e : up2 z 292 41 (z 292 41) = z := by
    funext F i
    unfold up2
    split
    · rename_i q; rw [q.1, q.2]
    · rfl
  rw [e] at this
  exact this
/-- an answer, a refusal -/
theorem simO_ok {W : Nat} {v : Int32} {l z : Sg} {b : Int32} (h41 : z 292 41 = 0) (hv : v = b) (h : RR l z) : simO (wo W (.inl v, l)) (b, z) := by
  refine ⟨h41, fun _ => ?_, RR_o h⟩
  show up2 l 332 0 v 332 0 = b
  simp [up2, hv]
theorem simO_no {W x : Nat} {k : Int32} {l z : Sg} {b : Int32} (hk : han W x = k) (h0 : ¬ k = 0) (h41 : z 292 41 = k) (h : RR l z) : simO (wo W (.inr x, l)) (b, z) := by
  refine ⟨h41.trans hk.symm, fun q => ?_, h⟩
  rw [← hk] at h0
  exact absurd q h0
theorem simV_ok {W : Nat} {v : Int32} {l z : Sg} (h41 : z 292 41 = 0) (h : RR l z) : simV (wv W (.inl v, l)) z := ⟨h41, h⟩
theorem simV_no {W x : Nat} {k : Int32} {l z : Sg} (hk : han W x = k) (h41 : z 292 41 = k) (h : RR l z) : simV (wv W (.inr x, l)) z := ⟨by rw [h41, ← hk]; rfl, h⟩
theorem quiet_iff {l z : Sg} {n t t0 s : Nat} (h : RX l z n t t0 none s) : quiet l n ↔ quiet z n := by
  unfold quiet
  constructor
  · intro q k hk
    rw [← (h.2.1 k hk (by simp)).1]; exact q k hk
  · intro q k hk
    rw [(h.2.1 k hk (by simp)).1]; exact q k hk
/-! what is told of a node -/
def ndF (F : Nat) : Bool := (Nat.ble 296 F && Nat.ble F 308) || (Nat.ble 430 F && Nat.blt F 470)
theorem ndF_ne {F : Nat} (h : ndF F = true) : lF F = false ∧ dF F = false ∧ jF F = false ∧ ¬ F = 292 ∧ ¬ F = 410 ∧ ¬ (F = 309 ∨ F = 310 ∨ F = 319) ∧ ¬ F = 293 ∧ ¬ F = 294 ∧ ¬ F = 295 := by
  unfold ndF at h
  simp only [Bool.or_eq_true, Bool.and_eq_true, Nat.ble_eq, Nat.blt_eq] at h
  refine ⟨?_, ?_, ?_, by omega, by omega, by omega, by omega, by omega, by omega⟩
  · cases q : lF F with
    | false => rfl
    | true => unfold lF at q; simp only [Bool.or_eq_true, Bool.and_eq_true, Nat.ble_eq, Nat.blt_eq] at q; omega
  · cases q : dF F with
    | false => rfl
    | true => unfold dF at q; simp only [Bool.and_eq_true, Nat.ble_eq] at q; omega
  · cases q : jF F with
    | false => rfl
    | true => unfold jF at q; simp only [Bool.and_eq_true, Nat.ble_eq] at q; omega
theorem told_R {l l' z z' : Sg} {n t s : Nat} (h : RX l z n t t none s) (hq : quiet z n)
    (hl : ∀ F i, ndF F = false → l' F i = l F i) (hz : ∀ F i, ndF F = false → ¬ F = 292 ∨ ¬ i = 41 → z' F i = z F i)
    (hN : ∀ m, m < 30 → nodeR l' z' m) (hm : MI z') (h8 : ∀ i, i < 300 → -1 ≤ z' 308 i) (he : ∀ F i, F = 306 ∨ F = 307 ∨ F = 308 → l' F i = z' F i) (hu : ∀ m, m < 30 → ∀ i j, i < kyN z' m → j < kyN z' m → z' 307 (10 * m + i) = z' 307 (10 * m + j) → i = j) : RX l' z' n t t none s := by
  obtain ⟨hG, hL, hU, hD, hK, hJ⟩ := h
  obtain ⟨g1, g2, g3, g4, g5, g6, g7, g8, g9, g10, g11, g12, g13, g14⟩ := hG
  have nf : ∀ {F}, (lF F = true ∨ dF F = true ∨ F = 410) → ndF F = false ∧ ¬ F = 292 := fun {F} hF => by
    cases q : ndF F with
    | false =>
      refine ⟨rfl, ?_⟩
      rcases hF with r | r | r
      · exact (lF_ne r).2.2
      · exact (dF_ne r).2.2.1
      · omega
    | true =>
      have := ndF_ne q
      rcases hF with r | r | r
      · rw [this.1] at r; cases r
      · rw [this.2.1] at r; cases r
      · exact absurd r this.2.2.2.2.1
  have e0 : l' 292 0 = l 292 0 := hl _ _ rfl
  have e311 : ∀ k, z' 311 k = z 311 k := fun k => hz _ _ rfl (Or.inl (by decide))
  refine ⟨⟨g1, g2, (hl _ _ rfl).trans g3, (hz _ _ rfl (Or.inr (by decide))).trans g4, e0.trans g5, (hz _ _ rfl (Or.inr (by decide))).trans g6, hm, hN, h8, fun i hi => by rw [hz 319 i rfl (Or.inl (by decide))]; exact g10 i hi, fun F i hF => ?_, fun i hi => by rw [hz 295 i rfl (Or.inl (by decide))]; exact g12 i hi, fun i hi => by rw [hz 294 i rfl (Or.inl (by decide))]; exact g13 i hi, hu⟩, fun k hk _ => ?_, fun k hk hk2 => unb_cg (hU k hk hk2) (fun F hF => hl F k (nf (Or.inl hF)).1) (fun F hF => hz F k (nf (Or.inl hF)).1 (Or.inl (nf (Or.inl hF)).2)) e0, fun a ha => deskR_cg (hD a ha) (fun F hF => hl F a (nf (Or.inr (Or.inl hF))).1) (fun F hF => hz F a (nf (Or.inr (Or.inl hF))).1 (Or.inl (nf (Or.inr (Or.inl hF))).2)), LK_cg hK (fun F c hF _ => ?_) (fun F a hF => ?_), ?_⟩
  · by_cases q : F = 306 ∨ F = 307 ∨ F = 308
    · exact he F i q
    · have : ndF F = false ∧ ¬ F = 292 := by
        have h9 : F = 293 ∨ F = 294 ∨ F = 295 ∨ F = 309 ∨ F = 310 ∨ F = 319 := by
          unfold eqF at hF
          simp only [Bool.or_eq_true, Bool.and_eq_true, Nat.ble_eq, beq_iff_eq] at hF
          omega
        rcases h9 with rfl | rfl | rfl | rfl | rfl | rfl <;> exact ⟨rfl, by decide⟩
      rw [hl F i this.1, hz F i this.1 (Or.inl this.2)]
      exact g11 F i hF
  · have hk5 := hq k hk
    obtain ⟨a1, a2, a3, a4⟩ := hL k hk (by simp)
    have b5 : L5 l z k := by
      rcases a4 with q | q | q | q | q | q
      · rw [q.1] at hk5; exact absurd hk5 (by decide)
      · rw [q.1] at hk5; exact absurd hk5 (by decide)
      · rw [q.1] at hk5; exact absurd hk5 (by decide)
      · rw [q.1] at hk5; exact absurd hk5 (by decide)
      · rw [q.1] at hk5; exact absurd hk5 (by decide)
      · exact q
    have f : ∀ F, lF F = true → l' F k = l F k ∧ z' F k = z F k := fun F hF => ⟨hl F k (nf (Or.inl hF)).1, hz F k (nf (Or.inl hF)).1 (Or.inl (nf (Or.inl hF)).2)⟩
    refine ⟨by rw [(f 311 rfl).1, (f 311 rfl).2]; exact a1, by rw [(f 317 rfl).1, (f 317 rfl).2]; exact a2, by rw [(f 318 rfl).1, (f 318 rfl).2]; exact a3, Or.inr (Or.inr (Or.inr (Or.inr (Or.inr ⟨by rw [(f 311 rfl).2]; exact b5.1, by rw [(f 312 rfl).1, (f 312 rfl).2]; exact b5.2.1, ⟨by rw [(f 313 rfl).1]; exact b5.2.2.1.1, by rw [(f 313 rfl).2]; exact b5.2.2.1.2⟩, by rw [(f 325 rfl).1]; exact b5.2.2.2⟩))))⟩
  · rcases hF with rfl | rfl <;> exact hz _ _ rfl (Or.inl (by decide))
  · rcases hF with rfl | rfl <;> exact hz _ _ rfl (Or.inl (by decide))
  · have jn : ∀ F, 470 ≤ F → F ≤ 474 → ndF F = false := fun F h1 h2 => by
      cases q : ndF F with
      | false => rfl
      | true => unfold ndF at q; simp only [Bool.or_eq_true, Bool.and_eq_true, Nat.ble_eq, Nat.blt_eq] at q; omega
    exact ⟨JB_congr hJ.1 (fun F r h1 h2 => hl F r (jn F h1 h2)) (fun c => hl 410 c rfl), fun k hk => jrn_congr (hJ.2 k hk) (fun F r h1 h2 => hl F r (jn F (by omega) h2)) ⟨hl _ _ rfl, hl _ _ rfl, hl _ _ rfl, hl _ _ rfl⟩⟩
theorem told_RR {l l' z z' : Sg} {n t s : Nat} (h : RX l z n t t none s) (hs : s < 512) (hk : takerN z n 6 = none) (hz : ∀ F i, ndF F = false → ¬ F = 292 ∨ ¬ i = 41 → z' F i = z F i) (hx : RX l' z' n t t none s) : RR l' z' :=
  ⟨n, t, s, hx, hs, taker_cg hk (fun a _ q => ⟨by rw [← hz 326 a rfl (Or.inl (by decide))]; exact q, hz 327 a rfl (Or.inl (by decide))⟩) (fun k _ _ => ⟨hz 311 k rfl (Or.inl (by decide)), hz 320 k rfl (Or.inl (by decide)), hz 324 k rfl (Or.inl (by decide))⟩) (hz 292 0 rfl (Or.inr (by decide)))⟩
