/-! ===== keys told, calls picked up ===== -/
noncomputable def mKey (n : Nat) (x0 x1 x2 : Int32) (l : Sg) : Int32 × Sg := (if isN x0 then (if isT x2 then (if quiet (up2 l 292 41 (0 : Int32)) n then (if ¬ l 296 x0.toNatClampNeg = (2 : Int32) then ((0 : Int32), (up2 (up2 l 292 41 (0 : Int32)) 292 41 (3 : Int32))) else (if 0 ≤ (oI (10 * x0.toNatClampNeg) (pkey l x0.toNatClampNeg x1 (l 306 x0.toNatClampNeg).toNatClampNeg)) then (l 306 x0.toNatClampNeg, (up2 (up2 (up2 (up2 l 292 41 (0 : Int32)) 292 41 (0 : Int32)) 307 ((oI (10 * x0.toNatClampNeg) (pkey l x0.toNatClampNeg x1 (l 306 x0.toNatClampNeg).toNatClampNeg)).toNatClampNeg) x1) 308 ((oI (10 * x0.toNatClampNeg) (pkey l x0.toNatClampNeg x1 (l 306 x0.toNatClampNeg).toNatClampNeg)).toNatClampNeg) x2)) else (if ¬ l 306 x0.toNatClampNeg = (10 : Int32) then ((l 306 x0.toNatClampNeg + (1 : Int32)), (up2 (up2 (up2 (up2 (up2 l 292 41 (0 : Int32)) 292 41 (0 : Int32)) 306 x0.toNatClampNeg (l 306 x0.toNatClampNeg + (1 : Int32))) 307 (10 * x0.toNatClampNeg + (l 306 x0.toNatClampNeg).toNatClampNeg) x1) 308 (10 * x0.toNatClampNeg + (l 306 x0.toNatClampNeg).toNatClampNeg) x2)) else ((0 : Int32), (up2 (up2 l 292 41 (0 : Int32)) 292 41 (3 : Int32)))))) else ((0 : Int32), (up2 (up2 l 292 41 (0 : Int32)) 292 41 (3 : Int32)))) else ((0 : Int32), (up2 l 292 41 (1 : Int32)))) else ((0 : Int32), (up2 l 292 41 (1 : Int32))))
abbrev keyT (a : Int32) : Prop := (10 ≤ a ∧ a ≤ 19) ∨ ((100 ≤ a ∧ a ≤ 199) ∨ (1000 ≤ a ∧ a ≤ 1999))
theorem f_115_key {n t : Nat} {a b c : Int32} {z : Sg} (h : keyT b) : f_115 n t a b c z = mKey n a b c z := by
  unfold f_115 mKey
  by_cases h1 : 10 ≤ b ∧ b ≤ 19
  · rw [if_pos h1]
  by_cases h2 : 100 ≤ b ∧ b ≤ 199
  · rw [if_neg h1, if_pos h2]
  by_cases h3 : 1000 ≤ b ∧ b ≤ 1999
  · rw [if_neg h1, if_neg h2, if_pos h3]
  · rcases h with q | q | q
    · exact absurd q h1
    · exact absurd q h2
    · exact absurd q h3
theorem f_115_no {n t : Nat} {a b c : Int32} {z : Sg} (h : ¬ keyT b) : f_115 n t a b c z = if isN a then (if isT c then (0, up2 z 292 41 2) else (0, up2 z 292 41 1)) else (0, up2 z 292 41 1) := by
  unfold f_115
  rw [if_neg (fun q => h (Or.inl q)), if_neg (fun q => h (Or.inr (Or.inl q))), if_neg (fun q => h (Or.inr (Or.inr q)))]
theorem f_9_eq {l z : Sg} {m : Nat} {x y : Int32} (h1 : ∀ F i, F = 306 ∨ F = 307 ∨ F = 308 → l F i = z F i) (hk : kyN z m ≤ 10 ∧ z 306 m = i32 (kyN z m)) (hu : ∀ i j, i < kyN z m → j < kyN z m → z 307 (10 * m + i) = z 307 (10 * m + j) → i = j) :
    f_9 m x y l = match pkey z m x (kyN z m) with
      | some j => (1, up2 (up2 (up2 l 307 (10 * m + j) x) 308 (10 * m + j) y) 306 m (i32 (kyN z m)))
      | none => if kyN z m = 10 then (0, l) else (1, up2 (up2 (up2 l 307 (10 * m + kyN z m) x) 308 (10 * m + kyN z m) y) 306 m (i32 (kyN z m + 1))) := by
  have key : ∀ d j, j + d = 10 → j ≤ kyN z m → (∀ i, i < j → ¬ z 307 (10 * m + i) = x) → g_9 m x y d j l = match pkey z m x (kyN z m) with
      | some j => (1, up2 (up2 (up2 l 307 (10 * m + j) x) 308 (10 * m + j) y) 306 m (i32 (kyN z m)))
      | none => if kyN z m = 10 then (0, l) else (1, up2 (up2 (up2 l 307 (10 * m + kyN z m) x) 308 (10 * m + kyN z m) y) 306 m (i32 (kyN z m + 1))) := by
    intro d
    induction d with
    | zero =>
      intro j h hj hi
      have hkj : kyN z m = j := by omega
      have hj10 : j = 10 := by omega
      rw [g_9, hkj, pkey_no hi]
      show _ = if j = 10 then _ else _
      rw [if_pos hj10]
      split <;> rfl
    | succ d ih =>
      intro j h hj hi
      rw [g_9, h1 306 m (Or.inl rfl), hk.2, h1 307 _ (Or.inr (Or.inl rfl))]
      by_cases e : kyN z m = j
      · rw [if_pos (by rw [e]; exact Int32.le_refl _), e, pkey_no hi, if_pos ((i32_lt (by omega) (by omega)).mpr (Nat.lt_succ_self j))]
        show _ = if j = 10 then _ else _
        rw [if_neg (by omega)]
      · rw [if_neg (fun q => by have := (i32_le (by omega) (by omega)).mp q; omega)]
        by_cases p : z 307 (10 * m + j) = x
        · rw [if_pos p, pkey_first (by omega) p (fun i hi2 h3 => hu i j hi2 (by omega) (h3.trans p.symm)), if_neg (fun q => by have := (i32_lt (by omega) (by omega)).mp q; omega)]
        · rw [if_neg p]
          refine ih (j + 1) (by omega) (by omega) (fun i hi2 => ?_)
          by_cases e2 : i = j
          · rw [e2]; exact p
          · exact hi i (by omega)
  exact key 10 0 rfl (Nat.zero_le _) (fun i hi => by omega)
/-- a key is told: codes and targets alike, one more key or none -/
theorem key_ok {l z : Sg} {n t s m j k' : Nat} {x y w : Int32} (h : RX l z n t t none s) (hs : s < 512) (hk : takerN z n 6 = none) (hq : quiet z n) (hm : m < 30) (hT : isT y) (hj : j < 10) (hk10 : k' ≤ 10) (hjk : j < k')
    (hnew : (k' = kyN z m ∧ z 307 (10 * m + j) = x) ∨ (j = kyN z m ∧ k' = kyN z m + 1 ∧ ∀ i, i < kyN z m → ¬ z 307 (10 * m + i) = x)) :
    RR (up2 (up2 (up2 l 307 (10 * m + j) x) 308 (10 * m + j) y) 306 m (i32 k')) (up2 (up2 (up2 (up2 z 292 41 w) 306 m (i32 k')) 307 (10 * m + j) x) 308 (10 * m + j) y) := by
  have nl : ∀ F i, ¬ (F = 306 ∨ F = 307 ∨ F = 308) → up2 (up2 (up2 l 307 (10 * m + j) x) 308 (10 * m + j) y) 306 m (i32 k') F i = l F i := fun F i hF => by
    unfold up2
    rw [if_neg (by omega), if_neg (by omega), if_neg (by omega)]
  have nz : ∀ F i, ¬ (F = 306 ∨ F = 307 ∨ F = 308) → ¬ F = 292 ∨ ¬ i = 41 → up2 (up2 (up2 (up2 z 292 41 w) 306 m (i32 k')) 307 (10 * m + j) x) 308 (10 * m + j) y F i = z F i := fun F i hF h2 => by
    unfold up2
    rw [if_neg (by omega), if_neg (by omega), if_neg (by omega), if_neg (by omega)]
  have z306 : ∀ i, up2 (up2 (up2 (up2 z 292 41 w) 306 m (i32 k')) 307 (10 * m + j) x) 308 (10 * m + j) y 306 i = if i = m then i32 k' else z 306 i := fun i => by simp [up2]
  have z307 : ∀ i, up2 (up2 (up2 (up2 z 292 41 w) 306 m (i32 k')) 307 (10 * m + j) x) 308 (10 * m + j) y 307 i = if i = 10 * m + j then x else z 307 i := fun i => by simp [up2]
  have z308 : ∀ i, up2 (up2 (up2 (up2 z 292 41 w) 306 m (i32 k')) 307 (10 * m + j) x) 308 (10 * m + j) y 308 i = if i = 10 * m + j then y else z 308 i := fun i => by simp [up2]
  have l306 : ∀ i, up2 (up2 (up2 l 307 (10 * m + j) x) 308 (10 * m + j) y) 306 m (i32 k') 306 i = if i = m then i32 k' else l 306 i := fun i => by simp [up2]
  have l307 : ∀ i, up2 (up2 (up2 l 307 (10 * m + j) x) 308 (10 * m + j) y) 306 m (i32 k') 307 i = if i = 10 * m + j then x else l 307 i := fun i => by simp [up2]
  have l308 : ∀ i, up2 (up2 (up2 l 307 (10 * m + j) x) 308 (10 * m + j) y) 306 m (i32 k') 308 i = if i = 10 * m + j then y else l 308 i := fun i => by simp [up2]
  generalize up2 (up2 (up2 l 307 (10 * m + j) x) 308 (10 * m + j) y) 306 m (i32 k') = l' at nl l306 l307 l308 ⊢
  generalize up2 (up2 (up2 (up2 z 292 41 w) 306 m (i32 k')) 307 (10 * m + j) x) 308 (10 * m + j) y = z' at nz z306 z307 z308 ⊢
  have nf : ∀ {F}, ndF F = false → ¬ (F = 306 ∨ F = 307 ∨ F = 308) := fun {F} hF q => by rcases q with rfl | rfl | rfl <;> cases hF
  have ky : ∀ k, kyN z' k = if k = m then k' else kyN z k := fun k => by
    unfold kyN
    rw [z306]
    by_cases e : k = m
    · rw [if_pos e, if_pos e, i32_cl (by omega)]
    · rw [if_neg e, if_neg e]
  have hM := GR_m h.1
  have hz' : ∀ F i, ndF F = false → ¬ F = 292 ∨ ¬ i = 41 → z' F i = z F i := fun F i e e2 => nz F i (nf e) e2
  refine told_RR h hs hk hz' (told_R h hq (fun F i e => nl F i (nf e)) hz' (fun k hk => ?_) ⟨fun k hk => ?_, fun i hi => ?_, fun i hi => ?_, fun c hc => ?_⟩ (fun i hi => ?_) (fun F i hF => ?_) (fun k hk i i' hi hi' he => ?_))
  · obtain ⟨n1, n2, n3, n4, n5, n6, n7, n8, n9, n10, n11, n12, n13, n14, n15⟩ := GR_n h.1 hk
    have fl : ∀ F, ¬ (F = 306 ∨ F = 307 ∨ F = 308) → l' F k = l F k := fun F hF => nl F k hF
    have fz : ∀ F, ¬ F = 292 → ¬ (F = 306 ∨ F = 307 ∨ F = 308) → z' F k = z F k := fun F hF hF2 => nz F k hF2 (Or.inl hF)
    unfold nodeR
    rw [fl 296 (by decide), fl 301 (by decide), fl 302 (by decide), fl 303 (by decide), fl 304 (by decide), fl 305 (by decide), l306 k, fl 433 (by decide), fl 437 (by decide), fl 438 (by decide), fl 439 (by decide), fl 440 (by decide), fl 441 (by decide), fl 442 (by decide), fl 443 (by decide), fl 444 (by decide),
      fz 296 (by decide) (by decide), fz 297 (by decide) (by decide), fz 298 (by decide) (by decide), fz 299 (by decide) (by decide), fz 300 (by decide) (by decide), fz 301 (by decide) (by decide), fz 302 (by decide) (by decide), fz 303 (by decide) (by decide), fz 304 (by decide) (by decide), fz 305 (by decide) (by decide), z306 k, ky k]
    refine ⟨n1, n2, n3, n4, n5, n6, n7, n8, ?_, ?_, n11, n12, n13, n14, n15⟩
    · rw [n9]
    · by_cases e : k = m
      · rw [if_pos e, if_pos e]; exact ⟨hk10, rfl⟩
      · rw [if_neg e, if_neg e]; exact n10
  · rw [nz 301 k (by decide) (Or.inl (by decide)), nz 302 k (by decide) (Or.inl (by decide))]; exact hM.1 k hk
  · rw [z308]
    split
    · exact hT.2
    · exact hM.2.1 i hi
  · rw [nz 319 i (by decide) (Or.inl (by decide))]; exact hM.2.2.1 i hi
  · rw [nz 318 c (by decide) (Or.inl (by decide))]; exact hM.2.2.2 c hc
  · rw [z308]
    split
    · exact hT.1
    · exact h.1.2.2.2.2.2.2.2.2.1 i hi
  · have hW := WEk h.1 F i hF
    rcases hF with rfl | rfl | rfl
    · rw [l306, z306, hW]
    · rw [l307, z307, hW]
    · rw [l308, z308, hW]
  · rw [ky] at hi hi'
    rw [z307, z307] at he
    have hu := h.1.2.2.2.2.2.2.2.2.2.2.2.2.2 k hk
    by_cases e : k = m
    · subst e
      rw [if_pos rfl] at hi hi'
      rcases hnew with ⟨q1, q2⟩ | ⟨q1, q2, q3⟩
      · have old : ∀ i, i < k' → (if 10 * k + i = 10 * k + j then x else z 307 (10 * k + i)) = z 307 (10 * k + i) := fun i _ => by
          split
          · rename_i r
            rw [r]; exact q2.symm
          · rfl
        rw [old i hi, old i' hi'] at he
        exact hu i i' (by omega) (by omega) he
      · by_cases r1 : i = j
        · by_cases r2 : i' = j
          · omega
          · rw [if_pos (by omega), if_neg (by omega)] at he
            exact absurd he.symm (q3 i' (by omega))
        · by_cases r2 : i' = j
          · rw [if_neg (by omega), if_pos (by omega)] at he
            exact absurd he (q3 i (by omega))
          · rw [if_neg (by omega), if_neg (by omega)] at he
            exact hu i i' (by omega) (by omega) he
    · rw [if_neg e] at hi hi'
      have b1 := (GR_n h.1 hk).2.2.2.2.2.2.2.2.2.1.1
      rw [if_neg (by omega), if_neg (by omega)] at he
      exact hu i i' hi hi' he
theorem pkey_none_no {z : Sg} {m : Nat} {its : Int32} : ∀ {q : Nat}, pkey z m its q = none → ∀ i, i < q → ¬ z 307 (10 * m + i) = its
  | q + 1, h, i, hi => by
    unfold pkey at h
    split at h
    · cases h
    · rename_i h2
      by_cases e : i = q
      · rw [e]; exact h2
      · exact pkey_none_no h i (by omega)
theorem sim_key {l z : Sg} {n t s : Nat} {a b c : Int32} (h : RX l z n t t none s) (hs : s < 512) (hk : takerN z n 6 = none) : simO (wo 184 (f_33 n a b c l)) (f_115 n t a b c z) := by
  have hRR : RR l z := ⟨n, t, s, h, hs, hk⟩
  unfold f_33
  by_cases h1 : isN a
  · rw [if_pos h1]
    by_cases h2 : isT c
    · rw [if_pos h2]
      by_cases h3 : keyT b
      · rw [if_pos h3, f_115_key h3]
        unfold mKey
        rw [if_pos h1, if_pos h2]
        by_cases h4 : quiet z n
        · rw [if_pos ((quiet_iff h).mpr h4), if_pos (quiet41.mpr h4)]
          obtain ⟨hm, _⟩ := isN_lt h1
          have hN := GR_n h.1 hm
          rw [hN.1]
          by_cases h5 : z 296 a.toNatClampNeg = 2
          · rw [if_pos h5, if_neg (not_not_intro h5)]
            have hky := hN.2.2.2.2.2.2.2.2.2.1
            rw [f_9_eq (WEk h.1) hky (h.1.2.2.2.2.2.2.2.2.2.2.2.2.2 _ hm)]
            have ek : (z 306 a.toNatClampNeg).toNatClampNeg = kyN z a.toNatClampNeg := rfl
            rw [ek]
            generalize a.toNatClampNeg = m at hm hky h5 ⊢
            cases hp : pkey z m b (kyN z m) with
            | some j =>
              obtain ⟨hj1, hj2⟩ := pkey_lt hp
              have e0 : oI (10 * m) (some j) = i32 (10 * m + j) := rfl
              rw [e0, if_pos (show (0 : Int32) ≤ i32 (10 * m + j) from (i32_le (a := 0) (by decide) (by omega)).mpr (Nat.zero_le _)), i32_cl (by omega), up2_up2]
              simp only [bnd2]
              rw [if_pos (show ¬ (1 : Int32) = 0 by decide)]
              have := key_ok (w := 0) (k' := kyN z m) h hs hk h4 hm h2 (by omega) hky.1 hj1 (Or.inl ⟨rfl, hj2⟩)
              have e1 : up2 (up2 z 292 41 0) 306 m (i32 (kyN z m)) = up2 z 292 41 0 := by
                rw [← hky.2]
                funext F i
                unfold up2
                by_cases q : F = 306 ∧ i = m
                · rw [if_pos q, q.1, q.2, if_neg (by simp)]
                · rw [if_neg q]
              rw [e1] at this
              exact simO_ok (by simp [up2]) (by simpa [up2] using hky.2.symm) this
            | none =>
              have e0 : ¬ (0 : Int32) ≤ oI (10 * m) none := by show ¬ (0 : Int32) ≤ -1; decide
              rw [if_neg e0]
              have hno := pkey_none_no hp
              by_cases h10 : kyN z m = 10
              · have e1 : z 306 m = 10 := by rw [hky.2, h10]; rfl
                rw [if_neg (not_not_intro e1)]
                simp only [bnd2]
                rw [if_pos h10]
                rw [if_neg (by simp), up2_up2]
                exact simO_no rfl (by decide) (by simp [up2]; rfl) (RR_thr hRR)
              · have e1 : ¬ z 306 m = 10 := by
                  rw [hky.2]
                  exact fun q => h10 ((i32_inj (b := 10) (by omega) (by decide)).mp q)
                rw [if_pos e1, up2_up2]
                simp only [bnd2]
                rw [if_neg h10]
                rw [if_pos (show ¬ (1 : Int32) = 0 by decide)]
                have e2 : z 306 m + 1 = i32 (kyN z m + 1) := by rw [hky.2]; exact i32_add _ 1
                rw [e2]
                have := key_ok (w := 0) (k' := kyN z m + 1) h hs hk h4 hm h2 (by omega) (by omega) (Nat.lt_succ_self _) (Or.inr ⟨rfl, rfl, hno⟩)
                exact simO_ok (by simp [up2]) (by simp [up2]) this
          · rw [if_neg h5, if_pos h5, up2_up2]
            exact simO_no rfl (by decide) (by simp [up2]; rfl) (RR_thr hRR)
        · rw [if_neg (fun q => h4 ((quiet_iff h).mp q)), if_neg (fun q => h4 (quiet41.mp q)), up2_up2]
          exact simO_no rfl (by decide) (by simp [up2]; rfl) (RR_thr hRR)
      · rw [if_neg h3, f_115_no h3, if_pos h1, if_pos h2]
        exact simO_no rfl (by decide) (by simp [up2]; rfl) (RR_thr hRR)
    · have e : f_115 n t a b c z = (0, up2 z 292 41 1) := by
        by_cases h3 : keyT b
        · rw [f_115_key h3]; unfold mKey; rw [if_pos h1, if_neg h2]
        · rw [f_115_no h3, if_pos h1, if_neg h2]
      rw [if_neg h2, e]
      exact simO_no rfl (by decide) (by simp [up2]; rfl) (RR_thr hRR)
  · have e : f_115 n t a b c z = (0, up2 z 292 41 1) := by
      by_cases h3 : keyT b
      · rw [f_115_key h3]; unfold mKey; rw [if_neg h1]
      · rw [f_115_no h3, if_neg h1]
    rw [if_neg h1, e]
    exact simO_no rfl (by decide) (by simp [up2]; rfl) (RR_thr hRR)
/-- a line and a desk have changed -/
theorem RX_cd {l l' z z' : Sg} {n t t0 a c s s' : Nat} (h : RX l z n t t0 none s)
    (hl : ∀ F i, jF F = false → (lF F = true → ¬ i = c) → (dF F = true → ¬ i = a) → l' F i = l F i) (hz : ∀ F i, (lF F = true → ¬ i = c) → (dF F = true → ¬ i = a) → z' F i = z F i) (hm : MI z') (hc : c < n) (hlin : lineR l' z' c) (hd : deskR l' z' t0 a) (hK : LK z' n none) (hJ : JR l' s') : RX l' z' n t t0 none s' := by
  obtain ⟨hG, hL, hU, hD, _, _⟩ := h
  have xf : ∀ {F}, exF F = false → lF F = false ∧ dF F = false ∧ jF F = false := fun {F} hF => ⟨(exF_ne hF).2.2.1, (exF_ne hF).2.2.2, (exF_ne hF).1⟩
  have no : ∀ {P : Prop} {b : Bool}, b = false → b = true → P := fun h1 h2 => by rw [h1] at h2; cases h2
  have dl : ∀ {F}, lF F = true → dF F = false := fun {F} e => by
    cases q : dF F with
    | false => rfl
    | true => have := (dF_ne q).2.2.2; rw [this] at e; cases e
  refine ⟨GR_cg hG (fun F i hF _ => hl F i (xf hF).2.2 (fun q => no (xf hF).1 q) (fun q => no (xf hF).2.1 q)) (fun F i hF _ => hz F i (fun q => no (xf hF).1 q) (fun q => no (xf hF).2.1 q)) hm (fun F i hF => ?_) (fun i hi => ?_), fun k hk _ => ?_, fun k hk hk2 => ?_, fun k hk => ?_, hK, hJ⟩
  · have e : jF F = false ∧ lF F = false ∧ dF F = false := by rcases hF with rfl | rfl | rfl <;> exact ⟨rfl, rfl, rfl⟩
    rw [hl F i e.1 (fun q => no e.2.1 q) (fun q => no e.2.2 q), hz F i (fun q => no e.2.1 q) (fun q => no e.2.2 q)]
    exact WE9 hG F i hF
  · rw [hz 319 i (fun q => by cases q) (fun q => by cases q)]; exact GR_p hG i hi
  · by_cases e : k = c
    · rw [e]; exact hlin
    · refine lineR_cg (hL k hk (by simp)) (fun F hF => hl F k (lF_ne hF).1 (fun _ => e) (fun q => no (dl hF) q)) (fun F hF => hz F k (fun _ => e) (fun q => no (dl hF) q)) (hl 292 0 rfl (fun q => by cases q) (fun q => by cases q)) (fun F m hF => ?_)
      rcases hF with rfl | rfl | rfl <;> exact hz _ _ (fun q => by cases q) (fun q => by cases q)
  · have e : ¬ k = c := by omega
    exact unb_cg (hU k hk hk2) (fun F hF => hl F k (lF_ne hF).1 (fun _ => e) (fun q => no (dl hF) q)) (fun F hF => hz F k (fun _ => e) (fun q => no (dl hF) q)) (hl 292 0 rfl (fun q => by cases q) (fun q => by cases q))
  · by_cases e : k = a
    · rw [e]; exact hd
    · exact deskR_cg (hD k hk) (fun F hF => hl F k (dF_ne hF).1 (fun q => no (dF_ne hF).2.2.2 q) (fun _ => e)) (fun F hF => hz F k (fun q => no (dF_ne hF).2.2.2 q) (fun _ => e))
theorem turn_no {l : Sg} {s c : Nat} {st : Int32} (h : JR l s) (hc : c < 60) (hw : ¬ isW l c) (hst : ¬ (st = 1 ∨ st = 3)) : JR (f_92 c st l) s ∧ f_92 c st l = up2 l 311 c st := by
  have hn : f_13 c l = 0 := f_13_eq.mpr hw
  have hw2 : ¬ isW (up2 l 311 c st) c := by unfold isW; simpa [up2] using hst
  have hn2 : f_13 c (up2 l 311 c st) = 0 := f_13_eq.mpr hw2
  have e : f_92 c st l = up2 l 311 c st := by unfold f_92; rw [if_pos hn, if_pos hn2]
  rw [e]
  refine ⟨(JX_up (h.x (c := c)) rfl (by decide) (Or.inl rfl)).r ⟨fun q => absurd q hw2, fun _ => ?_⟩, rfl⟩
  rw [opn_congr (l := l) (fun r _ => by simp [up2])]
  exact (h.2 c hc).2 hw
theorem sim_pick {l z : Sg} {n t s : Nat} {a : Int32} (h0 : RX l z n t t none s) (hs : s < 512) (hk : takerN z n 6 = none) : simO (wo 198 (f_48 n a l)) (f_155 n t a z) := by
  have hRR : RR l z := ⟨n, t, s, h0, hs, hk⟩
  have hn := RX_n h0
  unfold f_48 f_155
  by_cases h1 : isCl n a
  · rw [if_pos h1, if_pos (show isC n a from h1)]
    obtain ⟨c1, c2⟩ := isCl_lt (RX_n h0) h1
    have hl0 := h0.2.1 _ c1 (by simp)
    rw [hl0.1]
    by_cases h4 : z 311 a.toNatClampNeg = 4
    · rw [if_pos h4, if_neg (not_not_intro h4), up2_up2]
      simp only [bnd]
      have h := RX_thr (w := 0) h0
      have h41 : up2 z 292 41 0 292 41 = 0 := by simp [up2]
      have hk0 : takerN (up2 z 292 41 0) n 6 = none := taker_41 hk
      have e311 : up2 z 292 41 0 311 a.toNatClampNeg = z 311 a.toNatClampNeg := by simp [up2]
      have e325 : up2 z 292 41 0 325 a.toNatClampNeg = z 325 a.toNatClampNeg := by simp [up2]
      rw [← e311] at h4
      rw [← e325]
      generalize up2 z 292 41 0 = z0 at h h41 hk0 h4 ⊢
      generalize a.toNatClampNeg = c at c1 h4 ⊢
      have hl := h.2.1 c c1 (by simp)
      obtain ⟨_, b2, b3, b4, b5, b6, b7, b8, b9, b10⟩ := hl.s4 h4
      obtain ⟨k, k1, k2, k3, k4⟩ := h.2.2.2.2.1.1 c c1 (by simp) (Or.inr h4)
      rw [h4, if_neg (show ¬ (4 : Int32) = 2 by decide)] at k4
      obtain ⟨t2, t3'⟩ := turn_no (st := 2) (c := c) h.2.2.2.2.2 (by omega) (by unfold isW; rw [hl.1, h4]; decide) (by decide)
      have t3 : ∀ F i, jF F = false → f_92 c 2 l F i = up2 l 311 c 2 F i := fun F i _ => by rw [t3']
      clear t3'
      have e4 : f_92 c 2 l 325 c = i32 k := by rw [t3 325 c rfl]; simp [up2]; rw [b4]; exact k2
      rw [e4, k2, i32_cl (by omega)]
      have hA : isA (i32 k) := ⟨(i32_le (a := 0) (by decide) (by omega)).mpr (Nat.zero_le _), (i32_lt (b := 6) (by omega) (by decide)).mpr k1⟩
      rw [if_pos hA]
      generalize f_92 c 2 l = lt at t2 t3 e4 ⊢
      obtain ⟨d1, d2, d3, d4, d5, d6, d7, d8⟩ := h.2.2.2.1 k k1
      have hx : RX (up2 lt 326 k 2) (up2 (up2 (up2 z0 311 c 2) 320 c (-1)) 326 k 2) n t t none s := by
        have rl : ∀ F i, jF F = false → ¬ F = 311 → ¬ F = 326 → up2 lt 326 k 2 F i = l F i := fun F i g1 g2 g3 => by
          unfold up2
          rw [if_neg (fun q => g3 q.1), t3 F i g1]
          unfold up2
          rw [if_neg (fun q => g2 q.1)]
        refine RX_cd (a := k) (c := c) h (fun F i g1 g2 g3 => ?_) (fun F i g2 g3 => ?_) (MI_up (MI_up (MI_up (GR_m h.1) rfl) rfl) rfl) c1 ⟨?_, ?_, ?_, Or.inr (Or.inr (Or.inl ⟨?_, ?_, ⟨?_, ?_⟩, ?_, ?_⟩))⟩ ⟨?_, ?_, ?_, ?_, ?_, ?_, ?_, ?_⟩ ⟨fun q hq _ hq2 => ?_, fun q hq hq2 => ?_⟩ (JR_up t2 rfl (by decide) (by decide))
        · rw [up2_d rfl g3, t3 F i g1, up2_c rfl g2]
        · rw [up2_d rfl g3, up2_c rfl g2, up2_c rfl g2]
        · have := t3 311 c rfl
          simp [up2] at this ⊢
          exact this
        · rw [rl 317 c rfl (by decide) (by decide)]; simpa [up2] using hl.2.1
        · rw [rl 318 c rfl (by decide) (by decide)]; simpa [up2] using hl.2.2.1
        · simp [up2]
        · rw [rl 312 c rfl (by decide) (by decide)]; exact b2
        · rw [rl 313 c rfl (by decide) (by decide)]; exact b3.1
        · simpa [up2] using b3.2
        · rw [rl 325 c rfl (by decide) (by decide)]; simpa [up2] using b4
        · rw [rl 324 c rfl (by decide) (by decide), rl 292 0 rfl (by decide) (by decide)]; exact b7
        · simp [up2]
        · rw [rl 327 k rfl (by decide) (by decide)]; simpa [up2] using d2
        · rw [rl 328 k rfl (by decide) (by decide)]; simpa [up2] using d3
        · rw [rl 329 k rfl (by decide) (by decide)]; simpa [up2] using d4
        · rw [rl 331 k rfl (by decide) (by decide)]; simpa [up2] using d5
        · intro q; simp [up2] at q
        · simpa [up2] using d7
        · exact ⟨2, by decide, by simp [up2]; rfl⟩
        · by_cases e : q = c
          · subst e
            exact ⟨k, k1, by simpa [up2] using k2, by simpa [up2] using k3, by simp [up2]⟩
          · have eq1 : up2 (up2 (up2 z0 311 c 2) 320 c (-1)) 326 k 2 311 q = z0 311 q := by simp [up2, e]
            rw [eq1] at hq2 ⊢
            obtain ⟨k', p1, p2, p3, p4⟩ := h.2.2.2.2.1.1 q hq (by simp) hq2
            have ek : ¬ k' = k := by
              rintro rfl
              rw [k3] at p3
              exact e ((i32_inj (by omega) (by omega)).mp p3).symm
            exact ⟨k', p1, by simpa [up2] using p2, by simpa [up2] using p3, by simp [up2, ek]; exact p4⟩
        · by_cases e : q = k
          · subst e
            exact ⟨c, c1, by simp, by simpa [up2] using k3, by simpa [up2] using k2, by simp [up2]⟩
          · have eq1 : up2 (up2 (up2 z0 311 c 2) 320 c (-1)) 326 k 2 326 q = z0 326 q := by simp [up2, e]
            rw [eq1] at hq2 ⊢
            obtain ⟨c', p1, p2, p3, p4, p5⟩ := h.2.2.2.2.1.2 q hq hq2
            have ec : ¬ c' = c := by
              rintro rfl
              rw [k2] at p4
              exact e ((i32_inj (by omega) (by omega)).mp p4).symm
            exact ⟨c', p1, by simp, by simpa [up2] using p3, by simpa [up2] using p4, by simp [up2, ec]; exact p5⟩
      have hk' : takerN (up2 (up2 (up2 z0 311 c 2) 320 c (-1)) 326 k 2) n 6 = none := by
        refine taker_cg hk0 (fun q _ hq => ?_) (fun q _ hq => ?_) (by simp [up2])
        · by_cases e : q = k
          · subst e; simp [up2] at hq
          · simp [up2, e] at hq
            exact ⟨hq, by simp [up2]⟩
        · by_cases e : q = c
          · subst e
            unfold isW at hq
            simp [up2] at hq
          · simp [up2, e]
      rw [sTakes_none hk']
      refine simO_ok (by simpa [up2] using h41) ?_ ⟨n, t, s, hx, hs, hk'⟩
      simpa [up2] using k2.symm
    · rw [if_neg h4, if_pos h4, up2_up2]
      exact simO_no rfl (by decide) (by simp [up2]; rfl) (RR_thr hRR)
  · rw [if_neg h1, if_neg (show ¬ isC n a from h1)]
    exact simO_no rfl (by decide) (by simp [up2]; rfl) (RR_thr hRR)
