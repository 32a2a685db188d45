/-! ===== rows ===== -/
/-- a call that can be led on from the node m -/
def lpre (l z : Sg) (c m : Nat) : Prop := l 312 c = -1 ∧ l 325 c = -1 ∧ clm l z c ∧ l 324 c ≤ l 292 0 ∧ l 317 c = z 317 c ∧ l 318 c = z 318 c ∧ l 313 c = oI 0 (some m)
/-- what a row, or the time, comes to: the call stays, or it is to be led on -/
def gon (z0 l z' : Sg) (n t t0 c s : Nat) (v : Int32) : Prop := (v = -2 ∧ RX l z' n t t0 none s ∧ ∀ F i, ¬ (F = 314 ∨ F = 315 ∨ F = 316) → z' F i = z0 F i) ∨ (∃ z1 m, m < 30 ∧ -1 ≤ v ∧ v ≤ 29 ∧ z' = sGoes z1 n t c (some m) v ∧ RX l z1 n t t0 (some c) s ∧ lpre l z1 c m)
theorem kp_listen {z : Sg} {c m F i : Nat} (h : ¬ (F = 314 ∨ F = 315 ∨ F = 316)) : sListen z c m F i = z F i := by
  have h1 : ¬ F = 314 := fun q => h (Or.inl q)
  have h3 : ¬ F = 316 := fun q => h (Or.inr (Or.inr q))
  simp [sListen, up2, h1, h3]
theorem kp_row {z : Sg} {c m F i : Nat} {its : Int32} (h : ¬ (F = 314 ∨ F = 315 ∨ F = 316)) : sRow z c m its F i = z F i := by
  have h1 : ¬ F = 314 := fun q => h (Or.inl q)
  have h3 : ¬ F = 316 := fun q => h (Or.inr (Or.inr q))
  simp [sRow, up2, h1, h3]
theorem gon_tr {z0 z1 l z' : Sg} {n t t0 c s : Nat} {v : Int32} (h : gon z1 l z' n t t0 c s v) (h1 : ∀ F i, ¬ (F = 314 ∨ F = 315 ∨ F = 316) → z1 F i = z0 F i) : gon z0 l z' n t t0 c s v := by
  rcases h with ⟨a, b, d⟩ | h
  · exact Or.inl ⟨a, b, fun F i hF => (d F i hF).trans (h1 F i hF)⟩
  · exact Or.inr h
theorem gon_lead {z0 l z' : Sg} {n t t0 c s : Nat} {v : Int32} (h : gon z0 l z' n t t0 c s v) (hv : ¬ v = -2) (hc : c < n) (hs : s + 4 ≤ 1024) : ∃ s', s' ≤ s + 4 ∧ RX (f_81 n c v l) z' n t t0 none s' := by
  rcases h with h | ⟨z1, m, hm, v1, v2, rfl, hx, hp⟩
  · exact absurd h.1 hv
  · exact lead_R hx hc hs (fun b q => by cases q; exact hm) (fun _ q => by cases q) v1 v2 hp
/-- the open call at a node, in the state IN_FLOW, ready for a row -/
def atR (l z : Sg) (c m : Nat) : Prop := l 311 c = 0 ∧ z 311 c = 0 ∧ z 313 c = i32 m ∧ lpre l z c m ∧ rowR l z c m
theorem JR_row {l : Sg} {s c : Nat} {u v w : Int32} (h : JR l s) : JR (f_19 c u (up2 l 315 c v)) s ∧ JR (up2 l 315 c w) s ∧ JR (f_19 c u l) s := by
  unfold f_19
  exact ⟨JR_up (JR_up (JR_up (JR_up h rfl (by decide) (by decide)) rfl (by decide) (by decide)) rfl (by decide) (by decide)) rfl (by decide) (by decide), JR_up h rfl (by decide) (by decide), JR_up (JR_up (JR_up h rfl (by decide) (by decide)) rfl (by decide) (by decide)) rfl (by decide) (by decide)⟩
/-- the call waits anew for a first digit -/
theorem listen_R {l z : Sg} {n t t0 c s m : Nat} (h : RX l z n t t0 (some c) s) (hc : c < n) (hm : m < 30) (hk : z 296 m = 2 ∨ z 296 m = 3) (ha : atR l z c m) : RX (f_19 c (l 292 0 + l 303 m) l) (sListen z c m) n t t0 none s := by
  obtain ⟨a1, a2, a3, ⟨f2, f3, f4, f5, f6, f7, f8⟩, r1, r2, q, p, r3, r4, r5, r6⟩ := ha
  obtain ⟨n1, n2, n3, n4, n5, n6, n7, n8, n9, n10, n11, n12, n13, n14, n15⟩ := GR_n h.1 hm
  have ht : l 292 0 = z 292 0 := h.1.2.2.2.2.1.trans h.1.2.2.2.2.2.1.symm
  have hj := (JR_row (c := c) (u := l 292 0 + l 303 m) (v := 0) (w := 0) h.2.2.2.2.2).2.2
  unfold f_19 at hj ⊢
  unfold sListen
  have hx : RX (up2 (up2 (up2 l 314 c 1) 418 c 0) 316 c (l 292 0 + l 303 m)) (up2 (up2 z 314 c 1) 316 c (z 292 0 + z 303 m)) n t t0 (some c) s :=
    RX_c1 h hc (fun F i _ h2 => by rw [up2_c rfl h2, up2_c rfl h2, up2_c rfl h2]) (fun F i h2 => by rw [up2_c rfl h2, up2_c rfl h2]) (MI_up (MI_up (GR_m h.1) rfl) rfl) hj
  have hrow : rowR (up2 (up2 (up2 l 314 c 1) 418 c 0) 316 c (l 292 0 + l 303 m)) (up2 (up2 z 314 c 1) 316 c (z 292 0 + z 303 m)) c m := ⟨by simp [up2], by simpa [up2] using r2, q, p, by simpa [up2] using r3, by simpa [up2] using r4, r5, r6⟩
  refine RX_fill hx ⟨?_, ?_, ?_, Or.inl ⟨?_, ?_, ?_, ?_, ?_, ?_, m, hm, ?_, ?_, ?_⟩⟩ ?_
  · simpa [up2] using a1.trans a2.symm
  · simpa [up2] using f6
  · simpa [up2] using f7
  · simpa [up2] using a2
  · simpa [up2] using f2
  · simpa [up2] using f3
  · simpa [clm, up2] using f4
  · simpa [up2] using f5
  · simp [up2, ht, n6]
  · simpa [up2] using a3
  · rw [oI_some] at f8; simpa [up2] using f8
  · rcases hk with k | k
    · exact Or.inr (Or.inl ⟨by simpa [up2] using k, hrow⟩)
    · obtain ⟨_, _, a, b, x1, x2, x3, x4, x5⟩ := n13 k
      refine Or.inr (Or.inr ⟨by simpa [up2] using k, hrow, 1, 0, by simp [up2]; rfl, by decide, by decide, by simp [up2]; rfl, by decide, ?_⟩)
      simp only [up2]
      simp
      rw [x5]
      exact (i32_lt (a := 0) (b := b) (by decide) (by omega)).mpr (by omega)
  · simp [up2, a2]
/-- a miss -/
noncomputable def missC (l : Sg) (c m : Nat) : Int32 × Sg := if (l 315 c + 1) < l 305 m then (-2, f_19 c (l 292 0 + l 303 m) (up2 l 315 c (l 315 c + 1))) else (l 302 m, up2 l 315 c (l 315 c + 1))
theorem miss_R {l z : Sg} {n t t0 c s m : Nat} (h : RX l z n t t0 (some c) s) (hc : c < n) (hm : m < 30) (hk : z 296 m = 2 ∨ z 296 m = 3) (ha : atR l z c m) : gon z (missC l c m).2 (sFails z n t c m) n t t0 c s (missC l c m).1 := by
  have ha0 := ha
  obtain ⟨a1, a2, a3, ⟨f2, f3, f4, f5, f6, f7, f8⟩, r1, r2, q, p, r3, r4, r5, r6⟩ := ha
  obtain ⟨n1, n2, n3, n4, n5, n6, n7, n8, n9, n10, n11, n12, n13, n14, n15⟩ := GR_n h.1 hm
  have h29 := (GR_m h.1).1 m hm
  have e1 : l 315 c + 1 = i32 (q + 1) := by rw [r2, r3]; exact i32_add q 1
  have e2 : z 315 c + 1 = i32 (q + 1) := by rw [r3]; exact i32_add q 1
  have hj := (JR_row (c := c) (u := l 292 0 + l 303 m) (v := 0) (w := i32 (q + 1)) h.2.2.2.2.2).2.1
  have hx : RX (up2 l 315 c (i32 (q + 1))) (up2 z 315 c (i32 (q + 1))) n t t0 (some c) s := RX_c1 h hc (fun F i _ h2 => up2_c rfl h2) (fun F i h2 => up2_c rfl h2) (MI_up (GR_m h.1) rfl) hj
  have hp : lpre (up2 l 315 c (i32 (q + 1))) (up2 z 315 c (i32 (q + 1))) c m := ⟨by simpa [up2] using f2, by simpa [up2] using f3, by simpa [clm, up2] using f4, by simpa [up2] using f5, by simpa [up2] using f6, by simpa [up2] using f7, by simpa [up2] using f8⟩
  unfold missC sFails
  rw [e1, e2, n8, r4]
  by_cases b : q + 1 = p
  · subst b
    rw [if_neg (Int32.lt_irrefl), if_pos rfl]
    have hnm : ¬ z 296 m = 7 := by rcases hk with k | k <;> rw [k] <;> decide
    have hn0 : ¬ z 296 m = 0 := by rcases hk with k | k <;> rw [k] <;> decide
    refine Or.inr ⟨up2 z 315 c (i32 (q + 1)), m, hm, ?_, ?_, ?_, hx, hp⟩
    · show -1 ≤ l 302 m
      rw [n3 hn0]; exact n4 hnm
    · show l 302 m ≤ 29
      rw [n3 hn0]; exact h29.2
    · show sGoes _ n t c (some m) (z 302 m) = sGoes _ n t c (some m) (l 302 m)
      rw [n3 hn0]
  · rw [if_pos ((i32_lt (by omega) (by omega)).mpr (by omega)), if_neg (fun x => b ((i32_inj (by omega) (by omega)).mp x))]
    refine Or.inl ⟨rfl, ?_, fun F i hF => by rw [kp_listen hF]; unfold up2; rw [if_neg (fun q => hF (Or.inr (Or.inl q.1)))]⟩
    have ha2 : atR (up2 l 315 c (i32 (q + 1))) (up2 z 315 c (i32 (q + 1))) c m := by
      refine ⟨by simpa [up2] using a1, by simpa [up2] using a2, by simpa [up2] using a3, hp, by simpa [up2] using r1, by simp [up2], q + 1, p, by simp [up2], by simpa [up2] using r4, by omega, r6⟩
    have := listen_R hx hc hm (by simpa [up2] using hk) ha2
    have e3 : up2 l 315 c (i32 (q + 1)) 292 0 = l 292 0 := by simp [up2]
    have e4 : up2 l 315 c (i32 (q + 1)) 303 m = l 303 m := by simp [up2]
    rw [e3, e4] at this
    exact this
/-- keys -/
theorem pkey_first {z : Sg} {m : Nat} {its : Int32} : ∀ {q j : Nat}, j < q → z 307 (10 * m + j) = its → (∀ i, i < q → z 307 (10 * m + i) = its → i = j) → pkey z m its q = some j
  | q + 1, j, hj, h1, h2 => by
    unfold pkey
    by_cases e : z 307 (10 * m + q) = its
    · rw [if_pos e, h2 q (Nat.lt_succ_self q) e]
    · rw [if_neg e]
      refine pkey_first ?_ h1 (fun i hi => h2 i (Nat.lt_succ_of_lt hi))
      rcases Nat.lt_succ_iff_lt_or_eq.mp hj with r | rfl
      · exact r
      · exact absurd h1 e
theorem pkey_no {z : Sg} {m : Nat} {its : Int32} : ∀ {q : Nat}, (∀ i, i < q → ¬ z 307 (10 * m + i) = its) → pkey z m its q = none
  | 0, _ => rfl
  | q + 1, h => by
    unfold pkey
    rw [if_neg (h q (Nat.lt_succ_self q)), pkey_no (fun i hi => h i (Nat.lt_succ_of_lt hi))]
theorem f_10_eq {l z : Sg} {m : Nat} {its : Int32} (h1 : ∀ F i, F = 306 ∨ F = 307 ∨ F = 308 → l F i = z F i) (hk : kyN z m ≤ 10 ∧ z 306 m = i32 (kyN z m)) (hu : ∀ i j, i < kyN z m → j < kyN z m → z 307 (10 * m + i) = z 307 (10 * m + j) → i = j) :
    f_10 m its l = match pkey z m its (kyN z m) with | some j => z 308 (10 * m + j) | none => -2 := by
  have key : ∀ d j, j + d = 10 → j ≤ kyN z m → (∀ i, i < j → ¬ z 307 (10 * m + i) = its) → g_10 m its d j l = match pkey z m its (kyN z m) with | some j => z 308 (10 * m + j) | none => -2 := by
    intro d
    induction d with
    | zero =>
      intro j h hj hi
      have : kyN z m = j := by omega
      rw [g_10, this, pkey_no hi]
      split <;> rfl
    | succ d ih =>
      intro j h hj hi
      rw [g_10, h1 306 m (Or.inl rfl), hk.2, h1 307 _ (Or.inr (Or.inl rfl)), h1 308 _ (Or.inr (Or.inr rfl))]
      by_cases e : kyN z m = j
      · rw [if_pos (by rw [e]; exact Int32.le_refl _), e, pkey_no hi]
      · rw [if_neg (fun x => by have := (i32_le (by omega) (by omega)).mp x; omega)]
        by_cases p : z 307 (10 * m + j) = its
        · rw [if_neg (not_not_intro p), pkey_first (by omega) p (fun i hi2 h3 => hu i j hi2 (by omega) (h3.trans p.symm))]
        · rw [if_pos p]
          refine ih (j + 1) (by omega) (by omega) (fun i hi2 => ?_)
          by_cases e2 : i = j
          · rw [e2]; exact p
          · exact hi i (by omega)
  exact key 10 0 rfl (Nat.zero_le _) (fun i hi => by omega)
theorem bgN_pos {z : Sg} {m : Nat} {its : Int32} : ∀ {q : Nat}, 0 < bgN z m its q ↔ ∃ i, i < q ∧ (z 307 (10 * m + i) / 10 = its ∨ z 307 (10 * m + i) / 100 = its)
  | 0 => ⟨fun h => by simp [bgN] at h, fun ⟨i, hi, _⟩ => by omega⟩
  | q + 1 => by
    have ih := @bgN_pos z m its q
    unfold bgN
    by_cases p : z 307 (10 * m + q) / 10 = its ∨ z 307 (10 * m + q) / 100 = its
    · rw [if_pos p]
      exact ⟨fun _ => ⟨q, Nat.lt_succ_self q, p⟩, fun _ => by omega⟩
    · rw [if_neg p, Nat.add_zero, ih]
      constructor
      · rintro ⟨i, hi, h⟩; exact ⟨i, by omega, h⟩
      · rintro ⟨i, hi, h⟩
        refine ⟨i, ?_, h⟩
        by_cases e : i = q
        · rw [e] at h; exact absurd h p
        · omega
theorem f_11_eq {l z : Sg} {m : Nat} {its : Int32} (h1 : ∀ F i, F = 306 ∨ F = 307 ∨ F = 308 → l F i = z F i) (hk : kyN z m ≤ 10 ∧ z 306 m = i32 (kyN z m)) : f_11 m its l = 0 ↔ ¬ 0 < bgN z m its (kyN z m) := by
  rw [bgN_pos]
  have key : ∀ d j, j + d = 10 → j ≤ kyN z m → (g_11 m its d j l = 0 ↔ ¬ ∃ i, j ≤ i ∧ i < kyN z m ∧ (z 307 (10 * m + i) / 10 = its ∨ z 307 (10 * m + i) / 100 = its)) := by
    intro d
    induction d with
    | zero =>
      intro j h hj
      have e : g_11 m its 0 j l = 0 := by rw [g_11]; split <;> rfl
      rw [e]
      exact ⟨fun _ ⟨i, i1, i2, _⟩ => by omega, fun _ => rfl⟩
    | succ d ih =>
      intro j h hj
      rw [g_11, h1 306 m (Or.inl rfl), hk.2, h1 307 _ (Or.inr (Or.inl rfl))]
      by_cases e : kyN z m = j
      · rw [if_pos (by rw [e]; exact Int32.le_refl _)]
        exact ⟨fun _ ⟨i, i1, i2, _⟩ => by omega, fun _ => rfl⟩
      · rw [if_neg (fun x => by have := (i32_le (by omega) (by omega)).mp x; omega)]
        by_cases p1 : z 307 (10 * m + j) / 10 = its
        · rw [if_pos p1]
          exact ⟨fun x => absurd x (by decide), fun x => absurd ⟨j, Nat.le_refl j, by omega, Or.inl p1⟩ x⟩
        · rw [if_neg p1]
          by_cases p2 : z 307 (10 * m + j) / 100 = its
          · rw [if_neg (not_not_intro p2)]
            exact ⟨fun x => absurd x (by decide), fun x => absurd ⟨j, Nat.le_refl j, by omega, Or.inr p2⟩ x⟩
          · rw [if_pos p2, ih (j + 1) (by omega) (by omega)]
            constructor
            · rintro x ⟨i, i1, i2, i3⟩
              by_cases e2 : i = j
              · rw [e2] at i3; rcases i3 with y | y; exact p1 y; exact p2 y
              · exact x ⟨i, by omega, i2, i3⟩
            · rintro x ⟨i, i1, i2, i3⟩
              exact x ⟨i, by omega, i2, i3⟩
  unfold f_11
  rw [key 10 0 rfl (Nat.zero_le _)]
  constructor
  · rintro x ⟨i, i1, i2⟩; exact x ⟨i, Nat.zero_le i, i1, i2⟩
  · rintro x ⟨i, _, i1, i2⟩; exact x ⟨i, i1, i2⟩
theorem f_21_eq {l : Sg} {c dg : Nat} (h : l 418 c = i32 dg) (hd : dg ≤ 6) : f_21 c l = l 314 c - i32 (10 ^ dg) := by
  have key : ∀ d j, j + d = 6 → j ≤ dg → g_21 c d j (i32 (10 ^ j)) l = l 314 c - i32 (10 ^ dg) := by
    intro d
    induction d with
    | zero =>
      intro j h1 h2
      have : j = dg := by omega
      rw [g_21, this]
      split <;> rfl
    | succ d ih =>
      intro j h1 h2
      rw [g_21, h]
      by_cases e : dg = j
      · rw [if_pos (by rw [e]; exact Int32.le_refl _), e]
      · rw [if_neg (fun x => by have := (i32_le (by omega) (by omega)).mp x; omega)]
        have e3 : i32 (10 ^ j) * 10 = i32 (10 ^ (j + 1)) := by rw [show (10 : Int32) = i32 10 from rfl, i32_mul, Nat.pow_succ]
        rw [e3]
        exact ih (j + 1) (by omega) (by omega)
  exact key 6 0 rfl (Nat.zero_le _)
theorem WEk {l z : Sg} {n t : Nat} (h : GR l z n t) : ∀ F i, F = 306 ∨ F = 307 ∨ F = 308 → l F i = z F i := by
  intro F i hF
  exact h.2.2.2.2.2.2.2.2.2.2.1 F i (by rcases hF with rfl | rfl | rfl <;> rfl)
/-- the row is done as it is -/
theorem endRow_R {l z : Sg} {n t t0 c s m dg : Nat} (h : RX l z n t t0 (some c) s) (hc : c < n) (hm : m < 30) (hk : z 296 m = 2 ∨ z 296 m = 3) (ha : atR l z c m) (hd : z 296 m = 3 → l 418 c = i32 dg ∧ dg ≤ 6) : gon z (f_87 c m l).2 (sDone z n t c m (kyN z m) dg) n t t0 c s (f_87 c m l).1 := by
  have ha0 := ha
  obtain ⟨a1, a2, a3, hp, r1, r2, q, p, r3, r4, r5, r6⟩ := ha
  obtain ⟨n1, n2, n3, n4, n5, n6, n7, n8, n9, n10, n11, n12, n13, n14, n15⟩ := GR_n h.1 hm
  have h29 := (GR_m h.1).1 m hm
  have hmiss := miss_R h hc hm hk ha0
  have e87 : f_87 c m l = if ¬ l 296 m = 2 then (if l 418 c < l 437 m then missC l c m else if l 301 m = -2 then missC (up2 l 317 c (f_21 c l)) c m else (l 301 m, up2 l 317 c (f_21 c l))) else (if f_10 m (l 314 c) l = -2 then missC l c m else (f_10 m (l 314 c) l, l)) := by
    unfold f_87 missC
    simp only [bnd]
    rfl
  rw [e87, n1]
  by_cases k2 : z 296 m = 2
  · rw [if_neg (not_not_intro k2), r1, f_10_eq (WEk h.1) n10 (h.1.2.2.2.2.2.2.2.2.2.2.2.2.2 m hm)]
    unfold sDone
    rw [if_pos k2]
    cases hpk : pkey z m (z 314 c) (kyN z m) with
    | none =>
      simp only [if_true]
      rw [if_neg (fun x => by rw [k2] at x; exact absurd x.1 (by decide))]
      exact hmiss
    | some j =>
      have hj := (pkey_lt hpk).1
      have g1 := h.1.2.2.2.2.2.2.2.2.1 (10 * m + j) (by omega)
      have g2 := (GR_m h.1).2.1 (10 * m + j) (by omega)
      simp only [of_m2 g2 g1, if_false]
      exact Or.inr ⟨z, m, hm, g1, g2, rfl, h, hp⟩
  · have k3 : z 296 m = 3 := hk.resolve_left k2
    rw [if_pos k2]
    obtain ⟨d1, d2⟩ := hd k3
    obtain ⟨b1, b2, a, b, x1, x2, x3, x4, x5⟩ := n13 k3
    have n2' := n2 (by rw [k3]; decide)
    unfold sDone
    rw [if_neg k2, b1, d1, x4]
    by_cases hle : a ≤ dg
    · rw [if_neg (fun x => by have := (i32_lt (by omega) (by omega)).mp x; omega)]
      rw [if_neg (by rw [n2'.1]; exact of_m2 h29.1 n2'.2)]
      show gon z _ (if z 296 m = 3 ∧ i32 a ≤ i32 dg then _ else _) n t t0 c s _
      rw [if_pos ⟨k3, (i32_le (by omega) (by omega)).mpr hle⟩]
      have e21 : f_21 c l = z 314 c - i32 (10 ^ dg) := by rw [f_21_eq d1 d2, r1]
      rw [e21]
      refine Or.inr ⟨up2 z 317 c (z 314 c - i32 (10 ^ dg)), m, hm, ?_, ?_, ?_, ?_, ?_⟩
      · show -1 ≤ l 301 m
        rw [n2'.1]; exact n2'.2
      · show l 301 m ≤ 29
        rw [n2'.1]; exact h29.1
      · show sGoes _ n t c (some m) (z 301 m) = sGoes _ n t c (some m) (l 301 m)
        rw [n2'.1]
      · exact RX_c1 h hc (fun F i _ h2 => up2_c rfl h2) (fun F i h2 => up2_c rfl h2) (MI_up (GR_m h.1) rfl) (JR_up h.2.2.2.2.2 rfl (by decide) (by decide))
      · obtain ⟨f2, f3, f4, f5, f6, f7, f8⟩ := hp
        exact ⟨by simpa [up2] using f2, by simpa [up2] using f3, by simpa [clm, up2] using f4, by simpa [up2] using f5, by simp [up2], by simpa [up2] using f7, by simpa [up2] using f8⟩
    · rw [if_pos ((i32_lt (by omega) (by omega)).mpr (by omega))]
      show gon z _ (if z 296 m = 3 ∧ i32 a ≤ i32 dg then _ else _) n t t0 c s _
      rw [if_neg (fun x => by have := (i32_le (by omega) (by omega)).mp x.2; omega)]
      exact hmiss
