/-! ===== what the constructors make ===== -/
theorem ret_run {n mi rc rs pc : Nat} {ml : ML} {h : MH} {E : ME} {o : MO} (hE : mEnt mi pc = some E) (hp : stepP (mNL mi) E ml [] = none) (hh : stepH mi true rc rs E [] h = none) (hc : stepC (mCls mi) E [] h = none) (hr : stepR mi pc rc rs true E [] = some o) : run (n + 1) mi rc rs true pc ml [] h = some (o, h) := by
  simp only [run, hE, hp, hh, hc, hr]
theorem loop_run {mi N st : Nat} {q : Nat → CF} {r : MO × MH} (hq : ∀ i, i < N → cfe (chunk mi st (q i)) (q (i + 1)) = true) {n : Nat} (hn : 200 ≤ n) (hr : runQ n mi (q N) = some r) : ∀ k, k ≤ N → runQ (n + st * k) mi (q (N - k)) = some r := by
  intro k
  induction k with
  | zero => intro _; exact hr
  | succ k ih =>
    intro hk
    have h1 := ih (by omega)
    have h2 := cfe_eq (hq (N - (k + 1)) (by omega))
    rw [show N - (k + 1) + 1 = N - k by omega] at h2
    have h3 := chunk_run h2 (show 200 ≤ n + st * k by omega) h1
    rw [show n + st * (k + 1) = n + st * k + st by rw [Nat.mul_succ, Nat.add_assoc]]
    exact h3
theorem fresh_x : run 2000 30 300 8000 true 0 (lv_args 0 [.ref 0]) [] [(6, dflt 6)] = some (.inl none, hX 30 60 6) := by
  have h0 : runQ 200 30 (9, 125, 155, [(1, .int 6), (0, .ref 0)], [], hX 30 60 6) = some (.inl none, hX 30 60 6) := ret_run (n := 199) (E := (.return_, 156, [], 0)) rfl rfl rfl rfl rfl
  have h1 := chunk_run (cfe_eq ini_Cz) (by decide) h0
  have h2 := loop_run (q := qC) ini_C (by decide) h1 6 (by decide)
  have h3 := chunk_run (cfe_eq ini_BC) (by decide) h2
  have h4 := loop_run (q := qB) ini_B (by decide) h3 60 (by decide)
  have h5 := chunk_run (cfe_eq ini_AB) (by decide) h4
  have h6 := loop_run (q := qA) ini_A (by decide) h5 30 (by decide)
  have h7 := chunk_run (cfe_eq ini_0) (by decide) h6
  exact run_le h7 (by decide)
/-- a heap of the shape, and the numbers in it -/
def chV (k : Nat) : List Value → Nat → Bool
  | [], _ => true
  | v :: vs, j => (match refK k j, v with
    | some r, .ref r' => Nat.beq r r'
    | none, .int _ => !(Nat.beq (tagK k) 102)
    | none, .long x => Nat.beq (tagK k) 102 && decide (x = 0)
    | _, _ => false) && chV k vs (j + 1)
def chH : MH → Nat → Bool
  | [], k => Nat.beq k 292
  | c :: cs, k => (Nat.beq c.1 (tagK k) && (Nat.beq c.2.length (lenK k) && chV k c.2 0)) && chH cs (k + 1)
def gOf (h : MH) : Sg := fun k j => vi (((h[k]?).getD (0, [])).2.getD j .null)
def okAt (k j : Nat) (v : Value) : Prop := match refK k j with
  | some r => v = .ref r
  | none => if tagK k = 102 then v = .long 0 else ∃ x, v = .int x
theorem chV_spec {k : Nat} : ∀ {vs : List Value} {i : Nat}, chV k vs i = true → ∀ j v, vs[j]? = some v → okAt k (i + j) v
  | v0 :: vs, i, h, j, v, hj => by
    simp only [chV, Bool.and_eq_true] at h
    cases j with
    | zero =>
      cases hj
      have h1 := h.1
      unfold okAt
      split at h1
      · rename_i r r' hr
        rw [Nat.add_zero, hr]
        exact congrArg Value.ref (Nat.beq_eq.mp h1).symm
      · rename_i x hr
        rw [Nat.add_zero, hr]
        simp only [Bool.not_eq_true'] at h1
        have : ¬ tagK k = 102 := fun z => by rw [z] at h1; cases h1
        simp only [if_neg this]
        exact ⟨x, rfl⟩
      · rename_i x hr
        rw [Nat.add_zero, hr]
        rw [Bool.and_eq_true, decide_eq_true_eq] at h1
        simp only [if_pos (Nat.beq_eq.mp h1.1)]
        rw [h1.2]
      · cases h1
    | succ j =>
      have := chV_spec h.2 j v (by simpa using hj)
      rwa [show i + 1 + j = i + (j + 1) by omega] at this
theorem chH_spec : ∀ {h : MH} {k : Nat}, chH h k = true → k + h.length = 292 ∧ ∀ i c, h[i]? = some c → c.1 = tagK (k + i) ∧ c.2.length = lenK (k + i) ∧ ∀ j v, c.2[j]? = some v → okAt (k + i) j v
  | [], k, h => ⟨Nat.beq_eq.mp h, fun i c hc => by simp at hc⟩
  | c0 :: cs, k, h => by
    simp only [chH, Bool.and_eq_true, Nat.beq_eq] at h
    obtain ⟨⟨h1, h2, h3⟩, h4⟩ := h
    obtain ⟨i1, i2⟩ := chH_spec h4
    refine ⟨by rw [List.length_cons]; omega, fun i c hc => ?_⟩
    cases i with
    | zero =>
      cases hc
      refine ⟨h1, h2, fun j v hj => ?_⟩
      have := chV_spec h3 j v hj
      rwa [Nat.zero_add] at this
    | succ i =>
      have := i2 i c (by simpa using hc)
      rwa [show k + 1 + i = k + (i + 1) by omega] at this
theorem gOf_heap {h : MH} (hc : chH h 0 = true) : heapOf (gOf h) = h := by
  obtain ⟨hl, hs⟩ := chH_spec hc
  rw [Nat.zero_add] at hl
  apply List.ext_getElem?
  intro k
  by_cases hk : k < 292
  · rw [heapOf_at hk]
    have hk2 : k < h.length := by omega
    have hg := List.getElem?_eq_getElem hk2
    obtain ⟨s1, s2, s3⟩ := hs k _ hg
    rw [Nat.zero_add] at s1 s2 s3
    rw [hg]
    congr 1
    unfold cellK
    refine Prod.ext s1.symm ?_
    show (List.range (lenK k)).map (valK (gOf h) k) = (h[k]).2
    apply List.ext_getElem?
    intro j
    by_cases hj : j < lenK k
    · rw [List.getElem?_map, List.getElem?_range hj]
      have hj2 : j < (h[k]).2.length := by omega
      have hv := List.getElem?_eq_getElem hj2
      have ho := s3 j _ hv
      rw [hv]
      show some (valK (gOf h) k j) = _
      congr 1
      have hgo : gOf h k j = vi ((h[k]).2[j]) := by
        unfold gOf
        rw [hg]
        show vi ((h[k]).2.getD j .null) = _
        rw [gd_of hv]
      unfold okAt at ho
      unfold valK
      split at ho
      · rename_i r hr
        rw [hr]
        exact ho.symm
      · rename_i hr
        rw [hr]
        dsimp only
        split at ho
        · rename_i ht
          rw [if_pos ht, hgo, ho]
          rfl
        · rename_i ht
          obtain ⟨x, hx⟩ := ho
          rw [if_neg ht, hgo, hx]
          rfl
    · rw [List.getElem?_eq_none (by rw [List.length_map, List.length_range]; omega), List.getElem?_eq_none (by omega)]
  · rw [List.getElem?_eq_none (by rw [heapOf_len]; omega), List.getElem?_eq_none (by omega)]
def h0 : MH := hX 30 60 6
def g0 : Sg := gOf h0
theorem h0_ok : chH h0 0 = true := by decide +kernel
theorem fresh_g : heapOf g0 = h0 := gOf_heap h0_ok
