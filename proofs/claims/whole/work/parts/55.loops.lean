/-! ===== the model: loops ===== -/
def cntW (z : Sg) (s : Int32) : Nat → Nat
  | 0 => 0
  | j + 1 => cntW z s j + (if isW z j ∧ z 320 j = s then 1 else 0)
theorem cntW_le (z : Sg) (s : Int32) : ∀ j, cntW z s j ≤ j
  | 0 => Nat.le_refl 0
  | j + 1 => by
    have := cntW_le z s j
    unfold cntW
    split <;> omega
def quietN (z : Sg) : Nat → Int32
  | 0 => 1
  | j + 1 => quietN z j &&& (if z 311 j = 5 then 1 else 0)
theorem quietN_eq (z : Sg) : ∀ j, quietN z j = if ∀ k, k < j → z 311 k = 5 then 1 else 0
  | 0 => by simp [quietN]
  | j + 1 => by
    unfold quietN
    rw [quietN_eq z j]
    by_cases h : ∀ k, k < j → z 311 k = 5
    · rw [if_pos h]
      by_cases h2 : z 311 j = 5
      · rw [if_pos h2, if_pos (fun k hk => by rcases Nat.lt_succ_iff_lt_or_eq.mp hk with q | rfl; exact h k q; exact h2)]
        rfl
      · rw [if_neg h2, if_neg (fun q => h2 (q j (Nat.lt_succ_self j)))]
        rfl
    · have e : (if ∀ k, k < j + 1 → z 311 k = 5 then (1 : Int32) else 0) = 0 := if_neg (fun q => h (fun k hk => q k (Nat.lt_succ_of_lt hk)))
      rw [if_neg h, e]
      split <;> rfl
abbrev quiet (z : Sg) (n : Nat) : Prop := ∀ k, k < n → z 311 k = 5
theorem quietN_01 (z : Sg) (j : Nat) : quietN z j = 0 ∨ quietN z j = 1 := by
  rw [quietN_eq]
  split
  · exact Or.inr rfl
  · exact Or.inl rfl
theorem l_129 {z : Sg} {P : MO → Sg → Prop} {rc rs : Nat} {n : Nat} {s : Int32} (hl : n ≤ 60) (hn : z 292 19 = i32 n) (k : P (.inl (some (.int (i32 (cntW z s n))))) z) : ∀ d j, j + d = n → Ws true 129 rc rs 4 [(3, .int (i32 j)), (2, .int (i32 (cntW z s j))), (0, .ref 292), (1, .int s)] [] z P := by
  intro d
  induction d with
  | zero =>
    intro j hj
    obtain rfl : j = n := by omega
    refine zPs (pc1 := 6) (l1 := [(3, .int (i32 j)), (2, .int (i32 (cntW z s j))), (0, .ref 292), (1, .int s)]) (st1 := [.ref 292, .int (i32 j)]) 2 rfl rfl rfl ?_
    refine zGetI (v := i32 j) rfl rfl icNum hn ?_
    refine nCge (a := j) (b := j) (by omega) (by omega) rfl (fun h1 => ?_) (fun h1 => absurd (Nat.le_refl _) h1)
    refine zPs (pc1 := 45) (l1 := [(3, .int (i32 j)), (2, .int (i32 (cntW z s j))), (0, .ref 292), (1, .int s)]) (st1 := [.int (i32 (cntW z s j))]) 1 rfl rfl rfl ?_
    refine zRi rfl rfl ?_
    exact k
  | succ d ih =>
    intro j hj
    have hjl : j < n := by omega
    refine zPs (pc1 := 6) (l1 := [(3, .int (i32 j)), (2, .int (i32 (cntW z s j))), (0, .ref 292), (1, .int s)]) (st1 := [.ref 292, .int (i32 j)]) 2 rfl rfl rfl ?_
    refine zGetI (v := i32 n) rfl rfl icNum hn ?_
    refine nCge (a := j) (b := n) (by omega) (by omega) rfl (fun h1 => absurd h1 (Nat.not_le.mpr hjl)) (fun h1 => ?_)
    refine zPs (pc1 := 15) (l1 := [(3, .int (i32 j)), (2, .int (i32 (cntW z s j))), (0, .ref 292), (1, .int s)]) (st1 := [.int (i32 j), .ref 292, .int (i32 (cntW z s j))]) 3 rfl rfl rfl ?_
    refine zCv (mj := 128) (k := 292) (n := 1) rfl rfl rfl rfl (by decide) rfl rfl rfl rfl rfl rfl ?_
    refine c_128 (by omega) (fun h2 => ?_) (fun h3 => ?_)
    · refine kI ?_
      refine zPs (pc1 := 22) (l1 := [(3, .int (i32 j)), (2, .int (i32 (cntW z s j))), (0, .ref 292), (1, .int s)]) (st1 := [.ref 292, .int (i32 (cntW z s j))]) 2 rfl rfl rfl ?_
      refine zGetR (r := 320) rfl rfl ⟨by decide, rfl, by decide, rfl⟩ ?_
      refine zPs (pc1 := 26) (l1 := [(3, .int (i32 j)), (2, .int (i32 (cntW z s j))), (0, .ref 292), (1, .int s)]) (st1 := [.int (i32 j), .ref 320, .int (i32 (cntW z s j))]) 1 rfl rfl rfl ?_
      refine zIal (n := j) (v := z 320 j) rfl (icM (k := 320) (L := 60) rfl (by omega)) rfl ?_
      refine zPs (pc1 := 28) (l1 := [(3, .int (i32 j)), (2, .int (i32 (cntW z s j))), (0, .ref 292), (1, .int s)]) (st1 := [.int s, .int (z 320 j), .int (i32 (cntW z s j))]) 1 rfl rfl rfl ?_
      refine zCn rfl (fun h4 => ?_) (fun h4 => ?_)
      · refine zPs (pc1 := 37) (l1 := [(3, .int (i32 j)), (2, .int (i32 (cntW z s j))), (0, .ref 292), (1, .int s)]) (st1 := [.int (i32 (cntW z s j) + (0 : Int32))]) 2 rfl rfl rfl ?_
        refine zTo (ml' := [(3, .int (i32 j)), (2, .int (i32 (cntW z s j))), (0, .ref 292), (1, .int s)]) (st' := [.int (i32 (cntW z s j))]) rfl (by rw [show (i32 (cntW z s j) + (0 : Int32)) = i32 (cntW z s j) from i32_add (cntW z s j) 0]) ?_
        refine zPs (pc1 := 41) (l1 := [(3, .int (i32 j + (1 : Int32))), (2, .int (i32 (cntW z s j))), (0, .ref 292), (1, .int s)]) (st1 := []) 2 rfl rfl rfl ?_
        refine zTo (ml' := [(3, .int (i32 (j + 1))), (2, .int (i32 (cntW z s j))), (0, .ref 292), (1, .int s)]) (st' := []) (by rw [show (i32 j + (1 : Int32)) = i32 (j + 1) from i32_add j 1]) rfl ?_
        refine zPs (pc1 := 4) (l1 := [(3, .int (i32 (j + 1))), (2, .int (i32 (cntW z s j))), (0, .ref 292), (1, .int s)]) (st1 := []) 1 rfl rfl rfl ?_
        refine zMl (ml' := [(3, .int (i32 (j + 1))), (2, .int (i32 (cntW z s (j + 1)))), (0, .ref 292), (1, .int s)]) ⟨rfl, (congrArg (fun x => some (Value.int (i32 x))) (show _ = cntW z s (j + 1) by simp [cntW, *])), rfl, rfl, trivial⟩ rfl rfl ?_
        exact ih (j + 1) (by omega)
      · refine zPs (pc1 := 37) (l1 := [(3, .int (i32 j)), (2, .int (i32 (cntW z s j))), (0, .ref 292), (1, .int s)]) (st1 := [.int (i32 (cntW z s j) + (1 : Int32))]) 3 rfl rfl rfl ?_
        refine zTo (ml' := [(3, .int (i32 j)), (2, .int (i32 (cntW z s j))), (0, .ref 292), (1, .int s)]) (st' := [.int (i32 (cntW z s j + 1))]) rfl (by rw [show (i32 (cntW z s j) + (1 : Int32)) = i32 (cntW z s j + 1) from i32_add (cntW z s j) 1]) ?_
        refine zPs (pc1 := 41) (l1 := [(3, .int (i32 j + (1 : Int32))), (2, .int (i32 (cntW z s j + 1))), (0, .ref 292), (1, .int s)]) (st1 := []) 2 rfl rfl rfl ?_
        refine zTo (ml' := [(3, .int (i32 (j + 1))), (2, .int (i32 (cntW z s j + 1))), (0, .ref 292), (1, .int s)]) (st' := []) (by rw [show (i32 j + (1 : Int32)) = i32 (j + 1) from i32_add j 1]) rfl ?_
        refine zPs (pc1 := 4) (l1 := [(3, .int (i32 (j + 1))), (2, .int (i32 (cntW z s j + 1))), (0, .ref 292), (1, .int s)]) (st1 := []) 1 rfl rfl rfl ?_
        refine zMl (ml' := [(3, .int (i32 (j + 1))), (2, .int (i32 (cntW z s (j + 1)))), (0, .ref 292), (1, .int s)]) ⟨rfl, (congrArg (fun x => some (Value.int (i32 x))) (show _ = cntW z s (j + 1) by simp [cntW, *])), rfl, rfl, trivial⟩ rfl rfl ?_
        exact ih (j + 1) (by omega)
    · refine kI ?_
      refine zPs (pc1 := 37) (l1 := [(3, .int (i32 j)), (2, .int (i32 (cntW z s j))), (0, .ref 292), (1, .int s)]) (st1 := [.int (i32 (cntW z s j) + (0 : Int32))]) 3 rfl rfl rfl ?_
      refine zTo (ml' := [(3, .int (i32 j)), (2, .int (i32 (cntW z s j))), (0, .ref 292), (1, .int s)]) (st' := [.int (i32 (cntW z s j))]) rfl (by rw [show (i32 (cntW z s j) + (0 : Int32)) = i32 (cntW z s j) from i32_add (cntW z s j) 0]) ?_
      refine zPs (pc1 := 41) (l1 := [(3, .int (i32 j + (1 : Int32))), (2, .int (i32 (cntW z s j))), (0, .ref 292), (1, .int s)]) (st1 := []) 2 rfl rfl rfl ?_
      refine zTo (ml' := [(3, .int (i32 (j + 1))), (2, .int (i32 (cntW z s j))), (0, .ref 292), (1, .int s)]) (st' := []) (by rw [show (i32 j + (1 : Int32)) = i32 (j + 1) from i32_add j 1]) rfl ?_
      refine zPs (pc1 := 4) (l1 := [(3, .int (i32 (j + 1))), (2, .int (i32 (cntW z s j))), (0, .ref 292), (1, .int s)]) (st1 := []) 1 rfl rfl rfl ?_
      refine zMl (ml' := [(3, .int (i32 (j + 1))), (2, .int (i32 (cntW z s (j + 1)))), (0, .ref 292), (1, .int s)]) ⟨rfl, (congrArg (fun x => some (Value.int (i32 x))) (show _ = cntW z s (j + 1) by simp [cntW, *])), rfl, rfl, trivial⟩ rfl rfl ?_
      exact ih (j + 1) (by omega)
theorem c_129 {z : Sg} {P : MO → Sg → Prop} {n : Nat} {s : Int32} (hl : n ≤ 60) (hn : z 292 19 = i32 n) (k : P (.inl (some (.int (i32 (cntW z s n))))) z) : Es true 129 [.ref 292, .int s] z P := by
  refine Es.of ?_
  refine zPs (pc1 := 4) (l1 := [(3, .int (0 : Int32)), (2, .int (0 : Int32)), (0, .ref 292), (1, .int s)]) (st1 := []) 4 rfl rfl rfl ?_
  refine zMl (ml' := [(3, .int (i32 0)), (2, .int (i32 (cntW z s 0))), (0, .ref 292), (1, .int s)]) ⟨rfl, rfl, rfl, rfl, trivial⟩ rfl rfl ?_
  exact l_129 hl hn k n 0 (by omega)
theorem l_110 {z : Sg} {P : MO → Sg → Prop} {rc rs : Nat} {n : Nat} (hl : n ≤ 60) (hn : z 292 19 = i32 n) (k : P (.inl (some (.int (quietN z n)))) z) : ∀ d j, j + d = n → Ws true 110 rc rs 4 [(2, .int (i32 j)), (1, .int (quietN z j)), (0, .ref 292)] [] z P := by
  intro d
  induction d with
  | zero =>
    intro j hj
    obtain rfl : j = n := by omega
    refine zPs (pc1 := 6) (l1 := [(2, .int (i32 j)), (1, .int (quietN z j)), (0, .ref 292)]) (st1 := [.ref 292, .int (i32 j)]) 2 rfl rfl rfl ?_
    refine zGetI (v := i32 j) rfl rfl icNum hn ?_
    refine nCge (a := j) (b := j) (by omega) (by omega) rfl (fun h1 => ?_) (fun h1 => absurd (Nat.le_refl _) h1)
    refine zPs (pc1 := 37) (l1 := [(2, .int (i32 j)), (1, .int (quietN z j)), (0, .ref 292)]) (st1 := [.int (quietN z j)]) 1 rfl rfl rfl ?_
    refine zRz rfl rfl (quietN_01 z _) ?_
    exact k
  | succ d ih =>
    intro j hj
    have hjl : j < n := by omega
    refine zPs (pc1 := 6) (l1 := [(2, .int (i32 j)), (1, .int (quietN z j)), (0, .ref 292)]) (st1 := [.ref 292, .int (i32 j)]) 2 rfl rfl rfl ?_
    refine zGetI (v := i32 n) rfl rfl icNum hn ?_
    refine nCge (a := j) (b := n) (by omega) (by omega) rfl (fun h1 => absurd h1 (Nat.not_le.mpr hjl)) (fun h1 => ?_)
    refine zPs (pc1 := 14) (l1 := [(2, .int (i32 j)), (1, .int (quietN z j)), (0, .ref 292)]) (st1 := [.ref 292, .int (quietN z j)]) 2 rfl rfl rfl ?_
    refine zGetR (r := 311) rfl rfl ⟨by decide, rfl, by decide, rfl⟩ ?_
    refine zPs (pc1 := 18) (l1 := [(2, .int (i32 j)), (1, .int (quietN z j)), (0, .ref 292)]) (st1 := [.int (i32 j), .ref 311, .int (quietN z j)]) 1 rfl rfl rfl ?_
    refine zIal (n := j) (v := z 311 j) rfl (icM (k := 311) (L := 60) rfl (by omega)) rfl ?_
    refine zPs (pc1 := 20) (l1 := [(2, .int (i32 j)), (1, .int (quietN z j)), (0, .ref 292)]) (st1 := [.int (5 : Int32), .int (z 311 j), .int (quietN z j)]) 1 rfl rfl rfl ?_
    refine zCn rfl (fun h2 => ?_) (fun h2 => ?_)
    · refine zPs (pc1 := 33) (l1 := [(2, .int (i32 j + (1 : Int32))), (1, .int (quietN z j &&& (0 : Int32))), (0, .ref 292)]) (st1 := []) 4 rfl rfl rfl ?_
      refine zTo (ml' := [(2, .int (i32 (j + 1))), (1, .int (quietN z j &&& (0 : Int32))), (0, .ref 292)]) (st' := []) (by rw [show (i32 j + (1 : Int32)) = i32 (j + 1) from i32_add j 1]) rfl ?_
      refine zPs (pc1 := 4) (l1 := [(2, .int (i32 (j + 1))), (1, .int (quietN z j &&& (0 : Int32))), (0, .ref 292)]) (st1 := []) 1 rfl rfl rfl ?_
      refine zMl (ml' := [(2, .int (i32 (j + 1))), (1, .int (quietN z (j + 1))), (0, .ref 292)]) ⟨rfl, (congrArg (fun x => some (Value.int x)) (show _ = quietN z (j + 1) by simp [quietN, *])), rfl, trivial⟩ rfl rfl ?_
      exact ih (j + 1) (by omega)
    · refine zPs (pc1 := 33) (l1 := [(2, .int (i32 j + (1 : Int32))), (1, .int (quietN z j &&& (1 : Int32))), (0, .ref 292)]) (st1 := []) 5 rfl rfl rfl ?_
      refine zTo (ml' := [(2, .int (i32 (j + 1))), (1, .int (quietN z j &&& (1 : Int32))), (0, .ref 292)]) (st' := []) (by rw [show (i32 j + (1 : Int32)) = i32 (j + 1) from i32_add j 1]) rfl ?_
      refine zPs (pc1 := 4) (l1 := [(2, .int (i32 (j + 1))), (1, .int (quietN z j &&& (1 : Int32))), (0, .ref 292)]) (st1 := []) 1 rfl rfl rfl ?_
      refine zMl (ml' := [(2, .int (i32 (j + 1))), (1, .int (quietN z (j + 1))), (0, .ref 292)]) ⟨rfl, (congrArg (fun x => some (Value.int x)) (show _ = quietN z (j + 1) by simp [quietN, *])), rfl, trivial⟩ rfl rfl ?_
      exact ih (j + 1) (by omega)
theorem c_110 {z : Sg} {P : MO → Sg → Prop} {n : Nat} (hl : n ≤ 60) (hn : z 292 19 = i32 n) (k1 : quiet z n → P (.inl (some (.int 1))) z) (k0 : ¬ quiet z n → P (.inl (some (.int 0))) z) : Es true 110 [.ref 292] z P := by
  have k : P (.inl (some (.int (quietN z n)))) z := by
    rw [quietN_eq]
    split
    · rename_i h; exact k1 h
    · rename_i h; exact k0 h
  refine Es.of ?_
  refine zPs (pc1 := 4) (l1 := [(2, .int (0 : Int32)), (1, .int (1 : Int32)), (0, .ref 292)]) (st1 := []) 4 rfl rfl rfl ?_
  refine zMl (ml' := [(2, .int (i32 0)), (1, .int (quietN z 0)), (0, .ref 292)]) ⟨rfl, rfl, rfl, trivial⟩ rfl rfl ?_
  exact l_110 hl hn k n 0 (by omega)
