/-! ===== the model: loops ===== -/
def cntW (z : Sg) (s : Int32) : Nat → Nat
  | 0 => 0
  | j + 1 => cntW z s j + (if isW z j ∧ z 320 j = s then 1 else 0)
theorem cntW_le (z : Sg) (s : Int32) : ∀ j, cntW z s j ≤ j
  | 0 => Nat.le_refl 0
  | j + 1 => by
    have := cntW_le z s j
    unfold cntW
    split <;> omega
def quietN (z : Sg) : Nat → Int32
  | 0 => 1
  | j + 1 => quietN z j &&& (if z 311 j = 5 then 1 else 0)
theorem quietN_eq (z : Sg) : ∀ j, quietN z j = if ∀ k, k < j → z 311 k = 5 then 1 else 0
  | 0 => by simp [quietN]
  | j + 1 => by
    unfold quietN
    rw [quietN_eq z j]
    by_cases h : ∀ k, k < j → z 311 k = 5
    · rw [if_pos h]
      by_cases h2 : z 311 j = 5
      · rw [if_pos h2, if_pos (fun k hk => by rcases Nat.lt_succ_iff_lt_or_eq.mp hk with q | rfl; exact h k q; exact h2)]
        rfl
      · rw [if_neg h2, if_neg (fun q => h2 (q j (Nat.lt_succ_self j)))]
        rfl
    · have e : (if ∀ k, k < j + 1 → z 311 k = 5 then (1 : Int32) else 0) = 0 := if_neg (fun q => h (fun k hk => q k (Nat.lt_succ_of_lt hk)))
      rw [if_neg h, e]
      split <;> rfl
abbrev quiet (z : Sg) (n : Nat) : Prop := ∀ k, k < n → z 311 k = 5
theorem quietN_01 (z : Sg) (j : Nat) : quietN z j = 0 ∨ quietN z j = 1 := by
  rw [quietN_eq]
  split
  · exact Or.inr rfl
  · exact Or.inl rfl
theorem l_129 {z : Sg} {P : MO → Sg → Prop} {rc rs : Nat} {n : Nat} {s : Int32} (hl : n ≤ 60) (hn : z 292 19 = i32 n) (k : P (.inl (some (.int (i32 (cntW z s n))))) z) : ∀ d j, j + d = n → Ws true 129 rc rs 4 [(3, .int (i32 j)), (2, .int (i32 (cntW z s j))), (0, .ref 292), (1, .int s)] [] z P := by
  intro d
  induction d with
  | zero =>
    intro j hj
    obtain rfl : j = n := by omega
    refine zPs (pc1 := 6) (l1 := [(3, .int (i32 j)), (2, .int (i32 (cntW z s j))), (0, .ref 292), (1, .int s)]) (st1 := [.ref 292, .int (i32 j)]) 2 rfl rfl rfl ?_
    refine zGetI (v := i32 j) rfl rfl icNum hn ?_
    refine nCge (a := j) (b := j) (by omega) (by omega) rfl (fun h1 => ?_) (fun h1 => absurd (Nat.le_refl _) h1)
    refine zPs (pc1 := 45) (l1 := [(3, .int (i32 j)), (2, .int (i32 (cntW z s j))), (0, .ref 292), (1, .int s)]) (st1 := [.int (i32 (cntW z s j))]) 1 rfl rfl rfl ?_
    refine zRi rfl rfl ?_
    exact k
  | succ d ih =>
    intro j hj
    have hjl : j < n := by omega
    refine zPs (pc1 := 6) (l1 := [(3, .int (i32 j)), (2, .int (i32 (cntW z s j))), (0, .ref 292), (1, .int s)]) (st1 := [.ref 292, .int (i32 j)]) 2 rfl rfl rfl ?_
    refine zGetI (v := i32 n) rfl rfl icNum hn ?_
    refine nCge (a := j) (b := n) (by omega) (by omega) rfl (fun h1 => absurd h1 (by omega)) (fun h1 => ?_)
    refine zPs (pc1 := 15) (l1 := [(3, .int (i32 j)), (2, .int (i32 (cntW z s j))), (0, .ref 292), (1, .int s)]) (st1 := [.int (i32 j), .ref 292, .int (i32 (cntW z s j))]) 3 rfl rfl rfl ?_
    refine zCv (mj := 128) (k := 292) (n := 1) rfl rfl rfl rfl (by decide) rfl rfl rfl rfl rfl rfl ?_
    refine c_128 (by omega) (fun h2 => ?_) (fun h3 => ?_)
    · refine kI ?_
      refine zPs (pc1 := 22) (l1 := [(3, .int (i32 j)), (2, .int (i32 (cntW z s j))), (0, .ref 292), (1, .int s)]) (st1 := [.ref 292, .int (i32 (cntW z s j))]) 2 rfl rfl rfl ?_
      refine zGetR (r := 320) rfl rfl ⟨by decide, rfl, by decide, rfl⟩ ?_
      refine zPs (pc1 := 26) (l1 := [(3, .int (i32 j)), (2, .int (i32 (cntW z s j))), (0, .ref 292), (1, .int s)]) (st1 := [.int (i32 j), .ref 320, .int (i32 (cntW z s j))]) 1 rfl rfl rfl ?_
      refine zIal (n := j) (v := z 320 j) rfl (icM (k := 320) (L := 60) rfl (by omega)) rfl ?_
      refine zPs (pc1 := 28) (l1 := [(3, .int (i32 j)), (2, .int (i32 (cntW z s j))), (0, .ref 292), (1, .int s)]) (st1 := [.int s, .int (z 320 j), .int (i32 (cntW z s j))]) 1 rfl rfl rfl ?_
      refine zCn rfl (fun h4 => ?_) (fun h4 => ?_)
      · refine zPs (pc1 := 37) (l1 := [(3, .int (i32 j)), (2, .int (i32 (cntW z s j))), (0, .ref 292), (1, .int s)]) (st1 := [.int (i32 (cntW z s j) + (0 : Int32))]) 2 rfl rfl rfl ?_
        refine zTo (ml' := [(3, .int (i32 j)), (2, .int (i32 (cntW z s j))), (0, .ref 292), (1, .int s)]) (st' := [.int (i32 (cntW z s j))]) rfl (by rw [show (i32 (cntW z s j) + (0 : Int32)) = i32 (cntW z s j) from i32_add (cntW z s j) 0]) ?_
        refine zPs (pc1 := 41) (l1 := [(3, .int (i32 j + (1 : Int32))), (2, .int (i32 (cntW z s j))), (0, .ref 292), (1, .int s)]) (st1 := []) 2 rfl rfl rfl ?_
        refine zTo (ml' := [(3, .int (i32 (j + 1))), (2, .int (i32 (cntW z s j))), (0, .ref 292), (1, .int s)]) (st' := []) (by rw [show (i32 j + (1 : Int32)) = i32 (j + 1) from i32_add j 1]) rfl ?_
        refine zPs (pc1 := 4) (l1 := [(3, .int (i32 (j + 1))), (2, .int (i32 (cntW z s j))), (0, .ref 292), (1, .int s)]) (st1 := []) 1 rfl rfl rfl ?_
        refine zMl (ml' := [(3, .int (i32 (j + 1))), (2, .int (i32 (cntW z s (j + 1)))), (0, .ref 292), (1, .int s)]) ⟨rfl, (congrArg (fun x => some (Value.int (i32 x))) (show _ = cntW z s (j + 1) by simp [cntW, *])), rfl, rfl, trivial⟩ rfl rfl ?_
        exact ih (j + 1) (by omega)
      · refine zPs (pc1 := 37) (l1 := [(3, .int (i32 j)), (2, .int (i32 (cntW z s j))), (0, .ref 292), (1, .int s)]) (st1 := [.int (i32 (cntW z s j) + (1 : Int32))]) 3 rfl rfl rfl ?_
        refine zTo (ml' := [(3, .int (i32 j)), (2, .int (i32 (cntW z s j))), (0, .ref 292), (1, .int s)]) (st' := [.int (i32 (cntW z s j + 1))]) rfl (by rw [show (i32 (cntW z s j) + (1 : Int32)) = i32 (cntW z s j + 1) from i32_add (cntW z s j) 1]) ?_
        refine zPs (pc1 := 41) (l1 := [(3, .int (i32 j + (1 : Int32))), (2, .int (i32 (cntW z s j + 1))), (0, .ref 292), (1, .int s)]) (st1 := []) 2 rfl rfl rfl ?_
        refine zTo (ml' := [(3, .int (i32 (j + 1))), (2, .int (i32 (cntW z s j + 1))), (0, .ref 292), (1, .int s)]) (st' := []) (by rw [show (i32 j + (1 : Int32)) = i32 (j + 1) from i32_add j 1]) rfl ?_
        refine zPs (pc1 := 4) (l1 := [(3, .int (i32 (j + 1))), (2, .int (i32 (cntW z s j + 1))), (0, .ref 292), (1, .int s)]) (st1 := []) 1 rfl rfl rfl ?_
        refine zMl (ml' := [(3, .int (i32 (j + 1))), (2, .int (i32 (cntW z s (j + 1)))), (0, .ref 292), (1, .int s)]) ⟨rfl, (congrArg (fun x => some (Value.int (i32 x))) (show _ = cntW z s (j + 1) by simp [cntW, *])), rfl, rfl, trivial⟩ rfl rfl ?_
        exact ih (j + 1) (by omega)
    · refine kI ?_
      refine zPs (pc1 := 37) (l1 := [(3, .int (i32 j)), (2, .int (i32 (cntW z s j))), (0, .ref 292), (1, .int s)]) (st1 := [.int (i32 (cntW z s j) + (0 : Int32))]) 3 rfl rfl rfl ?_
      refine zTo (ml' := [(3, .int (i32 j)), (2, .int (i32 (cntW z s j))), (0, .ref 292), (1, .int s)]) (st' := [.int (i32 (cntW z s j))]) rfl (by rw [show (i32 (cntW z s j) + (0 : Int32)) = i32 (cntW z s j) from i32_add (cntW z s j) 0]) ?_
      refine zPs (pc1 := 41) (l1 := [(3, .int (i32 j + (1 : Int32))), (2, .int (i32 (cntW z s j))), (0, .ref 292), (1, .int s)]) (st1 := []) 2 rfl rfl rfl ?_
      refine zTo (ml' := [(3, .int (i32 (j + 1))), (2, .int (i32 (cntW z s j))), (0, .ref 292), (1, .int s)]) (st' := []) (by rw [show (i32 j + (1 : Int32)) = i32 (j + 1) from i32_add j 1]) rfl ?_
      refine zPs (pc1 := 4) (l1 := [(3, .int (i32 (j + 1))), (2, .int (i32 (cntW z s j))), (0, .ref 292), (1, .int s)]) (st1 := []) 1 rfl rfl rfl ?_
      refine zMl (ml' := [(3, .int (i32 (j + 1))), (2, .int (i32 (cntW z s (j + 1)))), (0, .ref 292), (1, .int s)]) ⟨rfl, (congrArg (fun x => some (Value.int (i32 x))) (show _ = cntW z s (j + 1) by simp [cntW, *])), rfl, rfl, trivial⟩ rfl rfl ?_
      exact ih (j + 1) (by omega)
theorem c_129 {z : Sg} {P : MO → Sg → Prop} {n : Nat} {s : Int32} (hl : n ≤ 60) (hn : z 292 19 = i32 n) (k : P (.inl (some (.int (i32 (cntW z s n))))) z) : Es true 129 [.ref 292, .int s] z P := by
  refine Es.of ?_
  refine zPs (pc1 := 4) (l1 := [(3, .int (0 : Int32)), (2, .int (0 : Int32)), (0, .ref 292), (1, .int s)]) (st1 := []) 4 rfl rfl rfl ?_
  refine zMl (ml' := [(3, .int (i32 0)), (2, .int (i32 (cntW z s 0))), (0, .ref 292), (1, .int s)]) ⟨rfl, rfl, rfl, rfl, trivial⟩ rfl rfl ?_
  exact l_129 hl hn k n 0 (by omega)
theorem l_110 {z : Sg} {P : MO → Sg → Prop} {rc rs : Nat} {n : Nat} (hl : n ≤ 60) (hn : z 292 19 = i32 n) (k : P (.inl (some (.int (quietN z n)))) z) : ∀ d j, j + d = n → Ws true 110 rc rs 4 [(2, .int (i32 j)), (1, .int (quietN z j)), (0, .ref 292)] [] z P := by
  intro d
  induction d with
  | zero =>
    intro j hj
    obtain rfl : j = n := by omega
    refine zPs (pc1 := 6) (l1 := [(2, .int (i32 j)), (1, .int (quietN z j)), (0, .ref 292)]) (st1 := [.ref 292, .int (i32 j)]) 2 rfl rfl rfl ?_
    refine zGetI (v := i32 j) rfl rfl icNum hn ?_
    refine nCge (a := j) (b := j) (by omega) (by omega) rfl (fun h1 => ?_) (fun h1 => absurd (Nat.le_refl _) h1)
    refine zPs (pc1 := 37) (l1 := [(2, .int (i32 j)), (1, .int (quietN z j)), (0, .ref 292)]) (st1 := [.int (quietN z j)]) 1 rfl rfl rfl ?_
    refine zRz rfl rfl (quietN_01 z _) ?_
    exact k
  | succ d ih =>
    intro j hj
    have hjl : j < n := by omega
    refine zPs (pc1 := 6) (l1 := [(2, .int (i32 j)), (1, .int (quietN z j)), (0, .ref 292)]) (st1 := [.ref 292, .int (i32 j)]) 2 rfl rfl rfl ?_
    refine zGetI (v := i32 n) rfl rfl icNum hn ?_
    refine nCge (a := j) (b := n) (by omega) (by omega) rfl (fun h1 => absurd h1 (by omega)) (fun h1 => ?_)
    refine zPs (pc1 := 14) (l1 := [(2, .int (i32 j)), (1, .int (quietN z j)), (0, .ref 292)]) (st1 := [.ref 292, .int (quietN z j)]) 2 rfl rfl rfl ?_
    refine zGetR (r := 311) rfl rfl ⟨by decide, rfl, by decide, rfl⟩ ?_
    refine zPs (pc1 := 18) (l1 := [(2, .int (i32 j)), (1, .int (quietN z j)), (0, .ref 292)]) (st1 := [.int (i32 j), .ref 311, .int (quietN z j)]) 1 rfl rfl rfl ?_
    refine zIal (n := j) (v := z 311 j) rfl (icM (k := 311) (L := 60) rfl (by omega)) rfl ?_
    refine zPs (pc1 := 20) (l1 := [(2, .int (i32 j)), (1, .int (quietN z j)), (0, .ref 292)]) (st1 := [.int (5 : Int32), .int (z 311 j), .int (quietN z j)]) 1 rfl rfl rfl ?_
    refine zCn rfl (fun h2 => ?_) (fun h2 => ?_)
    · refine zPs (pc1 := 33) (l1 := [(2, .int (i32 j + (1 : Int32))), (1, .int (quietN z j &&& (0 : Int32))), (0, .ref 292)]) (st1 := []) 4 rfl rfl rfl ?_
      refine zTo (ml' := [(2, .int (i32 (j + 1))), (1, .int (quietN z j &&& (0 : Int32))), (0, .ref 292)]) (st' := []) (by rw [show (i32 j + (1 : Int32)) = i32 (j + 1) from i32_add j 1]) rfl ?_
      refine zPs (pc1 := 4) (l1 := [(2, .int (i32 (j + 1))), (1, .int (quietN z j &&& (0 : Int32))), (0, .ref 292)]) (st1 := []) 1 rfl rfl rfl ?_
      refine zMl (ml' := [(2, .int (i32 (j + 1))), (1, .int (quietN z (j + 1))), (0, .ref 292)]) ⟨rfl, (congrArg (fun x => some (Value.int x)) (show _ = quietN z (j + 1) by simp [quietN, *])), rfl, trivial⟩ rfl rfl ?_
      exact ih (j + 1) (by omega)
    · refine zPs (pc1 := 33) (l1 := [(2, .int (i32 j + (1 : Int32))), (1, .int (quietN z j &&& (1 : Int32))), (0, .ref 292)]) (st1 := []) 5 rfl rfl rfl ?_
      refine zTo (ml' := [(2, .int (i32 (j + 1))), (1, .int (quietN z j &&& (1 : Int32))), (0, .ref 292)]) (st' := []) (by rw [show (i32 j + (1 : Int32)) = i32 (j + 1) from i32_add j 1]) rfl ?_
      refine zPs (pc1 := 4) (l1 := [(2, .int (i32 (j + 1))), (1, .int (quietN z j &&& (1 : Int32))), (0, .ref 292)]) (st1 := []) 1 rfl rfl rfl ?_
      refine zMl (ml' := [(2, .int (i32 (j + 1))), (1, .int (quietN z (j + 1))), (0, .ref 292)]) ⟨rfl, (congrArg (fun x => some (Value.int x)) (show _ = quietN z (j + 1) by simp [quietN, *])), rfl, trivial⟩ rfl rfl ?_
      exact ih (j + 1) (by omega)
theorem c_110 {z : Sg} {P : MO → Sg → Prop} {n : Nat} (hl : n ≤ 60) (hn : z 292 19 = i32 n) (k1 : quiet z n → P (.inl (some (.int 1))) z) (k0 : ¬ quiet z n → P (.inl (some (.int 0))) z) : Es true 110 [.ref 292] z P := by
  have k : P (.inl (some (.int (quietN z n)))) z := by
    rw [quietN_eq]
    split
    · rename_i h; exact k1 h
    · rename_i h; exact k0 h
  refine Es.of ?_
  refine zPs (pc1 := 4) (l1 := [(2, .int (0 : Int32)), (1, .int (1 : Int32)), (0, .ref 292)]) (st1 := []) 4 rfl rfl rfl ?_
  refine zMl (ml' := [(2, .int (i32 0)), (1, .int (quietN z 0)), (0, .ref 292)]) ⟨rfl, rfl, rfl, trivial⟩ rfl rfl ?_
  exact l_110 hl hn k n 0 (by omega)
def pkey (z : Sg) (m : Nat) (its : Int32) : Nat → Option Nat
  | 0 => none
  | j + 1 => if z 307 (10 * m + j) = its then some j else pkey z m its j
def oI (b : Nat) : Option Nat → Int32
  | none => -1
  | some k => i32 (b + k)
theorem pkey_lt {z : Sg} {m : Nat} {its : Int32} : ∀ {j t : Nat}, pkey z m its j = some t → t < j ∧ z 307 (10 * m + t) = its
  | j + 1, t, h => by
    unfold pkey at h
    split at h
    · rename_i h2; cases h; exact ⟨Nat.lt_succ_self _, h2⟩
    · have := pkey_lt h; exact ⟨Nat.lt_succ_of_lt this.1, this.2⟩
theorem l_114 {z : Sg} {P : MO → Sg → Prop} {rc rs : Nat} {m q : Nat} {its : Int32} (hm : m < 30) (hl : q ≤ 10) (hq : z 306 m = i32 q) (k : P (.inl (some (.int (oI (10 * m) (pkey z m its q))))) z) : ∀ d j, j + d = q → Ws true 114 rc rs 8 [(4, .int (i32 (10 * m + j))), (3, .int (oI (10 * m) (pkey z m its j))), (0, .ref 292), (1, .int (i32 m)), (2, .int its)] [] z P := by
  intro d
  induction d with
  | zero =>
    intro j hj
    obtain rfl : j = q := by omega
    refine zPs (pc1 := 14) (l1 := [(4, .int (i32 (10 * m + j))), (3, .int (oI (10 * m) (pkey z m its j))), (0, .ref 292), (1, .int (i32 m)), (2, .int its)]) (st1 := [.int ((10 : Int32) * i32 m), .int (i32 (10 * m + j))]) 4 rfl rfl rfl ?_
    refine zTo (ml' := [(4, .int (i32 (10 * m + j))), (3, .int (oI (10 * m) (pkey z m its j))), (0, .ref 292), (1, .int (i32 m)), (2, .int its)]) (st' := [.int (i32 (10 * m)), .int (i32 (10 * m + j))]) rfl (by rw [show ((10 : Int32) * i32 m) = i32 (10 * m) from i32_mul 10 m]) ?_
    refine zPs (pc1 := 15) (l1 := [(4, .int (i32 (10 * m + j))), (3, .int (oI (10 * m) (pkey z m its j))), (0, .ref 292), (1, .int (i32 m)), (2, .int its)]) (st1 := [.ref 292, .int (i32 (10 * m)), .int (i32 (10 * m + j))]) 1 rfl rfl rfl ?_
    refine zGetR (r := 306) rfl rfl ⟨by decide, rfl, by decide, rfl⟩ ?_
    refine zPs (pc1 := 19) (l1 := [(4, .int (i32 (10 * m + j))), (3, .int (oI (10 * m) (pkey z m its j))), (0, .ref 292), (1, .int (i32 m)), (2, .int its)]) (st1 := [.int (i32 m), .ref 306, .int (i32 (10 * m)), .int (i32 (10 * m + j))]) 1 rfl rfl rfl ?_
    refine zIal (n := m) (v := i32 j) rfl (icM (k := 306) (L := 30) rfl hm) hq ?_
    refine zPs (pc1 := 21) (l1 := [(4, .int (i32 (10 * m + j))), (3, .int (oI (10 * m) (pkey z m its j))), (0, .ref 292), (1, .int (i32 m)), (2, .int its)]) (st1 := [.int (i32 (10 * m) + i32 j), .int (i32 (10 * m + j))]) 1 rfl rfl rfl ?_
    refine zTo (ml' := [(4, .int (i32 (10 * m + j))), (3, .int (oI (10 * m) (pkey z m its j))), (0, .ref 292), (1, .int (i32 m)), (2, .int its)]) (st' := [.int (i32 (10 * m + j)), .int (i32 (10 * m + j))]) rfl (by rw [show (i32 (10 * m) + i32 j) = i32 (10 * m + j) from i32_add (10 * m) j]) ?_
    refine nCge (a := 10 * m + j) (b := 10 * m + j) (by omega) (by omega) rfl (fun h1 => ?_) (fun h1 => absurd (Nat.le_refl _) h1)
    refine zPs (pc1 := 49) (l1 := [(4, .int (i32 (10 * m + j))), (3, .int (oI (10 * m) (pkey z m its j))), (0, .ref 292), (1, .int (i32 m)), (2, .int its)]) (st1 := [.int (oI (10 * m) (pkey z m its j))]) 1 rfl rfl rfl ?_
    refine zRi rfl rfl ?_
    exact k
  | succ d ih =>
    intro j hj
    have hjl : j < q := by omega
    refine zPs (pc1 := 14) (l1 := [(4, .int (i32 (10 * m + j))), (3, .int (oI (10 * m) (pkey z m its j))), (0, .ref 292), (1, .int (i32 m)), (2, .int its)]) (st1 := [.int ((10 : Int32) * i32 m), .int (i32 (10 * m + j))]) 4 rfl rfl rfl ?_
    refine zTo (ml' := [(4, .int (i32 (10 * m + j))), (3, .int (oI (10 * m) (pkey z m its j))), (0, .ref 292), (1, .int (i32 m)), (2, .int its)]) (st' := [.int (i32 (10 * m)), .int (i32 (10 * m + j))]) rfl (by rw [show ((10 : Int32) * i32 m) = i32 (10 * m) from i32_mul 10 m]) ?_
    refine zPs (pc1 := 15) (l1 := [(4, .int (i32 (10 * m + j))), (3, .int (oI (10 * m) (pkey z m its j))), (0, .ref 292), (1, .int (i32 m)), (2, .int its)]) (st1 := [.ref 292, .int (i32 (10 * m)), .int (i32 (10 * m + j))]) 1 rfl rfl rfl ?_
    refine zGetR (r := 306) rfl rfl ⟨by decide, rfl, by decide, rfl⟩ ?_
    refine zPs (pc1 := 19) (l1 := [(4, .int (i32 (10 * m + j))), (3, .int (oI (10 * m) (pkey z m its j))), (0, .ref 292), (1, .int (i32 m)), (2, .int its)]) (st1 := [.int (i32 m), .ref 306, .int (i32 (10 * m)), .int (i32 (10 * m + j))]) 1 rfl rfl rfl ?_
    refine zIal (n := m) (v := i32 q) rfl (icM (k := 306) (L := 30) rfl hm) hq ?_
    refine zPs (pc1 := 21) (l1 := [(4, .int (i32 (10 * m + j))), (3, .int (oI (10 * m) (pkey z m its j))), (0, .ref 292), (1, .int (i32 m)), (2, .int its)]) (st1 := [.int (i32 (10 * m) + i32 q), .int (i32 (10 * m + j))]) 1 rfl rfl rfl ?_
    refine zTo (ml' := [(4, .int (i32 (10 * m + j))), (3, .int (oI (10 * m) (pkey z m its j))), (0, .ref 292), (1, .int (i32 m)), (2, .int its)]) (st' := [.int (i32 (10 * m + q)), .int (i32 (10 * m + j))]) rfl (by rw [show (i32 (10 * m) + i32 q) = i32 (10 * m + q) from i32_add (10 * m) q]) ?_
    refine nCge (a := 10 * m + j) (b := 10 * m + q) (by omega) (by omega) rfl (fun h1 => absurd h1 (by omega)) (fun h1 => ?_)
    refine zPs (pc1 := 25) (l1 := [(4, .int (i32 (10 * m + j))), (3, .int (oI (10 * m) (pkey z m its j))), (0, .ref 292), (1, .int (i32 m)), (2, .int its)]) (st1 := [.ref 292]) 1 rfl rfl rfl ?_
    refine zGetR (r := 307) rfl rfl ⟨by decide, rfl, by decide, rfl⟩ ?_
    refine zPs (pc1 := 30) (l1 := [(4, .int (i32 (10 * m + j))), (3, .int (oI (10 * m) (pkey z m its j))), (0, .ref 292), (1, .int (i32 m)), (2, .int its)]) (st1 := [.int (i32 (10 * m + j)), .ref 307]) 1 rfl rfl rfl ?_
    refine zIal (n := 10 * m + j) (v := z 307 (10 * m + j)) rfl (icM (k := 307) (L := 300) rfl (by omega)) rfl ?_
    refine zPs (pc1 := 32) (l1 := [(4, .int (i32 (10 * m + j))), (3, .int (oI (10 * m) (pkey z m its j))), (0, .ref 292), (1, .int (i32 m)), (2, .int its)]) (st1 := [.int its, .int (z 307 (10 * m + j))]) 1 rfl rfl rfl ?_
    refine zCn rfl (fun h2 => ?_) (fun h2 => ?_)
    · refine zPs (pc1 := 45) (l1 := [(4, .int (i32 (10 * m + j) + (1 : Int32))), (3, .int (oI (10 * m) (pkey z m its j))), (0, .ref 292), (1, .int (i32 m)), (2, .int its)]) (st1 := []) 3 rfl rfl rfl ?_
      refine zTo (ml' := [(4, .int (i32 (10 * m + j + 1))), (3, .int (oI (10 * m) (pkey z m its j))), (0, .ref 292), (1, .int (i32 m)), (2, .int its)]) (st' := []) (by rw [show (i32 (10 * m + j) + (1 : Int32)) = i32 (10 * m + j + 1) from i32_add (10 * m + j) 1]) rfl ?_
      refine zPs (pc1 := 8) (l1 := [(4, .int (i32 (10 * m + j + 1))), (3, .int (oI (10 * m) (pkey z m its j))), (0, .ref 292), (1, .int (i32 m)), (2, .int its)]) (st1 := []) 1 rfl rfl rfl ?_
      refine zMl (ml' := [(4, .int (i32 (10 * m + (j + 1)))), (3, .int (oI (10 * m) (pkey z m its (j + 1)))), (0, .ref 292), (1, .int (i32 m)), (2, .int its)]) ⟨rfl, (congrArg (fun x => some (Value.int x)) (show _ = oI (10 * m) (pkey z m its (j + 1)) by simp [pkey, oI, *])), rfl, rfl, rfl, trivial⟩ rfl rfl ?_
      exact ih (j + 1) (by omega)
    · refine zPs (pc1 := 45) (l1 := [(4, .int (i32 (10 * m + j) + (1 : Int32))), (3, .int (i32 (10 * m + j))), (0, .ref 292), (1, .int (i32 m)), (2, .int its)]) (st1 := []) 4 rfl rfl rfl ?_
      refine zTo (ml' := [(4, .int (i32 (10 * m + j + 1))), (3, .int (i32 (10 * m + j))), (0, .ref 292), (1, .int (i32 m)), (2, .int its)]) (st' := []) (by rw [show (i32 (10 * m + j) + (1 : Int32)) = i32 (10 * m + j + 1) from i32_add (10 * m + j) 1]) rfl ?_
      refine zPs (pc1 := 8) (l1 := [(4, .int (i32 (10 * m + j + 1))), (3, .int (i32 (10 * m + j))), (0, .ref 292), (1, .int (i32 m)), (2, .int its)]) (st1 := []) 1 rfl rfl rfl ?_
      refine zMl (ml' := [(4, .int (i32 (10 * m + (j + 1)))), (3, .int (oI (10 * m) (pkey z m its (j + 1)))), (0, .ref 292), (1, .int (i32 m)), (2, .int its)]) ⟨rfl, (congrArg (fun x => some (Value.int x)) (show _ = oI (10 * m) (pkey z m its (j + 1)) by simp [pkey, oI, *])), rfl, rfl, rfl, trivial⟩ rfl rfl ?_
      exact ih (j + 1) (by omega)
theorem c_114 {z : Sg} {P : MO → Sg → Prop} {m q : Nat} {its : Int32} (hm : m < 30) (hl : q ≤ 10) (hq : z 306 m = i32 q) (k1 : ∀ t, pkey z m its q = some t → t < q → P (.inl (some (.int (i32 (10 * m + t))))) z) (k0 : pkey z m its q = none → P (.inl (some (.int (-1)))) z) : Es true 114 [.ref 292, .int (i32 m), .int its] z P := by
  have k : P (.inl (some (.int (oI (10 * m) (pkey z m its q))))) z := by
    cases h : pkey z m its q with
    | none => exact k0 h
    | some t => exact k1 t h (pkey_lt h).1
  refine Es.of ?_
  refine zPs (pc1 := 6) (l1 := [(3, .int (-1 : Int32)), (0, .ref 292), (1, .int (i32 m)), (2, .int its)]) (st1 := [.int ((10 : Int32) * i32 m)]) 5 rfl rfl rfl ?_
  refine zTo (ml' := [(3, .int (-1 : Int32)), (0, .ref 292), (1, .int (i32 m)), (2, .int its)]) (st' := [.int (i32 (10 * m))]) rfl (by rw [show ((10 : Int32) * i32 m) = i32 (10 * m) from i32_mul 10 m]) ?_
  refine zPs (pc1 := 8) (l1 := [(4, .int (i32 (10 * m))), (3, .int (-1 : Int32)), (0, .ref 292), (1, .int (i32 m)), (2, .int its)]) (st1 := []) 1 rfl rfl rfl ?_
  refine zMl (ml' := [(4, .int (i32 (10 * m + 0))), (3, .int (oI (10 * m) (pkey z m its 0))), (0, .ref 292), (1, .int (i32 m)), (2, .int its)]) ⟨rfl, rfl, rfl, rfl, rfl, trivial⟩ rfl rfl ?_
  exact l_114 hm hl hq k q 0 (by omega)
def bgN (z : Sg) (m : Nat) (its : Int32) : Nat → Nat
  | 0 => 0
  | j + 1 => bgN z m its j + (if z 307 (10 * m + j) / 10 = its ∨ z 307 (10 * m + j) / 100 = its then 1 else 0)
theorem bgN_le (z : Sg) (m : Nat) (s : Int32) : ∀ j, bgN z m s j ≤ j
  | 0 => Nat.le_refl 0
  | j + 1 => by
    have := bgN_le z m s j
    unfold bgN
    split <;> omega
theorem l_143 {z : Sg} {P : MO → Sg → Prop} {rc rs : Nat} {m q : Nat} {its : Int32} (hm : m < 30) (hl : q ≤ 10) (hq : z 306 m = i32 q) (k : P (.inl (some (.int (i32 (bgN z m its q))))) z) : ∀ d j, j + d = q → Ws true 143 rc rs 8 [(4, .int (i32 (10 * m + j))), (3, .int (i32 (bgN z m its j))), (0, .ref 292), (1, .int (i32 m)), (2, .int its)] [] z P := by
  intro d
  induction d with
  | zero =>
    intro j hj
    obtain rfl : j = q := by omega
    refine zPs (pc1 := 14) (l1 := [(4, .int (i32 (10 * m + j))), (3, .int (i32 (bgN z m its j))), (0, .ref 292), (1, .int (i32 m)), (2, .int its)]) (st1 := [.int ((10 : Int32) * i32 m), .int (i32 (10 * m + j))]) 4 rfl rfl rfl ?_
    refine zTo (ml' := [(4, .int (i32 (10 * m + j))), (3, .int (i32 (bgN z m its j))), (0, .ref 292), (1, .int (i32 m)), (2, .int its)]) (st' := [.int (i32 (10 * m)), .int (i32 (10 * m + j))]) rfl (by rw [show ((10 : Int32) * i32 m) = i32 (10 * m) from i32_mul 10 m]) ?_
    refine zPs (pc1 := 15) (l1 := [(4, .int (i32 (10 * m + j))), (3, .int (i32 (bgN z m its j))), (0, .ref 292), (1, .int (i32 m)), (2, .int its)]) (st1 := [.ref 292, .int (i32 (10 * m)), .int (i32 (10 * m + j))]) 1 rfl rfl rfl ?_
    refine zGetR (r := 306) rfl rfl ⟨by decide, rfl, by decide, rfl⟩ ?_
    refine zPs (pc1 := 19) (l1 := [(4, .int (i32 (10 * m + j))), (3, .int (i32 (bgN z m its j))), (0, .ref 292), (1, .int (i32 m)), (2, .int its)]) (st1 := [.int (i32 m), .ref 306, .int (i32 (10 * m)), .int (i32 (10 * m + j))]) 1 rfl rfl rfl ?_
    refine zIal (n := m) (v := i32 j) rfl (icM (k := 306) (L := 30) rfl hm) hq ?_
    refine zPs (pc1 := 21) (l1 := [(4, .int (i32 (10 * m + j))), (3, .int (i32 (bgN z m its j))), (0, .ref 292), (1, .int (i32 m)), (2, .int its)]) (st1 := [.int (i32 (10 * m) + i32 j), .int (i32 (10 * m + j))]) 1 rfl rfl rfl ?_
    refine zTo (ml' := [(4, .int (i32 (10 * m + j))), (3, .int (i32 (bgN z m its j))), (0, .ref 292), (1, .int (i32 m)), (2, .int its)]) (st' := [.int (i32 (10 * m + j)), .int (i32 (10 * m + j))]) rfl (by rw [show (i32 (10 * m) + i32 j) = i32 (10 * m + j) from i32_add (10 * m) j]) ?_
    refine nCge (a := 10 * m + j) (b := 10 * m + j) (by omega) (by omega) rfl (fun h1 => ?_) (fun h1 => absurd (Nat.le_refl _) h1)
    refine zPs (pc1 := 67) (l1 := [(4, .int (i32 (10 * m + j))), (3, .int (i32 (bgN z m its j))), (0, .ref 292), (1, .int (i32 m)), (2, .int its)]) (st1 := [.int (i32 (bgN z m its j))]) 1 rfl rfl rfl ?_
    refine zRi rfl rfl ?_
    exact k
  | succ d ih =>
    intro j hj
    have hjl : j < q := by omega
    refine zPs (pc1 := 14) (l1 := [(4, .int (i32 (10 * m + j))), (3, .int (i32 (bgN z m its j))), (0, .ref 292), (1, .int (i32 m)), (2, .int its)]) (st1 := [.int ((10 : Int32) * i32 m), .int (i32 (10 * m + j))]) 4 rfl rfl rfl ?_
    refine zTo (ml' := [(4, .int (i32 (10 * m + j))), (3, .int (i32 (bgN z m its j))), (0, .ref 292), (1, .int (i32 m)), (2, .int its)]) (st' := [.int (i32 (10 * m)), .int (i32 (10 * m + j))]) rfl (by rw [show ((10 : Int32) * i32 m) = i32 (10 * m) from i32_mul 10 m]) ?_
    refine zPs (pc1 := 15) (l1 := [(4, .int (i32 (10 * m + j))), (3, .int (i32 (bgN z m its j))), (0, .ref 292), (1, .int (i32 m)), (2, .int its)]) (st1 := [.ref 292, .int (i32 (10 * m)), .int (i32 (10 * m + j))]) 1 rfl rfl rfl ?_
    refine zGetR (r := 306) rfl rfl ⟨by decide, rfl, by decide, rfl⟩ ?_
    refine zPs (pc1 := 19) (l1 := [(4, .int (i32 (10 * m + j))), (3, .int (i32 (bgN z m its j))), (0, .ref 292), (1, .int (i32 m)), (2, .int its)]) (st1 := [.int (i32 m), .ref 306, .int (i32 (10 * m)), .int (i32 (10 * m + j))]) 1 rfl rfl rfl ?_
    refine zIal (n := m) (v := i32 q) rfl (icM (k := 306) (L := 30) rfl hm) hq ?_
    refine zPs (pc1 := 21) (l1 := [(4, .int (i32 (10 * m + j))), (3, .int (i32 (bgN z m its j))), (0, .ref 292), (1, .int (i32 m)), (2, .int its)]) (st1 := [.int (i32 (10 * m) + i32 q), .int (i32 (10 * m + j))]) 1 rfl rfl rfl ?_
    refine zTo (ml' := [(4, .int (i32 (10 * m + j))), (3, .int (i32 (bgN z m its j))), (0, .ref 292), (1, .int (i32 m)), (2, .int its)]) (st' := [.int (i32 (10 * m + q)), .int (i32 (10 * m + j))]) rfl (by rw [show (i32 (10 * m) + i32 q) = i32 (10 * m + q) from i32_add (10 * m) q]) ?_
    refine nCge (a := 10 * m + j) (b := 10 * m + q) (by omega) (by omega) rfl (fun h1 => absurd h1 (by omega)) (fun h1 => ?_)
    refine zPs (pc1 := 26) (l1 := [(4, .int (i32 (10 * m + j))), (3, .int (i32 (bgN z m its j))), (0, .ref 292), (1, .int (i32 m)), (2, .int its)]) (st1 := [.ref 292, .int (i32 (bgN z m its j))]) 2 rfl rfl rfl ?_
    refine zGetR (r := 307) rfl rfl ⟨by decide, rfl, by decide, rfl⟩ ?_
    refine zPs (pc1 := 31) (l1 := [(4, .int (i32 (10 * m + j))), (3, .int (i32 (bgN z m its j))), (0, .ref 292), (1, .int (i32 m)), (2, .int its)]) (st1 := [.int (i32 (10 * m + j)), .ref 307, .int (i32 (bgN z m its j))]) 1 rfl rfl rfl ?_
    refine zIal (n := 10 * m + j) (v := z 307 (10 * m + j)) rfl (icM (k := 307) (L := 300) rfl (by omega)) rfl ?_
    refine zPs (pc1 := 34) (l1 := [(4, .int (i32 (10 * m + j))), (3, .int (i32 (bgN z m its j))), (0, .ref 292), (1, .int (i32 m)), (2, .int its)]) (st1 := [.int (10 : Int32), .int (z 307 (10 * m + j)), .int (i32 (bgN z m its j))]) 1 rfl rfl rfl ?_
    refine zDiv rfl (by decide) ?_
    refine zPs (pc1 := 36) (l1 := [(4, .int (i32 (10 * m + j))), (3, .int (i32 (bgN z m its j))), (0, .ref 292), (1, .int (i32 m)), (2, .int its)]) (st1 := [.int its, .int (z 307 (10 * m + j) / (10 : Int32)), .int (i32 (bgN z m its j))]) 1 rfl rfl rfl ?_
    refine zCe rfl (fun h2 => ?_) (fun h2 => ?_)
    · refine zPs (pc1 := 59) (l1 := [(4, .int (i32 (10 * m + j))), (3, .int (i32 (bgN z m its j))), (0, .ref 292), (1, .int (i32 m)), (2, .int its)]) (st1 := [.int (i32 (bgN z m its j) + (1 : Int32))]) 3 rfl rfl rfl ?_
      refine zTo (ml' := [(4, .int (i32 (10 * m + j))), (3, .int (i32 (bgN z m its j))), (0, .ref 292), (1, .int (i32 m)), (2, .int its)]) (st' := [.int (i32 (bgN z m its j + 1))]) rfl (by rw [show (i32 (bgN z m its j) + (1 : Int32)) = i32 (bgN z m its j + 1) from i32_add (bgN z m its j) 1]) ?_
      refine zPs (pc1 := 63) (l1 := [(4, .int (i32 (10 * m + j) + (1 : Int32))), (3, .int (i32 (bgN z m its j + 1))), (0, .ref 292), (1, .int (i32 m)), (2, .int its)]) (st1 := []) 2 rfl rfl rfl ?_
      refine zTo (ml' := [(4, .int (i32 (10 * m + j + 1))), (3, .int (i32 (bgN z m its j + 1))), (0, .ref 292), (1, .int (i32 m)), (2, .int its)]) (st' := []) (by rw [show (i32 (10 * m + j) + (1 : Int32)) = i32 (10 * m + j + 1) from i32_add (10 * m + j) 1]) rfl ?_
      refine zPs (pc1 := 8) (l1 := [(4, .int (i32 (10 * m + j + 1))), (3, .int (i32 (bgN z m its j + 1))), (0, .ref 292), (1, .int (i32 m)), (2, .int its)]) (st1 := []) 1 rfl rfl rfl ?_
      refine zMl (ml' := [(4, .int (i32 (10 * m + (j + 1)))), (3, .int (i32 (bgN z m its (j + 1)))), (0, .ref 292), (1, .int (i32 m)), (2, .int its)]) ⟨rfl, (congrArg (fun x => some (Value.int (i32 x))) (show _ = bgN z m its (j + 1) by simp [bgN, *])), rfl, rfl, rfl, trivial⟩ rfl rfl ?_
      exact ih (j + 1) (by omega)
    · refine zPs (pc1 := 40) (l1 := [(4, .int (i32 (10 * m + j))), (3, .int (i32 (bgN z m its j))), (0, .ref 292), (1, .int (i32 m)), (2, .int its)]) (st1 := [.ref 292, .int (i32 (bgN z m its j))]) 1 rfl rfl rfl ?_
      refine zGetR (r := 307) rfl rfl ⟨by decide, rfl, by decide, rfl⟩ ?_
      refine zPs (pc1 := 45) (l1 := [(4, .int (i32 (10 * m + j))), (3, .int (i32 (bgN z m its j))), (0, .ref 292), (1, .int (i32 m)), (2, .int its)]) (st1 := [.int (i32 (10 * m + j)), .ref 307, .int (i32 (bgN z m its j))]) 1 rfl rfl rfl ?_
      refine zIal (n := 10 * m + j) (v := z 307 (10 * m + j)) rfl (icM (k := 307) (L := 300) rfl (by omega)) rfl ?_
      refine zPs (pc1 := 48) (l1 := [(4, .int (i32 (10 * m + j))), (3, .int (i32 (bgN z m its j))), (0, .ref 292), (1, .int (i32 m)), (2, .int its)]) (st1 := [.int (100 : Int32), .int (z 307 (10 * m + j)), .int (i32 (bgN z m its j))]) 1 rfl rfl rfl ?_
      refine zDiv rfl (by decide) ?_
      refine zPs (pc1 := 50) (l1 := [(4, .int (i32 (10 * m + j))), (3, .int (i32 (bgN z m its j))), (0, .ref 292), (1, .int (i32 m)), (2, .int its)]) (st1 := [.int its, .int (z 307 (10 * m + j) / (100 : Int32)), .int (i32 (bgN z m its j))]) 1 rfl rfl rfl ?_
      refine zCn rfl (fun h3 => ?_) (fun h3 => ?_)
      · refine zPs (pc1 := 59) (l1 := [(4, .int (i32 (10 * m + j))), (3, .int (i32 (bgN z m its j))), (0, .ref 292), (1, .int (i32 m)), (2, .int its)]) (st1 := [.int (i32 (bgN z m its j) + (0 : Int32))]) 2 rfl rfl rfl ?_
        refine zTo (ml' := [(4, .int (i32 (10 * m + j))), (3, .int (i32 (bgN z m its j))), (0, .ref 292), (1, .int (i32 m)), (2, .int its)]) (st' := [.int (i32 (bgN z m its j))]) rfl (by rw [show (i32 (bgN z m its j) + (0 : Int32)) = i32 (bgN z m its j) from i32_add (bgN z m its j) 0]) ?_
        refine zPs (pc1 := 63) (l1 := [(4, .int (i32 (10 * m + j) + (1 : Int32))), (3, .int (i32 (bgN z m its j))), (0, .ref 292), (1, .int (i32 m)), (2, .int its)]) (st1 := []) 2 rfl rfl rfl ?_
        refine zTo (ml' := [(4, .int (i32 (10 * m + j + 1))), (3, .int (i32 (bgN z m its j))), (0, .ref 292), (1, .int (i32 m)), (2, .int its)]) (st' := []) (by rw [show (i32 (10 * m + j) + (1 : Int32)) = i32 (10 * m + j + 1) from i32_add (10 * m + j) 1]) rfl ?_
        refine zPs (pc1 := 8) (l1 := [(4, .int (i32 (10 * m + j + 1))), (3, .int (i32 (bgN z m its j))), (0, .ref 292), (1, .int (i32 m)), (2, .int its)]) (st1 := []) 1 rfl rfl rfl ?_
        refine zMl (ml' := [(4, .int (i32 (10 * m + (j + 1)))), (3, .int (i32 (bgN z m its (j + 1)))), (0, .ref 292), (1, .int (i32 m)), (2, .int its)]) ⟨rfl, (congrArg (fun x => some (Value.int (i32 x))) (show _ = bgN z m its (j + 1) by simp [bgN, *])), rfl, rfl, rfl, trivial⟩ rfl rfl ?_
        exact ih (j + 1) (by omega)
      · refine zPs (pc1 := 59) (l1 := [(4, .int (i32 (10 * m + j))), (3, .int (i32 (bgN z m its j))), (0, .ref 292), (1, .int (i32 m)), (2, .int its)]) (st1 := [.int (i32 (bgN z m its j) + (1 : Int32))]) 3 rfl rfl rfl ?_
        refine zTo (ml' := [(4, .int (i32 (10 * m + j))), (3, .int (i32 (bgN z m its j))), (0, .ref 292), (1, .int (i32 m)), (2, .int its)]) (st' := [.int (i32 (bgN z m its j + 1))]) rfl (by rw [show (i32 (bgN z m its j) + (1 : Int32)) = i32 (bgN z m its j + 1) from i32_add (bgN z m its j) 1]) ?_
        refine zPs (pc1 := 63) (l1 := [(4, .int (i32 (10 * m + j) + (1 : Int32))), (3, .int (i32 (bgN z m its j + 1))), (0, .ref 292), (1, .int (i32 m)), (2, .int its)]) (st1 := []) 2 rfl rfl rfl ?_
        refine zTo (ml' := [(4, .int (i32 (10 * m + j + 1))), (3, .int (i32 (bgN z m its j + 1))), (0, .ref 292), (1, .int (i32 m)), (2, .int its)]) (st' := []) (by rw [show (i32 (10 * m + j) + (1 : Int32)) = i32 (10 * m + j + 1) from i32_add (10 * m + j) 1]) rfl ?_
        refine zPs (pc1 := 8) (l1 := [(4, .int (i32 (10 * m + j + 1))), (3, .int (i32 (bgN z m its j + 1))), (0, .ref 292), (1, .int (i32 m)), (2, .int its)]) (st1 := []) 1 rfl rfl rfl ?_
        refine zMl (ml' := [(4, .int (i32 (10 * m + (j + 1)))), (3, .int (i32 (bgN z m its (j + 1)))), (0, .ref 292), (1, .int (i32 m)), (2, .int its)]) ⟨rfl, (congrArg (fun x => some (Value.int (i32 x))) (show _ = bgN z m its (j + 1) by simp [bgN, *])), rfl, rfl, rfl, trivial⟩ rfl rfl ?_
        exact ih (j + 1) (by omega)
theorem c_143 {z : Sg} {P : MO → Sg → Prop} {m q : Nat} {its : Int32} (hm : m < 30) (hl : q ≤ 10) (hq : z 306 m = i32 q) (k : P (.inl (some (.int (i32 (bgN z m its q))))) z) : Es true 143 [.ref 292, .int (i32 m), .int its] z P := by
  refine Es.of ?_
  refine zPs (pc1 := 6) (l1 := [(3, .int (0 : Int32)), (0, .ref 292), (1, .int (i32 m)), (2, .int its)]) (st1 := [.int ((10 : Int32) * i32 m)]) 5 rfl rfl rfl ?_
  refine zTo (ml' := [(3, .int (0 : Int32)), (0, .ref 292), (1, .int (i32 m)), (2, .int its)]) (st' := [.int (i32 (10 * m))]) rfl (by rw [show ((10 : Int32) * i32 m) = i32 (10 * m) from i32_mul 10 m]) ?_
  refine zPs (pc1 := 8) (l1 := [(4, .int (i32 (10 * m))), (3, .int (0 : Int32)), (0, .ref 292), (1, .int (i32 m)), (2, .int its)]) (st1 := []) 1 rfl rfl rfl ?_
  refine zMl (ml' := [(4, .int (i32 (10 * m + 0))), (3, .int (i32 (bgN z m its 0))), (0, .ref 292), (1, .int (i32 m)), (2, .int its)]) ⟨rfl, rfl, rfl, rfl, rfl, trivial⟩ rfl rfl ?_
  exact l_143 hm hl hq k q 0 (by omega)
