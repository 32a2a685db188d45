/-! ===== the class: its face, what is so ===== -/
noncomputable def f_56 (n : Nat) (x0 : Int32) (l : Sg) : PO := (if isCl n x0 then (.inl (l 311 x0.toNatClampNeg), l) else (.inr 0, l))
theorem e_56 {l : Sg} {P : MO → Sg → Prop} {n : Nat} {x0 : Int32} (hl : n ≤ 60) (hCI : CI l n)  (k : Rk (Qp P) (f_56 n x0 l)) : Es false 56 [.ref 0, .int x0] l P := by
  unfold f_56 at k
  refine Es.of ?_
  refine zPs (pc1 := 2) (l1 := [(0, .ref 0), (1, .int x0)]) (st1 := [.int x0, .ref 0]) 2 rfl rfl rfl ?_
  refine zCv (mj := 69) (k := 0) (n := 1) rfl rfl rfl rfl (by decide) rfl rfl rfl rfl rfl rfl ?_
  refine e_69 hCI.1 (fun h1 => ?_) (fun h1 => ?_)
  · replace k := ite_t h1 k
    have h2 := rng_i32 (b := n) (by omega) h1.1 h1.2
    refine kV ?_
    refine zPs (pc1 := 6) (l1 := [(0, .ref 0), (1, .int x0)]) (st1 := [.ref 0]) 1 rfl rfl rfl ?_
    refine zGetR (r := 2) rfl rfl ⟨by decide, rfl, by decide, rfl⟩ ?_
    refine zPs (pc1 := 10) (l1 := [(0, .ref 0), (1, .int x0)]) (st1 := [.int x0, .ref 2]) 1 rfl rfl rfl ?_
    refine zAalE (n := x0.toNatClampNeg) h2.2 rfl rfl (irL (Nat.lt_of_lt_of_le h2.1 hl)) ?_
    refine zGetI (F := 311) (I := x0.toNatClampNeg) (v := l 311 x0.toNatClampNeg) rfl rfl (icL (j := 1) (Nat.lt_of_lt_of_le h2.1 hl) rfl) rfl ?_
    refine zRi rfl rfl ?_
    exact k
  · replace k := ite_f h1 k
    refine kX ?_
    exact k
theorem x_56 {n : Nat} {x0 : Int32} {l : Sg} (x : Nat) (h : (f_56 n x0 l).1 = .inr x) : x < 3 := by
  unfold f_56 at h
  try simp only [bnd, bnd2] at h
  repeat' split at h
  all_goals first | (cases h; decide) | cases h
noncomputable def f_57 (n : Nat) (x0 : Int32) (l : Sg) : PO := (if isCl n x0 then (.inl (l 312 x0.toNatClampNeg), l) else (.inr 0, l))
theorem e_57 {l : Sg} {P : MO → Sg → Prop} {n : Nat} {x0 : Int32} (hl : n ≤ 60) (hCI : CI l n)  (k : Rk (Qp P) (f_57 n x0 l)) : Es false 57 [.ref 0, .int x0] l P := by
  unfold f_57 at k
  refine Es.of ?_
  refine zPs (pc1 := 2) (l1 := [(0, .ref 0), (1, .int x0)]) (st1 := [.int x0, .ref 0]) 2 rfl rfl rfl ?_
  refine zCv (mj := 69) (k := 0) (n := 1) rfl rfl rfl rfl (by decide) rfl rfl rfl rfl rfl rfl ?_
  refine e_69 hCI.1 (fun h1 => ?_) (fun h1 => ?_)
  · replace k := ite_t h1 k
    have h2 := rng_i32 (b := n) (by omega) h1.1 h1.2
    refine kV ?_
    refine zPs (pc1 := 6) (l1 := [(0, .ref 0), (1, .int x0)]) (st1 := [.ref 0]) 1 rfl rfl rfl ?_
    refine zGetR (r := 2) rfl rfl ⟨by decide, rfl, by decide, rfl⟩ ?_
    refine zPs (pc1 := 10) (l1 := [(0, .ref 0), (1, .int x0)]) (st1 := [.int x0, .ref 2]) 1 rfl rfl rfl ?_
    refine zAalE (n := x0.toNatClampNeg) h2.2 rfl rfl (irL (Nat.lt_of_lt_of_le h2.1 hl)) ?_
    refine zGetI (F := 312) (I := x0.toNatClampNeg) (v := l 312 x0.toNatClampNeg) rfl rfl (icL (j := 2) (Nat.lt_of_lt_of_le h2.1 hl) rfl) rfl ?_
    refine zRi rfl rfl ?_
    exact k
  · replace k := ite_f h1 k
    refine kX ?_
    exact k
theorem x_57 {n : Nat} {x0 : Int32} {l : Sg} (x : Nat) (h : (f_57 n x0 l).1 = .inr x) : x < 3 := by
  unfold f_57 at h
  try simp only [bnd, bnd2] at h
  repeat' split at h
  all_goals first | (cases h; decide) | cases h
noncomputable def f_58 (n : Nat) (x0 : Int32) (l : Sg) : PO := (if isCl n x0 then (.inl (l 313 x0.toNatClampNeg), l) else (.inr 0, l))
theorem e_58 {l : Sg} {P : MO → Sg → Prop} {n : Nat} {x0 : Int32} (hl : n ≤ 60) (hCI : CI l n)  (k : Rk (Qp P) (f_58 n x0 l)) : Es false 58 [.ref 0, .int x0] l P := by
  unfold f_58 at k
  refine Es.of ?_
  refine zPs (pc1 := 2) (l1 := [(0, .ref 0), (1, .int x0)]) (st1 := [.int x0, .ref 0]) 2 rfl rfl rfl ?_
  refine zCv (mj := 69) (k := 0) (n := 1) rfl rfl rfl rfl (by decide) rfl rfl rfl rfl rfl rfl ?_
  refine e_69 hCI.1 (fun h1 => ?_) (fun h1 => ?_)
  · replace k := ite_t h1 k
    have h2 := rng_i32 (b := n) (by omega) h1.1 h1.2
    refine kV ?_
    refine zPs (pc1 := 6) (l1 := [(0, .ref 0), (1, .int x0)]) (st1 := [.ref 0]) 1 rfl rfl rfl ?_
    refine zGetR (r := 2) rfl rfl ⟨by decide, rfl, by decide, rfl⟩ ?_
    refine zPs (pc1 := 10) (l1 := [(0, .ref 0), (1, .int x0)]) (st1 := [.int x0, .ref 2]) 1 rfl rfl rfl ?_
    refine zAalE (n := x0.toNatClampNeg) h2.2 rfl rfl (irL (Nat.lt_of_lt_of_le h2.1 hl)) ?_
    refine zGetI (F := 313) (I := x0.toNatClampNeg) (v := l 313 x0.toNatClampNeg) rfl rfl (icL (j := 3) (Nat.lt_of_lt_of_le h2.1 hl) rfl) rfl ?_
    refine zRi rfl rfl ?_
    exact k
  · replace k := ite_f h1 k
    refine kX ?_
    exact k
theorem x_58 {n : Nat} {x0 : Int32} {l : Sg} (x : Nat) (h : (f_58 n x0 l).1 = .inr x) : x < 3 := by
  unfold f_58 at h
  try simp only [bnd, bnd2] at h
  repeat' split at h
  all_goals first | (cases h; decide) | cases h
noncomputable def f_59 (n : Nat) (x0 : Int32) (l : Sg) : PO := (if isCl n x0 then (.inl (l 317 x0.toNatClampNeg), l) else (.inr 0, l))
theorem e_59 {l : Sg} {P : MO → Sg → Prop} {n : Nat} {x0 : Int32} (hl : n ≤ 60) (hCI : CI l n)  (k : Rk (Qp P) (f_59 n x0 l)) : Es false 59 [.ref 0, .int x0] l P := by
  unfold f_59 at k
  refine Es.of ?_
  refine zPs (pc1 := 2) (l1 := [(0, .ref 0), (1, .int x0)]) (st1 := [.int x0, .ref 0]) 2 rfl rfl rfl ?_
  refine zCv (mj := 69) (k := 0) (n := 1) rfl rfl rfl rfl (by decide) rfl rfl rfl rfl rfl rfl ?_
  refine e_69 hCI.1 (fun h1 => ?_) (fun h1 => ?_)
  · replace k := ite_t h1 k
    have h2 := rng_i32 (b := n) (by omega) h1.1 h1.2
    refine kV ?_
    refine zPs (pc1 := 6) (l1 := [(0, .ref 0), (1, .int x0)]) (st1 := [.ref 0]) 1 rfl rfl rfl ?_
    refine zGetR (r := 2) rfl rfl ⟨by decide, rfl, by decide, rfl⟩ ?_
    refine zPs (pc1 := 10) (l1 := [(0, .ref 0), (1, .int x0)]) (st1 := [.int x0, .ref 2]) 1 rfl rfl rfl ?_
    refine zAalE (n := x0.toNatClampNeg) h2.2 rfl rfl (irL (Nat.lt_of_lt_of_le h2.1 hl)) ?_
    refine zGetI (F := 317) (I := x0.toNatClampNeg) (v := l 317 x0.toNatClampNeg) rfl rfl (icL (j := 6) (Nat.lt_of_lt_of_le h2.1 hl) rfl) rfl ?_
    refine zRi rfl rfl ?_
    exact k
  · replace k := ite_f h1 k
    refine kX ?_
    exact k
theorem x_59 {n : Nat} {x0 : Int32} {l : Sg} (x : Nat) (h : (f_59 n x0 l).1 = .inr x) : x < 3 := by
  unfold f_59 at h
  try simp only [bnd, bnd2] at h
  repeat' split at h
  all_goals first | (cases h; decide) | cases h
noncomputable def g_60 (n : Nat) (c : Nat) (x0 : Int32) (sc : Int32) : Nat → Nat → Int32 → Sg → PO
  | 0, _, a, l => (.inl a, l)
  | d + 1, j, a, l => (if (f_14 j (l 320 c) l) = 0 then g_60 n c x0 sc d (j + 1) a l else (if (f_103 (f_16 j (l 292 0) l) (i32 j) sc x0) = 0 then g_60 n c x0 sc d (j + 1) a l else g_60 n c x0 sc d (j + 1) (a + (1 : Int32)) l))
theorem lg_60 {l : Sg} {P : MO → Sg → Prop} {rc rs : Nat} {n : Nat} {c : Nat} {x0 : Int32} {sc : Int32}(hl : n ≤ 60) (hCI : CI l n) (hc : c < 60) : ∀ (d j : Nat) (a : Int32), j + d = n → Rk (Qp P) (g_60 n c x0 sc d j a l) → Ws false 60 rc rs 36 [(5, .int (i32 j)), (4, .int a), (3, .int sc), (2, .ref (166 + 2 * c)), (0, .ref 0), (1, .int x0)] [] l P := by
  intro d
  induction d with
  | zero =>
    intro j a hj k
    obtain rfl : n = j := by omega
    rw [g_60] at k
    refine zPs (pc1 := 39) (l1 := [(5, .int (i32 n)), (4, .int a), (3, .int sc), (2, .ref (166 + 2 * c)), (0, .ref 0), (1, .int x0)]) (st1 := [.ref 0, .int (i32 n)]) 2 rfl rfl rfl ?_
    refine zGetI (F := 292) (I := 19) (v := i32 n) rfl rfl icCalls hCI.1 ?_
    refine nCge (a := n) (b := n) (by omega) (by omega) rfl (fun h1 => ?_) (fun h1 => absurd (Nat.le_refl _) h1)
    refine zPs (pc1 := 96) (l1 := [(5, .int (i32 n)), (4, .int a), (3, .int sc), (2, .ref (166 + 2 * c)), (0, .ref 0), (1, .int x0)]) (st1 := [.int a]) 1 rfl rfl rfl ?_
    refine zRi rfl rfl ?_
    exact k
  | succ d ih =>
    intro j a hj k
    have hjl : j < n := by omega
    rw [g_60] at k
    refine zPs (pc1 := 39) (l1 := [(5, .int (i32 j)), (4, .int a), (3, .int sc), (2, .ref (166 + 2 * c)), (0, .ref 0), (1, .int x0)]) (st1 := [.ref 0, .int (i32 j)]) 2 rfl rfl rfl ?_
    refine zGetI (F := 292) (I := 19) (v := i32 n) rfl rfl icCalls hCI.1 ?_
    refine nCge (a := j) (b := n) (by omega) (by omega) rfl (fun h1 => absurd h1 (by omega)) (fun h1 => ?_)
    refine zPs (pc1 := 46) (l1 := [(5, .int (i32 j)), (4, .int a), (3, .int sc), (2, .ref (166 + 2 * c)), (0, .ref 0), (1, .int x0)]) (st1 := [.ref 0]) 1 rfl rfl rfl ?_
    refine zGetR (r := 2) rfl rfl ⟨by decide, rfl, by decide, rfl⟩ ?_
    refine zPs (pc1 := 51) (l1 := [(5, .int (i32 j)), (4, .int a), (3, .int sc), (2, .ref (166 + 2 * c)), (0, .ref 0), (1, .int x0)]) (st1 := [.int (i32 j), .ref 2]) 1 rfl rfl rfl ?_
    refine zAal (n := j) rfl rfl (irL (by omega)) ?_
    refine zPs (pc1 := 57) (l1 := [(6, .ref (166 + 2 * j)), (5, .int (i32 j)), (4, .int a), (3, .int sc), (2, .ref (166 + 2 * c)), (0, .ref 0), (1, .int x0)]) (st1 := [.ref (166 + 2 * c), .ref (166 + 2 * j)]) 3 rfl rfl rfl ?_
    refine zGetI (F := 320) (I := c) (v := l 320 c) rfl rfl (icL (j := 11) hc rfl) rfl ?_
    refine zCv (mj := 14) (k := (166 + 2 * j)) (n := 1) rfl rfl rfl rfl (by have := (by omega); omega) (tagK_line (by omega)) rfl rfl rfl rfl rfl ?_
    refine e_14 (by omega) ?_
    refine kI ?_
    refine zIfe rfl (fun h2 => ?_) (fun h2 => ?_)
    · replace k := ite_t h2 k
      refine zPs (pc1 := 91) (l1 := [(5, .int (i32 j + (1 : Int32))), (6, .ref (166 + 2 * j)), (4, .int a), (3, .int sc), (2, .ref (166 + 2 * c)), (0, .ref 0), (1, .int x0)]) (st1 := []) 1 rfl rfl rfl ?_
      refine zTo (ml' := [(5, .int (i32 (j + 1))), (6, .ref (166 + 2 * j)), (4, .int a), (3, .int sc), (2, .ref (166 + 2 * c)), (0, .ref 0), (1, .int x0)]) (st' := []) (by rw [show (i32 j + (1 : Int32)) = i32 (j + 1) from i32_add j 1]) rfl ?_
      refine zPs (pc1 := 36) (l1 := [(5, .int (i32 (j + 1))), (6, .ref (166 + 2 * j)), (4, .int a), (3, .int sc), (2, .ref (166 + 2 * c)), (0, .ref 0), (1, .int x0)]) (st1 := []) 1 rfl rfl rfl ?_
      refine zMl (ml' := [(5, .int (i32 (j + 1))), (4, .int a), (3, .int sc), (2, .ref (166 + 2 * c)), (0, .ref 0), (1, .int x0)]) ⟨rfl, rfl, rfl, rfl, rfl, rfl, trivial⟩ rfl rfl ?_
      exact ih (j + 1) a (by omega) k
    · replace k := ite_f h2 k
      refine zPs (pc1 := 69) (l1 := [(6, .ref (166 + 2 * j)), (5, .int (i32 j)), (4, .int a), (3, .int sc), (2, .ref (166 + 2 * c)), (0, .ref 0), (1, .int x0)]) (st1 := [.ref 0, .ref (166 + 2 * j)]) 2 rfl rfl rfl ?_
      refine zGetI (F := 292) (I := 0) (v := l 292 0) rfl rfl icNow rfl ?_
      refine zCv (mj := 16) (k := (166 + 2 * j)) (n := 1) rfl rfl rfl rfl (by have := (by omega); omega) (tagK_line (by omega)) rfl rfl rfl rfl rfl ?_
      refine e_16 (by omega) ?_
      refine kI ?_
      refine zPs (pc1 := 79) (l1 := [(6, .ref (166 + 2 * j)), (5, .int (i32 j)), (4, .int a), (3, .int sc), (2, .ref (166 + 2 * c)), (0, .ref 0), (1, .int x0)]) (st1 := [.int x0, .int sc, .int (i32 j), .int (f_16 j (l 292 0) l)]) 3 rfl rfl rfl ?_
      refine zCs (mj := 103) rfl rfl rfl rfl rfl rfl rfl rfl ?_
      refine e_103 ?_
      refine kI ?_
      refine zIfe rfl (fun h3 => ?_) (fun h3 => ?_)
      · replace k := ite_t h3 k
        refine zPs (pc1 := 91) (l1 := [(5, .int (i32 j + (1 : Int32))), (6, .ref (166 + 2 * j)), (4, .int a), (3, .int sc), (2, .ref (166 + 2 * c)), (0, .ref 0), (1, .int x0)]) (st1 := []) 1 rfl rfl rfl ?_
        refine zTo (ml' := [(5, .int (i32 (j + 1))), (6, .ref (166 + 2 * j)), (4, .int a), (3, .int sc), (2, .ref (166 + 2 * c)), (0, .ref 0), (1, .int x0)]) (st' := []) (by rw [show (i32 j + (1 : Int32)) = i32 (j + 1) from i32_add j 1]) rfl ?_
        refine zPs (pc1 := 36) (l1 := [(5, .int (i32 (j + 1))), (6, .ref (166 + 2 * j)), (4, .int a), (3, .int sc), (2, .ref (166 + 2 * c)), (0, .ref 0), (1, .int x0)]) (st1 := []) 1 rfl rfl rfl ?_
        refine zMl (ml' := [(5, .int (i32 (j + 1))), (4, .int a), (3, .int sc), (2, .ref (166 + 2 * c)), (0, .ref 0), (1, .int x0)]) ⟨rfl, rfl, rfl, rfl, rfl, rfl, trivial⟩ rfl rfl ?_
        exact ih (j + 1) a (by omega) k
      · replace k := ite_f h3 k
        refine zPs (pc1 := 91) (l1 := [(5, .int (i32 j + (1 : Int32))), (4, .int (a + (1 : Int32))), (6, .ref (166 + 2 * j)), (3, .int sc), (2, .ref (166 + 2 * c)), (0, .ref 0), (1, .int x0)]) (st1 := []) 2 rfl rfl rfl ?_
        refine zTo (ml' := [(5, .int (i32 (j + 1))), (4, .int (a + (1 : Int32))), (6, .ref (166 + 2 * j)), (3, .int sc), (2, .ref (166 + 2 * c)), (0, .ref 0), (1, .int x0)]) (st' := []) (by rw [show (i32 j + (1 : Int32)) = i32 (j + 1) from i32_add j 1]) rfl ?_
        refine zPs (pc1 := 36) (l1 := [(5, .int (i32 (j + 1))), (4, .int (a + (1 : Int32))), (6, .ref (166 + 2 * j)), (3, .int sc), (2, .ref (166 + 2 * c)), (0, .ref 0), (1, .int x0)]) (st1 := []) 1 rfl rfl rfl ?_
        refine zMl (ml' := [(5, .int (i32 (j + 1))), (4, .int (a + (1 : Int32))), (3, .int sc), (2, .ref (166 + 2 * c)), (0, .ref 0), (1, .int x0)]) ⟨rfl, rfl, rfl, rfl, rfl, rfl, trivial⟩ rfl rfl ?_
        exact ih (j + 1) (a + (1 : Int32)) (by omega) k
noncomputable def f_60 (n : Nat) (x0 : Int32) (l : Sg) : PO := (if isCl n x0 then (if ¬ (f_13 x0.toNatClampNeg l) = 0 then g_60 n x0.toNatClampNeg x0 (f_16 x0.toNatClampNeg (l 292 0) l) n 0 0 l else (.inl (-1 : Int32), l)) else (.inr 0, l))
theorem e_60 {l : Sg} {P : MO → Sg → Prop} {n : Nat} {x0 : Int32} (hl : n ≤ 60) (hCI : CI l n)  (k : Rk (Qp P) (f_60 n x0 l)) : Es false 60 [.ref 0, .int x0] l P := by
  unfold f_60 at k
  refine Es.of ?_
  refine zPs (pc1 := 2) (l1 := [(0, .ref 0), (1, .int x0)]) (st1 := [.int x0, .ref 0]) 2 rfl rfl rfl ?_
  refine zCv (mj := 69) (k := 0) (n := 1) rfl rfl rfl rfl (by decide) rfl rfl rfl rfl rfl rfl ?_
  refine e_69 hCI.1 (fun h1 => ?_) (fun h1 => ?_)
  · replace k := ite_t h1 k
    have h2 := rng_i32 (b := n) (by omega) h1.1 h1.2
    refine kV ?_
    refine zPs (pc1 := 6) (l1 := [(0, .ref 0), (1, .int x0)]) (st1 := [.ref 0]) 1 rfl rfl rfl ?_
    refine zGetR (r := 2) rfl rfl ⟨by decide, rfl, by decide, rfl⟩ ?_
    refine zPs (pc1 := 10) (l1 := [(0, .ref 0), (1, .int x0)]) (st1 := [.int x0, .ref 2]) 1 rfl rfl rfl ?_
    refine zAalE (n := x0.toNatClampNeg) h2.2 rfl rfl (irL (Nat.lt_of_lt_of_le h2.1 hl)) ?_
    refine zPs (pc1 := 13) (l1 := [(2, .ref (166 + 2 * x0.toNatClampNeg)), (0, .ref 0), (1, .int x0)]) (st1 := [.ref (166 + 2 * x0.toNatClampNeg)]) 2 rfl rfl rfl ?_
    refine zCv (mj := 13) (k := (166 + 2 * x0.toNatClampNeg)) (n := 0) rfl rfl rfl rfl (by have := (Nat.lt_of_lt_of_le h2.1 hl); omega) (tagK_line (Nat.lt_of_lt_of_le h2.1 hl)) rfl rfl rfl rfl rfl ?_
    refine e_13 (Nat.lt_of_lt_of_le h2.1 hl) ?_
    refine kI ?_
    refine zIfn rfl (fun h3 => ?_) (fun h3 => ?_)
    · replace k := ite_t h3 k
      refine zPs (pc1 := 23) (l1 := [(2, .ref (166 + 2 * x0.toNatClampNeg)), (0, .ref 0), (1, .int x0)]) (st1 := [.ref 0, .ref (166 + 2 * x0.toNatClampNeg)]) 2 rfl rfl rfl ?_
      refine zGetI (F := 292) (I := 0) (v := l 292 0) rfl rfl icNow rfl ?_
      refine zCv (mj := 16) (k := (166 + 2 * x0.toNatClampNeg)) (n := 1) rfl rfl rfl rfl (by have := (Nat.lt_of_lt_of_le h2.1 hl); omega) (tagK_line (Nat.lt_of_lt_of_le h2.1 hl)) rfl rfl rfl rfl rfl ?_
      refine e_16 (Nat.lt_of_lt_of_le h2.1 hl) ?_
      refine kI ?_
      refine zPs (pc1 := 36) (l1 := [(5, .int (0 : Int32)), (4, .int (0 : Int32)), (3, .int (f_16 x0.toNatClampNeg (l 292 0) l)), (2, .ref (166 + 2 * x0.toNatClampNeg)), (0, .ref 0), (1, .int x0)]) (st1 := []) 5 rfl rfl rfl ?_
      refine zMl (ml' := [(5, .int (i32 0)), (4, .int (0 : Int32)), (3, .int (f_16 x0.toNatClampNeg (l 292 0) l)), (2, .ref (166 + 2 * x0.toNatClampNeg)), (0, .ref 0), (1, .int x0)]) ⟨rfl, rfl, rfl, rfl, rfl, rfl, trivial⟩ rfl rfl ?_
      exact lg_60 hl hCI (Nat.lt_of_lt_of_le h2.1 hl) n 0 0 (by omega) k
    · replace k := ite_f (not_not_intro h3) k
      refine zPs (pc1 := 20) (l1 := [(2, .ref (166 + 2 * x0.toNatClampNeg)), (0, .ref 0), (1, .int x0)]) (st1 := [.int (-1 : Int32)]) 1 rfl rfl rfl ?_
      refine zRi rfl rfl ?_
      exact k
  · replace k := ite_f h1 k
    refine kX ?_
    exact k
theorem xg_60 {n c : Nat} {x0 sc : Int32} : ∀ d j a l x, (g_60 n c x0 sc d j a l).1 = .inr x → False
  | 0, j, a, l, x, h => by rw [g_60] at h; cases h
  | d + 1, j, a, l, x, h => by
    rw [g_60] at h
    repeat' split at h
    all_goals exact xg_60 d _ _ _ x h
theorem x_60 {n : Nat} {x0 : Int32} {l : Sg} (x : Nat) (h : (f_60 n x0 l).1 = .inr x) : x < 3 := by
  unfold f_60 at h
  repeat' split at h
  all_goals first | (cases h; decide) | cases h | exact absurd h (xg_60 _ _ _ _ _)
theorem g_7_mem {x t o sc : Int32} : ∀ d j a l, (g_7 x t o sc d j a l).2 = l
  | 0, j, a, l => by rw [g_7]
  | d + 1, j, a, l => by
    rw [g_7]
    repeat' split
    all_goals exact g_7_mem d _ _ _
theorem ci_7 {n : Nat} {x t : Int32} {l : Sg} (h : CI l n) : CI (f_7 x t l).2 n := by
  unfold f_7
  repeat' first | with_reducible exact h | with_reducible exact ci_6 h | with_reducible refine CI_ite2 ?_ ?_ | with_reducible refine CI_bnd' ?_ | rw [g_7_mem]
noncomputable def f_61 (n : Nat) (x0 : Int32) (l : Sg) : PO := (if isCl n x0 then (bnd2 (f_7 x0 (l 292 0) l) fun v3 l3 => (.inl v3, l3)) else (.inr 0, l))
theorem e_61 {l : Sg} {P : MO → Sg → Prop} {n : Nat} {x0 : Int32} (hl : n ≤ 60) (hCI : CI l n)  (k : Rk (Qp P) (f_61 n x0 l)) : Es false 61 [.ref 0, .int x0] l P := by
  unfold f_61 at k
  refine Es.of ?_
  refine zPs (pc1 := 2) (l1 := [(0, .ref 0), (1, .int x0)]) (st1 := [.int x0, .ref 0]) 2 rfl rfl rfl ?_
  refine zCv (mj := 69) (k := 0) (n := 1) rfl rfl rfl rfl (by decide) rfl rfl rfl rfl rfl rfl ?_
  refine e_69 hCI.1 (fun h1 => ?_) (fun h1 => ?_)
  · replace k := ite_t h1 k
    have h2 := rng_i32 (b := n) (by omega) h1.1 h1.2
    refine kV ?_
    refine zPs (pc1 := 6) (l1 := [(0, .ref 0), (1, .int x0)]) (st1 := [.ref 0]) 1 rfl rfl rfl ?_
    refine zGetR (r := 8) rfl rfl ⟨by decide, rfl, by decide, rfl⟩ ?_
    refine zPs (pc1 := 11) (l1 := [(0, .ref 0), (1, .int x0)]) (st1 := [.ref 0, .int x0, .ref 8]) 2 rfl rfl rfl ?_
    refine zGetI (F := 292) (I := 0) (v := l 292 0) rfl rfl icNow rfl ?_
    refine zCv (mj := 7) (k := 8) (n := 2) rfl rfl rfl rfl (by decide) rfl rfl rfl rfl rfl rfl ?_
    refine e_7 hl hCI ?_
    refine kI ?_
    have hCI3 : CI (f_7 x0 (l 292 0) l).2 n := ci_7 hCI
    replace k := bnd2_i k
    generalize (f_7 x0 (l 292 0) l).1 = v3 at k ⊢
    generalize (f_7 x0 (l 292 0) l).2 = l3 at k hCI3 ⊢
    refine zRi rfl rfl ?_
    exact k
  · replace k := ite_f h1 k
    refine kX ?_
    exact k
theorem x_61 {n : Nat} {x0 : Int32} {l : Sg} (x : Nat) (h : (f_61 n x0 l).1 = .inr x) : x < 3 := by
  unfold f_61 at h
  try simp only [bnd, bnd2] at h
  repeat' split at h
  all_goals first | (cases h; decide) | cases h
noncomputable def f_62 (n : Nat) (x0 : Int32) (l : Sg) : PO := (if (0 : Int32) ≤ x0 ∧ x0 ≤ (5 : Int32) then (.inl (f_102 n x0 l), l) else (.inr 1, l))
theorem e_62 {l : Sg} {P : MO → Sg → Prop} {n : Nat} {x0 : Int32} (hl : n ≤ 60) (hCI : CI l n)  (k : Rk (Qp P) (f_62 n x0 l)) : Es false 62 [.ref 0, .int x0] l P := by
  unfold f_62 at k
  refine Es.of ?_
  refine zPs (pc1 := 4) (l1 := [(0, .ref 0), (1, .int x0)]) (st1 := [.int (5 : Int32), .int (0 : Int32), .int x0, .ref 0]) 4 rfl rfl rfl ?_
  refine zCv (mj := 71) (k := 0) (n := 3) rfl rfl rfl rfl (by decide) rfl rfl rfl rfl rfl rfl ?_
  refine e_71 (fun h1 => ?_) (fun h1 => ?_)
  · replace k := ite_t h1 k
    have h2 := rng_le (b := 5) (by decide) h1.1 h1.2
    refine kV ?_
    refine zPs (pc1 := 9) (l1 := [(0, .ref 0), (1, .int x0)]) (st1 := [.int x0, .ref 0]) 2 rfl rfl rfl ?_
    refine zCv (mj := 102) (k := 0) (n := 1) rfl rfl rfl rfl (by decide) rfl rfl rfl rfl rfl rfl ?_
    refine e_102 hl hCI ?_
    refine kI ?_
    refine zRi rfl rfl ?_
    exact k
  · replace k := ite_f h1 k
    refine kX ?_
    exact k
theorem x_62 {n : Nat} {x0 : Int32} {l : Sg} (x : Nat) (h : (f_62 n x0 l).1 = .inr x) : x < 3 := by
  unfold f_62 at h
  try simp only [bnd, bnd2] at h
  repeat' split at h
  all_goals first | (cases h; decide) | cases h
noncomputable def f_63 (n : Nat) (x0 : Int32) (l : Sg) : PO := (if isA x0 then (.inl (l 326 x0.toNatClampNeg), l) else (.inr 0, l))
theorem e_63 {l : Sg} {P : MO → Sg → Prop} {n : Nat} {x0 : Int32} (hl : n ≤ 60) (hCI : CI l n)  (k : Rk (Qp P) (f_63 n x0 l)) : Es false 63 [.ref 0, .int x0] l P := by
  unfold f_63 at k
  refine Es.of ?_
  refine zPs (pc1 := 2) (l1 := [(0, .ref 0), (1, .int x0)]) (st1 := [.int x0, .ref 0]) 2 rfl rfl rfl ?_
  refine zCv (mj := 70) (k := 0) (n := 1) rfl rfl rfl rfl (by decide) rfl rfl rfl rfl rfl rfl ?_
  refine e_70 (fun h1 => ?_) (fun h1 => ?_)
  · replace k := ite_t h1 k
    have h2 := rng_i32 (b := 6) (by decide) h1.1 h1.2
    refine kV ?_
    refine zPs (pc1 := 6) (l1 := [(0, .ref 0), (1, .int x0)]) (st1 := [.ref 0]) 1 rfl rfl rfl ?_
    refine zGetR (r := 3) rfl rfl ⟨by decide, rfl, by decide, rfl⟩ ?_
    refine zPs (pc1 := 10) (l1 := [(0, .ref 0), (1, .int x0)]) (st1 := [.int x0, .ref 3]) 1 rfl rfl rfl ?_
    refine zAalE (n := x0.toNatClampNeg) h2.2 rfl rfl (irD h2.1) ?_
    refine zGetI (F := 326) (I := x0.toNatClampNeg) (v := l 326 x0.toNatClampNeg) rfl rfl (icD (j := 0) h2.1 rfl) rfl ?_
    refine zRi rfl rfl ?_
    exact k
  · replace k := ite_f h1 k
    refine kX ?_
    exact k
theorem x_63 {n : Nat} {x0 : Int32} {l : Sg} (x : Nat) (h : (f_63 n x0 l).1 = .inr x) : x < 3 := by
  unfold f_63 at h
  try simp only [bnd, bnd2] at h
  repeat' split at h
  all_goals first | (cases h; decide) | cases h
noncomputable def f_64 (n : Nat) (x0 : Int32) (l : Sg) : PO := (if isA x0 then (.inl (l 331 x0.toNatClampNeg), l) else (.inr 0, l))
theorem e_64 {l : Sg} {P : MO → Sg → Prop} {n : Nat} {x0 : Int32} (hl : n ≤ 60) (hCI : CI l n)  (k : Rk (Qp P) (f_64 n x0 l)) : Es false 64 [.ref 0, .int x0] l P := by
  unfold f_64 at k
  refine Es.of ?_
  refine zPs (pc1 := 2) (l1 := [(0, .ref 0), (1, .int x0)]) (st1 := [.int x0, .ref 0]) 2 rfl rfl rfl ?_
  refine zCv (mj := 70) (k := 0) (n := 1) rfl rfl rfl rfl (by decide) rfl rfl rfl rfl rfl rfl ?_
  refine e_70 (fun h1 => ?_) (fun h1 => ?_)
  · replace k := ite_t h1 k
    have h2 := rng_i32 (b := 6) (by decide) h1.1 h1.2
    refine kV ?_
    refine zPs (pc1 := 6) (l1 := [(0, .ref 0), (1, .int x0)]) (st1 := [.ref 0]) 1 rfl rfl rfl ?_
    refine zGetR (r := 3) rfl rfl ⟨by decide, rfl, by decide, rfl⟩ ?_
    refine zPs (pc1 := 10) (l1 := [(0, .ref 0), (1, .int x0)]) (st1 := [.int x0, .ref 3]) 1 rfl rfl rfl ?_
    refine zAalE (n := x0.toNatClampNeg) h2.2 rfl rfl (irD h2.1) ?_
    refine zGetI (F := 331) (I := x0.toNatClampNeg) (v := l 331 x0.toNatClampNeg) rfl rfl (icD (j := 2) h2.1 rfl) rfl ?_
    refine zRi rfl rfl ?_
    exact k
  · replace k := ite_f h1 k
    refine kX ?_
    exact k
theorem x_64 {n : Nat} {x0 : Int32} {l : Sg} (x : Nat) (h : (f_64 n x0 l).1 = .inr x) : x < 3 := by
  unfold f_64 at h
  try simp only [bnd, bnd2] at h
  repeat' split at h
  all_goals first | (cases h; decide) | cases h
noncomputable def f_66 (n : Nat) (x0 : Int32) (l : Sg) : PO := (if isN x0 then (.inl (l 310 x0.toNatClampNeg), l) else (.inr 0, l))
theorem e_66 {l : Sg} {P : MO → Sg → Prop} {n : Nat} {x0 : Int32} (hl : n ≤ 60) (hCI : CI l n)  (k : Rk (Qp P) (f_66 n x0 l)) : Es false 66 [.ref 0, .int x0] l P := by
  unfold f_66 at k
  refine Es.of ?_
  refine zPs (pc1 := 2) (l1 := [(0, .ref 0), (1, .int x0)]) (st1 := [.int x0, .ref 0]) 2 rfl rfl rfl ?_
  refine zCv (mj := 67) (k := 0) (n := 1) rfl rfl rfl rfl (by decide) rfl rfl rfl rfl rfl rfl ?_
  refine e_67 (fun h1 => ?_) (fun h1 => ?_)
  · replace k := ite_t h1 k
    have h2 := isN_lt h1
    refine kV ?_
    refine zPs (pc1 := 6) (l1 := [(0, .ref 0), (1, .int x0)]) (st1 := [.ref 0]) 1 rfl rfl rfl ?_
    refine zGetR (r := 45) rfl rfl ⟨by decide, rfl, by decide, rfl⟩ ?_
    refine zPs (pc1 := 10) (l1 := [(0, .ref 0), (1, .int x0)]) (st1 := [.int x0, .ref 45]) 1 rfl rfl rfl ?_
    refine zIalE (n := x0.toNatClampNeg) (v := l 310 x0.toNatClampNeg) h2.2 rfl (icBeg h2.1) rfl ?_
    refine zRi rfl rfl ?_
    exact k
  · replace k := ite_f h1 k
    refine kX ?_
    exact k
theorem x_66 {n : Nat} {x0 : Int32} {l : Sg} (x : Nat) (h : (f_66 n x0 l).1 = .inr x) : x < 3 := by
  unfold f_66 at h
  try simp only [bnd, bnd2] at h
  repeat' split at h
  all_goals first | (cases h; decide) | cases h
noncomputable def f_65 (n : Nat) (x0 : Int32) (x1 : Int32) (l : Sg) : PO := (if isN x0 then (if isT x1 then (.inl (l 309 (31 * x0.toNatClampNeg + (if (x1 + (1 : Int32)).toNatClampNeg = 0 then 30 else (x1 + (1 : Int32)).toNatClampNeg - 1))), l) else (.inr 0, l)) else (.inr 0, l))
theorem e_65 {l : Sg} {P : MO → Sg → Prop} {n : Nat} {x0 : Int32} {x1 : Int32} (hl : n ≤ 60) (hCI : CI l n)  (k : Rk (Qp P) (f_65 n x0 x1 l)) : Es false 65 [.ref 0, .int x0, .int x1] l P := by
  unfold f_65 at k
  refine Es.of ?_
  refine zPs (pc1 := 2) (l1 := [(0, .ref 0), (1, .int x0), (2, .int x1)]) (st1 := [.int x0, .ref 0]) 2 rfl rfl rfl ?_
  refine zCv (mj := 67) (k := 0) (n := 1) rfl rfl rfl rfl (by decide) rfl rfl rfl rfl rfl rfl ?_
  refine e_67 (fun h1 => ?_) (fun h1 => ?_)
  · replace k := ite_t h1 k
    have h2 := isN_lt h1
    refine kV ?_
    refine zPs (pc1 := 7) (l1 := [(0, .ref 0), (1, .int x0), (2, .int x1)]) (st1 := [.int x1, .ref 0]) 2 rfl rfl rfl ?_
    refine zCv (mj := 68) (k := 0) (n := 1) rfl rfl rfl rfl (by decide) rfl rfl rfl rfl rfl rfl ?_
    refine e_68 (fun h3 => ?_) (fun h3 => ?_)
    · replace k := ite_t h3 k
      have h4 := isT_s1 h3
      refine kV ?_
      refine zPs (pc1 := 11) (l1 := [(0, .ref 0), (1, .int x0), (2, .int x1)]) (st1 := [.ref 0]) 1 rfl rfl rfl ?_
      refine zGetR (r := 14) rfl rfl ⟨by decide, rfl, by decide, rfl⟩ ?_
      refine zPs (pc1 := 15) (l1 := [(0, .ref 0), (1, .int x0), (2, .int x1)]) (st1 := [.int x0, .ref 14]) 1 rfl rfl rfl ?_
      refine zAalE (n := x0.toNatClampNeg) h2.2 rfl rfl (irW h2.1) ?_
      refine zPs (pc1 := 19) (l1 := [(0, .ref 0), (1, .int x0), (2, .int x1)]) (st1 := [.int (x1 + (1 : Int32)), .ref (15 + x0.toNatClampNeg)]) 3 rfl rfl rfl ?_
      refine zIalE (n := (x1 + (1 : Int32)).toNatClampNeg) (v := l 309 (31 * x0.toNatClampNeg + (if (x1 + (1 : Int32)).toNatClampNeg = 0 then 30 else (x1 + (1 : Int32)).toNatClampNeg - 1))) h4.2 rfl (icW h2.1 h4.1) rfl ?_
      refine zRi rfl rfl ?_
      exact k
    · replace k := ite_f h3 k
      refine kX ?_
      exact k
  · replace k := ite_f h1 k
    refine kX ?_
    exact k
theorem x_65 {n : Nat} {x0 x1 : Int32} {l : Sg} (x : Nat) (h : (f_65 n x0 x1 l).1 = .inr x) : x < 3 := by
  unfold f_65 at h
  try simp only [bnd, bnd2] at h
  repeat' split at h
  all_goals first | (cases h; decide) | cases h
